/-! ===== Graph.countCrossings ===== -/
def posL : List Nat → Nat → Nat
  | [], _ => 0
  | y :: L, x => if y = x then 0 else posL L x + 1
theorem posL_mid {U V : List Nat} {x : Nat} (h : x ∉ U) : posL (U ++ x :: V) x = U.length := by
  induction U with
  | nil => show (if x = x then 0 else _) = 0; rw [if_pos rfl]
  | cons y U ih =>
    rw [List.mem_cons, not_or] at h
    show (if y = x then 0 else posL (U ++ x :: V) x + 1) = U.length + 1
    rw [if_neg (fun q => h.1 q.symm), ih h.2]
/-- the event with the same id in another graph; where its node stands -/
def twin (G1 G2 : Gr) (k : Nat) : Option Nat := (agE G2 (G1.ag (G1.ev k).sl))[(G1.ev k).nu]?
def twp (G1 G2 : Gr) (T2 : Tr) (x : Nat) : Option Nat := match twin G1 G2 (x - 1) with
  | none => none
  | some j => if (G2.ev j).ch = none then none else some (posL T2.od (j + 1))
def ltO (q : Nat) : Option Nat → Nat
  | none => 0
  | some l => if q < l then 1 else 0
def crF (p : Nat → Option Nat) : List Nat → Option Nat → Nat
  | [], _ => 0
  | x :: L, l => match p x with
    | none => crF p L l
    | some q => ltO q l + crF p L (some q)
theorem crF_n {p : Nat → Option Nat} {x : Nat} {L : List Nat} {l : Option Nat} (h : p x = none) : crF p (x :: L) l = crF p L l := by rw [crF, h]
theorem crF_s {p : Nat → Option Nat} {x q : Nat} {L : List Nat} {l : Option Nat} (h : p x = some q) : crF p (x :: L) l = ltO q l + crF p L (some q) := by rw [crF, h]
/-- how often two nodes cross -/
def crs (G1 : Gr) (T1 : Tr) (G2 : Gr) (T2 : Tr) : Nat := crF (twp G1 G2 T2) T1.od none
def loI : Option Nat → Int32
  | none => -1
  | some q => nI q
section RNK
variable {S S' : MM} {F : Nat → Nat × Nat} {i : Nat} {A : Nat → Nat} {X : GX} {G : Gr} {T : Tr} {H : List Nat} {W : Nat → Nat}
theorem GI.chn (h : GI S F i A X G T H W) : chn S (mR S 512 (A 1)) (T.od.map (xa A X)) := ChP.chn (h 17) (A := []) rfl
theorem GI.gch (h : GI S F i A X G T H W) : GCh S (A 0) (A 1) (T.od.map (xa A X)) := ⟨(h 0).1, (h 1).1, (h 1).2.1, h.chn⟩
/-- ranks are no matter -/
theorem GI.rank (h : GI S F i A X G T H W) {O : List Nat} {μ : Nat → Nat → Int32} (hr : rkF S O μ) (h5 : ∀ b ∈ O, isO S 5 b) : GI (wI S μ) F i A X G T H W := by
  have hI : ∀ j b, j ≠ 515 → mI (wI S μ) j b = mI S j b := fun j b q => hr j b (fun z => q z.1)
  have hk : Keep (fun b => b = A 0 ∨ b = A 8 ∨ b = A 9 ∨ b = A 10) (msk0 S) (msk0 (wI S μ)) := by
    refine ⟨fun b hb => ⟨hb, rfl, rfl⟩, fun b hb hp => ⟨fun j => ?_, fun _ => rfl, fun _ => rfl, rfl, rfl, rfl⟩, rfl, rfl⟩
    show (if 507 < j ∧ j < 516 then 0 else μ j b) = if 507 < j ∧ j < 516 then 0 else mI S j b
    by_cases z : 507 < j ∧ j < 516
    · rw [if_pos z, if_pos z]
    · rw [if_neg z, if_neg z]; exact hr j b (fun q => z (by omega))
  refine h.str hk (fun j _ _ _ => ?_) (fun _ _ => rfl) ((hI 605 _ (by decide)).trans (h 6)) ⟨(h 7).2.2.1, (h 7).2.2.2.1, (h 7).2.2.2.2⟩ ((hI 609 _ (by decide)).trans (h 13)) (fun k q c => (hI 513 _ (by decide)).trans (h 14 k q c)) (fun k q c => (hI 514 _ (by decide)).trans (h 15 k q c)) (h 16) (ChP.cg (h 17) (fun _ q => q) (fun _ => rfl) (fun _ => rfl)) ?_ (h 21)
  · by_cases z : j = 515
    · subst z
      exact hr 515 _ (fun q => isO_ne (h 0).1 (h5 _ q.2) (by decide) rfl)
    · exact hI j _ z
  · obtain ⟨U, V, e, a1, a2⟩ := h 18
    refine ⟨U, V, e, a1, ?_⟩
    rw [hI 611 _ (by decide), a2, seenC_cg (S' := wI S μ) (S := S) (fun y _ => hI 513 y (by decide))]
end RNK
def agLf (G : Gr) (X : GX) : Nat → List Nat := fun a => (agE G a).map X.ad
def I_x1 (g o : Nat) (O : List Nat) (S : MM) (t : Nat) : KT := fun lo st S1 cs sl => ∃ p D R μ, t = 1000000 + R.length ∧ O = D ++ R ∧ chn S p R ∧ lo = [(3, .inr (.inr p)), (2, .inl (nI D.length)), (0, .inr (.inr (some g))), (1, .inr (.inr (some o)))] ∧ st = [] ∧ S1 = wI S μ ∧ rkF S O μ ∧ (∀ A y B, D = A ++ y :: B → μ 515 y = nI A.length) ∧ cs = 0 ∧ sl = 0
def I_x2 (o : Nat) (A1 : Nat → Nat) (X1 : GX) (G1 G2 : Gr) (T1 T2 : Tr) (O : List Nat) (S : MM) (t : Nat) : KT := fun lo st S1 cs sl => ∃ p R c l μ, t = R.length ∧ R.length ≤ 8192 ∧ (∀ x ∈ R, x ∈ T1.od) ∧ chn S p (R.map (xa A1 X1)) ∧ crs G1 T1 G2 T2 = c + crF (twp G1 G2 T2) R l ∧ c + R.length ≤ 8192 ∧ (∀ q, l = some q → q ≤ 8192) ∧ lo = [(5, .inr (.inr p)), (3, .inl (nI c)), (4, .inl (loI l)), (1, .inr (.inr (some o)))] ∧ st = [] ∧ S1 = wI S μ ∧ rkF S O μ ∧ (∀ A y B, O = A ++ y :: B → μ 515 y = nI A.length) ∧ cs = 0 ∧ sl = 0
def T_gxc : TR := fun Rc Rs av S cs sl K _Kx => match av with
  | [.inr (.inr g_o), .inr (.inr o_o)] => pa g_o fun g => (pa o_o fun o => (∃ (F : Nat → Nat × Nat) (i1 i2 : Nat) (A1 A2 : Nat → Nat) (X1 X2 : GX) (G1 G2 : Gr) (T1 T2 : Tr) (H1 H2 : List Nat) (W1 W2 : Nat → Nat), (g = A1 0 ∧ o = A2 0 ∧ GI S F i1 A1 X1 G1 T1 H1 W1 ∧ GI S F i2 A2 X2 G2 T2 H2 W2) ∧ cs ≤ Rc ∧ sl ≤ Rs ∧ (∀ (S' : MM), (∃ μ, S' = wI S μ ∧ rkF S (T2.od.map (xa A2 X2)) μ) → K (some (.inl (nI (crs G1 T1 G2 T2)))) S' cs sl)))
  | _ => False
def sp_gxc (g : Nat) (o : Nat) (F : Nat → Nat × Nat) (i1 i2 : Nat) (A1 A2 : Nat → Nat) (X1 X2 : GX) (G1 G2 : Gr) (T1 T2 : Tr) (H1 H2 : List Nat) (W1 W2 : Nat → Nat) : Sp := (fun av S => av = [.inr (.inr (some g)), .inr (.inr (some o))] ∧ (g = A1 0 ∧ o = A2 0 ∧ GI S F i1 A1 X1 G1 T1 H1 W1 ∧ GI S F i2 A2 X2 G2 T2 H2 W2), fun _ S => 0, fun _ S => 0, fun _ S rv S' => rv = (some (.inl (nI (crs G1 T1 G2 T2)))) ∧ (∃ μ, S' = wI S μ ∧ rkF S (T2.od.map (xa A2 X2)) μ), fun _ _ _ _ => False)
def tX5_countCrossings : CD := [(0, .iconst 0), (1, .istore_n 2), (2, .aload_n 1), (3, .getfield 19), (6, .getfield 147), (9, .astore_n 3), (10, .aload_n 3), (11, .ifnull 19), (14, .aload_n 3), (15, .iload_n 2), (16, .putfield 236), (19, .iinc 2 1), (22, .aload_n 3), (23, .getfield 147), (26, .astore_n 3), (27, .goto (-17)), (30, .iconst 0), (31, .istore_n 3), (32, .iconst (-1)), (33, .istore 4), (35, .aload_n 0), (36, .getfield 19), (39, .getfield 147), (42, .astore 5), (44, .aload 5), (46, .ifnull 70), (49, .aload_n 1), (50, .aload 5), (52, .getfield 125), (55, .getfield 259), (58, .aload 5), (60, .getfield 129), (63, .invokevirtual 261), (66, .astore 6), (68, .aload 6), (70, .ifnull 36), (73, .aload 6), (75, .invokevirtual 135), (78, .ifCond .eq 28), (81, .iload_n 3), (82, .aload 6), (84, .getfield 236), (87, .iload 4), (89, .if_icmp .ge 7), (92, .iconst 1), (93, .goto 4), (96, .iconst 0), (97, .iadd), (98, .istore_n 3), (99, .aload 6), (101, .getfield 236), (104, .istore 4), (106, .aload 5), (108, .getfield 147), (111, .astore 5), (113, .goto (-69)), (116, .iload_n 3), (117, .ireturn)]
set_option maxRecDepth 100000 in
theorem kX5_countCrossings : chk cX5_countCrossings tX5_countCrossings = true := by decide +kernel
theorem vX5_countCrossings_261 : ∀ w ∈ ([.methodLink RX5 261 yX5_lookup, .instanceMethod yX5_lookup, .selects yX5_lookup.cls yX5_lookup yX5_lookup, .initialized yX5_lookup.cls, .code yX5_lookup cX5_lookup 3 (some (.object "WeaveText$Event"))] : List Cond), w ∈ lw_good := List.forall_mem_cons.mpr ⟨mgd 664 (by decide +kernel) (by decide +kernel), List.forall_mem_cons.mpr ⟨mgd 665 (by decide +kernel) (by decide +kernel), List.forall_mem_cons.mpr ⟨mgd 666 (by decide +kernel) (by decide +kernel), List.forall_mem_cons.mpr ⟨mgd 125 (by decide +kernel) (by decide +kernel), List.forall_mem_cons.mpr ⟨mgd 667 (by decide +kernel) (by decide +kernel), fun _ h => absurd h List.not_mem_nil⟩⟩⟩⟩⟩
theorem vX5_countCrossings_135 : ∀ w ∈ ([.methodLink RX5 135 yX4_inserts, .instanceMethod yX4_inserts, .selects yX4_inserts.cls yX4_inserts yX4_inserts, .initialized yX4_inserts.cls, .code yX4_inserts cX4_inserts 1 (some .boolean)] : List Cond), w ∈ lw_good := List.forall_mem_cons.mpr ⟨mgd 690 (by decide +kernel) (by decide +kernel), List.forall_mem_cons.mpr ⟨mgd 691 (by decide +kernel) (by decide +kernel), List.forall_mem_cons.mpr ⟨mgd 692 (by decide +kernel) (by decide +kernel), List.forall_mem_cons.mpr ⟨mgd 126 (by decide +kernel) (by decide +kernel), List.forall_mem_cons.mpr ⟨mgd 693 (by decide +kernel) (by decide +kernel), fun _ h => absurd h List.not_mem_nil⟩⟩⟩⟩⟩
set_option maxRecDepth 100000 in
set_option maxHeartbeats 2000000 in
theorem c_gxc (l : Launch) : ∀ (g : Nat) (o : Nat) (F : Nat → Nat × Nat) (i1 i2 : Nat) (A1 A2 : Nat → Nat) (X1 X2 : GX) (G1 G2 : Gr) (T1 T2 : Tr) (H1 H2 : List Nat) (W1 W2 : Nat → Nat), Ct l yX5_countCrossings cX5_countCrossings 7 (some .int) 4 86 (sp_gxc g o F i1 i2 A1 A2 X1 X2 G1 G2 T1 T2 H1 H2 W1 W2) := by
  intro g o F i1 i2 A1 A2 X1 X2 G1 G2 T1 T2 H1 H2 W1 W2
  refine Ct.of (fX5, nX5, aX5, iX5, lX5, [(261, 0, 3, 3, T_glkp), (135, 0, 1, 1, T_ins)], qX5, gX5, []) false tX5_countCrossings (fun _ S => look [(10, ([3,2,0,1], I_x1 g o (T2.od.map (xa A2 X2)) S)), (44, ([5,3,4,1], I_x2 o A1 X1 G1 G2 T1 T2 (T2.od.map (xa A2 X2)) S))]) (by decide) (by decide) kX5_countCrossings ⟨_, _, rfl⟩ fX5_ok nX5_ok aX5_ok iX5_ok lX5_ok (fun p e R s m args below meth c Q D cy z r A C hR1 hR2 => List.forall_mem_cons.mpr ⟨cOK_use (fun _ _ _ _ _ _ _ _ h => let ⟨sp, h1, h2, h3⟩ := u_glkp l _ _ _ _ _ _ _ _ h; ⟨sp, cOK_V C h1 vX5_countCrossings_261 ⟨by decide, by decide, by decide +kernel⟩ ⟨by rw [hR1]; decide, by rw [hR2]; decide⟩ (k := 6) (T := TX5) (N := 12) rfl (by decide) h2, h3⟩), List.forall_mem_cons.mpr ⟨cOK_use (fun _ _ _ _ _ _ _ _ h => let ⟨sp, h1, h2, h3⟩ := u_ins l _ _ _ _ _ _ _ _ h; ⟨sp, cOK_V C h1 vX5_countCrossings_135 ⟨by decide, by decide, by decide +kernel⟩ ⟨by rw [hR1]; decide, by rw [hR2]; decide⟩ (k := 5) (T := TX4) (N := 16) rfl (by decide) h2, h3⟩), fun _ h => absurd h List.not_mem_nil⟩⟩) qX5_ok gX5_ok rfl ?_ ?_
  · rintro _ S ⟨rfl, hp⟩
    refine ⟨Nat.le_of_ble_eq_true rfl, 300, ?_⟩
    show (isO S 6 o ∧ (pa (mR S 600 o) fun a_1 => isO S 5 a_1 ∧ (∃ k1, I_x1 g o (T2.od.map (xa A2 X2)) S k1 [(3, .inr (.inr (mR S 512 a_1))), (2, .inl (0 : Int32)), (0, .inr (.inr (some g))), (1, .inr (.inr (some o)))] [] S 0 0)))
    obtain ⟨rfl, rfl, hG1, hG2⟩ := hp
    rw [(hG2 1).1]
    exact ⟨(hG2 0).1, (hG2 1).2.1, 1000000 + (T2.od.map (xa A2 X2)).length, mR S 512 (A2 1), [], T2.od.map (xa A2 X2), mI S, rfl, rfl, hG2.chn, rfl, rfl, rfl, fun _ _ _ => rfl, (fun A y B e => by simp at e), rfl, rfl⟩
  · intro av S hpre pc I hI k lo st S1 cs sl h
    obtain ⟨rfl, hp⟩ := hpre
    have hm := look_in hI
    simp only [List.mem_cons, List.not_mem_nil, or_false] at hm
    rcases hm with hm | hm
    · cases hm
      obtain ⟨p, D, R, μ, rfl, hO, hB, rfl, rfl, rfl, hF, hr, rfl, rfl⟩ := h
      refine ⟨300, ?_⟩
      show ((p = none → (isO (wI S μ) 6 g ∧ (pa (mR (wI S μ) 600 g) fun a_2 => isO (wI S μ) 5 a_2 ∧ (∃ k1, k1 < 1000000 + R.length ∧ I_x2 o A1 X1 G1 G2 T1 T2 (T2.od.map (xa A2 X2)) S k1 [(5, .inr (.inr (mR (wI S μ) 512 a_2))), (3, .inl (0 : Int32)), (4, .inl (-1 : Int32)), (1, .inr (.inr (some o)))] [] (wI S μ) 0 0)))) ∧ (∀ w_1, p = some w_1 → (True ∧ (pa p fun a_3 => isO (wI S μ) 5 a_3 ∧ (pa p fun a_4 => isO (sI (wI S μ) 515 a_3 (nI D.length)) 5 a_4 ∧ (∃ k1, k1 < 1000000 + R.length ∧ I_x1 g o (T2.od.map (xa A2 X2)) S k1 [(3, .inr (.inr (mR (sI (wI S μ) 515 a_3 (nI D.length)) 512 a_4))), (2, .inl ((nI D.length) + (1 : Int32))), (0, .inr (.inr (some g))), (1, .inr (.inr (some o)))] [] (sI (wI S μ) 515 a_3 (nI D.length)) 0 0))))))
      obtain ⟨rfl, rfl, hG1, hG2⟩ := hp
      have hn := hG2.ndp
      have l1 := hG1.odl
      have l2 := hG1.ok.hn
      refine ⟨fun e => ?_, fun w e => ?_⟩
      · subst e
        rw [hB.no, List.append_nil] at hO
        rw [← hO] at hr
        exact ⟨(hG1 0).1, pa_i (hG1 1).1 ⟨(hG1 1).2.1, T1.od.length, by omega, mR S 512 (A1 1), T1.od, 0, none, μ, rfl, by omega, fun x hx => hx, hG1.chn, by rw [crs, Nat.zero_add], by omega, (fun q e => by cases e), rfl, rfl, rfl, hF, hr, rfl, rfl⟩⟩
      · subst e
        obtain ⟨R2, rfl, r5, r6⟩ := hB.nd
        have hw : w ∈ T2.od.map (xa A2 X2) := by rw [hO]; simp
        have hwD : w ∉ D := fun q => by
          rw [hO, List.nodup_append] at hn
          exact hn.2.2 w q w (by simp) rfl
        have F2 : rkF S (T2.od.map (xa A2 X2)) (up2 μ 515 w (nI D.length)) := fun i b h => by
          show (if i = 515 ∧ b = w then _ else μ i b) = _
          rw [if_neg (fun z : i = 515 ∧ b = w => h ⟨z.1, by rw [z.2]; exact hw⟩)]
          exact hF i b h
        have st : ∀ A y B, D ++ [w] = A ++ y :: B → up2 μ 515 w (nI D.length) 515 y = nI A.length := by
          intro A y B e
          show (if 515 = 515 ∧ y = w then _ else μ 515 y) = _
          rcases snoc_cases B with z | ⟨B2, v, z⟩
          · subst z
            obtain ⟨e1, e2⟩ := List.append_inj' e rfl
            simp at e2
            rw [if_pos ⟨rfl, e2.symm⟩, e1]
          · subst z
            have e : D ++ [w] = (A ++ y :: B2) ++ [v] := by rw [e]; simp
            obtain ⟨e1, e2⟩ := List.append_inj' e rfl
            rw [if_neg (fun q => hwD (by rw [e1, ← q.2]; simp))]
            exact hr A y B2 e1
        have hO2 : T2.od.map (xa A2 X2) = (D ++ [w]) ++ R2 := by rw [hO]; simp
        exact ⟨trivial, r5, r5, 1000000 + R2.length, by simp, mR S 512 w, D ++ [w], R2, _, rfl, hO2, r6, (by rw [nI_1, List.length_append]; rfl), rfl, rfl, F2, st, rfl, rfl⟩
    · cases hm
      obtain ⟨p, R, c, l, μ, rfl, hRl, hRo, hB, hcr, hcl, hll, rfl, rfl, rfl, hF, hr, rfl, rfl⟩ := h
      refine ⟨300, ?_⟩
      show ((p = none → (([] : List MV) = [] ∧ mret (some .int) (sp_gxc g o F i1 i2 A1 A2 X1 X2 G1 G2 T1 T2 H1 H2 W1 W2) [.inr (.inr (some g)), .inr (.inr (some o))] S (some (.inl (nI c))) (wI S μ) 0 0)) ∧ (∀ w_1, p = some w_1 → (pa p fun a_2 => isO (wI S μ) 5 a_2 ∧ (pa (mR (wI S μ) 500 a_2) fun a_3 => isO (wI S μ) 1 a_3 ∧ (pa p fun a_4 => isO (wI S μ) 5 a_4 ∧ (0 = 0 ∧ (∃ (i_5 : Nat), mI (wI S μ) 100 a_3 = nI i_5 ∧ (∃ (ar_6 : Nat) (Lf_7 : Nat → List Nat), (AgT (wI S μ) o ar_6 Lf_7 ∧ i_5 < 256) ∧ 0 ≤ 0 ∧ 0 ≤ 0 ∧ ((((lkp (Lf_7 i_5) (mI (wI S μ) 501 a_4)) = none → (pa p fun a_10 => isO (wI S μ) 5 a_10 ∧ (∃ k1, k1 < R.length ∧ I_x2 o A1 X1 G1 G2 T1 T2 (T2.od.map (xa A2 X2)) S k1 [(5, .inr (.inr (mR (wI S μ) 512 a_10))), (3, .inl (nI c)), (4, .inl (loI l)), (1, .inr (.inr (some o)))] [] (wI S μ) 0 0))) ∧ (∀ w_9, (lkp (Lf_7 i_5) (mI (wI S μ) 501 a_4)) = some w_9 → (0 = 0 ∧ ((pa (lkp (Lf_7 i_5) (mI (wI S μ) 501 a_4)) fun a_11 => ((isO (wI S μ) 5 a_11) ∧ 0 ≤ 0 ∧ 0 ≤ 0 ∧ ((((if mI (wI S μ) 505 a_11 = -1 then 0 else 1) = 0 → (pa p fun a_13 => isO (wI S μ) 5 a_13 ∧ (∃ k1, k1 < R.length ∧ I_x2 o A1 X1 G1 G2 T1 T2 (T2.od.map (xa A2 X2)) S k1 [(5, .inr (.inr (mR (wI S μ) 512 a_13))), (3, .inl (nI c)), (4, .inl (loI l)), (1, .inr (.inr (some o)))] [] (wI S μ) 0 0))) ∧ (¬ (if mI (wI S μ) 505 a_11 = -1 then 0 else 1) = 0 → (pa (lkp (Lf_7 i_5) (mI (wI S μ) 501 a_4)) fun a_14 => isO (wI S μ) 5 a_14 ∧ (((loI l) ≤ (mI (wI S μ) 515 a_14) → (pa (lkp (Lf_7 i_5) (mI (wI S μ) 501 a_4)) fun a_15 => isO (wI S μ) 5 a_15 ∧ (pa p fun a_16 => isO (wI S μ) 5 a_16 ∧ (∃ k1, k1 < R.length ∧ I_x2 o A1 X1 G1 G2 T1 T2 (T2.od.map (xa A2 X2)) S k1 [(5, .inr (.inr (mR (wI S μ) 512 a_16))), (3, .inl ((nI c) + (0 : Int32))), (4, .inl (mI (wI S μ) 515 a_15)), (1, .inr (.inr (some o)))] [] (wI S μ) 0 0)))) ∧ (¬ (loI l) ≤ (mI (wI S μ) 515 a_14) → (pa (lkp (Lf_7 i_5) (mI (wI S μ) 501 a_4)) fun a_17 => isO (wI S μ) 5 a_17 ∧ (pa p fun a_18 => isO (wI S μ) 5 a_18 ∧ (∃ k1, k1 < R.length ∧ I_x2 o A1 X1 G1 G2 T1 T2 (T2.od.map (xa A2 X2)) S k1 [(5, .inr (.inr (mR (wI S μ) 512 a_18))), (3, .inl ((nI c) + (1 : Int32))), (4, .inl (mI (wI S μ) 515 a_17)), (1, .inr (.inr (some o)))] [] (wI S μ) 0 0))))))))))))))))))))))))
      obtain ⟨rfl, rfl, hG1, hG2⟩ := hp
      have h5 : ∀ b ∈ T2.od.map (xa A2 X2), isO S 5 b := fun b hb => (hG2 17).2.1 b hb
      have hR1 := hG1.rank hF h5
      have hR2 := hG2.rank hF h5
      refine ⟨fun e => ?_, fun w e => ?_⟩
      · subst e
        have := hB.no
        rw [List.map_eq_nil_iff] at this
        subst this
        exact ⟨rfl, trivial, ⟨by rw [hcr]; rfl, μ, rfl, hF⟩, Nat.le_refl _, Nat.le_refl _⟩
      · subst e
        obtain ⟨R3, e3, r5, r6⟩ := hB.nd
        cases R with
        | nil => cases e3
        | cons x R2 =>
          rw [List.map_cons] at e3
          injection e3 with e4 e5
          subst e5
          have xo := hRo x List.mem_cons_self
          have ho2 : ∀ y ∈ R2, y ∈ T1.od := fun y hy => hRo y (List.mem_cons_of_mem _ hy)
          rw [List.length_cons] at hRl hcl
          obtain ⟨kk, rfl, kn, -⟩ := hG1.nd xo
          have e4 : w = X1.ad kk := e4.symm
          subst e4
          obtain ⟨v1, v2, v3, -⟩ := hR1.ev.2.1 kk kn
          have ag := hR1.ev.2.2.1 _ (hR1.ok.sl1 kk kn)
          have agb := hR1.ok.ag1 _ (hR1.ok.sl1 kk kn)
          have nub := hR1.ev.nu kn
          have htw : lkp (agLf G2 X2 (G1.ag (G1.ev kk).sl)) (mI (wI S μ) 501 (X1.ad kk)) = (twin G1 G2 kk).map X2.ad := by
            rw [v3, lkp, if_neg (nI_pos (by omega)), nI_clamp (by omega), agLf, List.getElem?_map]; rfl
          have nx : ∀ (c2 : Nat) (l2 : Option Nat) (x2 y2 : Int32), crs G1 T1 G2 T2 = c2 + crF (twp G1 G2 T2) R2 l2 → c2 + R2.length ≤ 8192 → (∀ q, l2 = some q → q ≤ 8192) → x2 = nI c2 → y2 = loI l2 → ∃ k1, k1 < (((kk + 1) :: R2).length) ∧ I_x2 (A2 0) A1 X1 G1 G2 T1 T2 (T2.od.map (xa A2 X2)) S k1 [(5, .inr (.inr (mR (wI S μ) 512 (X1.ad kk)))), (3, .inl x2), (4, .inl y2), (1, .inr (.inr (some (A2 0))))] [] (wI S μ) 0 0 := by
            intro c2 l2 x2 y2 q1 q2 q3 q4 q5
            subst q4
            subst q5
            exact ⟨R2.length, by simp, mR S 512 (X1.ad kk), R2, c2, l2, μ, rfl, by omega, ho2, r6, q1, q2, q3, rfl, rfl, rfl, hF, hr, rfl, rfl⟩
          refine ⟨v1, pa_i v2 ⟨ag.1, v1, rfl, G1.ag (G1.ev kk).sl, ag.2.1, A2 4, agLf G2 X2, ⟨hR2.agt, agb⟩, Nat.le_refl _, Nat.le_refl _, ?_⟩⟩
          rw [htw]
          cases ht : twin G1 G2 kk with
          | none =>
            have e7 : twp G1 G2 T2 (kk + 1) = none := by rw [twp, Nat.add_sub_cancel, ht]
            rw [crF_n e7] at hcr
            exact ⟨fun _ => ⟨v1, nx c l _ _ hcr (by omega) hll rfl rfl⟩, fun w h => by cases h⟩
          | some j =>
            have jm : j < G2.n := List.mem_range.1 (List.mem_filter.1 (List.mem_of_getElem? ht)).1
            obtain ⟨u1, -, -, -, -, -, -, -, -, -, -, -, u13, -⟩ := hR2.ev.2.1 j jm
            have cm : chI (G2.ev j).ch = -1 ↔ (G2.ev j).ch = none := chI_m1 (hR2.gt.2.1 j jm).1
            refine ⟨(fun h => by cases h), fun w h => ⟨rfl, u1, Nat.le_refl _, Nat.le_refl _, ?_⟩⟩
            rw [u13]
            by_cases hc : (G2.ev j).ch = none
            · have e7 : twp G1 G2 T2 (kk + 1) = none := by rw [twp, Nat.add_sub_cancel, ht]; exact if_pos hc
              rw [crF_n e7] at hcr
              rw [if_pos (cm.2 hc)]
              exact ⟨fun _ => ⟨v1, nx c l _ _ hcr (by omega) hll rfl rfl⟩, fun z => absurd rfl z⟩
            · have e7 : twp G1 G2 T2 (kk + 1) = some (posL T2.od (j + 1)) := by rw [twp, Nat.add_sub_cancel, ht]; exact if_neg hc
              rw [crF_s e7] at hcr
              rw [if_neg (fun z => hc (cm.1 z))]
              have jo : j + 1 ∈ T2.od := (hG2.gt.2.2.2.1 _).2 ⟨j, rfl, jm, hc⟩
              obtain ⟨U, V, hU⟩ := List.append_of_mem jo
              have nd := hG2.gt.2.2.1.2.1
              rw [hU, List.nodup_append] at nd
              have hp : posL T2.od (j + 1) = U.length := by
                rw [hU]; exact posL_mid (fun q => nd.2.2 _ q _ List.mem_cons_self rfl)
              have hrk : mI (wI S μ) 515 (X2.ad j) = nI (posL T2.od (j + 1)) := by
                have := hr (U.map (xa A2 X2)) (X2.ad j) (V.map (xa A2 X2)) (by rw [hU, List.map_append, List.map_cons]; rfl)
                rw [List.length_map] at this
                rw [hp]; exact this
              have pl : posL T2.od (j + 1) ≤ 8192 := by
                have h1 := hG2.odl
                have h2 := hG2.ok.hn
                rw [hU, List.length_append] at h1
                rw [hp]; omega
              have hlt : loI l ≤ nI (posL T2.od (j + 1)) ↔ ltO (posL T2.od (j + 1)) l = 0 := by
                cases l with
                | none => exact ⟨fun _ => rfl, fun _ => Int32.le_trans (show (-1 : Int32) ≤ 0 by decide) (nI_pos' (by omega))⟩
                | some q =>
                  have hq := hll q rfl
                  show nI q ≤ _ ↔ (if posL T2.od (j + 1) < q then 1 else 0) = 0
                  rw [nI_leI (by omega) (by omega)]
                  by_cases z : posL T2.od (j + 1) < q
                  · rw [if_pos z]; omega
                  · rw [if_neg z]; omega
              have l01 : ltO (posL T2.od (j + 1)) l = 0 ∨ ltO (posL T2.od (j + 1)) l = 1 := by
                cases l with
                | none => exact Or.inl rfl
                | some q =>
                  show (if _ then 1 else 0) = 0 ∨ (if _ then 1 else 0) = 1
                  split
                  · exact Or.inr rfl
                  · exact Or.inl rfl
              have e8 : ∀ q, (some (posL T2.od (j + 1))) = some q → q ≤ 8192 := fun q z => by cases z; exact pl
              refine ⟨fun z => absurd z (by decide), fun _ => ⟨u1, ?_⟩⟩
              rw [hrk]
              refine ⟨fun z => ⟨u1, v1, ?_⟩, fun z => ⟨u1, v1, ?_⟩⟩
              · refine nx c (some (posL T2.od (j + 1))) _ _ ?_ (by omega) e8 (Int32.add_zero _) hrk
                rw [hcr, hlt.1 z]; omega
              · refine nx (c + 1) (some (posL T2.od (j + 1))) _ _ ?_ (by omega) e8 (nI_1 _) hrk
                rw [hcr, l01.resolve_left (fun q => z (hlt.2 q))]; omega
theorem u_gxc (l : Launch) : Us l yX5_countCrossings cX5_countCrossings 7 (some .int) 4 86 6 T_gxc := by
  intro Rc Rs av S cs sl K Kx h
  unfold T_gxc at h
  split at h
  · rename_i g_o o_o
    obtain ⟨g, rfl, h_1⟩ := pa_of h
    obtain ⟨o, rfl, h_2⟩ := pa_of h_1
    obtain ⟨F, i1, i2, A1, A2, X1, X2, G1, G2, T1, T2, H1, H2, W1, W2, hp, hc, hs, hk⟩ := h_2
    refine ⟨(sp_gxc g o F i1 i2 A1 A2 X1 X2 G1 G2 T1 T2 H1 H2 W1 W2), c_gxc l g o F i1 i2 A1 A2 X1 X2 G1 G2 T1 T2 H1 H2 W1 W2, fun _ _ h9 => ⟨_, _, h9.1, (h9.2.1 ▸ (h9.2.2.2.1 0).1)⟩, ⟨rfl, hp⟩, hc, hs, fun v9 S' h8 => by
      obtain ⟨h7, h8⟩ := h8
      cases h7
      exact hk _ h8, fun _ _ q => q.elim⟩
  · exact h.elim
