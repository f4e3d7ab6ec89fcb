/-! ===== The reference: crossed ===== -/
theorem agE_n {G : Gr} (h : G.ok) {a j : Nat} (hj : j ∈ agE G a) : j < G.n := by
  by_cases c : hasAg G a
  · obtain ⟨s, hs, rfl⟩ := c
    rw [agE_sl h hs] at hj
    exact List.mem_range.1 (List.mem_filter.1 hj).1
  · rw [agE_no h c] at hj; cases hj
theorem posL_get : ∀ {L : List Nat} {x : Nat}, x ∈ L → posL L x < L.length ∧ L.getD (posL L x) 0 = x
  | [], _, h => by cases h
  | y :: L, x, h => by
    by_cases c : y = x
    · have e : posL (y :: L) x = 0 := if_pos c
      rw [e]; exact ⟨Nat.zero_lt_succ _, c⟩
    · have e : posL (y :: L) x = posL L x + 1 := if_neg c
      obtain ⟨a, b⟩ := posL_get (L := L) (x := x) ((List.mem_cons.1 h).resolve_left (fun q => c q.symm))
      rw [e]
      exact ⟨Nat.succ_lt_succ a, b⟩
/-- events of one id are alike -/
def twK (G1 : Gr) (T1 : Tr) (G2 : Gr) : Prop := ∀ x, x ∈ T1.od → ∀ j, twin G1 G2 (x - 1) = some j → (G2.ev j).ch ≠ none
def cxQ (S S' : MM) (F : Nat → Nat × Nat) (t : Nat) (z : Nat → Nat) (Y : Nat → Nat → Nat) (R : Rb) (kz : Nat → Nat) : Prop := MD S' F t z Y R kz ∧ mdN9 S S' F F t
def cxP (S : MM) (F : Nat → Nat × Nat) (t : Nat) (z : Nat → Nat) (Y : Nat → Nat → Nat) (R : Rb) (kz : Nat → Nat) (n m a b : Nat) : Prop := MD S F t z Y R kz ∧ n < 4 ∧ m < 4 ∧ a = Y n 0 ∧ b = Y m 0 ∧ GT (R.Q.G m) (R.Q.T m) ∧ twK (R.Q.G n) (R.Q.T n) (R.Q.G m)
theorem cxQ.wr {S S1 : MM} {F : Nat → Nat × Nat} {t : Nat} {z : Nat → Nat} {Y : Nat → Nat → Nat} {R : Rb} {kz : Nat → Nat} (h : cxQ S S1 F t z Y R kz) (f : Nat → Int32) : cxQ S (rI S1 (z 22) f) F t z Y R kz := by
  obtain ⟨h1, h3⟩ := h
  have hk : Keep (fun c => c = z 22) S1 (rI S1 (z 22) f) := Keep.rI (P := fun c => c = z 22) Keep.rf rfl
  obtain ⟨m1, m2⟩ := h1.scr (k0 := 22) (by decide) (by decide) hk
  refine ⟨m1, h3.tr ⟨fun _ _ => rfl, hk.mono (fun b _ q => ?_), m2⟩⟩
  have q : b = z 22 := q
  show 100 ≤ (F b).1
  rw [q, (h1 1 22 (by decide)).2.1]; exact Nat.le_refl _
def I_rx1 (a b : Nat) (F : Nat → Nat × Nat) (t : Nat) (z : Nat → Nat) (Y : Nat → Nat → Nat) (R : Rb) (kz : Nat → Nat) (n m : Nat) (S : MM) (k : Nat) : KT := fun lo st S1 cs sl => ∃ j, k = 100000 + ((R.Q.T m).od.length - j) ∧ j ≤ (R.Q.T m).od.length ∧ cxQ S S1 F t z Y R kz ∧ (∀ i, i < j → eI S1 (z 22) ((R.Q.T m).od.getD i 0 - 1) = nI i) ∧ lo = [(1, .inr (.inr (some a))), (2, .inr (.inr (some b))), (3, .inl (nI 0)), (4, .inl (-1)), (5, .inr (.inr (some (z 22)))), (6, .inl (nI j))] ∧ st = [] ∧ cs = 0 ∧ sl = 0
def I_rx2 (a b : Nat) (F : Nat → Nat × Nat) (t : Nat) (z : Nat → Nat) (Y : Nat → Nat → Nat) (R : Rb) (kz : Nat → Nat) (n m : Nat) (S : MM) (k : Nat) : KT := fun lo st S1 cs sl => ∃ j c lf, k = (R.Q.T n).od.length - j ∧ j ≤ (R.Q.T n).od.length ∧ cxQ S S1 F t z Y R kz ∧ (∀ i, i < (R.Q.T m).od.length → eI S1 (z 22) ((R.Q.T m).od.getD i 0 - 1) = nI i) ∧ (∀ f, lf = some f → f + 1 ∈ (R.Q.T m).od) ∧ crs (R.Q.G n) (R.Q.T n) (R.Q.G m) (R.Q.T m) = c + crF (twp (R.Q.G n) (R.Q.G m) (R.Q.T m)) ((R.Q.T n).od.drop j) (lf.map (fun f => posL (R.Q.T m).od (f + 1))) ∧ lo = [(1, .inr (.inr (some a))), (2, .inr (.inr (some b))), (3, .inl (nI c)), (4, .inl (loI lf)), (5, .inr (.inr (some (z 22)))), (6, .inl (nI j))] ∧ st = [] ∧ cs = 0 ∧ sl = 0
def T_rcx : TR := fun Rc Rs av S cs sl K _Kx => match av with
  | [.inr (.inr t_o), .inr (.inr a_o), .inr (.inr b_o)] => pa t_o fun t => (pa a_o fun a => (pa b_o fun b => (∃ (F : Nat → Nat × Nat) (z : Nat → Nat) (Y : Nat → Nat → Nat) (R : Rb) (kz : Nat → Nat) (n m : Nat), (cxP S F t z Y R kz n m a b) ∧ cs ≤ Rc ∧ sl ≤ Rs ∧ (∀ (S' : MM), (cxQ S S' F t z Y R kz) → K (some (.inl (nI (crs (R.Q.G n) (R.Q.T n) (R.Q.G m) (R.Q.T m))))) S' cs sl))))
  | _ => False
def sp_rcx (t : Nat) (a : Nat) (b : Nat) (F : Nat → Nat × Nat) (z : Nat → Nat) (Y : Nat → Nat → Nat) (R : Rb) (kz : Nat → Nat) (n m : Nat) : Sp := (fun av S => av = [.inr (.inr (some t)), .inr (.inr (some a)), .inr (.inr (some b))] ∧ (cxP S F t z Y R kz n m a b), fun _ S => 0, fun _ S => 0, fun _ S rv S' => rv = (some (.inl (nI (crs (R.Q.G n) (R.Q.T n) (R.Q.G m) (R.Q.T m))))) ∧ (cxQ S S' F t z Y R kz), fun _ _ _ _ => False)
def tX14_crossed : CD := [(0, .iconst 0), (1, .istore_n 3), (2, .iconst (-1)), (3, .istore 4), (5, .aload_n 0), (6, .getfield 67), (9, .astore 5), (11, .iconst 0), (12, .istore 6), (14, .iload 6), (16, .aload_n 2), (17, .getfield 239), (20, .if_icmp .ge 21), (23, .aload 5), (25, .aload_n 2), (26, .getfield 246), (29, .iload 6), (31, .iaload), (32, .iload 6), (34, .iastore), (35, .iinc 6 1), (38, .goto (-24)), (41, .iconst 0), (42, .istore 6), (44, .iload 6), (46, .aload_n 1), (47, .getfield 239), (50, .if_icmp .ge 76), (53, .aload_n 1), (54, .getfield 246), (57, .iload 6), (59, .iaload), (60, .istore 7), (62, .aload_n 2), (63, .aload_n 1), (64, .getfield 265), (67, .aload_n 1), (68, .getfield 268), (71, .iload 7), (73, .iaload), (74, .iaload), (75, .aload_n 1), (76, .getfield 271), (79, .iload 7), (81, .iaload), (82, .invokevirtual 242), (85, .istore 8), (87, .iload 8), (89, .ifCond .ge 6), (92, .goto 28), (95, .iload 4), (97, .ifCond .lt 19), (100, .aload 5), (102, .iload 8), (104, .iaload), (105, .aload 5), (107, .iload 4), (109, .iaload), (110, .if_icmp .ge 6), (113, .iinc 3 1), (116, .iload 8), (118, .istore 4), (120, .iinc 6 1), (123, .goto (-79)), (126, .iload_n 3), (127, .ireturn)]
set_option maxRecDepth 100000 in
theorem kX14_crossed : chk cX14_crossed tX14_crossed = true := by decide +kernel
theorem vX14_crossed_242 : ∀ w ∈ ([.methodLink RX14 242 yX12_find, .instanceMethod yX12_find, .selects yX12_find.cls yX12_find yX12_find, .initialized yX12_find.cls, .code yX12_find cX12_find 4 (some .int)] : List Cond), w ∈ lw_good := List.forall_mem_cons.mpr ⟨mgd 2070 (by decide +kernel) (by decide +kernel), List.forall_mem_cons.mpr ⟨mgd 2071 (by decide +kernel) (by decide +kernel), List.forall_mem_cons.mpr ⟨mgd 2072 (by decide +kernel) (by decide +kernel), List.forall_mem_cons.mpr ⟨mgd 138 (by decide +kernel) (by decide +kernel), List.forall_mem_cons.mpr ⟨mgd 2073 (by decide +kernel) (by decide +kernel), fun _ h => absurd h List.not_mem_nil⟩⟩⟩⟩⟩
set_option maxRecDepth 100000 in
set_option maxHeartbeats 2000000 in
theorem c_rcx (l : Launch) : ∀ (t : Nat) (a : Nat) (b : Nat) (F : Nat → Nat × Nat) (z : Nat → Nat) (Y : Nat → Nat → Nat) (R : Rb) (kz : Nat → Nat) (n m : Nat), Ct l yX14_crossed cX14_crossed 9 (some .int) 2 45 (sp_rcx t a b F z Y R kz n m) := by
  intro t a b F z Y R kz n m
  refine Ct.of (fX14, nX14, aX14, iX14, lX14, [(242, 0, 3, 1, T_rfn)], qX14, gX14, []) false tX14_crossed (fun _ S => look [(14, ([1,2,3,4,5,6], I_rx1 a b F t z Y R kz n m S)), (44, ([1,2,3,4,5,6], I_rx2 a b F t z Y R kz n m S))]) (by decide) (by decide) kX14_crossed ⟨_, _, rfl⟩ fX14_ok nX14_ok aX14_ok iX14_ok lX14_ok (fun p e R s m args below meth c Q D cy z r A C hR1 hR2 => List.forall_mem_cons.mpr ⟨cOK_use (fun _ _ _ _ _ _ _ _ h => let ⟨sp, h1, h2, h3⟩ := u_rfn l _ _ _ _ _ _ _ _ h; ⟨sp, cOK_V C h1 vX14_crossed_242 ⟨by decide, by decide, by decide +kernel⟩ ⟨by rw [hR1]; decide, by rw [hR2]; decide⟩ (k := 13) (T := TX12) (N := 27) rfl (by decide) h2, h3⟩), fun _ h => absurd h List.not_mem_nil⟩) qX14_ok gX14_ok rfl ?_ ?_
  · rintro _ S ⟨rfl, hp⟩
    refine ⟨Nat.le_of_ble_eq_true rfl, 300, ?_⟩
    show (isO S 15 t ∧ (∃ k1, I_rx1 a b F t z Y R kz n m S k1 [(1, .inr (.inr (some a))), (2, .inr (.inr (some b))), (3, .inl (0 : Int32)), (4, .inl (-1 : Int32)), (5, .inr (.inr (mR S 1522 t))), (6, .inl (0 : Int32))] [] S 0 0))
    obtain ⟨hM, hn, hm, rfl, rfl, hG, hT⟩ := hp
    exact ⟨(hM 0).1, _, 0, rfl, Nat.zero_le _, ⟨hM, fun _ _ => rfl, Keep.rf, rfl⟩, fun i hi => absurd hi (Nat.not_lt_zero i), by rw [(hM 1 22 (by decide)).1]; rfl, rfl, rfl, rfl⟩
  · intro av S hpre pc I hI k lo st S1 cs sl h
    obtain ⟨rfl, hp⟩ := hpre
    have hm := look_in hI
    simp only [List.mem_cons, List.not_mem_nil, or_false] at hm
    rcases hm with hm | hm
    · cases hm
      obtain ⟨j, rfl, hj, hQ, hR, rfl, rfl, rfl, rfl⟩ := h
      refine ⟨300, ?_⟩
      show (isO S1 13 b ∧ (((mI S1 1302 b) ≤ (nI j) → (∃ k1, k1 < (100000 + ((R.Q.T m).od.length - j)) ∧ I_rx2 a b F t z Y R kz n m S k1 [(1, .inr (.inr (some a))), (2, .inr (.inr (some b))), (3, .inl (nI 0)), (4, .inl (-1)), (5, .inr (.inr (some (z 22)))), (6, .inl (0 : Int32))] [] S1 0 0)) ∧ (¬ (mI S1 1302 b) ≤ (nI j) → (isO S1 13 b ∧ (pa (mR S1 1321 b) fun a_1 => ∃ v_2 : Int32, (isO S1 17 a_1 ∧ inR S1 a_1 (nI j) ∧ v_2 = eI S1 a_1 (nI j).toNatClampNeg ∨ a_1 = (mQ S1).1 ∧ vp_in (nI j) 16 ∧ v_2 = mRem (nI j).toNatClampNeg) ∧ (isO S1 17 (z 22) ∧ inR S1 (z 22) v_2 ∧ (∃ k1, k1 < (100000 + ((R.Q.T m).od.length - j)) ∧ I_rx1 a b F t z Y R kz n m S k1 [(1, .inr (.inr (some a))), (2, .inr (.inr (some b))), (3, .inl (nI 0)), (4, .inl (-1)), (5, .inr (.inr (some (z 22)))), (6, .inl ((nI j) + (1 : Int32)))] [] (rI S1 (z 22) (upd (eI S1 (z 22)) v_2.toNatClampNeg (nI j))) 0 0)))))))
      obtain ⟨hM0, hn, hm, rfl, rfl, hG, hT⟩ := hp
      have hM := hQ.1
      have g : RG S1 F (101 + m) (Y m) (R.Q.G m) (R.Q.T m) := (hM 2 m hm).2.1
      have g1 : RG S1 F (101 + n) (Y n) (R.Q.G n) (R.Q.T n) := (hM 2 n hn).2.1
      have hnm := g.nm
      have hol := g.odl
      have hnm1 := g1.nm
      have hol1 := g1.odl
      have e1 : mI S1 1302 (Y m 0) = nI (R.Q.T m).od.length := (g 2).2.2
      have r22 := hM 1 22 (by decide)
      rw [e1]
      refine ⟨(g 0).1, if_le (by omega) (by omega) (fun w => ?_) (fun w => ?_)⟩
      · have e : j = (R.Q.T m).od.length := by omega
        subst e
        exact ⟨(R.Q.T n).od.length - 0, by omega, 0, 0, none, rfl, Nat.zero_le _, hQ, hR, fun f e => (by cases e), (Nat.zero_add _).symm, rfl, rfl, rfl, rfl⟩
      · obtain ⟨x9, hx, hxn, hxc, hxo⟩ := g.odn w
        refine ⟨(g 0).1, g.g21 w ?_⟩
        rw [hx, Nat.add_sub_cancel, nI_clamp (by omega)]
        refine ⟨r22.2.2.1, inRn (N := 8192) r22.2.2.2 (by omega) (by decide), 100000 + ((R.Q.T m).od.length - (j + 1)), by omega, j + 1, rfl, w, hQ.wr _, fun i hi => ?_, by rw [nI_1], rfl, rfl, rfl⟩
        rw [eI_rI, if_pos rfl, upd]
        by_cases e : i = j
        · rw [e, hx, Nat.add_sub_cancel, if_pos rfl]
        · obtain ⟨y9, hy, hyn, hyc, hyo⟩ := g.odn (show i < (R.Q.T m).od.length by omega)
          have := od_ne g.tnd (show i < j by omega) w
          rw [hx, hy] at this
          rw [if_neg (by rw [hy]; omega)]
          exact hR i (by omega)
    · cases hm
      obtain ⟨j, c, lf, rfl, hj, hQ, hR, hlf, hC, rfl, rfl, rfl, rfl⟩ := h
      refine ⟨300, ?_⟩
      show (isO S1 13 a ∧ (((mI S1 1302 a) ≤ (nI j) → (([] : List MV) = [] ∧ mret (some .int) (sp_rcx t a b F z Y R kz n m) [.inr (.inr (some t)), .inr (.inr (some a)), .inr (.inr (some b))] S (some (.inl (nI c))) S1 0 0)) ∧ (¬ (mI S1 1302 a) ≤ (nI j) → (isO S1 13 a ∧ (pa (mR S1 1321 a) fun a_1 => ∃ v_2 : Int32, (isO S1 17 a_1 ∧ inR S1 a_1 (nI j) ∧ v_2 = eI S1 a_1 (nI j).toNatClampNeg ∨ a_1 = (mQ S1).1 ∧ vp_in (nI j) 16 ∧ v_2 = mRem (nI j).toNatClampNeg) ∧ (isO S1 13 a ∧ (isO S1 13 a ∧ (pa (mR S1 1306 a) fun a_3 => ∃ v_4 : Int32, (isO S1 17 a_3 ∧ inR S1 a_3 v_2 ∧ v_4 = eI S1 a_3 v_2.toNatClampNeg ∨ a_3 = (mQ S1).1 ∧ vp_in v_2 16 ∧ v_4 = mRem v_2.toNatClampNeg) ∧ (pa (mR S1 1303 a) fun a_5 => ∃ v_6 : Int32, (isO S1 17 a_5 ∧ inR S1 a_5 v_4 ∧ v_6 = eI S1 a_5 v_4.toNatClampNeg ∨ a_5 = (mQ S1).1 ∧ vp_in v_4 16 ∧ v_6 = mRem v_4.toNatClampNeg) ∧ (isO S1 13 a ∧ (pa (mR S1 1307 a) fun a_7 => ∃ v_8 : Int32, (isO S1 17 a_7 ∧ inR S1 a_7 v_2 ∧ v_8 = eI S1 a_7 v_2.toNatClampNeg ∨ a_7 = (mQ S1).1 ∧ vp_in v_2 16 ∧ v_8 = mRem v_2.toNatClampNeg) ∧ (0 = 0 ∧ (∃ (a_9 : Nat), v_6 = nI a_9 ∧ (∃ (F_10 : Nat → Nat × Nat) (i_11 : Nat) (y_12 : Nat → Nat) (G_13 : Gr) (T_14 : Tr), (b = y_12 0 ∧ RG S1 F_10 i_11 y_12 G_13 T_14 ∧ a_9 < 256) ∧ 0 ≤ 0 ∧ 0 ≤ 0 ∧ (((0 ≤ (fnV G_13 a_9 v_8) → (((loI lf) < 0 → (∃ k1, k1 < ((R.Q.T n).od.length - j) ∧ I_rx2 a b F t z Y R kz n m S k1 [(1, .inr (.inr (some a))), (2, .inr (.inr (some b))), (3, .inl (nI c)), (4, .inl (fnV G_13 a_9 v_8)), (5, .inr (.inr (some (z 22)))), (6, .inl ((nI j) + (1 : Int32)))] [] S1 0 0)) ∧ (¬ (loI lf) < 0 → (∃ v_16 : Int32, (isO S1 17 (z 22) ∧ inR S1 (z 22) (fnV G_13 a_9 v_8) ∧ v_16 = eI S1 (z 22) (fnV G_13 a_9 v_8).toNatClampNeg ∨ (z 22) = (mQ S1).1 ∧ vp_in (fnV G_13 a_9 v_8) 16 ∧ v_16 = mRem (fnV G_13 a_9 v_8).toNatClampNeg) ∧ (∃ v_17 : Int32, (isO S1 17 (z 22) ∧ inR S1 (z 22) (loI lf) ∧ v_17 = eI S1 (z 22) (loI lf).toNatClampNeg ∨ (z 22) = (mQ S1).1 ∧ vp_in (loI lf) 16 ∧ v_17 = mRem (loI lf).toNatClampNeg) ∧ ((v_17 ≤ v_16 → (∃ k1, k1 < ((R.Q.T n).od.length - j) ∧ I_rx2 a b F t z Y R kz n m S k1 [(1, .inr (.inr (some a))), (2, .inr (.inr (some b))), (3, .inl (nI c)), (4, .inl (fnV G_13 a_9 v_8)), (5, .inr (.inr (some (z 22)))), (6, .inl ((nI j) + (1 : Int32)))] [] S1 0 0)) ∧ (¬ v_17 ≤ v_16 → (∃ k1, k1 < ((R.Q.T n).od.length - j) ∧ I_rx2 a b F t z Y R kz n m S k1 [(1, .inr (.inr (some a))), (2, .inr (.inr (some b))), (3, .inl ((nI c) + (1 : Int32))), (4, .inl (fnV G_13 a_9 v_8)), (5, .inr (.inr (some (z 22)))), (6, .inl ((nI j) + (1 : Int32)))] [] S1 0 0)))))))) ∧ (¬ 0 ≤ (fnV G_13 a_9 v_8) → (∃ k1, k1 < ((R.Q.T n).od.length - j) ∧ I_rx2 a b F t z Y R kz n m S k1 [(1, .inr (.inr (some a))), (2, .inr (.inr (some b))), (3, .inl (nI c)), (4, .inl (loI lf)), (5, .inr (.inr (some (z 22)))), (6, .inl ((nI j) + (1 : Int32)))] [] S1 0 0))))))))))))))))))
      obtain ⟨hM0, hn, hm, rfl, rfl, hG, hT⟩ := hp
      have hM := hQ.1
      have g : RG S1 F (101 + m) (Y m) (R.Q.G m) (R.Q.T m) := (hM 2 m hm).2.1
      have g1 : RG S1 F (101 + n) (Y n) (R.Q.G n) (R.Q.T n) := (hM 2 n hn).2.1
      have hnm := g.nm
      have hol := g.odl
      have hnm1 := g1.nm
      have hol1 := g1.odl
      have e1 : mI S1 1302 (Y n 0) = nI (R.Q.T n).od.length := (g1 2).2.2
      have r22 := hM 1 22 (by decide)
      have rk : ∀ {f}, f + 1 ∈ (R.Q.T m).od → f < 8192 ∧ posL (R.Q.T m).od (f + 1) < 8192 ∧ eI S1 (z 22) f = nI (posL (R.Q.T m).od (f + 1)) := fun {f} hf => by
        obtain ⟨p1, p2⟩ := posL_get hf
        obtain ⟨k9, e9, q9, -⟩ := g.ond hf
        have := hR _ p1
        rw [p2, Nat.add_sub_cancel] at this
        exact ⟨by omega, by omega, this⟩
      rw [e1]
      refine ⟨(g1 0).1, if_le (by omega) (by omega) (fun w => ?_) (fun w => ?_)⟩
      · have e : j = (R.Q.T n).od.length := by omega
        subst e
        rw [List.drop_length] at hC
        exact ⟨rfl, trivial, ⟨by rw [hC]; rfl, hQ⟩, Nat.le_refl _, Nat.le_refl _⟩
      · obtain ⟨x9, hx, hxn, hxc, hxo⟩ := g1.odn w
        have hd : (R.Q.T n).od.drop j = (x9 + 1) :: (R.Q.T n).od.drop (j + 1) := by
          rw [List.drop_eq_getElem_cons w, ← hx, List.getD_eq_getElem?_getD, List.getElem?_eq_getElem w]; rfl
        rw [hd] at hC
        have s1 := g1.ok.sl1 x9 hxn
        have s2 := g1.ok.ag1 _ s1
        have s3 := nu_le g1.ok hxn
        have hnn : ¬ nI ((R.Q.G n).ev x9).nu < 0 := nI_pos (by omega)
        have hcn : (nI ((R.Q.G n).ev x9).nu).toNatClampNeg = ((R.Q.G n).ev x9).nu := nI_clamp (by omega)
        have htw : twin (R.Q.G n) (R.Q.G m) x9 = (agE (R.Q.G m) ((R.Q.G n).ag ((R.Q.G n).ev x9).sl))[((R.Q.G n).ev x9).nu]? := rfl
        refine ⟨(g1 0).1, g1.g21 w ?_⟩
        rw [hx, Nat.add_sub_cancel]
        refine ⟨(g1 0).1, (g1 0).1, g1.g6 hxn (g1.g3 s1 ⟨(g1 0).1, g1.g7 hxn ⟨rfl, _, rfl, F, 101 + m, Y m, R.Q.G m, R.Q.T m, ⟨rfl, g, s2⟩, Nat.le_refl _, Nat.le_refl _, ?_⟩⟩)⟩
        cases ht : twin (R.Q.G n) (R.Q.G m) x9 with
        | none =>
          have ef : fnV (R.Q.G m) ((R.Q.G n).ag ((R.Q.G n).ev x9).sl) (nI ((R.Q.G n).ev x9).nu) = -1 := by
            unfold fnV
            rw [if_neg hnn, hcn, ← htw, ht]
          have et : twp (R.Q.G n) (R.Q.G m) (R.Q.T m) (x9 + 1) = none := by
            unfold twp
            rw [Nat.add_sub_cancel, ht]
          rw [crF_n et] at hC
          rw [ef]
          exact ⟨fun w9 => absurd w9 (by decide), fun _ => ⟨(R.Q.T n).od.length - (j + 1), by omega, j + 1, c, lf, rfl, w, hQ, hR, hlf, hC, by rw [nI_1], rfl, rfl, rfl⟩⟩
        | some f =>
          have ef : fnV (R.Q.G m) ((R.Q.G n).ag ((R.Q.G n).ev x9).sl) (nI ((R.Q.G n).ev x9).nu) = nI f := by
            unfold fnV
            rw [if_neg hnn, hcn, ← htw, ht]
          have hfc := hT (x9 + 1) hxo f (by rw [Nat.add_sub_cancel]; exact ht)
          have hfn : f < (R.Q.G m).n := agE_n g.ok (a := (R.Q.G n).ag ((R.Q.G n).ev x9).sl) (List.mem_of_getElem? (htw ▸ ht))
          have hfo : f + 1 ∈ (R.Q.T m).od := (hG.2.2.2.1 (f + 1)).2 ⟨f, rfl, hfn, hfc⟩
          have et : twp (R.Q.G n) (R.Q.G m) (R.Q.T m) (x9 + 1) = some (posL (R.Q.T m).od (f + 1)) := by
            unfold twp
            rw [Nat.add_sub_cancel, ht]
            exact if_neg hfc
          rw [crF_s et] at hC
          obtain ⟨f1, f2, f3⟩ := rk hfo
          have cf : (nI f).toNatClampNeg = f := nI_clamp (by omega)
          rw [ef, cf]
          have fin : ∀ c', crs (R.Q.G n) (R.Q.T n) (R.Q.G m) (R.Q.T m) = c' + crF (twp (R.Q.G n) (R.Q.G m) (R.Q.T m)) ((R.Q.T n).od.drop (j + 1)) (some (posL (R.Q.T m).od (f + 1))) → ∃ k1, k1 < (R.Q.T n).od.length - j ∧ I_rx2 (Y n 0) (Y m 0) F t z Y R kz n m S k1 [(1, .inr (.inr (some (Y n 0)))), (2, .inr (.inr (some (Y m 0)))), (3, .inl (nI c')), (4, .inl (nI f)), (5, .inr (.inr (some (z 22)))), (6, .inl (nI j + 1))] [] S1 0 0 := fun c' h9 => ⟨(R.Q.T n).od.length - (j + 1), by omega, j + 1, c', some f, rfl, w, hQ, hR, fun f' e => by cases e; exact hfo, h9, by rw [nI_1]; rfl, rfl, rfl, rfl⟩
          refine ⟨fun _ => ?_, fun w9 => absurd (nI_pos' (by omega)) w9⟩
          cases lf with
          | none => exact ⟨fun _ => fin c (by rw [hC]; show c + (0 + _) = _; rw [Nat.zero_add]), fun w9 => absurd (by decide : (-1 : Int32) < 0) w9⟩
          | some l =>
            obtain ⟨l1, l2, l3⟩ := rk (hlf l rfl)
            have cl : (nI l).toNatClampNeg = l := nI_clamp (by omega)
            have hC : crs (R.Q.G n) (R.Q.T n) (R.Q.G m) (R.Q.T m) = c + ((if posL (R.Q.T m).od (f + 1) < posL (R.Q.T m).od (l + 1) then 1 else 0) + crF (twp (R.Q.G n) (R.Q.G m) (R.Q.T m)) ((R.Q.T n).od.drop (j + 1)) (some (posL (R.Q.T m).od (f + 1)))) := hC
            refine ⟨fun w9 => absurd w9 (nI_pos (show l < 2147483648 by omega)), fun _ => ⟨nI (posL (R.Q.T m).od (f + 1)), Or.inl ⟨r22.2.2.1, inRn (N := 8192) r22.2.2.2 f1 (by decide), f3.symm⟩, nI (posL (R.Q.T m).od (l + 1)), Or.inl ⟨r22.2.2.1, inRn (N := 8192) r22.2.2.2 l1 (by decide), by show _ = eI S1 (z 22) (nI l).toNatClampNeg; rw [cl]; exact l3.symm⟩, if_le (by omega) (by omega) (fun q => ?_) (fun q => ?_)⟩⟩
            · rw [if_neg (by omega), Nat.zero_add] at hC
              exact fin c hC
            · rw [if_pos q] at hC
              rw [nI_1]
              exact fin (c + 1) (by rw [hC, Nat.add_assoc])
theorem u_rcx (l : Launch) : Us l yX14_crossed cX14_crossed 9 (some .int) 2 45 15 T_rcx := by
  intro Rc Rs av S cs sl K Kx h
  unfold T_rcx at h
  split at h
  · rename_i t_o a_o b_o
    obtain ⟨t, rfl, h_1⟩ := pa_of h
    obtain ⟨a, rfl, h_2⟩ := pa_of h_1
    obtain ⟨b, rfl, h_3⟩ := pa_of h_2
    obtain ⟨F, z, Y, R, kz, n, m, hp, hc, hs, hk⟩ := h_3
    refine ⟨(sp_rcx t a b F z Y R kz n m), c_rcx l t a b F z Y R kz n m, fun _ _ h9 => ⟨_, _, h9.1, (h9.2.1 0).1⟩, ⟨rfl, hp⟩, hc, hs, fun v9 S' h8 => by
      obtain ⟨h7, h8⟩ := h8
      cases h7
      exact hk _ h8, fun _ _ q => q.elim⟩
  · exact h.elim
def cx0P (S : MM) (F : Nat → Nat × Nat) (t : Nat) (z : Nat → Nat) (Y : Nat → Nat → Nat) (R : Rb) (kz : Nat → Nat) : Prop := MD S F t z Y R kz ∧ AbC R ∧ (R.Q.fo = 0 → ∀ n m, n < m → m < 4 → twK (R.Q.G n) (R.Q.T n) (R.Q.G m))
def cxv (R : Rb) (v : Int32) : Prop := (R.Q.fo = 1 ∧ v = -1) ∨ (R.Q.fo = 0 ∧ v = nI (cxT R.Q 4))
def I_rx3 (t : Nat) (F : Nat → Nat × Nat) (z : Nat → Nat) (Y : Nat → Nat → Nat) (R : Rb) (kz : Nat → Nat) (S : MM) (k : Nat) : KT := fun lo st S1 cs sl => ∃ p, k = (4 - p) * 10 + 9 ∧ p ≤ 4 ∧ R.Q.fo = 0 ∧ cxQ S S1 F t z Y R kz ∧ lo = [(0, .inr (.inr (some t))), (1, .inl (nI (cxT R.Q p))), (2, .inl (nI p))] ∧ st = [] ∧ cs = 0 ∧ sl = 0
def I_rx4 (t : Nat) (F : Nat → Nat × Nat) (z : Nat → Nat) (Y : Nat → Nat → Nat) (R : Rb) (kz : Nat → Nat) (S : MM) (k : Nat) : KT := fun lo st S1 cs sl => ∃ p q, k = (4 - p) * 10 + (4 - q) ∧ p < q ∧ q ≤ 4 ∧ p < 4 ∧ R.Q.fo = 0 ∧ cxQ S S1 F t z Y R kz ∧ lo = [(0, .inr (.inr (some t))), (1, .inl (nI (cxT R.Q p + cxR R.Q p q))), (2, .inl (nI p)), (3, .inl (nI q))] ∧ st = [] ∧ cs = 0 ∧ sl = 0
def T_rcx0 : TR := fun Rc Rs av S cs sl K _Kx => match av with
  | [.inr (.inr t_o)] => pa t_o fun t => (∃ (F : Nat → Nat × Nat) (z : Nat → Nat) (Y : Nat → Nat → Nat) (R : Rb) (kz : Nat → Nat), (cx0P S F t z Y R kz) ∧ cs ≤ Rc ∧ sl ≤ Rs ∧ (∀ (v : Int32) (S' : MM), (cxv R v ∧ cxQ S S' F t z Y R kz) → K (some (.inl v)) S' cs sl))
  | _ => False
def sp_rcx0 (t : Nat) (F : Nat → Nat × Nat) (z : Nat → Nat) (Y : Nat → Nat → Nat) (R : Rb) (kz : Nat → Nat) : Sp := (fun av S => av = [.inr (.inr (some t))] ∧ (cx0P S F t z Y R kz), fun _ S => 0, fun _ S => 0, fun _ S rv S' => ∃ v, rv = (some (.inl v)) ∧ (cxv R v ∧ cxQ S S' F t z Y R kz), fun _ _ _ _ => False)
def tX14_crossed0 : CD := [(0, .aload_n 0), (1, .getfield 504), (4, .ifCond .eq 5), (7, .iconst (-1)), (8, .ireturn), (9, .iconst 0), (10, .istore_n 1), (11, .iconst 0), (12, .istore_n 2), (13, .iload_n 2), (14, .iconst 4), (15, .if_icmp .ge 43), (18, .iload_n 2), (19, .iconst 1), (20, .iadd), (21, .istore_n 3), (22, .iload_n 3), (23, .iconst 4), (24, .if_icmp .ge 28), (27, .iload_n 1), (28, .aload_n 0), (29, .aload_n 0), (30, .getfield 11), (33, .iload_n 2), (34, .aaload), (35, .aload_n 0), (36, .getfield 11), (39, .iload_n 3), (40, .aaload), (41, .invokevirtual 508), (44, .iadd), (45, .istore_n 1), (46, .iinc 3 1), (49, .goto (-27)), (52, .iinc 2 1), (55, .goto (-42)), (58, .iload_n 1), (59, .ireturn)]
set_option maxRecDepth 100000 in
theorem kX14_crossed0 : chk cX14_crossed0 tX14_crossed0 = true := by decide +kernel
theorem vX14_crossed0_508 : ∀ w ∈ ([.methodLink RX14 508 yX14_crossed, .instanceMethod yX14_crossed, .selects yX14_crossed.cls yX14_crossed yX14_crossed, .initialized yX14_crossed.cls, .code yX14_crossed cX14_crossed 9 (some .int)] : List Cond), w ∈ lw_good := List.forall_mem_cons.mpr ⟨mgd 2471 (by decide +kernel) (by decide +kernel), List.forall_mem_cons.mpr ⟨mgd 2473 (by decide +kernel) (by decide +kernel), List.forall_mem_cons.mpr ⟨mgd 119 (by decide +kernel) (by decide +kernel), List.forall_mem_cons.mpr ⟨mgd 136 (by decide +kernel) (by decide +kernel), List.forall_mem_cons.mpr ⟨mgd 2474 (by decide +kernel) (by decide +kernel), fun _ h => absurd h List.not_mem_nil⟩⟩⟩⟩⟩
set_option maxRecDepth 100000 in
set_option maxHeartbeats 2000000 in
theorem c_rcx0 (l : Launch) : ∀ (t : Nat) (F : Nat → Nat × Nat) (z : Nat → Nat) (Y : Nat → Nat → Nat) (R : Rb) (kz : Nat → Nat), Ct l yX14_crossed0 cX14_crossed0 4 (some .int) 3 73 (sp_rcx0 t F z Y R kz) := by
  intro t F z Y R kz
  refine Ct.of (fX14, nX14, aX14, iX14, lX14, [(508, 0, 3, 1, T_rcx)], qX14, gX14, []) false tX14_crossed0 (fun _ S => look [(13, ([0,1,2], I_rx3 t F z Y R kz S)), (22, ([0,1,2,3], I_rx4 t F z Y R kz S))]) (by decide) (by decide) kX14_crossed0 ⟨_, _, rfl⟩ fX14_ok nX14_ok aX14_ok iX14_ok lX14_ok (fun p e R s m args below meth c Q D cy z r A C hR1 hR2 => List.forall_mem_cons.mpr ⟨cOK_use (fun _ _ _ _ _ _ _ _ h => let ⟨sp, h1, h2, h3⟩ := u_rcx l _ _ _ _ _ _ _ _ h; ⟨sp, cOK_V C h1 vX14_crossed0_508 ⟨by decide, by decide, by decide +kernel⟩ ⟨by rw [hR1]; decide, by rw [hR2]; decide⟩ (k := 15) (T := TX14) (N := 52) rfl (by decide) h2, h3⟩), fun _ h => absurd h List.not_mem_nil⟩) qX14_ok gX14_ok rfl ?_ ?_
  · rintro _ S ⟨rfl, hp⟩
    refine ⟨Nat.le_of_ble_eq_true rfl, 300, ?_⟩
    show (isO S 15 t ∧ (((mI S 1514 t) = 0 → (∃ k1, I_rx3 t F z Y R kz S k1 [(0, .inr (.inr (some t))), (1, .inl (0 : Int32)), (2, .inl (0 : Int32))] [] S 0 0)) ∧ (¬ (mI S 1514 t) = 0 → (([] : List MV) = [] ∧ mret (some .int) (sp_rcx0 t F z Y R kz) [.inr (.inr (some t))] S (some (.inl (-1 : Int32))) S 0 0))))
    obtain ⟨hM, hA, hK⟩ := hp
    obtain ⟨-, -, m7, f2⟩ := hM 9
    rw [m7]
    refine ⟨(hM 0).1, fun q => ⟨_, 0, rfl, by decide, (nI_eq (by omega) (by decide)).1 q, ⟨hM, fun _ _ => rfl, Keep.rf, rfl⟩, rfl, rfl, rfl, rfl⟩, fun q => ⟨rfl, trivial, ⟨_, rfl, Or.inl ⟨?_, rfl⟩, hM, fun _ _ => rfl, Keep.rf, rfl⟩, Nat.zero_le _, Nat.zero_le _⟩⟩
    have : R.Q.fo ≠ 0 := fun e => q (by rw [e]; rfl)
    omega
  · intro av S hpre pc I hI k lo st S1 cs sl h
    obtain ⟨rfl, hp⟩ := hpre
    have hm := look_in hI
    simp only [List.mem_cons, List.not_mem_nil, or_false] at hm
    rcases hm with hm | hm
    · cases hm
      obtain ⟨p, rfl, hp4, hfo, hQ, rfl, rfl, rfl, rfl⟩ := h
      refine ⟨300, ?_⟩
      show (((4 : Int32) ≤ (nI p) → (([] : List MV) = [] ∧ mret (some .int) (sp_rcx0 t F z Y R kz) [.inr (.inr (some t))] S (some (.inl (nI (cxT R.Q p)))) S1 0 0)) ∧ (¬ (4 : Int32) ≤ (nI p) → (∃ k1, k1 < ((4 - p) * 10 + 9) ∧ I_rx4 t F z Y R kz S k1 [(0, .inr (.inr (some t))), (1, .inl (nI (cxT R.Q p))), (2, .inl (nI p)), (3, .inl ((nI p) + (1 : Int32)))] [] S1 0 0)))
      refine if_le (a := 4) (b := p) (by decide) (by omega) (fun h4 => ?_) (fun h4 => ?_)
      · have : p = 4 := by omega
        subst this
        exact ⟨rfl, trivial, ⟨_, rfl, Or.inr ⟨hfo, rfl⟩, hQ⟩, Nat.zero_le _, Nat.zero_le _⟩
      · exact ⟨(4 - p) * 10 + (4 - (p + 1)), by omega, p, p + 1, rfl, by omega, by omega, h4, hfo, hQ, by rw [cxR_0 (Nat.le_refl _), nI_1]; rfl, rfl, rfl, rfl⟩
    · cases hm
      obtain ⟨p, q, rfl, hpq, hq4, hp4, hfo, hQ, rfl, rfl, rfl, rfl⟩ := h
      refine ⟨300, ?_⟩
      show (((4 : Int32) ≤ (nI q) → (∃ k1, k1 < ((4 - p) * 10 + (4 - q)) ∧ I_rx3 t F z Y R kz S k1 [(0, .inr (.inr (some t))), (1, .inl (nI (cxT R.Q p + cxR R.Q p q))), (2, .inl ((nI p) + (1 : Int32)))] [] S1 0 0)) ∧ (¬ (4 : Int32) ≤ (nI q) → (isO S1 15 t ∧ (pa (mR S1 1500 t) fun a_1 => a_1 ∈ mL S1 ∧ ¬ mK S1 a_1 < 21 ∧ mK S1 a_1 < 29 ∧ inR S1 a_1 (nI p) ∧ (isO S1 15 t ∧ (pa (mR S1 1500 t) fun a_2 => a_2 ∈ mL S1 ∧ ¬ mK S1 a_2 < 21 ∧ mK S1 a_2 < 29 ∧ inR S1 a_2 (nI q) ∧ (0 = 0 ∧ ((pa (eR S1 a_1 (nI p).toNatClampNeg) fun a_3 => ((pa (eR S1 a_2 (nI q).toNatClampNeg) fun a_4 => (∃ (F_5 : Nat → Nat × Nat) (z_6 : Nat → Nat) (Y_7 : Nat → Nat → Nat) (R_8 : Rb) (kz_9 : Nat → Nat) (n_10 m_11 : Nat), (cxP S1 F_5 t z_6 Y_7 R_8 kz_9 n_10 m_11 a_3 a_4) ∧ 0 ≤ 0 ∧ 0 ≤ 0 ∧ (∀ (S_12 : MM), (cxQ S1 S_12 F_5 t z_6 Y_7 R_8 kz_9) → (∃ k1, k1 < ((4 - p) * 10 + (4 - q)) ∧ I_rx4 t F z Y R kz S k1 [(0, .inr (.inr (some t))), (1, .inl ((nI (cxT R.Q p + cxR R.Q p q)) + (nI (crs (R_8.Q.G n_10) (R_8.Q.T n_10) (R_8.Q.G m_11) (R_8.Q.T m_11))))), (2, .inl (nI p)), (3, .inl ((nI q) + (1 : Int32)))] [] S_12 0 0))))))))))))))
      refine if_le (a := 4) (b := q) (by decide) (by omega) (fun h4 => ?_) (fun h4 => ?_)
      · have : q = 4 := by omega
        subst this
        exact ⟨(4 - (p + 1)) * 10 + 9, by omega, p + 1, rfl, by omega, hfo, hQ, by rw [nI_1]; rfl, rfl, rfl, rfl⟩
      · obtain ⟨hM0, hA, hK⟩ := hp
        have hM := hQ.1
        have r0 := hM 1 0 (by decide)
        have cp : (nI p).toNatClampNeg = p := nI_clamp (by omega)
        have cq : (nI q).toNatClampNeg = q := nI_clamp (by omega)
        refine ⟨(hM 0).1, pa_i r0.1 ⟨r0.2.2.1.1, by rw [r0.2.2.1.2]; decide, by rw [r0.2.2.1.2]; decide, inRn (N := 4) r0.2.2.2 hp4 (by decide), (hM 0).1, pa_i r0.1 ⟨r0.2.2.1.1, by rw [r0.2.2.1.2]; decide, by rw [r0.2.2.1.2]; decide, inRn (N := 4) r0.2.2.2 h4 (by decide), rfl, ?_⟩⟩⟩
        rw [cp, cq]
        refine pa_i (hM 2 p hp4).1 (pa_i (hM 2 q h4).1 ⟨F, z, Y, R, kz, p, q, ⟨hM, hp4, h4, rfl, rfl, (hA q h4).1, hK hfo p q hpq h4⟩, Nat.le_refl _, Nat.le_refl _, fun S12 h => ⟨(4 - p) * 10 + (4 - (q + 1)), by omega, p, q + 1, rfl, by omega, h4, hp4, hfo, ⟨h.1, hQ.2.tr h.2⟩, ?_, rfl, rfl, rfl⟩⟩)
        rw [nI_add, nI_1, cxR, if_pos hpq, Nat.add_assoc]
theorem u_rcx0 (l : Launch) : Us l yX14_crossed0 cX14_crossed0 4 (some .int) 3 73 15 T_rcx0 := by
  intro Rc Rs av S cs sl K Kx h
  unfold T_rcx0 at h
  split at h
  · rename_i t_o
    obtain ⟨t, rfl, h_1⟩ := pa_of h
    obtain ⟨F, z, Y, R, kz, hp, hc, hs, hk⟩ := h_1
    refine ⟨(sp_rcx0 t F z Y R kz), c_rcx0 l t F z Y R kz, fun _ _ h9 => ⟨_, _, h9.1, (h9.2.1 0).1⟩, ⟨rfl, hp⟩, hc, hs, fun v9 S' h8 => by
      obtain ⟨v8, h7, h8⟩ := h8
      cases h7
      exact hk _ _ h8, fun _ _ q => q.elim⟩
  · exact h.elim
def T_rcx1 : TR := fun Rc Rs av S cs sl K _Kx => match av with
  | [.inr (.inr t_o)] => pa t_o fun t => (∃ (F : Nat → Nat × Nat) (z : Nat → Nat) (Y : Nat → Nat → Nat) (R : Rb) (kz : Nat → Nat), (cx0P S F t z Y R kz) ∧ cs ≤ Rc ∧ sl ≤ Rs ∧ (∀ (v : Int32) (S' : MM), (cxv R v ∧ mdW S S' F t R kz 0) → K (some (.inl v)) S' cs sl))
  | _ => False
def sp_rcx1 (t : Nat) (F : Nat → Nat × Nat) (z : Nat → Nat) (Y : Nat → Nat → Nat) (R : Rb) (kz : Nat → Nat) : Sp := (fun av S => av = [.inr (.inr (some t))] ∧ (cx0P S F t z Y R kz), fun _ S => 0, fun _ S => 0, fun _ S rv S' => ∃ v, rv = (some (.inl v)) ∧ (cxv R v ∧ mdW S S' F t R kz 0), fun _ _ _ _ => False)
def tX14_crossed_ : CD := [(0, .aload_n 0), (1, .iconst 0), (2, .putfield 512), (5, .aload_n 0), (6, .invokevirtual 606), (9, .ireturn)]
set_option maxRecDepth 100000 in
theorem kX14_crossed_ : chk cX14_crossed_ tX14_crossed_ = true := by decide +kernel
theorem vX14_crossed__606 : ∀ w ∈ ([.methodLink RX14 606 yX14_crossed0, .instanceMethod yX14_crossed0, .selects yX14_crossed0.cls yX14_crossed0 yX14_crossed0, .initialized yX14_crossed0.cls, .code yX14_crossed0 cX14_crossed0 4 (some .int)] : List Cond), w ∈ lw_good := List.forall_mem_cons.mpr ⟨mgd 2467 (by decide +kernel) (by decide +kernel), List.forall_mem_cons.mpr ⟨mgd 2469 (by decide +kernel) (by decide +kernel), List.forall_mem_cons.mpr ⟨mgd 118 (by decide +kernel) (by decide +kernel), List.forall_mem_cons.mpr ⟨mgd 136 (by decide +kernel) (by decide +kernel), List.forall_mem_cons.mpr ⟨mgd 2470 (by decide +kernel) (by decide +kernel), fun _ h => absurd h List.not_mem_nil⟩⟩⟩⟩⟩
set_option maxRecDepth 100000 in
set_option maxHeartbeats 2000000 in
theorem c_rcx1 (l : Launch) (hlt : l.stackTraces = false) : ∀ (t : Nat) (F : Nat → Nat × Nat) (z : Nat → Nat) (Y : Nat → Nat → Nat) (R : Rb) (kz : Nat → Nat), CtX l yX14_crossed_ (Cond.code yX14_crossed_ cX14_crossed_ 1 (some .int)) (some .int) 4 96 (sp_rcx1 t F z Y R kz) := by
  intro t F z Y R kz
  refine CtX.of hlt (fX14, nX14, aX14, iX14, lX14, [(606, 0, 1, 1, T_rcx0)], qX14, gX14, []) false tX14_crossed_ (fun _ _ _ => none) (by decide) (by decide) kX14_crossed_ ⟨_, _, rfl⟩ fX14_ok nX14_ok aX14_ok iX14_ok lX14_ok (fun p e R s m args below meth c Q D cy z r A C hR1 hR2 => List.forall_mem_cons.mpr ⟨cOK_use (fun _ _ _ _ _ _ _ _ h => let ⟨sp, h1, h2, h3⟩ := u_rcx0 l _ _ _ _ _ _ _ _ h; ⟨sp, cOK_V C h1 vX14_crossed__606 ⟨by decide, by decide, by decide +kernel⟩ ⟨by rw [hR1]; decide, by rw [hR2]; decide⟩ (k := 15) (T := TX14) (N := 52) rfl (by decide) h2, h3⟩), fun _ h => absurd h List.not_mem_nil⟩) qX14_ok gX14_ok (fun _ h => absurd h List.not_mem_nil) ?_ ?_
  · rintro _ S ⟨rfl, hp⟩
    refine ⟨Nat.le_of_ble_eq_true rfl, 300, ?_⟩
    show (True ∧ (isO S 15 t ∧ (0 = 0 ∧ (∃ (F_1 : Nat → Nat × Nat) (z_2 : Nat → Nat) (Y_3 : Nat → Nat → Nat) (R_4 : Rb) (kz_5 : Nat → Nat), (cx0P (sI S 1551 t (0 : Int32)) F_1 t z_2 Y_3 R_4 kz_5) ∧ 0 ≤ 0 ∧ 0 ≤ 0 ∧ (∀ (x_7 : Int32) (S_6 : MM), (cxv R_4 x_7 ∧ cxQ (sI S 1551 t (0 : Int32)) S_6 F_1 t z_2 Y_3 R_4 kz_5) → (([] : List MV) = [] ∧ mret (some .int) (sp_rcx1 t F z Y R kz) [.inr (.inr (some t))] S (some (.inl x_7)) S_6 0 0))))))
    obtain ⟨hp, hA⟩ := hp
    exact ⟨trivial, (hp 0).1, rfl, F, z, Y, R, kz, ⟨hp.th 0, hA⟩, Nat.le_refl _, Nat.le_refl _, fun v S3 h => ⟨rfl, trivial, ⟨_, rfl, h.1, mdQ.ok (kz' := kz) ⟨F, z, Y, h.2⟩ hp⟩, Nat.le_refl _, Nat.le_refl _⟩⟩
  · exact fun _ _ _ _ _ h => by cases h
theorem u_rcx1 (l : Launch) (hlt : l.stackTraces = false) : UsX l yX14_crossed_ (Cond.code yX14_crossed_ cX14_crossed_ 1 (some .int)) (some .int) 4 96 15 T_rcx1 := by
  intro Rc Rs av S cs sl K Kx h
  unfold T_rcx1 at h
  split at h
  · rename_i t_o
    obtain ⟨t, rfl, h_1⟩ := pa_of h
    obtain ⟨F, z, Y, R, kz, hp, hc, hs, hk⟩ := h_1
    refine ⟨(sp_rcx1 t F z Y R kz), c_rcx1 l hlt t F z Y R kz, fun _ _ h9 => ⟨_, _, h9.1, (h9.2.1 0).1⟩, ⟨rfl, hp⟩, hc, hs, fun v9 S' h8 => by
      obtain ⟨v8, h7, h8⟩ := h8
      cases h7
      exact hk _ _ h8, fun _ _ q => q.elim⟩
  · exact h.elim
def rfiW (S S' : MM) (F : Nat → Nat × Nat) (t : Nat) (R : Rb) (kz : Nat → Nat) (p x v : Int32) : Prop := ∃ n i P, rfiA R p x n i ∧ syms R.Q.tp = some P ∧ fdV (txtG (R.Q.G n) (R.Q.T n)) P i v ∧ mdW S S' F t (rtE R) kz 0
def T_rfi1 : TR := fun Rc Rs av S cs sl K _Kx => match av with
  | [.inr (.inr t_o), .inl p, .inl x] => pa t_o fun t => (∃ (F : Nat → Nat × Nat) (z : Nat → Nat) (Y : Nat → Nat → Nat) (R : Rb) (kz : Nat → Nat), (MD S F t z Y R kz) ∧ cs + 3 ≤ Rc ∧ sl + 18 ≤ Rs ∧ (∀ (v : Int32) (S' : MM), (rfiW S S' F t R kz p x v ∨ ((np 4 p ∨ ∃ n, n < 4 ∧ p = nI n ∧ np (visN (R.Q.G n) (R.Q.T n) + 1) x) ∧ v = 0 ∧ mdW S S' F t R kz 1) ∨ ((∃ n i, rfiA R p x n i) ∧ syms R.Q.tp = none ∧ v = 0 ∧ mdW S S' F t (rtE R) kz 2)) → K (some (.inl v)) S' (cs + 3) (sl + 18)))
  | _ => False
def sp_rfi1 (t : Nat) (p : Int32) (x : Int32) (F : Nat → Nat × Nat) (z : Nat → Nat) (Y : Nat → Nat → Nat) (R : Rb) (kz : Nat → Nat) : Sp := (fun av S => av = [.inr (.inr (some t)), .inl p, .inl x] ∧ (MD S F t z Y R kz), fun _ S => 3, fun _ S => 18, fun _ S rv S' => ∃ v, rv = (some (.inl v)) ∧ (rfiW S S' F t R kz p x v ∨ ((np 4 p ∨ ∃ n, n < 4 ∧ p = nI n ∧ np (visN (R.Q.G n) (R.Q.T n) + 1) x) ∧ v = 0 ∧ mdW S S' F t R kz 1) ∨ ((∃ n i, rfiA R p x n i) ∧ syms R.Q.tp = none ∧ v = 0 ∧ mdW S S' F t (rtE R) kz 2)), fun _ _ _ _ => False)
def tX14_find : CD := [(0, .aload_n 0), (1, .iconst 0), (2, .putfield 512), (5, .aload_n 0), (6, .iload_n 1), (7, .iload_n 2), (8, .invokevirtual 541), (11, .ireturn), (12, .astore_n 3), (13, .aload_n 0), (14, .iconst 1), (15, .putfield 512), (18, .goto 9), (21, .astore_n 3), (22, .aload_n 0), (23, .iconst 2), (24, .putfield 512), (27, .iconst 0), (28, .ireturn)]
set_option maxRecDepth 100000 in
theorem kX14_find : chk cX14_find tX14_find = true := by decide +kernel
theorem vX14_find_541 : ∀ w ∈ ([.methodLink RX14 541 yX14_find0, .instanceMethod yX14_find0, .selects yX14_find0.cls yX14_find0 yX14_find0, .initialized yX14_find0.cls, .code yX14_find0 cX14_find0 9 (some .int)] : List Cond), w ∈ lw_good := List.forall_mem_cons.mpr ⟨mgd 2111 (by decide +kernel) (by decide +kernel), List.forall_mem_cons.mpr ⟨mgd 2113 (by decide +kernel) (by decide +kernel), List.forall_mem_cons.mpr ⟨mgd 69 (by decide +kernel) (by decide +kernel), List.forall_mem_cons.mpr ⟨mgd 136 (by decide +kernel) (by decide +kernel), List.forall_mem_cons.mpr ⟨mgd 2114 (by decide +kernel) (by decide +kernel), fun _ h => absurd h List.not_mem_nil⟩⟩⟩⟩⟩
set_option maxRecDepth 100000 in
set_option maxHeartbeats 2000000 in
theorem c_rfi1 (l : Launch) (hlt : l.stackTraces = false) : ∀ (t : Nat) (p : Int32) (x : Int32) (F : Nat → Nat × Nat) (z : Nat → Nat) (Y : Nat → Nat → Nat) (R : Rb) (kz : Nat → Nat), CtX l yX14_find (Cond.codeWith yX14_find cX14_find 4 (some .int) [(5, 11, 12, 138), (5, 11, 21, 170)]) (some .int) 9 158 (sp_rfi1 t p x F z Y R kz) := by
  intro t p x F z Y R kz
  refine CtX.ofH hlt (fX14, nX14, aX14, iX14, lX14, [(541, 0, 3, 1, T_rfi0)], qX14, gX14, []) false tX14_find [((5, 11, 12, 138), 1), ((5, 11, 21, 170), 3)] (fun _ _ _ => none) (by decide) (by decide) kX14_find ⟨_, _, rfl⟩ fX14_ok nX14_ok aX14_ok iX14_ok lX14_ok (fun p e R s m args below meth c Q D cy z r A C hR1 hR2 => List.forall_mem_cons.mpr ⟨cOK_use (fun _ _ _ _ _ _ _ _ h => let ⟨sp, h1, h2, h3⟩ := u_rfi0 l hlt _ _ _ _ _ _ _ _ h; ⟨sp, cOKx_V C h1 vX14_find_541 ⟨by decide, by decide, by decide +kernel⟩ ⟨by rw [hR1]; decide, by rw [hR2]; decide⟩ (k := 15) (T := TX14) (N := 52) rfl (by decide) h2, h3⟩), fun _ h => absurd h List.not_mem_nil⟩) qX14_ok gX14_ok rfl (List.forall_mem_cons.mpr ⟨⟨by decide, mgd 1925 (by decide +kernel) (by decide +kernel)⟩, List.forall_mem_cons.mpr ⟨⟨by decide, mgd 1941 (by decide +kernel) (by decide +kernel)⟩, fun _ h => absurd h List.not_mem_nil⟩⟩) (fun _ _ _ _ z => z) ?_ ?_
  · rintro _ S ⟨rfl, hp⟩
    refine ⟨Nat.le_of_ble_eq_true rfl, 300, ?_⟩
    show (True ∧ (isO S 15 t ∧ (0 = 0 ∧ (∃ (F_1 : Nat → Nat × Nat) (z_2 : Nat → Nat) (Y_3 : Nat → Nat → Nat) (R_4 : Rb) (kz_5 : Nat → Nat), (MD (sI S 1551 t (0 : Int32)) F_1 t z_2 Y_3 R_4 kz_5) ∧ 0 + 3 ≤ 3 ∧ 0 + 18 ≤ 18 ∧ ((∀ (x_7 : Int32) (S_6 : MM), (rfiQ (sI S 1551 t (0 : Int32)) S_6 F_1 t R_4 kz_5 p x x_7) → (([] : List MV) = [] ∧ mret (some .int) (sp_rfi1 t p x F z Y R kz) [.inr (.inr (some t)), .inl p, .inl x] S (some (.inl x_7)) S_6 (0 + 3) (0 + 18))) ∧ ((np 4 p ∨ ∃ n, n < 4 ∧ p = nI n ∧ np (visN (R_4.Q.G n) (R_4.Q.T n) + 1) x) → (∀ e_9, (True ∧ (isO (sI S 1551 t (0 : Int32)) 15 t ∧ (([] : List MV) = [] ∧ mret (some .int) (sp_rfi1 t p x F z Y R kz) [.inr (.inr (some t)), .inl p, .inl x] S (some (.inl (0 : Int32))) (sI (sI S 1551 t (0 : Int32)) 1551 t (1 : Int32)) (0 + 3) (0 + 18)))))) ∧ (∀ (S_10 : MM), ((∃ n i, rfiA R_4 p x n i) ∧ syms R_4.Q.tp = none ∧ mdQ (sI S 1551 t (0 : Int32)) S_10 F_1 t (rtE R_4) kz_5) → (∀ e_11, (True ∧ (isO S_10 15 t ∧ (([] : List MV) = [] ∧ mret (some .int) (sp_rfi1 t p x F z Y R kz) [.inr (.inr (some t)), .inl p, .inl x] S (some (.inl (0 : Int32))) (sI S_10 1551 t (2 : Int32)) (0 + 3) (0 + 18)))))))))))
    refine ⟨trivial, (hp 0).1, rfl, F, z, Y, R, kz, hp.th 0, by decide, by decide, fun v S3 h => ?_, fun h e => ⟨trivial, (hp 0).1, rfl, trivial, ⟨_, rfl, Or.inr (Or.inl ⟨h, rfl, (hp.ex0 1 rfl).w hp⟩)⟩, Nat.le_refl _, Nat.le_refl _⟩, fun S9 h e => ?_⟩
    · obtain ⟨n, i, P, g0, g1, g2, g3⟩ := h
      exact ⟨rfl, trivial, ⟨_, rfl, Or.inl ⟨n, i, P, g0, g1, g2, g3.ok hp⟩⟩, Nat.le_refl _, Nat.le_refl _⟩
    · obtain ⟨g0, g1, g2⟩ := h
      obtain ⟨F9, z9, Y9, M9, -⟩ := id g2
      exact ⟨trivial, (M9 0).1, rfl, trivial, ⟨_, rfl, Or.inr (Or.inr ⟨g0, g1, rfl, g2.ex hp 2 rfl⟩)⟩, Nat.le_refl _, Nat.le_refl _⟩
  · exact fun _ _ _ _ _ h => by cases h
theorem u_rfi1 (l : Launch) (hlt : l.stackTraces = false) : UsX l yX14_find (Cond.codeWith yX14_find cX14_find 4 (some .int) [(5, 11, 12, 138), (5, 11, 21, 170)]) (some .int) 9 158 15 T_rfi1 := by
  intro Rc Rs av S cs sl K Kx h
  unfold T_rfi1 at h
  split at h
  · rename_i t_o p x
    obtain ⟨t, rfl, h_1⟩ := pa_of h
    obtain ⟨F, z, Y, R, kz, hp, hc, hs, hk⟩ := h_1
    refine ⟨(sp_rfi1 t p x F z Y R kz), c_rfi1 l hlt t p x F z Y R kz, fun _ _ h9 => ⟨_, _, h9.1, (h9.2 0).1⟩, ⟨rfl, hp⟩, hc, hs, fun v9 S' h8 => by
      obtain ⟨v8, h7, h8⟩ := h8
      cases h7
      exact hk _ _ h8, fun _ _ q => q.elim⟩
  · exact h.elim
