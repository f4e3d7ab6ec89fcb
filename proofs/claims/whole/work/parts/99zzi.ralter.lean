/-! ===== The reference's delete (public), alter ===== -/
def T_rde1 : TR := fun Rc Rs av S cs sl K _Kx => match av with
  | [.inr (.inr t_o), .inl p, .inl x, .inl y] => pa t_o fun t => (∃ (F : Nat → Nat × Nat) (z : Nat → Nat) (Y : Nat → Nat → Nat) (R : Rb) (kz : Nat → Nat), (MD S F t z Y R kz ∧ AbC R) ∧ cs + (3 + dC1 R p.toNatClampNeg y.toNatClampNeg) ≤ Rc ∧ sl + (18 + dC2 R p.toNatClampNeg y.toNatClampNeg) ≤ Rs ∧ (∀ (v : Int32) (S' : MM), ((∃ n i m G' T', n < 4 ∧ p = nI n ∧ dlOk R.Q n x y i m ∧ roP (R.Q.G n) n m ∧ Run n (owN (R.Q.G n) n) (List.replicate m (none, i)) (R.Q.G n) (R.Q.T n) G' T' ∧ v = nI (visN G' T') ∧ mdW S S' F t (R.sP n G' T' (R.Q.Kn n) (R.C n ++ [(false, (agE (R.Q.G n) n).length, m)])) kz 0) ∨ ((np 4 p ∨ ∃ n, n < 4 ∧ p = nI n ∧ ¬ ∃ i m, dlOk R.Q n x y i m) ∧ v = 0 ∧ mdW S S' F t R kz 1) ∨ ((∃ n i m, n < 4 ∧ p = nI n ∧ dlOk R.Q n x y i m ∧ ¬ roP (R.Q.G n) n m) ∧ v = 0 ∧ mdW S S' F t R kz 2)) → K (some (.inl v)) S' (cs + (3 + dC1 R p.toNatClampNeg y.toNatClampNeg)) (sl + (18 + dC2 R p.toNatClampNeg y.toNatClampNeg))))
  | _ => False
def sp_rde1 (t : Nat) (p : Int32) (x : Int32) (y : Int32) (F : Nat → Nat × Nat) (z : Nat → Nat) (Y : Nat → Nat → Nat) (R : Rb) (kz : Nat → Nat) : Sp := (fun av S => av = [.inr (.inr (some t)), .inl p, .inl x, .inl y] ∧ (MD S F t z Y R kz ∧ AbC R), fun _ S => 3 + dC1 R p.toNatClampNeg y.toNatClampNeg, fun _ S => 18 + dC2 R p.toNatClampNeg y.toNatClampNeg, fun _ S rv S' => ∃ v, rv = (some (.inl v)) ∧ ((∃ n i m G' T', n < 4 ∧ p = nI n ∧ dlOk R.Q n x y i m ∧ roP (R.Q.G n) n m ∧ Run n (owN (R.Q.G n) n) (List.replicate m (none, i)) (R.Q.G n) (R.Q.T n) G' T' ∧ v = nI (visN G' T') ∧ mdW S S' F t (R.sP n G' T' (R.Q.Kn n) (R.C n ++ [(false, (agE (R.Q.G n) n).length, m)])) kz 0) ∨ ((np 4 p ∨ ∃ n, n < 4 ∧ p = nI n ∧ ¬ ∃ i m, dlOk R.Q n x y i m) ∧ v = 0 ∧ mdW S S' F t R kz 1) ∨ ((∃ n i m, n < 4 ∧ p = nI n ∧ dlOk R.Q n x y i m ∧ ¬ roP (R.Q.G n) n m) ∧ v = 0 ∧ mdW S S' F t R kz 2)), fun _ _ _ _ => False)
def tX14_delete : CD := [(0, .aload_n 0), (1, .iconst 0), (2, .putfield 512), (5, .aload_n 0), (6, .iload_n 1), (7, .iload_n 2), (8, .iload_n 3), (9, .invokevirtual 525), (12, .ireturn), (13, .astore 4), (15, .aload_n 0), (16, .iconst 1), (17, .putfield 512), (20, .goto 10), (23, .astore 4), (25, .aload_n 0), (26, .iconst 2), (27, .putfield 512), (30, .iconst 0), (31, .ireturn)]
set_option maxRecDepth 100000 in
theorem kX14_delete : chk cX14_delete tX14_delete = true := by decide +kernel
theorem vX14_delete_525 : ∀ w ∈ ([.methodLink RX14 525 yX14_delete0, .instanceMethod yX14_delete0, .selects yX14_delete0.cls yX14_delete0 yX14_delete0, .initialized yX14_delete0.cls, .code yX14_delete0 cX14_delete0 8 (some .int)] : List Cond), w ∈ lw_good := List.forall_mem_cons.mpr ⟨mgd 2049 (by decide +kernel) (by decide +kernel), List.forall_mem_cons.mpr ⟨mgd 2051 (by decide +kernel) (by decide +kernel), List.forall_mem_cons.mpr ⟨mgd 64 (by decide +kernel) (by decide +kernel), List.forall_mem_cons.mpr ⟨mgd 136 (by decide +kernel) (by decide +kernel), List.forall_mem_cons.mpr ⟨mgd 2052 (by decide +kernel) (by decide +kernel), fun _ h => absurd h List.not_mem_nil⟩⟩⟩⟩⟩
set_option maxRecDepth 100000 in
set_option maxHeartbeats 2000000 in
theorem c_rde1 (l : Launch) (hlt : l.stackTraces = false) : ∀ (t : Nat) (p : Int32) (x : Int32) (y : Int32) (F : Nat → Nat × Nat) (z : Nat → Nat) (Y : Nat → Nat → Nat) (R : Rb) (kz : Nat → Nat), CtX l yX14_delete (Cond.codeWith yX14_delete cX14_delete 5 (some .int) [(5, 12, 13, 138), (5, 12, 23, 156)]) (some .int) 9 157 (sp_rde1 t p x y F z Y R kz) := by
  intro t p x y F z Y R kz
  refine CtX.ofH hlt (fX14, nX14, aX14, iX14, lX14, [(525, 0, 4, 1, T_rde0)], qX14, gX14, []) false tX14_delete [((5, 12, 13, 138), 1), ((5, 12, 23, 156), 0)] (fun _ _ _ => none) (by decide) (by decide) kX14_delete ⟨_, _, rfl⟩ fX14_ok nX14_ok aX14_ok iX14_ok lX14_ok (fun p e R s m args below meth c Q D cy z r A C hR1 hR2 => List.forall_mem_cons.mpr ⟨cOK_use (fun _ _ _ _ _ _ _ _ h => let ⟨sp, h1, h2, h3⟩ := u_rde0 l hlt _ _ _ _ _ _ _ _ h; ⟨sp, cOKx_V C h1 vX14_delete_525 ⟨by decide, by decide, by decide +kernel⟩ ⟨by rw [hR1]; decide, by rw [hR2]; decide⟩ (k := 15) (T := TX14) (N := 52) rfl (by decide) h2, h3⟩), fun _ h => absurd h List.not_mem_nil⟩) qX14_ok gX14_ok rfl (List.forall_mem_cons.mpr ⟨⟨by decide, mgd 1925 (by decide +kernel) (by decide +kernel)⟩, List.forall_mem_cons.mpr ⟨⟨by decide, mgd 1915 (by decide +kernel) (by decide +kernel)⟩, fun _ h => absurd h List.not_mem_nil⟩⟩) (fun _ _ _ _ z => z) ?_ ?_
  · rintro _ S ⟨rfl, hp⟩
    refine ⟨Nat.le_of_ble_eq_true rfl, 300, ?_⟩
    show (True ∧ (isO S 15 t ∧ (0 = 0 ∧ (∃ (F_1 : Nat → Nat × Nat) (z_2 : Nat → Nat) (Y_3 : Nat → Nat → Nat) (R_4 : Rb) (kz_5 : Nat → Nat), (MD (sI S 1551 t (0 : Int32)) F_1 t z_2 Y_3 R_4 kz_5 ∧ AbC R_4) ∧ 0 + (3 + dC1 R_4 p.toNatClampNeg y.toNatClampNeg) ≤ 3 + dC1 R p.toNatClampNeg y.toNatClampNeg ∧ 0 + (18 + dC2 R_4 p.toNatClampNeg y.toNatClampNeg) ≤ 18 + dC2 R p.toNatClampNeg y.toNatClampNeg ∧ ((∀ (x_7 : Int32) (S_6 : MM), (rdQ2 (sI S 1551 t (0 : Int32)) S_6 F_1 t R_4 kz_5 p x y x_7) → (([] : List MV) = [] ∧ mret (some .int) (sp_rde1 t p x y F z Y R kz) [.inr (.inr (some t)), .inl p, .inl x, .inl y] S (some (.inl x_7)) S_6 (0 + (3 + dC1 R_4 p.toNatClampNeg y.toNatClampNeg)) (0 + (18 + dC2 R_4 p.toNatClampNeg y.toNatClampNeg)))) ∧ ((np 4 p ∨ ∃ n, n < 4 ∧ p = nI n ∧ ¬ ∃ i m, dlOk R_4.Q n x y i m) → (∀ e_9, (True ∧ (isO (sI S 1551 t (0 : Int32)) 15 t ∧ (([] : List MV) = [] ∧ mret (some .int) (sp_rde1 t p x y F z Y R kz) [.inr (.inr (some t)), .inl p, .inl x, .inl y] S (some (.inl (0 : Int32))) (sI (sI S 1551 t (0 : Int32)) 1551 t (1 : Int32)) (0 + (3 + dC1 R_4 p.toNatClampNeg y.toNatClampNeg)) (0 + (18 + dC2 R_4 p.toNatClampNeg y.toNatClampNeg))))))) ∧ ((∃ n i m, n < 4 ∧ p = nI n ∧ dlOk R_4.Q n x y i m ∧ ¬ roP (R_4.Q.G n) n m) → (∀ e_11, (True ∧ (isO (sI S 1551 t (0 : Int32)) 15 t ∧ (([] : List MV) = [] ∧ mret (some .int) (sp_rde1 t p x y F z Y R kz) [.inr (.inr (some t)), .inl p, .inl x, .inl y] S (some (.inl (0 : Int32))) (sI (sI S 1551 t (0 : Int32)) 1551 t (2 : Int32)) (0 + (3 + dC1 R_4 p.toNatClampNeg y.toNatClampNeg)) (0 + (18 + dC2 R_4 p.toNatClampNeg y.toNatClampNeg))))))))))))
    obtain ⟨hp, hA⟩ := hp
    refine ⟨trivial, (hp 0).1, rfl, F, z, Y, R, kz, ⟨hp.th 0, hA⟩, by omega, by omega, fun v S3 h => ?_, fun h e => ⟨trivial, (hp 0).1, rfl, trivial, ⟨_, rfl, Or.inr (Or.inl ⟨h, rfl, (hp.ex0 1 rfl).w hp⟩)⟩, Nat.le_of_eq (Nat.zero_add _), Nat.le_of_eq (Nat.zero_add _)⟩, fun h e => ⟨trivial, (hp 0).1, rfl, trivial, ⟨_, rfl, Or.inr (Or.inr ⟨h, rfl, (hp.ex0 2 rfl).w hp⟩)⟩, Nat.le_of_eq (Nat.zero_add _), Nat.le_of_eq (Nat.zero_add _)⟩⟩
    obtain ⟨n, i, m, G', T', h1, h2, h3, h4, h5, h6, h7⟩ := h
    exact ⟨rfl, trivial, ⟨_, rfl, Or.inl ⟨n, i, m, G', T', h1, h2, h3, h4, h5, h6, h7.ok hp⟩⟩, Nat.le_of_eq (Nat.zero_add _), Nat.le_of_eq (Nat.zero_add _)⟩
  · exact fun _ _ _ _ _ h => by cases h
theorem u_rde1 (l : Launch) (hlt : l.stackTraces = false) : UsX l yX14_delete (Cond.codeWith yX14_delete cX14_delete 5 (some .int) [(5, 12, 13, 138), (5, 12, 23, 156)]) (some .int) 9 157 15 T_rde1 := by
  intro Rc Rs av S cs sl K Kx h
  unfold T_rde1 at h
  split at h
  · rename_i t_o p x y
    obtain ⟨t, rfl, h_1⟩ := pa_of h
    obtain ⟨F, z, Y, R, kz, hp, hc, hs, hk⟩ := h_1
    refine ⟨(sp_rde1 t p x y F z Y R kz), c_rde1 l hlt t p x y F z Y R kz, fun _ _ h9 => ⟨_, _, h9.1, (h9.2.1 0).1⟩, ⟨rfl, hp⟩, hc, hs, fun v9 S' h8 => by
      obtain ⟨v8, h7, h8⟩ := h8
      cases h7
      exact hk _ _ h8, fun _ _ q => q.elim⟩
  · exact h.elim
def I_al1 (t : Nat) (s x w : Int32) (S : MM) (k : Nat) : KT := fun lo st S1 cs sl => ∃ i b, k = 3 ∧ i < 8 ∧ s = nI i ∧ b < 256 ∧ w = nI b ∧ lo = [(0, .inr (.inr (some t))), (1, .inl (nI i)), (2, .inl x), (3, .inl (nI b))] ∧ st = [] ∧ S = S1 ∧ cs = 1 ∧ sl = 6
def I_al2 (t : Nat) (s x w : Int32) (R : Rb) (S : MM) (k : Nat) : KT := fun lo st S1 cs sl => ∃ i b, k = 2 ∧ i < 8 ∧ s = nI i ∧ b < 256 ∧ w = nI b ∧ R.Q.sl i ≠ [] ∧ lo = [(0, .inr (.inr (some t))), (1, .inl (nI i)), (2, .inl x), (3, .inl (nI b))] ∧ st = [] ∧ S = S1 ∧ cs = 2 ∧ sl = 12
def I_al3 (t : Nat) (s x w : Int32) (R : Rb) (S : MM) (k : Nat) : KT := fun lo st S1 cs sl => ∃ i b j, k = 1 ∧ i < 8 ∧ s = nI i ∧ b < 256 ∧ w = nI b ∧ R.Q.sl i ≠ [] ∧ j < (R.Q.sl i).length ∧ x = nI j ∧ lo = [(0, .inr (.inr (some t))), (1, .inl (nI i)), (2, .inl (nI j)), (3, .inl (nI b))] ∧ st = [] ∧ S = S1 ∧ cs = 3 ∧ sl = 18
def alD (R : Rb) (i j b : Nat) : Rb := R.sQ ((R.Q.sSl (upF R.Q.sl i ((R.Q.sl i).set j b))).sFo (if R.Q.fo = 1 ∨ (R.Q.sl i).getD j 0 ≠ b then 1 else 0))
/-- an octet of a slot, and whether anything was altered -/
theorem MD.alt {S S' : MM} {F : Nat → Nat × Nat} {t : Nat} {z : Nat → Nat} {Y : Nat → Nat → Nat} {R : Rb} {kz : Nat → Nat} {i j b fo' : Nat} {v : Int32} (h : MD S F t z Y R kz) (hi : i < 8) (hj : j < (R.Q.sl i).length) (hb : b < 256) (hv : v &&& 255 = nI b) (hvf : fits .byte (.int v) = true) (hfo : fo' < 2) (hk : Keep (fun c => c = t ∨ c = z (60 + i)) S S') (he : eI S' (z (60 + i)) = upd (eI S (z (60 + i))) j v) (hI : ∀ f, f ≠ 1514 → mI S' f t = mI S f t) (h14 : mI S' 1514 t = nI fo') (hR : ∀ f, mR S' f t = mR S f t) (hE : ∀ k, k ∈ mdL → eI S' (z k) = eI S (z k) ∧ eR S' (z k) = eR S (z k)) : MD S' F t z Y (R.sQ ((R.Q.sSl (upF R.Q.sl i ((R.Q.sl i).set j b))).sFo fo')) kz := by
  have hB : R.Q.sl i ≠ [] := fun e => by rw [e] at hj; exact absurd hj (Nat.not_lt_zero _)
  obtain ⟨-, s2, s3, s4, s5, s6, s7, s8⟩ := (h 4 i hi).resolve_left (fun q => hB q.1)
  have no : ∀ {x o v}, F x = (o, v) → (o ≠ 100 ∨ v ≠ 1) → (o ≠ 120 + i ∨ v ≠ 1) → ¬ (x = t ∨ x = z (60 + i)) := fun {x o v} e h1 h2 q => by
    rcases q with q | q
    · rw [q, (h 0).2] at e
      injection e with e1 e2
      omega
    · rw [q, s5] at e
      injection e with e1 e2
      omega
  intro q
  match q with
  | 0 => exact ⟨hk.isO (h 0).1, (h 0).2⟩
  | 1 =>
    intro k hk9
    obtain ⟨a1, a2, a3, a4⟩ := h 1 k hk9
    exact ⟨(hR _).trans a1, a2, hk.isO a3, (hk.1 _ a3.1).2.2.trans a4⟩
  | 2 =>
    intro p hp
    obtain ⟨a1, a2⟩ := h 2 p hp
    rw [(hE 0 (by decide)).2]
    exact ⟨a1, a2.keep hk (fun b hb w => by
      rcases w with w | w
      · rw [w, (h 0).2] at hb
        have hb : 100 = 101 + p := hb
        omega
      · rw [w, s5] at hb
        have hb : 120 + i = 101 + p := hb
        omega) (fun _ _ => rfl)⟩
  | 3 =>
    obtain ⟨a1, a2, a3⟩ := h 3
    refine ⟨(hI 1502 (by decide)).trans a1, a2, ?_⟩
    unfold byR
    rw [(hE 1 (by decide)).1]; exact a3
  | 4 =>
    intro k hk9
    show mdS S' F z k (upF R.Q.sl i ((R.Q.sl i).set j b) k)
    by_cases c : k = i
    · subst c
      rw [upF_s]
      refine Or.inr ⟨fun e => ?_, by rw [(hE 3 (by decide)).2]; exact s2, hk.isO s3, (hk.1 _ s3.1).2.2.trans s4, s5, by rw [(hE 4 (by decide)).1, List.length_set]; exact s6, by rw [List.length_set]; exact s7, fun q => ?_, fun x hx => ?_, fun q hq => ?_⟩
      · have := congrArg List.length e
        rw [List.length_set] at this
        have : (R.Q.sl k).length = 0 := this
        omega
      · rw [he, upd]
        by_cases c : q = j
        · rw [if_pos c]; exact hvf
        · rw [if_neg c]; exact s8.1 q
      · rcases List.mem_or_eq_of_mem_set hx with w | w
        · exact s8.2.1 x w
        · rw [w]; exact hb
      · rw [List.length_set] at hq
        rw [he, upd, List.getD_eq_getElem?_getD, List.getElem?_set]
        by_cases c : q = j
        · subst c
          rw [if_pos rfl, if_pos rfl, if_pos hq]; exact hv
        · rw [if_neg c, if_neg (fun w => c w.symm), ← List.getD_eq_getElem?_getD]
          exact s8.2.2 q hq
    · rw [upF_o c]
      rcases h 4 k hk9 with ⟨a1, a2⟩ | ⟨a1, a2, a3, a4, a5, a6, a7, a8⟩
      · exact Or.inl ⟨a1, by rw [(hE 3 (by decide)).2]; exact a2⟩
      · refine Or.inr ⟨a1, by rw [(hE 3 (by decide)).2]; exact a2, hk.isO a3, (hk.1 _ a3.1).2.2.trans a4, a5, by rw [(hE 4 (by decide)).1]; exact a6, a7, ?_⟩
        unfold byR
        rw [(hk.2.1 _ a3.1 (no a5 (Or.inl (by omega)) (Or.inl (by omega)))).2.2.2.1]
        exact a8
  | 5 =>
    intro b hb
    rw [(hE 5 (by decide)).1, (hE 6 (by decide)).1]; exact h 5 b hb
  | 6 =>
    obtain ⟨a1, a2, a3⟩ := h 6
    rw [MDf, (hE 7 (by decide)).1]
    exact ⟨(hI 1508 (by decide)).trans a1, a2, a3⟩
  | 7 =>
    obtain ⟨a1, a2⟩ := h 7
    rw [MDf, (hE 9 (by decide)).1]
    exact ⟨(hI 1510 (by decide)).trans a1, a2⟩
  | 8 =>
    intro a ha
    rw [(hE 11 (by decide)).1, (hE 12 (by decide)).1]; exact h 8 a ha
  | 9 =>
    obtain ⟨a1, a2, a3, a4⟩ := h 9
    exact ⟨(hI 1513 (by decide)).trans a1, a2, h14, hfo⟩
  | 10 =>
    intro k hk9
    obtain ⟨a1, a2, a3, B, a4⟩ := h 10 k hk9
    exact ⟨(hR _).trans a1, a2, a3, B, a4.kp hk (no a2 (Or.inl (by decide)) (Or.inl (by omega))) (no a3 (Or.inl (by decide)) (Or.inl (by omega)))⟩
  | 11 => exact h 11
  | 12 => exact fun b hb => (hk.1 b (h 12 b hb)).1
  | n + 13 => trivial
def T_ral0 : TR := fun Rc Rs av S cs sl K Kx => match av with
  | [.inr (.inr t_o), .inl s, .inl x, .inl w] => pa t_o fun t => (∃ (F : Nat → Nat × Nat) (z : Nat → Nat) (Y : Nat → Nat → Nat) (R : Rb) (kz : Nat → Nat), (MD S F t z Y R kz) ∧ cs + 3 ≤ Rc ∧ sl + 18 ≤ Rs ∧ ((∀ (v : Int32) (S' : MM), (∃ i j b, i < 8 ∧ s = nI i ∧ j < (R.Q.sl i).length ∧ x = nI j ∧ b < 256 ∧ w = nI b ∧ v = nI ((R.Q.sl i).getD j 0) ∧ mdQ S S' F t (alD R i j b) kz) → K (some (.inl v)) S' (cs + 3) (sl + 18)) ∧ ((np 8 s ∨ np 256 w ∨ (∃ i, i < 8 ∧ s = nI i ∧ R.Q.sl i ≠ [] ∧ np (R.Q.sl i).length x)) → Kx 1 S (cs + 3) (sl + 18)) ∧ ((¬ np 256 w ∧ ∃ i, i < 8 ∧ s = nI i ∧ R.Q.sl i = []) → Kx 2 S (cs + 3) (sl + 18))))
  | _ => False
def sp_ral0 (t : Nat) (s : Int32) (x : Int32) (w : Int32) (F : Nat → Nat × Nat) (z : Nat → Nat) (Y : Nat → Nat → Nat) (R : Rb) (kz : Nat → Nat) : Sp := (fun av S => av = [.inr (.inr (some t)), .inl s, .inl x, .inl w] ∧ (MD S F t z Y R kz), fun _ S => 3, fun _ S => 18, fun _ S rv S' => ∃ v, rv = (some (.inl v)) ∧ (∃ i j b, i < 8 ∧ s = nI i ∧ j < (R.Q.sl i).length ∧ x = nI j ∧ b < 256 ∧ w = nI b ∧ v = nI ((R.Q.sl i).getD j 0) ∧ mdQ S S' F t (alD R i j b) kz), fun _ S E S' => (E = 1 ∧ (np 8 s ∨ np 256 w ∨ (∃ i, i < 8 ∧ s = nI i ∧ R.Q.sl i ≠ [] ∧ np (R.Q.sl i).length x)) ∧ S' = S) ∨ (E = 2 ∧ (¬ np 256 w ∧ ∃ i, i < 8 ∧ s = nI i ∧ R.Q.sl i = []) ∧ S' = S))
def tX14_alter0 : CD := [(0, .iload_n 1), (1, .iconst 0), (2, .bipush 7), (4, .invokestatic 144), (7, .ifCond .eq 18), (10, .iload_n 3), (11, .iconst 0), (12, .sipush 255), (15, .invokestatic 144), (18, .ifCond .eq 7), (21, .iconst 1), (22, .goto 4), (25, .iconst 0), (26, .invokestatic 148), (29, .aload_n 0), (30, .getfield 21), (33, .iload_n 1), (34, .aaload), (35, .ifnull 7), (38, .iconst 1), (39, .goto 4), (42, .iconst 0), (43, .invokestatic 236), (46, .iload_n 2), (47, .iconst 0), (48, .aload_n 0), (49, .getfield 25), (52, .iload_n 1), (53, .iaload), (54, .iconst 1), (55, .isub), (56, .invokestatic 144), (59, .invokestatic 148), (62, .aload_n 0), (63, .getfield 21), (66, .iload_n 1), (67, .aaload), (68, .iload_n 2), (69, .baload), (70, .sipush 255), (73, .iand), (74, .istore 4), (76, .aload_n 0), (77, .getfield 21), (80, .iload_n 1), (81, .aaload), (82, .iload_n 2), (83, .iload_n 3), (84, .i2b), (85, .bastore), (86, .iload 4), (88, .iload_n 3), (89, .if_icmp .eq 8), (92, .aload_n 0), (93, .iconst 1), (94, .putfield 504), (97, .iload 4), (99, .ireturn)]
set_option maxRecDepth 100000 in
theorem kX14_alter0 : chk cX14_alter0 tX14_alter0 = true := by decide +kernel
theorem vX14_alter0_144 : ∀ w ∈ ([.methodLink RX14 144 yX14_in, .static yX14_in, .initialized yX14_in.cls, .code yX14_in cX14_in 3 (some .boolean)] : List Cond), w ∈ lw_good := List.forall_mem_cons.mpr ⟨mgd 1930 (by decide +kernel) (by decide +kernel), List.forall_mem_cons.mpr ⟨mgd 1931 (by decide +kernel) (by decide +kernel), List.forall_mem_cons.mpr ⟨mgd 136 (by decide +kernel) (by decide +kernel), List.forall_mem_cons.mpr ⟨mgd 1932 (by decide +kernel) (by decide +kernel), fun _ h => absurd h List.not_mem_nil⟩⟩⟩⟩
theorem vX14_alter0_148 : ∀ w ∈ ([.methodLink RX14 148 yX14_check, .static yX14_check, .initialized yX14_check.cls, .code yX14_check cX14_check 1 none] : List Cond), w ∈ lw_good := List.forall_mem_cons.mpr ⟨mgd 1933 (by decide +kernel) (by decide +kernel), List.forall_mem_cons.mpr ⟨mgd 1934 (by decide +kernel) (by decide +kernel), List.forall_mem_cons.mpr ⟨mgd 136 (by decide +kernel) (by decide +kernel), List.forall_mem_cons.mpr ⟨mgd 1935 (by decide +kernel) (by decide +kernel), fun _ h => absurd h List.not_mem_nil⟩⟩⟩⟩
theorem vX14_alter0_236 : ∀ w ∈ ([.methodLink RX14 236 yX14_there, .static yX14_there, .initialized yX14_there.cls, .code yX14_there cX14_there 1 none] : List Cond), w ∈ lw_good := List.forall_mem_cons.mpr ⟨mgd 2066 (by decide +kernel) (by decide +kernel), List.forall_mem_cons.mpr ⟨mgd 2067 (by decide +kernel) (by decide +kernel), List.forall_mem_cons.mpr ⟨mgd 136 (by decide +kernel) (by decide +kernel), List.forall_mem_cons.mpr ⟨mgd 2068 (by decide +kernel) (by decide +kernel), fun _ h => absurd h List.not_mem_nil⟩⟩⟩⟩
set_option maxRecDepth 100000 in
set_option maxHeartbeats 2000000 in
theorem c_ral0 (l : Launch) (hlt : l.stackTraces = false) : ∀ (t : Nat) (s : Int32) (x : Int32) (w : Int32) (F : Nat → Nat × Nat) (z : Nat → Nat) (Y : Nat → Nat → Nat) (R : Rb) (kz : Nat → Nat), CtX l yX14_alter0 (Cond.code yX14_alter0 cX14_alter0 5 (some .int)) (some .int) 7 109 (sp_ral0 t s x w F z Y R kz) := by
  intro t s x w F z Y R kz
  refine CtX.of hlt (fX14, nX14, aX14, iX14, lX14, [(144, 2, 3, 1, T_rin), (148, 2, 1, 0, T_rck), (236, 2, 1, 0, T_rth)], qX14, gX14, []) false tX14_alter0 (fun _ S => look [(29, ([0,1,2,3], I_al1 t s x w S)), (46, ([0,1,2,3], I_al2 t s x w R S)), (62, ([0,1,2,3], I_al3 t s x w R S))]) (by decide) (by decide) kX14_alter0 ⟨_, _, rfl⟩ fX14_ok nX14_ok aX14_ok iX14_ok lX14_ok (fun p e R s m args below meth c Q D cy z r A C hR1 hR2 => List.forall_mem_cons.mpr ⟨cOK_use (fun _ _ _ _ _ _ _ _ h => let ⟨sp, h1, _, h3⟩ := u_rin l _ _ _ _ _ _ _ _ h; ⟨sp, cOK_S C h1 vX14_alter0_144 ⟨by decide, by decide, by decide +kernel⟩ ⟨by rw [hR1]; decide, by rw [hR2]; decide⟩, h3⟩), List.forall_mem_cons.mpr ⟨cOK_use (fun _ _ _ _ _ _ _ _ h => let ⟨sp, h1, _, h3⟩ := u_rck l hlt _ _ _ _ _ _ _ _ h; ⟨sp, cOKx_S C h1 vX14_alter0_148 ⟨by decide, by decide, by decide +kernel⟩ ⟨by rw [hR1]; decide, by rw [hR2]; decide⟩, h3⟩), List.forall_mem_cons.mpr ⟨cOK_use (fun _ _ _ _ _ _ _ _ h => let ⟨sp, h1, _, h3⟩ := u_rth l hlt _ _ _ _ _ _ _ _ h; ⟨sp, cOKx_S C h1 vX14_alter0_236 ⟨by decide, by decide, by decide +kernel⟩ ⟨by rw [hR1]; decide, by rw [hR2]; decide⟩, h3⟩), fun _ h => absurd h List.not_mem_nil⟩⟩⟩) qX14_ok gX14_ok (fun _ h => absurd h List.not_mem_nil) ?_ ?_
  · rintro _ S ⟨rfl, hp⟩
    refine ⟨Nat.le_of_ble_eq_true rfl, 300, ?_⟩
    show (2 = 2 ∧ (True ∧ 0 ≤ 3 ∧ 0 ≤ 18 ∧ ((((tf ((0 : Int32) ≤ s ∧ s ≤ (7 : Int32))) = 0 → (2 = 2 ∧ (((0 : Int32) = 0 ∨ (0 : Int32) = 1) ∧ 0 + 1 ≤ 3 ∧ 0 + 6 ≤ 18 ∧ ((∀ (S_2 : MM), (S_2 = S ∧ (0 : Int32) = 1) → (∃ k1, I_al1 t s x w S k1 [(0, .inr (.inr (some t))), (1, .inl s), (2, .inl x), (3, .inl w)] [] S_2 (0 + 1) (0 + 6))) ∧ (((0 : Int32) = 0) → mthr (sp_ral0 t s x w F z Y R kz) [.inr (.inr (some t)), .inl s, .inl x, .inl w] S 1 S (0 + 1) (0 + 6)))))) ∧ (¬ (tf ((0 : Int32) ≤ s ∧ s ≤ (7 : Int32))) = 0 → (2 = 2 ∧ (True ∧ 0 ≤ 3 ∧ 0 ≤ 18 ∧ ((((tf ((0 : Int32) ≤ w ∧ w ≤ (255 : Int32))) = 0 → (2 = 2 ∧ (((0 : Int32) = 0 ∨ (0 : Int32) = 1) ∧ 0 + 1 ≤ 3 ∧ 0 + 6 ≤ 18 ∧ ((∀ (S_5 : MM), (S_5 = S ∧ (0 : Int32) = 1) → (∃ k1, I_al1 t s x w S k1 [(0, .inr (.inr (some t))), (1, .inl s), (2, .inl x), (3, .inl w)] [] S_5 (0 + 1) (0 + 6))) ∧ (((0 : Int32) = 0) → mthr (sp_ral0 t s x w F z Y R kz) [.inr (.inr (some t)), .inl s, .inl x, .inl w] S 1 S (0 + 1) (0 + 6)))))) ∧ (¬ (tf ((0 : Int32) ≤ w ∧ w ≤ (255 : Int32))) = 0 → (2 = 2 ∧ (((1 : Int32) = 0 ∨ (1 : Int32) = 1) ∧ 0 + 1 ≤ 3 ∧ 0 + 6 ≤ 18 ∧ ((∀ (S_7 : MM), (S_7 = S ∧ (1 : Int32) = 1) → (∃ k1, I_al1 t s x w S k1 [(0, .inr (.inr (some t))), (1, .inl s), (2, .inl x), (3, .inl w)] [] S_7 (0 + 1) (0 + 6))) ∧ (((1 : Int32) = 0) → mthr (sp_ral0 t s x w F z Y R kz) [.inr (.inr (some t)), .inl s, .inl x, .inl w] S 1 S (0 + 1) (0 + 6)))))))))))))))
    refine ⟨rfl, trivial, by decide, by decide, fun hs => ⟨rfl, Or.inl rfl, by decide, by decide, fun S9 h => absurd h.2 (by decide), fun _ => ⟨Or.inl ⟨rfl, Or.inl (in_0k (k := 7) (by decide) hs), rfl⟩, Nat.le_of_ble_eq_true rfl, Nat.le_of_ble_eq_true rfl⟩⟩, fun hs => ?_⟩
    obtain ⟨i, hi, rfl⟩ := in_1k (k := 7) (by decide) ((tf_b _).resolve_left hs)
    refine ⟨rfl, trivial, by decide, by decide, fun hw => ⟨rfl, Or.inl rfl, by decide, by decide, fun S9 h => absurd h.2 (by decide), fun _ => ⟨Or.inl ⟨rfl, Or.inr (Or.inl (in_0k (k := 255) (by decide) hw)), rfl⟩, Nat.le_of_ble_eq_true rfl, Nat.le_of_ble_eq_true rfl⟩⟩, fun hw => ⟨rfl, Or.inr rfl, by decide, by decide, fun S9 h => ?_, fun h => absurd h (by decide)⟩⟩
    obtain ⟨rfl, -⟩ := h
    obtain ⟨b, hb, rfl⟩ := in_1k (k := 255) (by decide) ((tf_b _).resolve_left hw)
    exact ⟨3, i, b, rfl, hi, rfl, hb, rfl, rfl, rfl, rfl, rfl, rfl⟩
  · intro av S hpre pc I hI k lo st S1 cs sl h
    obtain ⟨rfl, hp⟩ := hpre
    have hm := look_in hI
    simp only [List.mem_cons, List.not_mem_nil, or_false] at hm
    rcases hm with hm | hm | hm
    · cases hm
      obtain ⟨i, b, rfl, hi, hs, hb, hw, rfl, rfl, rfl, rfl, rfl⟩ := h
      refine ⟨300, ?_⟩
      show (isO S 15 t ∧ (pa (mR S 1503 t) fun a_1 => a_1 ∈ mL S ∧ ¬ mK S a_1 < 21 ∧ mK S a_1 < 29 ∧ inR S a_1 (nI i) ∧ (((eR S a_1 (nI i).toNatClampNeg) = none → (2 = 2 ∧ (((0 : Int32) = 0 ∨ (0 : Int32) = 1) ∧ 1 + 1 ≤ 3 ∧ 6 + 6 ≤ 18 ∧ ((∀ (S_3 : MM), (S_3 = S ∧ (0 : Int32) = 1) → (∃ k1, k1 < 3 ∧ I_al2 t s x w R S k1 [(0, .inr (.inr (some t))), (1, .inl (nI i)), (2, .inl x), (3, .inl (nI b))] [] S_3 (1 + 1) (6 + 6))) ∧ (((0 : Int32) = 0) → mthr (sp_ral0 t s x w F z Y R kz) [.inr (.inr (some t)), .inl s, .inl x, .inl w] S 2 S (1 + 1) (6 + 6)))))) ∧ (∀ w_2, (eR S a_1 (nI i).toNatClampNeg) = some w_2 → (2 = 2 ∧ (((1 : Int32) = 0 ∨ (1 : Int32) = 1) ∧ 1 + 1 ≤ 3 ∧ 6 + 6 ≤ 18 ∧ ((∀ (S_5 : MM), (S_5 = S ∧ (1 : Int32) = 1) → (∃ k1, k1 < 3 ∧ I_al2 t s x w R S k1 [(0, .inr (.inr (some t))), (1, .inl (nI i)), (2, .inl x), (3, .inl (nI b))] [] S_5 (1 + 1) (6 + 6))) ∧ (((1 : Int32) = 0) → mthr (sp_ral0 t s x w F z Y R kz) [.inr (.inr (some t)), .inl s, .inl x, .inl w] S 2 S (1 + 1) (6 + 6)))))))))
      have r3 := hp 1 3 (by decide)
      have ci : (nI i).toNatClampNeg = i := nI_clamp (by omega)
      refine ⟨(hp 0).1, pa_i r3.1 ⟨r3.2.2.1.1, by rw [r3.2.2.1.2]; decide, by rw [r3.2.2.1.2]; decide, inRn (N := 8) r3.2.2.2 hi (by decide), ?_⟩⟩
      rw [ci]
      rcases hp 4 i hi with ⟨a1, a2⟩ | ⟨a1, a2, -⟩
      · exact ⟨fun _ => ⟨rfl, Or.inl rfl, by decide, by decide, fun S9 h => absurd h.2 (by decide), fun _ => ⟨Or.inr ⟨rfl, ⟨fun q => q b hb hw, i, hi, hs, a1⟩, rfl⟩, Nat.le_of_ble_eq_true rfl, Nat.le_of_ble_eq_true rfl⟩⟩, fun w hw => by rw [a2] at hw; cases hw⟩
      · refine ⟨fun hw => (by rw [a2] at hw; cases hw), fun w9 hw9 => ⟨rfl, Or.inr rfl, by decide, by decide, fun S9 h => ?_, fun h => absurd h (by decide)⟩⟩
        obtain ⟨rfl, -⟩ := h
        exact ⟨2, by decide, i, b, rfl, hi, hs, hb, hw, a1, rfl, rfl, rfl, rfl, rfl⟩
    · cases hm
      obtain ⟨i, b, rfl, hi, hs, hb, hw, hB, rfl, rfl, rfl, rfl, rfl⟩ := h
      refine ⟨300, ?_⟩
      show (isO S 15 t ∧ (pa (mR S 1504 t) fun a_1 => ∃ v_2 : Int32, (isO S 17 a_1 ∧ inR S a_1 (nI i) ∧ v_2 = eI S a_1 (nI i).toNatClampNeg ∨ a_1 = (mQ S).1 ∧ vp_in (nI i) 16 ∧ v_2 = mRem (nI i).toNatClampNeg) ∧ (2 = 2 ∧ (True ∧ 2 ≤ 3 ∧ 12 ≤ 18 ∧ ((2 = 2 ∧ (((tf ((0 : Int32) ≤ x ∧ x ≤ (v_2 - (1 : Int32)))) = 0 ∨ (tf ((0 : Int32) ≤ x ∧ x ≤ (v_2 - (1 : Int32)))) = 1) ∧ 2 + 1 ≤ 3 ∧ 12 + 6 ≤ 18 ∧ ((∀ (S_4 : MM), (S_4 = S ∧ (tf ((0 : Int32) ≤ x ∧ x ≤ (v_2 - (1 : Int32)))) = 1) → (∃ k1, k1 < 2 ∧ I_al3 t s x w R S k1 [(0, .inr (.inr (some t))), (1, .inl (nI i)), (2, .inl x), (3, .inl (nI b))] [] S_4 (2 + 1) (12 + 6))) ∧ (((tf ((0 : Int32) ≤ x ∧ x ≤ (v_2 - (1 : Int32)))) = 0) → mthr (sp_ral0 t s x w F z Y R kz) [.inr (.inr (some t)), .inl s, .inl x, .inl w] S 1 S (2 + 1) (12 + 6))))))))))
      have r4 := hp 1 4 (by decide)
      have ci : (nI i).toNatClampNeg = i := nI_clamp (by omega)
      obtain ⟨-, a2, a3, a4, a5, a6, a7, a8⟩ := (hp 4 i hi).resolve_left (fun z => hB z.1)
      refine ⟨(hp 0).1, rdI (v := nI (R.Q.sl i).length) r4.1 r4.2.2.1 (inRn (N := 8) r4.2.2.2 hi (by decide)) (by rw [ci]; exact a6) ⟨rfl, trivial, by decide, by decide, rfl, tf_b _, by decide, by decide, fun S9 h => ?_, fun h => ⟨Or.inl ⟨rfl, Or.inr (Or.inr ⟨i, hi, hs, hB, in_0m (by omega) h⟩), rfl⟩, Nat.le_of_ble_eq_true rfl, Nat.le_of_ble_eq_true rfl⟩⟩⟩
      obtain ⟨rfl, h⟩ := h
      obtain ⟨j, hj, hxj⟩ := in_1m (by omega) h
      exact ⟨1, by decide, i, b, j, rfl, hi, hs, hb, hw, hB, hj, hxj, by rw [hxj], rfl, rfl, rfl, rfl⟩
    · cases hm
      obtain ⟨i, b, j, rfl, hi, hs, hb, hw, hB, hj, hx, rfl, rfl, rfl, rfl, rfl⟩ := h
      refine ⟨300, ?_⟩
      show (isO S 15 t ∧ (pa (mR S 1503 t) fun a_1 => a_1 ∈ mL S ∧ ¬ mK S a_1 < 21 ∧ mK S a_1 < 29 ∧ inR S a_1 (nI i) ∧ (pa (eR S a_1 (nI i).toNatClampNeg) fun a_2 => (isO S 16 a_2 ∨ isO S 20 a_2) ∧ inR S a_2 (nI j) ∧ (isO S 15 t ∧ (pa (mR S 1503 t) fun a_3 => a_3 ∈ mL S ∧ ¬ mK S a_3 < 21 ∧ mK S a_3 < 29 ∧ inR S a_3 (nI i) ∧ (pa (eR S a_3 (nI i).toNatClampNeg) fun a_4 => ((isO S 16 a_4 ∧ inR S a_4 (nI j) ∧ ((((eI S a_2 (nI j).toNatClampNeg) &&& (255 : Int32)) = (nI b) → (([] : List MV) = [] ∧ mret (some .int) (sp_ral0 t s x w F z Y R kz) [.inr (.inr (some t)), .inl s, .inl x, .inl w] S (some (.inl ((eI S a_2 (nI j).toNatClampNeg) &&& (255 : Int32)))) (rI S a_4 (upd (eI S a_4) (nI j).toNatClampNeg (((nI b).toInt8.toInt32).toInt8.toInt32))) 3 18)) ∧ (¬ ((eI S a_2 (nI j).toNatClampNeg) &&& (255 : Int32)) = (nI b) → (True ∧ (isO (rI S a_4 (upd (eI S a_4) (nI j).toNatClampNeg (((nI b).toInt8.toInt32).toInt8.toInt32))) 15 t ∧ ((1 : Int32) = 0 ∨ (1 : Int32) = 1) ∧ (([] : List MV) = [] ∧ mret (some .int) (sp_ral0 t s x w F z Y R kz) [.inr (.inr (some t)), .inl s, .inl x, .inl w] S (some (.inl ((eI S a_2 (nI j).toNatClampNeg) &&& (255 : Int32)))) (sI (rI S a_4 (upd (eI S a_4) (nI j).toNatClampNeg (((nI b).toInt8.toInt32).toInt8.toInt32))) 1514 t (1 : Int32)) 3 18)))))) ∨ (isO S 20 a_4 ∧ inR S a_4 (nI j) ∧ ((((eI S a_2 (nI j).toNatClampNeg) &&& (255 : Int32)) = (nI b) → (([] : List MV) = [] ∧ mret (some .int) (sp_ral0 t s x w F z Y R kz) [.inr (.inr (some t)), .inl s, .inl x, .inl w] S (some (.inl ((eI S a_2 (nI j).toNatClampNeg) &&& (255 : Int32)))) (rI S a_4 (upd (eI S a_4) (nI j).toNatClampNeg (vp_nar .boolean ((nI b).toInt8.toInt32)))) 3 18)) ∧ (¬ ((eI S a_2 (nI j).toNatClampNeg) &&& (255 : Int32)) = (nI b) → (True ∧ (isO (rI S a_4 (upd (eI S a_4) (nI j).toNatClampNeg (vp_nar .boolean ((nI b).toInt8.toInt32)))) 15 t ∧ ((1 : Int32) = 0 ∨ (1 : Int32) = 1) ∧ (([] : List MV) = [] ∧ mret (some .int) (sp_ral0 t s x w F z Y R kz) [.inr (.inr (some t)), .inl s, .inl x, .inl w] S (some (.inl ((eI S a_2 (nI j).toNatClampNeg) &&& (255 : Int32)))) (sI (rI S a_4 (upd (eI S a_4) (nI j).toNatClampNeg (vp_nar .boolean ((nI b).toInt8.toInt32)))) 1514 t (1 : Int32)) 3 18)))))))))))))
      have r3 := hp 1 3 (by decide)
      have ci : (nI i).toNatClampNeg = i := nI_clamp (by omega)
      obtain ⟨-, a2, a3, a4, a5, a6, a7, a8⟩ := (hp 4 i hi).resolve_left (fun z => hB z.1)
      have cj : (nI j).toNatClampNeg = j := nI_clamp (by omega)
      have ea : eR S (z 3) (nI i).toNatClampNeg = some (z (60 + i)) := by rw [ci]; exact a2
      have ev : eI S (z (60 + i)) (nI j).toNatClampNeg &&& 255 = nI ((R.Q.sl i).getD j 0) := by rw [cj]; exact a8.2.2 j hj
      have hbj : (R.Q.sl i).getD j 0 < 256 := by
        refine a8.2.1 _ ?_
        rw [List.getD_eq_getElem?_getD, List.getElem?_eq_getElem hj]
        exact List.getElem_mem hj
      have hvb : (nI b).toInt8.toInt32.toInt8.toInt32 &&& 255 = nI b := by rw [b8_st, b8_nI hb]
      obtain ⟨w1, w2, w3, w4⟩ := hp 9
      have kp : ∀ {S2 : MM}, Keep (fun c => c = t ∨ c = z (60 + i)) S S2 → Keep (fun c => 100 ≤ (F c).1) S S2 := fun h9 => h9.mono (fun b _ e => by
        rcases e with e | e
        · rw [e]; exact hp.own
        · rw [e, a5]; show 100 ≤ 120 + i; omega)
      have k1 : Keep (fun c => c = t ∨ c = z (60 + i)) S (rI S (z (60 + i)) (upd (eI S (z (60 + i))) (nI j).toNatClampNeg (nI b).toInt8.toInt32.toInt8.toInt32)) := Keep.rI (P := fun c => c = t ∨ c = z (60 + i)) Keep.rf (Or.inr rfl)
      have k2 : Keep (fun c => c = t ∨ c = z (60 + i)) S (sI (rI S (z (60 + i)) (upd (eI S (z (60 + i))) (nI j).toNatClampNeg (nI b).toInt8.toInt32.toInt8.toInt32)) 1514 t 1) := Keep.sI (P := fun c => c = t ∨ c = z (60 + i)) k1 (Or.inl rfl)
      have hE : ∀ k, k ∈ mdL → eI (rI S (z (60 + i)) (upd (eI S (z (60 + i))) (nI j).toNatClampNeg (nI b).toInt8.toInt32.toInt8.toInt32)) (z k) = eI S (z k) := fun k hk => by
        rw [eI_rI, if_neg]
        intro e
        have h9 := (hp 1 k hk).2.1
        rw [e, a5] at h9
        injection h9 with h9 _
        omega
      have ff : fits .byte (.int (nI b).toInt8.toInt32.toInt8.toInt32) = true := pk_fb _
      refine ⟨(hp 0).1, pa_i r3.1 ⟨r3.2.2.1.1, by rw [r3.2.2.1.2]; decide, by rw [r3.2.2.1.2]; decide, inRn (N := 8) r3.2.2.2 hi (by decide), pa_i ea ⟨Or.inl a3, inRn a4 (by omega) (by decide), (hp 0).1, pa_i r3.1 ⟨r3.2.2.1.1, by rw [r3.2.2.1.2]; decide, by rw [r3.2.2.1.2]; decide, inRn (N := 8) r3.2.2.2 hi (by decide), pa_i ea (Or.inl ⟨a3, inRn a4 (by omega) (by decide), fun q => ?_, fun q => ?_⟩)⟩⟩⟩⟩
      · rw [ev] at q
        have hq := (nI_eq (by omega) (by omega)).1 q
        refine ⟨rfl, trivial, ⟨_, rfl, i, j, b, hi, hs, hj, hx, hb, hw, ev, F, z, Y, ?_, fun _ _ => rfl, kp k1, rfl⟩, Nat.le_refl _, Nat.le_refl _⟩
        refine hp.alt hi hj hb hvb ff (by split <;> decide) k1 (by rw [eI_rI, if_pos rfl, cj]) (fun f _ => rfl) ?_ (fun f => rfl) (fun k hk => ⟨hE k hk, rfl⟩)
        show mI S 1514 t = _
        rw [w3]
        by_cases c : R.Q.fo = 1
        · rw [if_pos (Or.inl c), c]
        · rw [if_neg (fun z => z.elim c (fun z => z hq)), show R.Q.fo = 0 by omega]
      · rw [ev] at q
        have hq : (R.Q.sl i).getD j 0 ≠ b := fun e => q (by rw [e])
        refine ⟨trivial, (hp 0).1, Or.inr rfl, rfl, trivial, ⟨_, rfl, i, j, b, hi, hs, hj, hx, hb, hw, ev, F, z, Y, ?_, fun _ _ => rfl, kp k2, by rw [mI_sI, if_neg (fun e => absurd e.1 (by decide))]; rfl⟩, Nat.le_refl _, Nat.le_refl _⟩
        refine hp.alt hi hj hb hvb ff (by split <;> decide) k2 (by show eI (rI S (z (60 + i)) _) (z (60 + i)) = _; rw [eI_rI, if_pos rfl, cj]) (fun f hf => by rw [mI_sI, if_neg (fun e => hf e.1)]; rfl) ?_ (fun f => rfl) (fun k hk => ⟨hE k hk, rfl⟩)
        rw [mI_sI, if_pos ⟨rfl, rfl⟩, if_pos (Or.inr hq)]; rfl
theorem u_ral0 (l : Launch) (hlt : l.stackTraces = false) : UsX l yX14_alter0 (Cond.code yX14_alter0 cX14_alter0 5 (some .int)) (some .int) 7 109 15 T_ral0 := by
  intro Rc Rs av S cs sl K Kx h
  unfold T_ral0 at h
  split at h
  · rename_i t_o s x w
    obtain ⟨t, rfl, h_1⟩ := pa_of h
    obtain ⟨F, z, Y, R, kz, hp, hc, hs, hk, hx0, hx1⟩ := h_1
    refine ⟨(sp_ral0 t s x w F z Y R kz), c_ral0 l hlt t s x w F z Y R kz, fun _ _ h9 => ⟨_, _, h9.1, (h9.2 0).1⟩, ⟨rfl, hp⟩, hc, hs, fun v9 S' h8 => by
      obtain ⟨v8, h7, h8⟩ := h8
      cases h7
      exact hk _ _ h8, fun _ _ q => by
      rcases q with ⟨rfl, q⟩ | ⟨rfl, q⟩
      · obtain ⟨q, rfl⟩ := q
        exact hx0 q
      · obtain ⟨q, rfl⟩ := q
        exact hx1 q⟩
  · exact h.elim
