/-! ===== The reference's graph: walks in the tree ===== -/
theorem od_ne {L : List Nat} (hn : L.Nodup) {j p : Nat} (h1 : j < p) (h2 : p < L.length) : L.getD j 0 ≠ L.getD p 0 := by
  have := (List.pairwise_iff_getElem.1 (List.nodup_iff_pairwise_ne.1 hn)) j p (by omega) h2 h1
  rw [List.getD_eq_getElem?_getD, List.getElem?_eq_getElem (show j < L.length by omega), List.getD_eq_getElem?_getD, List.getElem?_eq_getElem h2]
  exact this
section RGT
variable {S S' : MM} {F F' : Nat → Nat × Nat} {i : Nat} {y : Nat → Nat} {G : Gr} {T : Tr}
theorem RG.g13 (h : RG S F i y G T) {e : Nat} (he : e + 1 ∈ T.od) {P : Int32 → Prop} (hP : P (pnI (T.sb (e + 1)))) : pa (mR S 1313 (y 0)) fun a => ∃ v : Int32, (isO S 17 a ∧ inR S a (nI e) ∧ v = eI S a (nI e).toNatClampNeg ∨ a = (mQ S).1 ∧ vp_in (nI e) 16 ∧ v = mRem (nI e).toNatClampNeg) ∧ P v := by
  have := h.nm
  obtain ⟨k, q, hk, _⟩ := h.ond he
  exact rdI h.r13.1 h.r13.2.1 (inRn h.r13.2.2 (by omega) (by decide)) (by rw [nI_clamp (by omega)]; exact (h 8).1 (e + 1) he) hP
theorem RG.g14 (h : RG S F i y G T) {e : Nat} (he : e < G.n) {P : Int32 → Prop} (hP : P (pnI (T.fl (e + 1)))) : pa (mR S 1314 (y 0)) fun a => ∃ v : Int32, (isO S 17 a ∧ inR S a (nI e) ∧ v = eI S a (nI e).toNatClampNeg ∨ a = (mQ S).1 ∧ vp_in (nI e) 16 ∧ v = mRem (nI e).toNatClampNeg) ∧ P v := by
  have := h.nm
  exact rdI h.r14.1 h.r14.2.1 (inRn h.r14.2.2 (by omega) (by decide)) (by rw [nI_clamp (by omega)]; exact ((h 8).2 e he).1) hP
theorem RG.g15 (h : RG S F i y G T) {e : Nat} (he : e < G.n) {P : Int32 → Prop} (hP : P (pnI (T.fr (e + 1)))) : pa (mR S 1315 (y 0)) fun a => ∃ v : Int32, (isO S 17 a ∧ inR S a (nI e) ∧ v = eI S a (nI e).toNatClampNeg ∨ a = (mQ S).1 ∧ vp_in (nI e) 16 ∧ v = mRem (nI e).toNatClampNeg) ∧ P v := by
  have := h.nm
  exact rdI h.r15.1 h.r15.2.1 (inRn h.r15.2.2 (by omega) (by decide)) (by rw [nI_clamp (by omega)]; exact ((h 8).2 e he).2) hP
end RGT
def I_rir (g nd pz : Nat) (S : MM) (k : Nat) : KT := fun lo st S1 cs sl => ∃ j, j + k = pz ∧ lo = [(0, .inr (.inr (some g))), (1, .inl (nI nd)), (2, .inl (nI j))] ∧ st = [] ∧ S = S1 ∧ cs = 0 ∧ sl = 0
def T_rir : TR := fun Rc Rs av S cs sl K _Kx => match av with
  | [.inr (.inr g_o), .inl nd_v] => pa g_o fun g => (∃ (nd : Nat), nd_v = nI nd ∧ (∃ (F : Nat → Nat × Nat) (i : Nat) (y : Nat → Nat) (G : Gr) (T : Tr) (pz : Nat), (g = y 0 ∧ RG S F i y G T ∧ pz < T.od.length ∧ T.od.getD pz 0 = nd + 1) ∧ cs ≤ Rc ∧ sl ≤ Rs ∧ (K (some (.inl (nI pz))) S cs sl)))
  | _ => False
def sp_rir (g : Nat) (nd : Nat) (F : Nat → Nat × Nat) (i : Nat) (y : Nat → Nat) (G : Gr) (T : Tr) (pz : Nat) : Sp := (fun av S => av = [.inr (.inr (some g)), .inl (nI nd)] ∧ (g = y 0 ∧ RG S F i y G T ∧ pz < T.od.length ∧ T.od.getD pz 0 = nd + 1), fun _ S => 0, fun _ S => 0, fun _ S rv S' => rv = (some (.inl (nI pz))) ∧ S' = S, fun _ _ _ _ => False)
def tX12_inRow : CD := [(0, .iconst 0), (1, .istore_n 2), (2, .aload_n 0), (3, .getfield 72), (6, .iload_n 2), (7, .iaload), (8, .iload_n 1), (9, .if_icmp .eq 9), (12, .iinc 2 1), (15, .goto (-13)), (18, .iload_n 2), (19, .ireturn)]
set_option maxRecDepth 100000 in
theorem kX12_inRow : chk cX12_inRow tX12_inRow = true := by decide +kernel

set_option maxRecDepth 100000 in
set_option maxHeartbeats 2000000 in
theorem c_rir (l : Launch) : ∀ (g : Nat) (nd : Nat) (F : Nat → Nat × Nat) (i : Nat) (y : Nat → Nat) (G : Gr) (T : Tr) (pz : Nat), Ct l yX12_inRow cX12_inRow 3 (some .int) 0 0 (sp_rir g nd F i y G T pz) := by
  intro g nd F i y G T pz
  refine Ct.of (fX12, nX12, aX12, iX12, lX12, [], qX12, gX12, []) false tX12_inRow (fun _ S => look [(2, ([0,1,2], I_rir g nd pz S))]) (by decide) (by decide) kX12_inRow ⟨_, _, rfl⟩ fX12_ok nX12_ok aX12_ok iX12_ok lX12_ok (fun _ _ _ _ _ _ _ _ _ _ _ _ _ _ _ _ _ _ => no_all) qX12_ok gX12_ok rfl ?_ ?_
  · rintro _ S ⟨rfl, hp⟩
    refine ⟨Nat.le_of_ble_eq_true rfl, 300, ?_⟩
    show (∃ k1, I_rir g nd pz S k1 [(0, .inr (.inr (some g))), (1, .inl (nI nd)), (2, .inl (0 : Int32))] [] S 0 0)
    exact ⟨pz, 0, by omega, rfl, rfl, rfl, rfl, rfl⟩
  · intro av S hpre pc I hI k lo st S1 cs sl h
    obtain ⟨rfl, hp⟩ := hpre
    have hm := look_in hI
    rw [List.mem_singleton] at hm
    cases hm
    obtain ⟨j, hj, rfl, rfl, rfl, rfl, rfl⟩ := h
    refine ⟨300, ?_⟩
    show (isO S 13 g ∧ (pa (mR S 1321 g) fun a_1 => ∃ v_2 : Int32, (isO S 17 a_1 ∧ inR S a_1 (nI j) ∧ v_2 = eI S a_1 (nI j).toNatClampNeg ∨ a_1 = (mQ S).1 ∧ vp_in (nI j) 16 ∧ v_2 = mRem (nI j).toNatClampNeg) ∧ ((v_2 = (nI nd) → (([] : List MV) = [] ∧ mret (some .int) (sp_rir g nd F i y G T pz) [.inr (.inr (some g)), .inl (nI nd)] S (some (.inl (nI j))) S 0 0)) ∧ (¬ v_2 = (nI nd) → (∃ k1, k1 < k ∧ I_rir g nd pz S k1 [(0, .inr (.inr (some g))), (1, .inl (nI nd)), (2, .inl ((nI j) + (1 : Int32)))] [] S 0 0)))))
    obtain ⟨rfl, h, hz, hd⟩ := hp
    have hnm := h.nm
    have hol := h.odl
    have q : j < T.od.length := by omega
    obtain ⟨x, hx, hxn, hxc, hxo⟩ := h.odn q
    obtain ⟨x1, hx1, hxn1, -⟩ := h.odn hz
    refine ⟨(h 0).1, h.g21 q ?_⟩
    rw [hx]
    refine if_eq (by omega) (by omega) (fun w => ⟨rfl, trivial, ⟨?_, rfl⟩, Nat.le_refl _, Nat.le_refl _⟩) (fun w => ⟨k - 1, ?_, j + 1, ?_, by rw [nI_1], rfl, rfl, rfl, rfl⟩)
    · by_cases c : j = pz
      · rw [c]
      · exact absurd (by rw [hx, hd]; omega) (od_ne h.tnd (show j < pz by omega) hz)
    all_goals
      have : j ≠ pz := fun c => w (by subst c; omega)
      omega
theorem u_rir (l : Launch) : Us l yX12_inRow cX12_inRow 3 (some .int) 0 0 13 T_rir := by
  intro Rc Rs av S cs sl K Kx h
  unfold T_rir at h
  split at h
  · rename_i g_o nd_v
    obtain ⟨g, rfl, h_1⟩ := pa_of h
    obtain ⟨nd, rfl, h_2⟩ := h_1
    obtain ⟨F, i, y, G, T, pz, hp, hc, hs, hk⟩ := h_2
    refine ⟨(sp_rir g nd F i y G T pz), c_rir l g nd F i y G T pz, fun _ _ h9 => ⟨_, _, h9.1, (h9.2.1 ▸ (h9.2.2.1 0).1)⟩, ⟨rfl, hp⟩, hc, hs, fun v9 S' h8 => by
      obtain ⟨h7, h8⟩ := h8
      cases h7
      subst h8
      exact hk, fun _ _ q => q.elim⟩
  · exact h.elim
def I_rsbf (g nd pz : Nat) (p : Nat → Bool) (T : Tr) (S : MM) (k : Nat) : KT := fun lo st S1 cs sl => ∃ j, j + k = pz ∧ lo = [(0, .inr (.inr (some g))), (1, .inl (nI nd)), (2, .inl (nI ((T.od.take j).filter p).length)), (3, .inl (nI j))] ∧ st = [] ∧ S = S1 ∧ cs = 0 ∧ sl = 0
def T_rsbf : TR := fun Rc Rs av S cs sl K _Kx => match av with
  | [.inr (.inr g_o), .inl nd_v] => pa g_o fun g => (∃ (nd : Nat), nd_v = nI nd ∧ (∃ (F : Nat → Nat × Nat) (i : Nat) (y : Nat → Nat) (G : Gr) (T : Tr) (pz : Nat), (g = y 0 ∧ RG S F i y G T ∧ pz < T.od.length ∧ T.od.getD pz 0 = nd + 1) ∧ cs ≤ Rc ∧ sl ≤ Rs ∧ (K (some (.inl (nI ((T.od.take pz).filter (vis G)).length))) S cs sl)))
  | _ => False
def sp_rsbf (g : Nat) (nd : Nat) (F : Nat → Nat × Nat) (i : Nat) (y : Nat → Nat) (G : Gr) (T : Tr) (pz : Nat) : Sp := (fun av S => av = [.inr (.inr (some g)), .inl (nI nd)] ∧ (g = y 0 ∧ RG S F i y G T ∧ pz < T.od.length ∧ T.od.getD pz 0 = nd + 1), fun _ S => 0, fun _ S => 0, fun _ S rv S' => rv = (some (.inl (nI ((T.od.take pz).filter (vis G)).length))) ∧ S' = S, fun _ _ _ _ => False)
def tX12_shownBefore : CD := [(0, .iconst 0), (1, .istore_n 2), (2, .iconst 0), (3, .istore_n 3), (4, .aload_n 0), (5, .getfield 72), (8, .iload_n 3), (9, .iaload), (10, .iload_n 1), (11, .if_icmp .eq 25), (14, .aload_n 0), (15, .aload_n 0), (16, .getfield 72), (19, .iload_n 3), (20, .iaload), (21, .invokevirtual 104), (24, .ifCond .eq 6), (27, .iinc 2 1), (30, .iinc 3 1), (33, .goto (-29)), (36, .iload_n 2), (37, .ireturn)]
set_option maxRecDepth 100000 in
theorem kX12_shownBefore : chk cX12_shownBefore tX12_shownBefore = true := by decide +kernel
theorem vX12_shownBefore_104 : ∀ w ∈ ([.methodLink RX12 104 yX12_isShown, .instanceMethod yX12_isShown, .selects yX12_isShown.cls yX12_isShown yX12_isShown, .initialized yX12_isShown.cls, .code yX12_isShown cX12_isShown 2 (some .boolean)] : List Cond), w ∈ lw_good := List.forall_mem_cons.mpr ⟨mgd 1954 (by decide +kernel) (by decide +kernel), List.forall_mem_cons.mpr ⟨mgd 1955 (by decide +kernel) (by decide +kernel), List.forall_mem_cons.mpr ⟨mgd 1956 (by decide +kernel) (by decide +kernel), List.forall_mem_cons.mpr ⟨mgd 138 (by decide +kernel) (by decide +kernel), List.forall_mem_cons.mpr ⟨mgd 1957 (by decide +kernel) (by decide +kernel), fun _ h => absurd h List.not_mem_nil⟩⟩⟩⟩⟩
set_option maxRecDepth 100000 in
set_option maxHeartbeats 2000000 in
theorem c_rsbf (l : Launch) : ∀ (g : Nat) (nd : Nat) (F : Nat → Nat × Nat) (i : Nat) (y : Nat → Nat) (G : Gr) (T : Tr) (pz : Nat), Ct l yX12_shownBefore cX12_shownBefore 4 (some .int) 1 21 (sp_rsbf g nd F i y G T pz) := by
  intro g nd F i y G T pz
  refine Ct.of (fX12, nX12, aX12, iX12, lX12, [(104, 0, 2, 1, T_rish)], qX12, gX12, []) false tX12_shownBefore (fun _ S => look [(4, ([0,1,2,3], I_rsbf g nd pz (vis G) T S))]) (by decide) (by decide) kX12_shownBefore ⟨_, _, rfl⟩ fX12_ok nX12_ok aX12_ok iX12_ok lX12_ok (fun p e R s m args below meth c Q D cy z r A C hR1 hR2 => List.forall_mem_cons.mpr ⟨cOK_use (fun _ _ _ _ _ _ _ _ h => let ⟨sp, h1, h2, h3⟩ := u_rish l _ _ _ _ _ _ _ _ h; ⟨sp, cOK_V C h1 vX12_shownBefore_104 ⟨by decide, by decide, by decide +kernel⟩ ⟨by rw [hR1]; decide, by rw [hR2]; decide⟩ (k := 13) (T := TX12) (N := 27) rfl (by decide) h2, h3⟩), fun _ h => absurd h List.not_mem_nil⟩) qX12_ok gX12_ok rfl ?_ ?_
  · rintro _ S ⟨rfl, hp⟩
    refine ⟨Nat.le_of_ble_eq_true rfl, 300, ?_⟩
    show (∃ k1, I_rsbf g nd pz (vis G) T S k1 [(0, .inr (.inr (some g))), (1, .inl (nI nd)), (2, .inl (0 : Int32)), (3, .inl (0 : Int32))] [] S 0 0)
    exact ⟨pz, 0, by omega, rfl, rfl, rfl, rfl, rfl⟩
  · intro av S hpre pc I hI k lo st S1 cs sl h
    obtain ⟨rfl, hp⟩ := hpre
    have hm := look_in hI
    rw [List.mem_singleton] at hm
    cases hm
    obtain ⟨j, hj, rfl, rfl, rfl, rfl, rfl⟩ := h
    refine ⟨300, ?_⟩
    show (isO S 13 g ∧ (pa (mR S 1321 g) fun a_1 => ∃ v_2 : Int32, (isO S 17 a_1 ∧ inR S a_1 (nI j) ∧ v_2 = eI S a_1 (nI j).toNatClampNeg ∨ a_1 = (mQ S).1 ∧ vp_in (nI j) 16 ∧ v_2 = mRem (nI j).toNatClampNeg) ∧ ((v_2 = (nI nd) → (([] : List MV) = [] ∧ mret (some .int) (sp_rsbf g nd F i y G T pz) [.inr (.inr (some g)), .inl (nI nd)] S (some (.inl (nI ((T.od.take j).filter (vis G)).length))) S 0 0)) ∧ (¬ v_2 = (nI nd) → (isO S 13 g ∧ (pa (mR S 1321 g) fun a_3 => ∃ v_4 : Int32, (isO S 17 a_3 ∧ inR S a_3 (nI j) ∧ v_4 = eI S a_3 (nI j).toNatClampNeg ∨ a_3 = (mQ S).1 ∧ vp_in (nI j) 16 ∧ v_4 = mRem (nI j).toNatClampNeg) ∧ (0 = 0 ∧ (∃ (k1_5 : Nat), v_4 = nI k1_5 ∧ (∃ (F_6 : Nat → Nat × Nat) (i_7 : Nat) (y_8 : Nat → Nat) (G_9 : Gr) (T_10 : Tr), (g = y_8 0 ∧ RG S F_6 i_7 y_8 G_9 T_10 ∧ k1_5 < G_9.n) ∧ 0 ≤ 0 ∧ 0 ≤ 0 ∧ ((((bI (vis G_9 (k1_5 + 1))) = 0 → (∃ k1, k1 < k ∧ I_rsbf g nd pz (vis G) T S k1 [(0, .inr (.inr (some g))), (1, .inl (nI nd)), (2, .inl (nI ((T.od.take j).filter (vis G)).length)), (3, .inl ((nI j) + (1 : Int32)))] [] S 0 0)) ∧ (¬ (bI (vis G_9 (k1_5 + 1))) = 0 → (∃ k1, k1 < k ∧ I_rsbf g nd pz (vis G) T S k1 [(0, .inr (.inr (some g))), (1, .inl (nI nd)), (2, .inl ((nI ((T.od.take j).filter (vis G)).length) + (1 : Int32))), (3, .inl ((nI j) + (1 : Int32)))] [] S 0 0)))))))))))))
    obtain ⟨rfl, h, hz, hd⟩ := hp
    have hnm := h.nm
    have hol := h.odl
    have q : j < T.od.length := by omega
    obtain ⟨x, hx, hxn, hxc, hxo⟩ := h.odn q
    obtain ⟨x1, hx1, hxn1, -⟩ := h.odn hz
    have ht := tkf (p := vis G) q
    rw [hx] at ht
    refine ⟨(h 0).1, h.g21 q ?_⟩
    rw [show T.od.getD j 0 - 1 = x by omega]
    refine if_eq (by omega) (by omega) (fun w => ⟨rfl, trivial, ⟨?_, rfl⟩, Nat.le_refl _, Nat.le_refl _⟩) (fun w => ?_)
    · by_cases c : j = pz
      · rw [c]
      · exact absurd (by rw [hx, hd]; omega) (od_ne h.tnd (show j < pz by omega) hz)
    · have hne : j ≠ pz := fun c => w (by subst c; omega)
      refine ⟨(h 0).1, h.g21 q ⟨rfl, x, by rw [hx]; rfl, F, i, y, G, T, ⟨rfl, h, hxn⟩, Nat.le_refl _, Nat.le_refl _, fun w => ?_, fun w => ?_⟩⟩
      · rw [bI_0] at w
        rw [w] at ht
        exact ⟨k - 1, by omega, j + 1, by omega, by rw [ht, nI_1]; rfl, rfl, rfl, rfl, rfl⟩
      · rw [bI_0, Bool.not_eq_false] at w
        rw [w] at ht
        exact ⟨k - 1, by omega, j + 1, by omega, by rw [ht, if_pos rfl, nI_1, nI_1], rfl, rfl, rfl, rfl⟩
theorem u_rsbf (l : Launch) : Us l yX12_shownBefore cX12_shownBefore 4 (some .int) 1 21 13 T_rsbf := by
  intro Rc Rs av S cs sl K Kx h
  unfold T_rsbf at h
  split at h
  · rename_i g_o nd_v
    obtain ⟨g, rfl, h_1⟩ := pa_of h
    obtain ⟨nd, rfl, h_2⟩ := h_1
    obtain ⟨F, i, y, G, T, pz, hp, hc, hs, hk⟩ := h_2
    refine ⟨(sp_rsbf g nd F i y G T pz), c_rsbf l g nd F i y G T pz, fun _ _ h9 => ⟨_, _, h9.1, (h9.2.1 ▸ (h9.2.2.1 0).1)⟩, ⟨rfl, hp⟩, hc, hs, fun v9 S' h8 => by
      obtain ⟨h7, h8⟩ := h8
      cases h7
      subst h8
      exact hk, fun _ _ q => q.elim⟩
  · exact h.elim
/-- a node of the tree as a number: -1 for the root -/
def ndI (x : Nat) : Int32 := if x = 0 then -1 else nI (x - 1)
def chO (T : Tr) (x : Nat) (b : Bool) : Option Nat := if x = 0 ∨ b = true then T.fr x else T.fl x
def T_rch : TR := fun Rc Rs av S cs sl K _Kx => match av with
  | [.inr (.inr g_o), .inl pv, .inl bv] => pa g_o fun g => (∃ (F : Nat → Nat × Nat) (i : Nat) (y : Nat → Nat) (G : Gr) (T : Tr) (x : Nat) (bz : Bool), (g = y 0 ∧ RG S F i y G T ∧ pv = ndI x ∧ bv = bI bz ∧ x ≤ G.n) ∧ cs ≤ Rc ∧ sl ≤ Rs ∧ (K (some (.inl (pnI (chO T x bz)))) S cs sl))
  | _ => False
def sp_rch (g : Nat) (pv : Int32) (bv : Int32) (F : Nat → Nat × Nat) (i : Nat) (y : Nat → Nat) (G : Gr) (T : Tr) (x : Nat) (bz : Bool) : Sp := (fun av S => av = [.inr (.inr (some g)), .inl pv, .inl bv] ∧ (g = y 0 ∧ RG S F i y G T ∧ pv = ndI x ∧ bv = bI bz ∧ x ≤ G.n), fun _ S => 0, fun _ S => 0, fun _ S rv S' => rv = (some (.inl (pnI (chO T x bz)))) ∧ S' = S, fun _ _ _ _ => False)
def tX12_childrenOf : CD := [(0, .iload_n 1), (1, .ifCond .ge 10), (4, .aload_n 0), (5, .getfield 59), (8, .goto 22), (11, .iload_n 2), (12, .ifCond .eq 12), (15, .aload_n 0), (16, .getfield 53), (19, .iload_n 1), (20, .iaload), (21, .goto 9), (24, .aload_n 0), (25, .getfield 50), (28, .iload_n 1), (29, .iaload), (30, .ireturn)]
set_option maxRecDepth 100000 in
theorem kX12_childrenOf : chk cX12_childrenOf tX12_childrenOf = true := by decide +kernel

set_option maxRecDepth 100000 in
set_option maxHeartbeats 2000000 in
theorem c_rch (l : Launch) : ∀ (g : Nat) (pv : Int32) (bv : Int32) (F : Nat → Nat × Nat) (i : Nat) (y : Nat → Nat) (G : Gr) (T : Tr) (x : Nat) (bz : Bool), Ct l yX12_childrenOf cX12_childrenOf 3 (some .int) 0 0 (sp_rch g pv bv F i y G T x bz) := by
  intro g pv bv F i y G T x bz
  refine Ct.of (fX12, nX12, aX12, iX12, lX12, [], qX12, gX12, []) false tX12_childrenOf (fun _ _ _ => none) (by decide) (by decide) kX12_childrenOf ⟨_, _, rfl⟩ fX12_ok nX12_ok aX12_ok iX12_ok lX12_ok (fun _ _ _ _ _ _ _ _ _ _ _ _ _ _ _ _ _ _ => no_all) qX12_ok gX12_ok rfl ?_ ?_
  · rintro _ S ⟨rfl, hp⟩
    refine ⟨Nat.le_of_ble_eq_true rfl, 300, ?_⟩
    show ((0 ≤ pv → ((bv = 0 → (isO S 13 g ∧ (pa (mR S 1314 g) fun a_1 => ∃ v_2 : Int32, (isO S 17 a_1 ∧ inR S a_1 pv ∧ v_2 = eI S a_1 pv.toNatClampNeg ∨ a_1 = (mQ S).1 ∧ vp_in pv 16 ∧ v_2 = mRem pv.toNatClampNeg) ∧ (([] : List MV) = [] ∧ mret (some .int) (sp_rch g pv bv F i y G T x bz) [.inr (.inr (some g)), .inl pv, .inl bv] S (some (.inl v_2)) S 0 0)))) ∧ (¬ bv = 0 → (isO S 13 g ∧ (pa (mR S 1315 g) fun a_3 => ∃ v_4 : Int32, (isO S 17 a_3 ∧ inR S a_3 pv ∧ v_4 = eI S a_3 pv.toNatClampNeg ∨ a_3 = (mQ S).1 ∧ vp_in pv 16 ∧ v_4 = mRem pv.toNatClampNeg) ∧ (([] : List MV) = [] ∧ mret (some .int) (sp_rch g pv bv F i y G T x bz) [.inr (.inr (some g)), .inl pv, .inl bv] S (some (.inl v_4)) S 0 0)))))) ∧ (¬ 0 ≤ pv → (isO S 13 g ∧ (([] : List MV) = [] ∧ mret (some .int) (sp_rch g pv bv F i y G T x bz) [.inr (.inr (some g)), .inl pv, .inl bv] S (some (.inl (mI S 1317 g))) S 0 0))))
    obtain ⟨rfl, h, rfl, rfl, hx⟩ := hp
    have hnm := h.nm
    have h9 := h 9
    cases x with
    | zero => exact ⟨fun w => absurd w (by decide), fun _ => ⟨(h 0).1, rfl, trivial, ⟨by rw [chO, if_pos (Or.inl rfl)]; exact congrArg (fun z => some (Sum.inl z)) h9, rfl⟩, Nat.le_refl _, Nat.le_refl _⟩⟩
    | succ x =>
      have e1 : ndI (x + 1) = nI x := by rw [ndI, if_neg (Nat.succ_ne_zero x)]; rfl
      rw [e1]
      refine ⟨fun _ => ⟨fun w => ⟨(h 0).1, h.g14 (by omega) ⟨rfl, trivial, ⟨?_, rfl⟩, Nat.le_refl _, Nat.le_refl _⟩⟩, fun w => ⟨(h 0).1, h.g15 (by omega) ⟨rfl, trivial, ⟨?_, rfl⟩, Nat.le_refl _, Nat.le_refl _⟩⟩⟩, fun w => absurd (nI_pos' (show x < 2147483648 by omega)) w⟩
      · rw [bI_0] at w
        rw [chO, if_neg (by rw [w]; simp)]
      · rw [bI_0, Bool.not_eq_false] at w
        rw [chO, if_pos (Or.inr w)]
  · exact fun _ _ _ _ _ h => by cases h
theorem u_rch (l : Launch) : Us l yX12_childrenOf cX12_childrenOf 3 (some .int) 0 0 13 T_rch := by
  intro Rc Rs av S cs sl K Kx h
  unfold T_rch at h
  split at h
  · rename_i g_o pv bv
    obtain ⟨g, rfl, h_1⟩ := pa_of h
    obtain ⟨F, i, y, G, T, x, bz, hp, hc, hs, hk⟩ := h_1
    refine ⟨(sp_rch g pv bv F i y G T x bz), c_rch l g pv bv F i y G T x bz, fun _ _ h9 => ⟨_, _, h9.1, (h9.2.1 ▸ (h9.2.2.1 0).1)⟩, ⟨rfl, hp⟩, hc, hs, fun v9 S' h8 => by
      obtain ⟨h7, h8⟩ := h8
      cases h7
      subst h8
      exact hk, fun _ _ q => q.elim⟩
  · exact h.elim
def RpT (T : Tr) (n : Nat) (p : Option Nat) (A : List Nat) : Prop := Rp T.fl T.fr T.sb n p A ∧ ∀ z ∈ A, z ∈ T.od
theorem RpT.no {T : Tr} {n : Nat} {A : List Nat} (h : RpT T n none A) : A = [] := Rp.no.1 h.1
theorem RpT.nd {T : Tr} {n y : Nat} {A : List Nat} (h : RpT T n (some y) A) : ∃ m B C D, n = m + 1 ∧ RpT T m (T.fl y) B ∧ RpT T m (T.fr y) C ∧ RpT T m (T.sb y) D ∧ A = B ++ y :: (C ++ D) ∧ y ∈ T.od := by
  cases n with
  | zero => exact h.1.elim
  | succ m =>
    obtain ⟨⟨B, C, D, h1, h2, h3, rfl⟩, h4⟩ := h
    exact ⟨m, B, C, D, rfl, ⟨h1, fun z hz => h4 z (by simp [hz])⟩, ⟨h2, fun z hz => h4 z (by simp [hz])⟩, ⟨h3, fun z hz => h4 z (by simp [hz])⟩, rfl, h4 y (by simp)⟩
def I_rfo (g nd : Nat) (A : List Nat) (G : Gr) (T : Tr) (S : MM) (k : Nat) : KT := fun lo st S1 cs sl => ∃ f B, RpT T k (T.fl (f + 1)) B ∧ A.headD (nd + 1) = B.headD (f + 1) ∧ f < G.n ∧ lo = [(0, .inr (.inr (some g))), (2, .inl (nI f))] ∧ st = [] ∧ S = S1 ∧ cs = 0 ∧ sl = 0
def T_rfo : TR := fun Rc Rs av S cs sl K _Kx => match av with
  | [.inr (.inr g_o), .inl nd_v] => pa g_o fun g => (∃ (nd : Nat), nd_v = nI nd ∧ (∃ (F : Nat → Nat × Nat) (i : Nat) (y : Nat → Nat) (G : Gr) (T : Tr) (n : Nat) (A : List Nat), (g = y 0 ∧ RG S F i y G T ∧ nd < G.n ∧ RpT T n (T.fl (nd + 1)) A) ∧ cs ≤ Rc ∧ sl ≤ Rs ∧ (K (some (.inl (nI (A.headD (nd + 1) - 1)))) S cs sl)))
  | _ => False
def sp_rfo (g : Nat) (nd : Nat) (F : Nat → Nat × Nat) (i : Nat) (y : Nat → Nat) (G : Gr) (T : Tr) (n : Nat) (A : List Nat) : Sp := (fun av S => av = [.inr (.inr (some g)), .inl (nI nd)] ∧ (g = y 0 ∧ RG S F i y G T ∧ nd < G.n ∧ RpT T n (T.fl (nd + 1)) A), fun _ S => 0, fun _ S => 0, fun _ S rv S' => rv = (some (.inl (nI (A.headD (nd + 1) - 1)))) ∧ S' = S, fun _ _ _ _ => False)
def tX12_firstOf : CD := [(0, .iload_n 1), (1, .istore_n 2), (2, .aload_n 0), (3, .getfield 50), (6, .iload_n 2), (7, .iaload), (8, .ifCond .lt 13), (11, .aload_n 0), (12, .getfield 50), (15, .iload_n 2), (16, .iaload), (17, .istore_n 2), (18, .goto (-16)), (21, .iload_n 2), (22, .ireturn)]
set_option maxRecDepth 100000 in
theorem kX12_firstOf : chk cX12_firstOf tX12_firstOf = true := by decide +kernel

set_option maxRecDepth 100000 in
set_option maxHeartbeats 2000000 in
theorem c_rfo (l : Launch) : ∀ (g : Nat) (nd : Nat) (F : Nat → Nat × Nat) (i : Nat) (y : Nat → Nat) (G : Gr) (T : Tr) (n : Nat) (A : List Nat), Ct l yX12_firstOf cX12_firstOf 3 (some .int) 0 0 (sp_rfo g nd F i y G T n A) := by
  intro g nd F i y G T n A
  refine Ct.of (fX12, nX12, aX12, iX12, lX12, [], qX12, gX12, []) false tX12_firstOf (fun _ S => look [(2, ([0,2], I_rfo g nd A G T S))]) (by decide) (by decide) kX12_firstOf ⟨_, _, rfl⟩ fX12_ok nX12_ok aX12_ok iX12_ok lX12_ok (fun _ _ _ _ _ _ _ _ _ _ _ _ _ _ _ _ _ _ => no_all) qX12_ok gX12_ok rfl ?_ ?_
  · rintro _ S ⟨rfl, hp⟩
    refine ⟨Nat.le_of_ble_eq_true rfl, 300, ?_⟩
    show (∃ k1, I_rfo g nd A G T S k1 [(0, .inr (.inr (some g))), (2, .inl (nI nd))] [] S 0 0)
    exact ⟨n, nd, A, hp.2.2.2, rfl, hp.2.2.1, rfl, rfl, rfl, rfl, rfl⟩
  · intro av S hpre pc I hI k lo st S1 cs sl h
    obtain ⟨rfl, hp⟩ := hpre
    have hm := look_in hI
    rw [List.mem_singleton] at hm
    cases hm
    obtain ⟨f, B, hB, hh, hf, rfl, rfl, rfl, rfl, rfl⟩ := h
    refine ⟨300, ?_⟩
    show (isO S 13 g ∧ (pa (mR S 1314 g) fun a_1 => ∃ v_2 : Int32, (isO S 17 a_1 ∧ inR S a_1 (nI f) ∧ v_2 = eI S a_1 (nI f).toNatClampNeg ∨ a_1 = (mQ S).1 ∧ vp_in (nI f) 16 ∧ v_2 = mRem (nI f).toNatClampNeg) ∧ ((v_2 < 0 → (([] : List MV) = [] ∧ mret (some .int) (sp_rfo g nd F i y G T n A) [.inr (.inr (some g)), .inl (nI nd)] S (some (.inl (nI f))) S 0 0)) ∧ (¬ v_2 < 0 → (isO S 13 g ∧ (pa (mR S 1314 g) fun a_3 => ∃ v_4 : Int32, (isO S 17 a_3 ∧ inR S a_3 (nI f) ∧ v_4 = eI S a_3 (nI f).toNatClampNeg ∨ a_3 = (mQ S).1 ∧ vp_in (nI f) 16 ∧ v_4 = mRem (nI f).toNatClampNeg) ∧ (∃ k1, k1 < k ∧ I_rfo g nd A G T S k1 [(0, .inr (.inr (some g))), (2, .inl v_4)] [] S 0 0)))))))
    obtain ⟨rfl, h, hz, hd⟩ := hp
    have hnm := h.nm
    cases e : T.fl (f + 1) with
    | none =>
      rw [e] at hB
      rw [hB.no] at hh
      refine ⟨(h 0).1, h.g14 hf ?_⟩
      rw [e]
      exact ⟨fun _ => ⟨rfl, trivial, ⟨by rw [hh]; rfl, rfl⟩, Nat.le_refl _, Nat.le_refl _⟩, fun w => absurd (by decide : (-1 : Int32) < 0) w⟩
    | some z =>
      rw [e] at hB
      obtain ⟨m, B1, C1, D1, rfl, r1, r2, r3, rfl, r5⟩ := hB.nd
      obtain ⟨b, rfl, hb, -⟩ := h.ond r5
      refine ⟨(h 0).1, h.g14 hf ⟨fun w => ?_, fun w => ⟨(h 0).1, h.g14 hf ⟨m, by omega, b, B1, r1, ?_, hb, ?_, rfl, rfl, rfl, rfl⟩⟩⟩⟩
      · rw [e] at w
        exact absurd w (nI_pos (show b < 2147483648 by omega))
      · rw [hh]; cases B1 <;> rfl
      · rw [e]; rfl
theorem u_rfo (l : Launch) : Us l yX12_firstOf cX12_firstOf 3 (some .int) 0 0 13 T_rfo := by
  intro Rc Rs av S cs sl K Kx h
  unfold T_rfo at h
  split at h
  · rename_i g_o nd_v
    obtain ⟨g, rfl, h_1⟩ := pa_of h
    obtain ⟨nd, rfl, h_2⟩ := h_1
    obtain ⟨F, i, y, G, T, n, A, hp, hc, hs, hk⟩ := h_2
    refine ⟨(sp_rfo g nd F i y G T n A), c_rfo l g nd F i y G T n A, fun _ _ h9 => ⟨_, _, h9.1, (h9.2.1 ▸ (h9.2.2.1 0).1)⟩, ⟨rfl, hp⟩, hc, hs, fun v9 S' h8 => by
      obtain ⟨h7, h8⟩ := h8
      cases h7
      subst h8
      exact hk, fun _ _ q => q.elim⟩
  · exact h.elim
theorem gLD (X Y : List Nat) (w a : Nat) : (X ++ w :: Y).getLastD a = Y.getLastD w := by
  rw [List.getLastD_eq_getLast?, List.getLastD_eq_getLast?, List.getLast?_append, List.getLast?_cons]
  cases Y.getLast? <;> rfl
def I_rlo1 (g nd : Nat) (A : List Nat) (G : Gr) (T : Tr) (S : MM) (k : Nat) : KT := fun lo st S1 cs sl => ∃ f B m, k = 2 * m ∧ RpT T m (T.fr (f + 1)) B ∧ A.getLastD (nd + 1) = B.getLastD (f + 1) ∧ f < G.n ∧ lo = [(0, .inr (.inr (some g))), (2, .inl (nI f))] ∧ st = [] ∧ S = S1 ∧ cs = 0 ∧ sl = 0
def I_rlo2 (g nd : Nat) (A : List Nat) (G : Gr) (T : Tr) (S : MM) (k : Nat) : KT := fun lo st S1 cs sl => ∃ f C D m, k = 2 * m + 1 ∧ RpT T m (T.fr (f + 1)) C ∧ RpT T m (T.sb (f + 1)) D ∧ A.getLastD (nd + 1) = (C ++ D).getLastD (f + 1) ∧ f + 1 ∈ T.od ∧ lo = [(0, .inr (.inr (some g))), (2, .inl (nI f))] ∧ st = [] ∧ S = S1 ∧ cs = 0 ∧ sl = 0
def T_rlo : TR := fun Rc Rs av S cs sl K _Kx => match av with
  | [.inr (.inr g_o), .inl nd_v] => pa g_o fun g => (∃ (nd : Nat), nd_v = nI nd ∧ (∃ (F : Nat → Nat × Nat) (i : Nat) (y : Nat → Nat) (G : Gr) (T : Tr) (n : Nat) (A : List Nat), (g = y 0 ∧ RG S F i y G T ∧ nd < G.n ∧ RpT T n (T.fr (nd + 1)) A) ∧ cs ≤ Rc ∧ sl ≤ Rs ∧ (K (some (.inl (nI (A.getLastD (nd + 1) - 1)))) S cs sl)))
  | _ => False
def sp_rlo (g : Nat) (nd : Nat) (F : Nat → Nat × Nat) (i : Nat) (y : Nat → Nat) (G : Gr) (T : Tr) (n : Nat) (A : List Nat) : Sp := (fun av S => av = [.inr (.inr (some g)), .inl (nI nd)] ∧ (g = y 0 ∧ RG S F i y G T ∧ nd < G.n ∧ RpT T n (T.fr (nd + 1)) A), fun _ S => 0, fun _ S => 0, fun _ S rv S' => rv = (some (.inl (nI (A.getLastD (nd + 1) - 1)))) ∧ S' = S, fun _ _ _ _ => False)
def tX12_lastOf : CD := [(0, .iload_n 1), (1, .istore_n 2), (2, .aload_n 0), (3, .getfield 53), (6, .iload_n 2), (7, .iaload), (8, .ifCond .lt 29), (11, .aload_n 0), (12, .getfield 53), (15, .iload_n 2), (16, .iaload), (17, .istore_n 2), (18, .aload_n 0), (19, .getfield 47), (22, .iload_n 2), (23, .iaload), (24, .ifCond .lt (-22)), (27, .aload_n 0), (28, .getfield 47), (31, .iload_n 2), (32, .iaload), (33, .istore_n 2), (34, .goto (-16)), (37, .iload_n 2), (38, .ireturn)]
set_option maxRecDepth 100000 in
theorem kX12_lastOf : chk cX12_lastOf tX12_lastOf = true := by decide +kernel

set_option maxRecDepth 100000 in
set_option maxHeartbeats 2000000 in
theorem c_rlo (l : Launch) : ∀ (g : Nat) (nd : Nat) (F : Nat → Nat × Nat) (i : Nat) (y : Nat → Nat) (G : Gr) (T : Tr) (n : Nat) (A : List Nat), Ct l yX12_lastOf cX12_lastOf 3 (some .int) 0 0 (sp_rlo g nd F i y G T n A) := by
  intro g nd F i y G T n A
  refine Ct.of (fX12, nX12, aX12, iX12, lX12, [], qX12, gX12, []) false tX12_lastOf (fun _ S => look [(2, ([0,2], I_rlo1 g nd A G T S)), (18, ([0,2], I_rlo2 g nd A G T S))]) (by decide) (by decide) kX12_lastOf ⟨_, _, rfl⟩ fX12_ok nX12_ok aX12_ok iX12_ok lX12_ok (fun _ _ _ _ _ _ _ _ _ _ _ _ _ _ _ _ _ _ => no_all) qX12_ok gX12_ok rfl ?_ ?_
  · rintro _ S ⟨rfl, hp⟩
    refine ⟨Nat.le_of_ble_eq_true rfl, 300, ?_⟩
    show (∃ k1, I_rlo1 g nd A G T S k1 [(0, .inr (.inr (some g))), (2, .inl (nI nd))] [] S 0 0)
    exact ⟨2 * n, nd, A, n, rfl, hp.2.2.2, rfl, hp.2.2.1, rfl, rfl, rfl, rfl, rfl⟩
  · intro av S hpre pc I hI k lo st S1 cs sl h
    obtain ⟨rfl, hp⟩ := hpre
    have hm := look_in hI
    simp only [List.mem_cons, List.not_mem_nil, or_false] at hm
    rcases hm with hm | hm
    · cases hm
      obtain ⟨f, B, m, rfl, hB, hh, hf, rfl, rfl, rfl, rfl, rfl⟩ := h
      refine ⟨300, ?_⟩
      show (isO S 13 g ∧ (pa (mR S 1315 g) fun a_1 => ∃ v_2 : Int32, (isO S 17 a_1 ∧ inR S a_1 (nI f) ∧ v_2 = eI S a_1 (nI f).toNatClampNeg ∨ a_1 = (mQ S).1 ∧ vp_in (nI f) 16 ∧ v_2 = mRem (nI f).toNatClampNeg) ∧ ((v_2 < 0 → (([] : List MV) = [] ∧ mret (some .int) (sp_rlo g nd F i y G T n A) [.inr (.inr (some g)), .inl (nI nd)] S (some (.inl (nI f))) S 0 0)) ∧ (¬ v_2 < 0 → (isO S 13 g ∧ (pa (mR S 1315 g) fun a_3 => ∃ v_4 : Int32, (isO S 17 a_3 ∧ inR S a_3 (nI f) ∧ v_4 = eI S a_3 (nI f).toNatClampNeg ∨ a_3 = (mQ S).1 ∧ vp_in (nI f) 16 ∧ v_4 = mRem (nI f).toNatClampNeg) ∧ (∃ k1, k1 < (2 * m) ∧ I_rlo2 g nd A G T S k1 [(0, .inr (.inr (some g))), (2, .inl v_4)] [] S 0 0)))))))
      obtain ⟨rfl, h, hz, hd⟩ := hp
      have hnm := h.nm
      cases e : T.fr (f + 1) with
      | none =>
        rw [e] at hB
        rw [hB.no] at hh
        refine ⟨(h 0).1, h.g15 hf ?_⟩
        rw [e]
        exact ⟨fun _ => ⟨rfl, trivial, ⟨by rw [hh]; rfl, rfl⟩, Nat.le_refl _, Nat.le_refl _⟩, fun w => absurd (by decide : (-1 : Int32) < 0) w⟩
      | some z =>
        rw [e] at hB
        obtain ⟨m, B1, C1, D1, rfl, r1, r2, r3, rfl, r5⟩ := hB.nd
        obtain ⟨b, rfl, hb, -⟩ := h.ond r5
        refine ⟨(h 0).1, h.g15 hf ⟨fun w => ?_, fun w => ⟨(h 0).1, h.g15 hf ⟨2 * m + 1, by omega, b, C1, D1, m, rfl, r2, r3, ?_, r5, ?_, rfl, rfl, rfl, rfl⟩⟩⟩⟩
        · rw [e] at w
          exact absurd w (nI_pos (show b < 2147483648 by omega))
        · rw [hh, gLD]
        · rw [e]; rfl
    · cases hm
      obtain ⟨f, C, D, m, rfl, hC, hD, hh, hf, rfl, rfl, rfl, rfl, rfl⟩ := h
      refine ⟨300, ?_⟩
      show (isO S 13 g ∧ (pa (mR S 1313 g) fun a_1 => ∃ v_2 : Int32, (isO S 17 a_1 ∧ inR S a_1 (nI f) ∧ v_2 = eI S a_1 (nI f).toNatClampNeg ∨ a_1 = (mQ S).1 ∧ vp_in (nI f) 16 ∧ v_2 = mRem (nI f).toNatClampNeg) ∧ ((v_2 < 0 → (∃ k1, k1 < (2 * m + 1) ∧ I_rlo1 g nd A G T S k1 [(0, .inr (.inr (some g))), (2, .inl (nI f))] [] S 0 0)) ∧ (¬ v_2 < 0 → (isO S 13 g ∧ (pa (mR S 1313 g) fun a_3 => ∃ v_4 : Int32, (isO S 17 a_3 ∧ inR S a_3 (nI f) ∧ v_4 = eI S a_3 (nI f).toNatClampNeg ∨ a_3 = (mQ S).1 ∧ vp_in (nI f) 16 ∧ v_4 = mRem (nI f).toNatClampNeg) ∧ (∃ k1, k1 < (2 * m + 1) ∧ I_rlo2 g nd A G T S k1 [(0, .inr (.inr (some g))), (2, .inl v_4)] [] S 0 0)))))))
      obtain ⟨rfl, h, hz, hd⟩ := hp
      have hnm := h.nm
      obtain ⟨f', ef, hfn, -⟩ := h.ond hf
      cases e : T.sb (f + 1) with
      | none =>
        rw [e] at hD
        rw [hD.no, List.append_nil] at hh
        refine ⟨(h 0).1, h.g13 hf ?_⟩
        rw [e]
        exact ⟨fun _ => ⟨2 * m, by omega, f, C, m, rfl, hC, hh, by omega, rfl, rfl, rfl, rfl, rfl⟩, fun w => absurd (by decide : (-1 : Int32) < 0) w⟩
      | some z =>
        rw [e] at hD
        obtain ⟨m, B1, C1, D1, rfl, r1, r2, r3, rfl, r5⟩ := hD.nd
        obtain ⟨b, rfl, hb, -⟩ := h.ond r5
        refine ⟨(h 0).1, h.g13 hf ⟨fun w => ?_, fun w => ⟨(h 0).1, h.g13 hf ⟨2 * m + 1, by omega, b, C1, D1, m, rfl, r2, r3, ?_, r5, ?_, rfl, rfl, rfl, rfl⟩⟩⟩⟩
        · rw [e] at w
          exact absurd w (nI_pos (show b < 2147483648 by omega))
        · rw [hh, ← List.append_assoc, gLD]
        · rw [e]; rfl
theorem u_rlo (l : Launch) : Us l yX12_lastOf cX12_lastOf 3 (some .int) 0 0 13 T_rlo := by
  intro Rc Rs av S cs sl K Kx h
  unfold T_rlo at h
  split at h
  · rename_i g_o nd_v
    obtain ⟨g, rfl, h_1⟩ := pa_of h
    obtain ⟨nd, rfl, h_2⟩ := h_1
    obtain ⟨F, i, y, G, T, n, A, hp, hc, hs, hk⟩ := h_2
    refine ⟨(sp_rlo g nd F i y G T n A), c_rlo l g nd F i y G T n A, fun _ _ h9 => ⟨_, _, h9.1, (h9.2.1 ▸ (h9.2.2.1 0).1)⟩, ⟨rfl, hp⟩, hc, hs, fun v9 S' h8 => by
      obtain ⟨h7, h8⟩ := h8
      cases h7
      subst h8
      exact hk, fun _ _ q => q.elim⟩
  · exact h.elim
