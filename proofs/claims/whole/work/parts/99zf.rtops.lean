/-! ===== The reference's graph: lastIn, isCritical, tops, all ===== -/
theorem rdOp {S : MM} {o : Option Nat} {a : Nat} {x v : Int32} {P : Int32 → Prop} (h1 : o = some a) (h2 : isO S 17 a) (h3 : inR S a x) (hv : eI S a x.toNatClampNeg = v) (hP : P v) : pa o fun a => ∃ v : Int32, (isO S 17 a ∧ inR S a x ∧ v = eI S a x.toNatClampNeg ∨ a = (mQ S).1 ∧ vp_in x 16 ∧ v = mRem x.toNatClampNeg) ∧ P v := pa_i h1 ⟨_, Or.inl ⟨h2, h3, hv.symm⟩, hP⟩
theorem nI_sub1 {n : Nat} (h : 0 < n) : nI n - 1 = nI (n - 1) := by
  rw [← nI_dec h, Int32.sub_eq_add_neg]
theorem evL_gt {G : Gr} {s j : Nat} (hj : j < G.cn s) : (evL G s).getD j 0 < G.n ∧ (G.ev ((evL G s).getD j 0)).sl = s := by
  have hl : j < (evL G s).length := by rw [evL_len]; exact hj
  rw [List.getD_eq_getElem?_getD, List.getElem?_eq_getElem hl]
  have hm : (evL G s)[j] ∈ evL G s := List.getElem_mem hl
  unfold evL at hm
  rw [List.mem_filter, List.mem_range, decide_eq_true_eq] at hm
  exact hm
section RGP
variable {S S' : MM} {F F' : Nat → Nat × Nat} {i : Nat} {y : Nat → Nat} {G : Gr} {T : Tr}
theorem RG.g5 (h : RG S F i y G T) {s : Nat} (hs : s < 16) {P : Nat → Prop} (hP : P (y 5)) : pa (mR S 1305 (y 0)) fun a => a ∈ mL S ∧ ¬ mK S a < 21 ∧ mK S a < 29 ∧ inR S a (nI s) ∧ P a := by
  obtain ⟨b1, b2, b3⟩ := h.r5
  exact pa_i b1 ⟨b2.1, by rw [b2.2]; decide, by rw [b2.2]; decide, inRn b3 (by omega) (by decide), hP⟩
theorem RG.gat (h : RG S F i y G T) {s j : Nat} (hs : s < 16) (hj : j < G.cn s) {x : Int32} (hx : x = nI j) {P : Int32 → Prop} (hP : P (nI ((evL G s).getD j 0))) : pa (eR S (y 5) (nI s).toNatClampNeg) fun a => ∃ v : Int32, (isO S 17 a ∧ inR S a x ∧ v = eI S a x.toNatClampNeg ∨ a = (mQ S).1 ∧ vp_in x 16 ∧ v = mRem x.toNatClampNeg) ∧ P v := by
  subst hx
  obtain ⟨c1, c2, c3, c4, c5, c6⟩ := h 4 s hs
  exact rdOp (by rw [nI_clamp (by omega)]; exact c1) c2 (inRn rfl (by omega) (by omega)) (by rw [nI_clamp (by omega)]; exact c6 j hj) hP
theorem RG.epa (h : RG S F i y G T) {e s : Nat} (he : e < G.n) (hs : s < 16) : eI S (y 8) ((16 : Int32) * nI e + nI s).toNatClampNeg = nI ((G.ev e).pa s) ∧ inR S (y 8) ((16 : Int32) * nI e + nI s) := by
  have := h.nm
  rw [nI_mul16, nI_plus, nI_clamp (by omega)]
  exact ⟨(h 5 e he).2.2.1 s hs, inRn h.r8.2.2 (by omega) (by decide)⟩
end RGP
theorem StR.el {S : MM} {r o : Nat} {W : Nat → Nat} (h : StR S r o W) {s : Nat} (hs : s < 16) : eI S r (nI o + nI s).toNatClampNeg = nI (W s) ∧ inR S r (nI o + nI s) := by
  obtain ⟨w1, w2, w3, w4⟩ := h
  rw [nI_plus, nI_clamp (by omega)]
  exact ⟨(w4 s hs).1, inRn rfl (by omega) (by omega)⟩
def lsI (G : Gr) (W : Nat → Nat) (s : Nat) : Int32 := if s < G.m ∧ 0 < W s then nI ((evL G s).getD (W s - 1) 0) else -1
def T_rli : TR := fun Rc Rs av S cs sl K _Kx => match av with
  | [.inr (.inr g_o), .inr (.inr r_o), .inl o_v, .inl sv_v] => pa g_o fun g => (pa r_o fun r => (∃ (o : Nat), o_v = nI o ∧ (∃ (sv : Nat), sv_v = nI sv ∧ (∃ (F : Nat → Nat × Nat) (i : Nat) (y : Nat → Nat) (G : Gr) (T : Tr) (W : Nat → Nat), (g = y 0 ∧ RG S F i y G T ∧ StR S r o W ∧ sv < 16 ∧ (∀ s, s < G.m → W s ≤ G.cn s)) ∧ cs ≤ Rc ∧ sl ≤ Rs ∧ (K (some (.inl (lsI G W sv))) S cs sl)))))
  | _ => False
def sp_rli (g : Nat) (r : Nat) (o : Nat) (sv : Nat) (F : Nat → Nat × Nat) (i : Nat) (y : Nat → Nat) (G : Gr) (T : Tr) (W : Nat → Nat) : Sp := (fun av S => av = [.inr (.inr (some g)), .inr (.inr (some r)), .inl (nI o), .inl (nI sv)] ∧ (g = y 0 ∧ RG S F i y G T ∧ StR S r o W ∧ sv < 16 ∧ (∀ s, s < G.m → W s ≤ G.cn s)), fun _ S => 0, fun _ S => 0, fun _ S rv S' => rv = (some (.inl (lsI G W sv))) ∧ S' = S, fun _ _ _ _ => False)
def tX12_lastIn : CD := [(0, .iload_n 3), (1, .aload_n 0), (2, .getfield 87), (5, .if_icmp .ge 28), (8, .aload_n 1), (9, .iload_n 2), (10, .iload_n 3), (11, .iadd), (12, .saload), (13, .ifCond .le 20), (16, .aload_n 0), (17, .getfield 20), (20, .iload_n 3), (21, .aaload), (22, .aload_n 1), (23, .iload_n 2), (24, .iload_n 3), (25, .iadd), (26, .saload), (27, .iconst 1), (28, .isub), (29, .iaload), (30, .goto 4), (33, .iconst (-1)), (34, .ireturn)]
set_option maxRecDepth 100000 in
theorem kX12_lastIn : chk cX12_lastIn tX12_lastIn = true := by decide +kernel

set_option maxRecDepth 100000 in
set_option maxHeartbeats 2000000 in
theorem c_rli (l : Launch) : ∀ (g : Nat) (r : Nat) (o : Nat) (sv : Nat) (F : Nat → Nat × Nat) (i : Nat) (y : Nat → Nat) (G : Gr) (T : Tr) (W : Nat → Nat), Ct l yX12_lastIn cX12_lastIn 4 (some .int) 0 0 (sp_rli g r o sv F i y G T W) := by
  intro g r o sv F i y G T W
  refine Ct.of (fX12, nX12, aX12, iX12, lX12, [], qX12, gX12, []) false tX12_lastIn (fun _ _ _ => none) (by decide) (by decide) kX12_lastIn ⟨_, _, rfl⟩ fX12_ok nX12_ok aX12_ok iX12_ok lX12_ok (fun _ _ _ _ _ _ _ _ _ _ _ _ _ _ _ _ _ _ => no_all) qX12_ok gX12_ok rfl ?_ ?_
  · rintro _ S ⟨rfl, hp⟩
    refine ⟨Nat.le_of_ble_eq_true rfl, 300, ?_⟩
    show (isO S 13 g ∧ (((mI S 1301 g) ≤ (nI sv) → (([] : List MV) = [] ∧ mret (some .int) (sp_rli g r o sv F i y G T W) [.inr (.inr (some g)), .inr (.inr (some r)), .inl (nI o), .inl (nI sv)] S (some (.inl (-1 : Int32))) S 0 0)) ∧ (¬ (mI S 1301 g) ≤ (nI sv) → (isO S 19 r ∧ inR S r ((nI o) + (nI sv)) ∧ (((eI S r ((nI o) + (nI sv)).toNatClampNeg) ≤ 0 → (([] : List MV) = [] ∧ mret (some .int) (sp_rli g r o sv F i y G T W) [.inr (.inr (some g)), .inr (.inr (some r)), .inl (nI o), .inl (nI sv)] S (some (.inl (-1 : Int32))) S 0 0)) ∧ (¬ (eI S r ((nI o) + (nI sv)).toNatClampNeg) ≤ 0 → (isO S 13 g ∧ (pa (mR S 1305 g) fun a_1 => a_1 ∈ mL S ∧ ¬ mK S a_1 < 21 ∧ mK S a_1 < 29 ∧ inR S a_1 (nI sv) ∧ (isO S 19 r ∧ inR S r ((nI o) + (nI sv)) ∧ (pa (eR S a_1 (nI sv).toNatClampNeg) fun a_2 => ∃ v_3 : Int32, (isO S 17 a_2 ∧ inR S a_2 ((eI S r ((nI o) + (nI sv)).toNatClampNeg) - (1 : Int32)) ∧ v_3 = eI S a_2 ((eI S r ((nI o) + (nI sv)).toNatClampNeg) - (1 : Int32)).toNatClampNeg ∨ a_2 = (mQ S).1 ∧ vp_in ((eI S r ((nI o) + (nI sv)).toNatClampNeg) - (1 : Int32)) 16 ∧ v_3 = mRem ((eI S r ((nI o) + (nI sv)).toNatClampNeg) - (1 : Int32)).toNatClampNeg) ∧ (([] : List MV) = [] ∧ mret (some .int) (sp_rli g r o sv F i y G T W) [.inr (.inr (some g)), .inr (.inr (some r)), .inl (nI o), .inl (nI sv)] S (some (.inl v_3)) S 0 0)))))))))))
    obtain ⟨rfl, h, hw, hs, hle⟩ := hp
    have hnm := h.nm
    have m1 : mI S 1301 (y 0) = nI G.m := (h 2).2.1
    obtain ⟨e1, e2⟩ := hw.el hs
    have e3 := (hw.2.2.2 sv hs).2
    rw [m1, e1]
    refine ⟨(h 0).1, if_le (by omega) (by omega) (fun q => ⟨rfl, trivial, ⟨by rw [lsI, if_neg (fun z => absurd z.1 (by omega))], rfl⟩, Nat.le_refl _, Nat.le_refl _⟩) (fun q => ⟨hw.1, e2, if_le (b := 0) (by omega) (by decide) (fun q1 => ⟨rfl, trivial, ⟨by rw [lsI, if_neg (fun z => absurd z.2 (by omega))], rfl⟩, Nat.le_refl _, Nat.le_refl _⟩) (fun q1 => ⟨(h 0).1, h.g5 hs ⟨hw.1, e2, h.gat hs (j := W sv - 1) (by have := hle sv q; omega) (nI_sub1 q1) ⟨rfl, trivial, ⟨by rw [lsI, if_pos ⟨q, q1⟩], rfl⟩, Nat.le_refl _, Nat.le_refl _⟩⟩⟩)⟩)⟩
  · exact fun _ _ _ _ _ h => by cases h
theorem u_rli (l : Launch) : Us l yX12_lastIn cX12_lastIn 4 (some .int) 0 0 13 T_rli := by
  intro Rc Rs av S cs sl K Kx h
  unfold T_rli at h
  split at h
  · rename_i g_o r_o o_v sv_v
    obtain ⟨g, rfl, h_1⟩ := pa_of h
    obtain ⟨r, rfl, h_2⟩ := pa_of h_1
    obtain ⟨o, rfl, h_3⟩ := h_2
    obtain ⟨sv, rfl, h_4⟩ := h_3
    obtain ⟨F, i, y, G, T, W, hp, hc, hs, hk⟩ := h_4
    refine ⟨(sp_rli g r o sv F i y G T W), c_rli l g r o sv F i y G T W, fun _ _ h9 => ⟨_, _, h9.1, (h9.2.1 ▸ (h9.2.2.1 0).1)⟩, ⟨rfl, hp⟩, hc, hs, fun v9 S' h8 => by
      obtain ⟨h7, h8⟩ := h8
      cases h7
      subst h8
      exact hk, fun _ _ q => q.elim⟩
  · exact h.elim
def fsN (G : Gr) (e s : Nat) : Nat := (G.ev e).pa s + (if s = (G.ev e).sl then 1 else 0)
/-- an event as the reference calls it critical -/
def crR (G : Gr) (e m : Nat) : Prop := ∀ s, s < m → fsN G e s < G.cn s → G.bef e ((evL G s).getD (fsN G e s) 0) = true
def I_ric (g e : Nat) (G : Gr) (S : MM) (k : Nat) : KT := fun lo st S1 cs sl => ∃ j, j ≤ G.m ∧ k = 2 * (G.m - j) + 1 ∧ crR G e j ∧ lo = [(0, .inr (.inr (some g))), (1, .inl (nI e)), (2, .inl (nI j))] ∧ st = [] ∧ S = S1 ∧ cs = 0 ∧ sl = 0
def I_ric2 (g e : Nat) (G : Gr) (S : MM) (k : Nat) : KT := fun lo st S1 cs sl => ∃ j, j < G.m ∧ k = 2 * (G.m - j) ∧ crR G e j ∧ lo = [(0, .inr (.inr (some g))), (1, .inl (nI e)), (2, .inl (nI j)), (3, .inl (nI (fsN G e j)))] ∧ st = [] ∧ S = S1 ∧ cs = 0 ∧ sl = 0
def T_ric : TR := fun Rc Rs av S cs sl K _Kx => match av with
  | [.inr (.inr g_o), .inl e_v] => pa g_o fun g => (∃ (e : Nat), e_v = nI e ∧ (∃ (F : Nat → Nat × Nat) (i : Nat) (y : Nat → Nat) (G : Gr) (T : Tr), (g = y 0 ∧ RG S F i y G T ∧ e < G.n) ∧ cs ≤ Rc ∧ sl ≤ Rs ∧ (K (some (.inl (tf (crR G e G.m)))) S cs sl)))
  | _ => False
def sp_ric (g : Nat) (e : Nat) (F : Nat → Nat × Nat) (i : Nat) (y : Nat → Nat) (G : Gr) (T : Tr) : Sp := (fun av S => av = [.inr (.inr (some g)), .inl (nI e)] ∧ (g = y 0 ∧ RG S F i y G T ∧ e < G.n), fun _ S => 0, fun _ S => 0, fun _ S rv S' => rv = (some (.inl (tf (crR G e G.m)))) ∧ S' = S, fun _ _ _ _ => False)
def tX12_isCritical : CD := [(0, .iconst 0), (1, .istore_n 2), (2, .iload_n 2), (3, .aload_n 0), (4, .getfield 87), (7, .if_icmp .ge 65), (10, .aload_n 0), (11, .getfield 30), (14, .bipush 16), (16, .iload_n 1), (17, .imul), (18, .iload_n 2), (19, .iadd), (20, .saload), (21, .iload_n 2), (22, .aload_n 0), (23, .getfield 23), (26, .iload_n 1), (27, .iaload), (28, .if_icmp .ne 7), (31, .iconst 1), (32, .goto 4), (35, .iconst 0), (36, .iadd), (37, .istore_n 3), (38, .iload_n 3), (39, .aload_n 0), (40, .getfield 15), (43, .iload_n 2), (44, .iaload), (45, .if_icmp .ge 21), (48, .aload_n 0), (49, .iload_n 1), (50, .aload_n 0), (51, .getfield 20), (54, .iload_n 2), (55, .aaload), (56, .iload_n 3), (57, .iaload), (58, .invokevirtual 148), (61, .ifCond .ne 5), (64, .iconst 0), (65, .ireturn), (66, .iinc 2 1), (69, .goto (-67)), (72, .iconst 1), (73, .ireturn)]
set_option maxRecDepth 100000 in
theorem kX12_isCritical : chk cX12_isCritical tX12_isCritical = true := by decide +kernel
theorem vX12_isCritical_148 : ∀ w ∈ ([.methodLink RX12 148 yX12_isBefore, .instanceMethod yX12_isBefore, .selects yX12_isBefore.cls yX12_isBefore yX12_isBefore, .initialized yX12_isBefore.cls, .code yX12_isBefore cX12_isBefore 3 (some .boolean)] : List Cond), w ∈ lw_good := List.forall_mem_cons.mpr ⟨mgd 2150 (by decide +kernel) (by decide +kernel), List.forall_mem_cons.mpr ⟨mgd 2151 (by decide +kernel) (by decide +kernel), List.forall_mem_cons.mpr ⟨mgd 2152 (by decide +kernel) (by decide +kernel), List.forall_mem_cons.mpr ⟨mgd 138 (by decide +kernel) (by decide +kernel), List.forall_mem_cons.mpr ⟨mgd 2153 (by decide +kernel) (by decide +kernel), fun _ h => absurd h List.not_mem_nil⟩⟩⟩⟩⟩
set_option maxRecDepth 100000 in
set_option maxHeartbeats 2000000 in
theorem c_ric (l : Launch) : ∀ (g : Nat) (e : Nat) (F : Nat → Nat × Nat) (i : Nat) (y : Nat → Nat) (G : Gr) (T : Tr), Ct l yX12_isCritical cX12_isCritical 4 (some .boolean) 1 22 (sp_ric g e F i y G T) := by
  intro g e F i y G T
  refine Ct.of (fX12, nX12, aX12, iX12, lX12, [(148, 0, 3, 1, T_rib)], qX12, gX12, []) false tX12_isCritical (fun _ S => look [(2, ([0,1,2], I_ric g e G S)), (38, ([0,1,2,3], I_ric2 g e G S))]) (by decide) (by decide) kX12_isCritical ⟨_, _, rfl⟩ fX12_ok nX12_ok aX12_ok iX12_ok lX12_ok (fun p e R s m args below meth c Q D cy z r A C hR1 hR2 => List.forall_mem_cons.mpr ⟨cOK_use (fun _ _ _ _ _ _ _ _ h => let ⟨sp, h1, h2, h3⟩ := u_rib l _ _ _ _ _ _ _ _ h; ⟨sp, cOK_V C h1 vX12_isCritical_148 ⟨by decide, by decide, by decide +kernel⟩ ⟨by rw [hR1]; decide, by rw [hR2]; decide⟩ (k := 13) (T := TX12) (N := 27) rfl (by decide) h2, h3⟩), fun _ h => absurd h List.not_mem_nil⟩) qX12_ok gX12_ok rfl ?_ ?_
  · rintro _ S ⟨rfl, hp⟩
    refine ⟨Nat.le_of_ble_eq_true rfl, 300, ?_⟩
    show (∃ k1, I_ric g e G S k1 [(0, .inr (.inr (some g))), (1, .inl (nI e)), (2, .inl (0 : Int32))] [] S 0 0)
    obtain ⟨rfl, h⟩ := hp
    exact ⟨_, 0, Nat.zero_le _, rfl, fun s hs => absurd hs (Nat.not_lt_zero s), rfl, rfl, rfl, rfl, rfl⟩
  · intro av S hpre pc I hI k lo st S1 cs sl h
    obtain ⟨rfl, hp⟩ := hpre
    have hm := look_in hI
    simp only [List.mem_cons, List.not_mem_nil, or_false] at hm
    rcases hm with hm | hm
    · cases hm
      obtain ⟨j, hj, rfl, hA, rfl, rfl, rfl, rfl, rfl⟩ := h
      refine ⟨300, ?_⟩
      show (isO S 13 g ∧ (((mI S 1301 g) ≤ (nI j) → (([] : List MV) = [] ∧ mret (some .boolean) (sp_ric g e F i y G T) [.inr (.inr (some g)), .inl (nI e)] S (some (.inl (1 : Int32))) S 0 0)) ∧ (¬ (mI S 1301 g) ≤ (nI j) → (isO S 13 g ∧ (pa (mR S 1308 g) fun a_1 => isO S 19 a_1 ∧ inR S a_1 (((16 : Int32) * (nI e)) + (nI j)) ∧ (isO S 13 g ∧ (pa (mR S 1306 g) fun a_2 => ∃ v_3 : Int32, (isO S 17 a_2 ∧ inR S a_2 (nI e) ∧ v_3 = eI S a_2 (nI e).toNatClampNeg ∨ a_2 = (mQ S).1 ∧ vp_in (nI e) 16 ∧ v_3 = mRem (nI e).toNatClampNeg) ∧ ((¬ (nI j) = v_3 → (∃ k1, k1 < (2 * (G.m - j) + 1) ∧ I_ric2 g e G S k1 [(0, .inr (.inr (some g))), (1, .inl (nI e)), (2, .inl (nI j)), (3, .inl ((eI S a_1 (((16 : Int32) * (nI e)) + (nI j)).toNatClampNeg) + (0 : Int32)))] [] S 0 0)) ∧ ((nI j) = v_3 → (∃ k1, k1 < (2 * (G.m - j) + 1) ∧ I_ric2 g e G S k1 [(0, .inr (.inr (some g))), (1, .inl (nI e)), (2, .inl (nI j)), (3, .inl ((eI S a_1 (((16 : Int32) * (nI e)) + (nI j)).toNatClampNeg) + (1 : Int32)))] [] S 0 0))))))))))
      obtain ⟨rfl, h, he⟩ := hp
      have hnm := h.nm
      have hs1 := h.ok.sl1 e he
      have m1 : mI S 1301 (y 0) = nI G.m := (h 2).2.1
      rw [m1]
      refine ⟨(h 0).1, if_le (by omega) (by omega) (fun q => ⟨rfl, rt1, ⟨ret_t (fun s hs => hA s (by omega)) rfl, rfl⟩, Nat.le_refl _, Nat.le_refl _⟩) (fun q => ⟨(h 0).1, pa_i h.r8.1 ⟨h.r8.2.1, (h.epa he (show j < 16 by omega)).2, (h 0).1, h.g6 he ?_⟩⟩)⟩
      rw [(h.epa he (show j < 16 by omega)).1]
      refine ⟨fun w => ⟨_, ?_, j, q, rfl, hA, ?_, rfl, rfl, rfl, rfl⟩, fun w => ⟨_, ?_, j, q, rfl, hA, ?_, rfl, rfl, rfl, rfl⟩⟩
      · omega
      · rw [fsN, if_neg (fun z => w (by rw [z])), Int32.add_zero]; rfl
      · omega
      · rw [fsN, if_pos ((nI_eq (by omega) (by omega)).1 w), nI_1]
    · cases hm
      obtain ⟨j, hj, rfl, hA, rfl, rfl, rfl, rfl, rfl⟩ := h
      refine ⟨300, ?_⟩
      show (isO S 13 g ∧ (pa (mR S 1304 g) fun a_1 => ∃ v_2 : Int32, (isO S 17 a_1 ∧ inR S a_1 (nI j) ∧ v_2 = eI S a_1 (nI j).toNatClampNeg ∨ a_1 = (mQ S).1 ∧ vp_in (nI j) 16 ∧ v_2 = mRem (nI j).toNatClampNeg) ∧ ((v_2 ≤ (nI (fsN G e j)) → (∃ k1, k1 < (2 * (G.m - j)) ∧ I_ric g e G S k1 [(0, .inr (.inr (some g))), (1, .inl (nI e)), (2, .inl ((nI j) + (1 : Int32)))] [] S 0 0)) ∧ (¬ v_2 ≤ (nI (fsN G e j)) → (isO S 13 g ∧ (pa (mR S 1305 g) fun a_3 => a_3 ∈ mL S ∧ ¬ mK S a_3 < 21 ∧ mK S a_3 < 29 ∧ inR S a_3 (nI j) ∧ (pa (eR S a_3 (nI j).toNatClampNeg) fun a_4 => ∃ v_5 : Int32, (isO S 17 a_4 ∧ inR S a_4 (nI (fsN G e j)) ∧ v_5 = eI S a_4 (nI (fsN G e j)).toNatClampNeg ∨ a_4 = (mQ S).1 ∧ vp_in (nI (fsN G e j)) 16 ∧ v_5 = mRem (nI (fsN G e j)).toNatClampNeg) ∧ (0 = 0 ∧ (∃ (e_6 : Nat), nI e = nI e_6 ∧ (∃ (f_7 : Nat), v_5 = nI f_7 ∧ (∃ (F_8 : Nat → Nat × Nat) (i_9 : Nat) (y_10 : Nat → Nat) (G_11 : Gr) (T_12 : Tr), (g = y_10 0 ∧ RG S F_8 i_9 y_10 G_11 T_12 ∧ e_6 < G_11.n ∧ f_7 < G_11.n) ∧ 0 ≤ 0 ∧ 0 ≤ 0 ∧ (((¬ (bI (G_11.bef e_6 f_7)) = 0 → (∃ k1, k1 < (2 * (G.m - j)) ∧ I_ric g e G S k1 [(0, .inr (.inr (some g))), (1, .inl (nI e)), (2, .inl ((nI j) + (1 : Int32)))] [] S 0 0)) ∧ ((bI (G_11.bef e_6 f_7)) = 0 → (([] : List MV) = [] ∧ mret (some .boolean) (sp_ric g e F i y G T) [.inr (.inr (some g)), .inl (nI e)] S (some (.inl (0 : Int32))) S 0 0)))))))))))))))
      obtain ⟨rfl, h, he⟩ := hp
      have hnm := h.nm
      have hcl := cn_le h.ok j
      have hpl := pa_le h.ok he j
      have hfl : fsN G e j ≤ 8193 := by unfold fsN; split <;> omega
      refine ⟨(h 0).1, h.g4 hj (if_le (by omega) (by omega) (fun q => ⟨2 * (G.m - (j + 1)) + 1, by omega, j + 1, hj, rfl, ?_, by rw [nI_1], rfl, rfl, rfl, rfl⟩) (fun q => ⟨(h 0).1, h.g5 (by omega) (h.gat (by omega) q rfl ⟨rfl, e, rfl, _, rfl, F, i, y, G, T, ⟨rfl, h, he, (evL_gt q).1⟩, Nat.le_refl _, Nat.le_refl _, ?_⟩)⟩))⟩
      · intro s hs hc
        by_cases z : s = j
        · subst z; omega
        · exact hA s (by omega) hc
      · refine ⟨fun w => ⟨2 * (G.m - (j + 1)) + 1, by omega, j + 1, hj, rfl, fun s hs hc => ?_, by rw [nI_1], rfl, rfl, rfl, rfl⟩, fun w => ⟨rfl, rt0, ⟨ret_f (fun z => ?_) rfl, rfl⟩, Nat.le_refl _, Nat.le_refl _⟩⟩
        · by_cases z : s = j
          · subst z
            rw [bI_0, Bool.not_eq_false] at w
            exact w
          · exact hA s (by omega) hc
        · rw [bI_0, z j hj q] at w
          cases w
theorem u_ric (l : Launch) : Us l yX12_isCritical cX12_isCritical 4 (some .boolean) 1 22 13 T_ric := by
  intro Rc Rs av S cs sl K Kx h
  unfold T_ric at h
  split at h
  · rename_i g_o e_v
    obtain ⟨g, rfl, h_1⟩ := pa_of h
    obtain ⟨e, rfl, h_2⟩ := h_1
    obtain ⟨F, i, y, G, T, hp, hc, hs, hk⟩ := h_2
    refine ⟨(sp_ric g e F i y G T), c_ric l g e F i y G T, fun _ _ h9 => ⟨_, _, h9.1, (h9.2.1 ▸ (h9.2.2.1 0).1)⟩, ⟨rfl, hp⟩, hc, hs, fun v9 S' h8 => by
      obtain ⟨h7, h8⟩ := h8
      cases h7
      subst h8
      exact hk, fun _ _ q => q.elim⟩
  · exact h.elim
theorem dlC_cg {S S' : MM} {r : Nat} (e : eI S' r = eI S r) : ∀ {L : List Nat}, dlC S r L → dlC S' r L
  | [], _ => trivial
  | k :: L, h => ⟨by rw [e]; exact h.1, dlC_cg e h.2⟩
theorem RG.keep {S S' : MM} {F : Nat → Nat × Nat} {i : Nat} {y : Nat → Nat} {G : Gr} {T : Tr} {P : Nat → Prop} (h : RG S F i y G T) (hk : Keep P S S') (hP : ∀ b, (F b).1 = i → ¬ P b) : RG S' F i y G T := by
  have q0 := (h 0).1
  have k0 := hk.2.1 (y 0) q0.1 (hP _ (by rw [(h 0).2]))
  have row : ∀ k, 3 ≤ k → k ≤ 25 → k ≠ 17 → eI S' (y k) = eI S (y k) ∧ eR S' (y k) = eR S (y k) := fun k a b c => by
    have r := h 1 k a b c
    have z := hk.2.1 (y k) r.2.2.1.1 (hP _ (by rw [r.2.1]))
    exact ⟨z.2.2.2.1, z.2.2.2.2.2⟩
  have rat : ∀ s, s < 16 → eI S' (y (100 + s)) = eI S (y (100 + s)) ∧ mN S' (y (100 + s)) = mN S (y (100 + s)) := fun s hs => by
    have r := h 4 s hs
    have z := hk.2.1 (y (100 + s)) r.2.1.1 (hP _ (by rw [r.2.2.1]))
    exact ⟨z.2.2.2.1, (hk.1 _ r.2.1.1).2.2⟩
  have e3 := (row 3 (by decide) (by decide) (by decide)).1
  have e4 := (row 4 (by decide) (by decide) (by decide)).1
  have e5 := (row 5 (by decide) (by decide) (by decide)).2
  have e6 := (row 6 (by decide) (by decide) (by decide)).1
  have e7 := (row 7 (by decide) (by decide) (by decide)).1
  have e8 := (row 8 (by decide) (by decide) (by decide)).1
  have e9 := (row 9 (by decide) (by decide) (by decide)).1
  have e10 := (row 10 (by decide) (by decide) (by decide)).1
  have e11 := (row 11 (by decide) (by decide) (by decide)).1
  have e13 := (row 13 (by decide) (by decide) (by decide)).1
  have e14 := (row 14 (by decide) (by decide) (by decide)).1
  have e15 := (row 15 (by decide) (by decide) (by decide)).1
  have e18 := (row 18 (by decide) (by decide) (by decide)).1
  have e19 := (row 19 (by decide) (by decide) (by decide)).1
  have e20 := (row 20 (by decide) (by decide) (by decide)).1
  have e21 := (row 21 (by decide) (by decide) (by decide)).1
  intro j
  match j with
  | 0 => exact ⟨hk.isO q0, (h 0).2⟩
  | 1 => exact fun k a b c => ⟨(k0.2.1 _).trans (h 1 k a b c).1, (h 1 k a b c).2.1, hk.isO (h 1 k a b c).2.2.1, (hk.1 _ (h 1 k a b c).2.2.1.1).2.2.trans (h 1 k a b c).2.2.2⟩
  | 2 => exact ⟨(k0.1 _).trans (h 2).1, (k0.1 _).trans (h 2).2.1, (k0.1 _).trans (h 2).2.2⟩
  | 3 => exact fun s hs => by rw [e3, e4]; exact h 3 s hs
  | 4 =>
      intro s hs
      obtain ⟨c1, c2, c3, c4, c5, c6⟩ := h 4 s hs
      rw [e5, (rat s hs).1, (rat s hs).2]
      exact ⟨c1, hk.isO c2, c3, c4, c5, c6⟩
  | 5 => exact fun k a => by rw [e6, e7, e8, e10]; exact h 5 k a
  | 6 => exact fun k a => by rw [e9, e11, e18]; exact h 6 k a
  | 7 => exact fun k a => by rw [e21]; exact h 7 k a
  | 8 => exact ⟨fun k a => by rw [e13]; exact (h 8).1 k a, fun k a => by rw [e14, e15]; exact (h 8).2 k a⟩
  | 9 => exact (k0.1 _).trans (h 9)
  | 10 => exact fun k a => by rw [e20]; exact ⟨(h 10 k a).1, dlC_cg e19 (h 10 k a).2⟩
  | 11 => exact h 11
  | 12 =>
    intro s hs
    rw [e4, (rat s hs).2]
    exact h 12 s hs
  | n + 13 => trivial
theorem sh16 {c : Nat} (h : c ≤ 32767) : (nI c).toInt16.toInt32 = nI c := by
  apply Int32.toInt_inj.1
  rw [Int16.toInt_toInt32, Int32.toInt_toInt16, nI_toInt (by omega)]
  exact Int.bmod_eq_of_le (by omega) (by omega)
theorem sh32 {c : Nat} (h : c ≤ 32767) : (nI c).toInt16.toInt32.toInt16.toInt32 = nI c := by rw [sh16 h, sh16 h]
def I_rall (g r : Nat) (G : Gr) (S : MM) (k : Nat) : KT := fun lo st S1 cs sl => ∃ j, j + k = 16 ∧ (∀ s, s < j → eI S1 r s = nI (G.cn s)) ∧ Keep (fun c => c = r) S S1 ∧ lo = [(0, .inr (.inr (some g))), (1, .inr (.inr (some r))), (2, .inl (nI j))] ∧ st = [] ∧ cs = 0 ∧ sl = 0
theorem cn_0 {G : Gr} (h : G.ok) {s : Nat} (hs : G.m ≤ s) : G.cn s = 0 := by
  rw [← evL_len]
  have : evL G s = [] := List.filter_eq_nil_iff.2 (fun k hk w => by
    have := h.sl1 k (List.mem_range.1 hk)
    have := of_decide_eq_true w
    omega)
  rw [this]; rfl
def T_rall : TR := fun Rc Rs av S cs sl K _Kx => match av with
  | [.inr (.inr g_o), .inr (.inr r_o)] => pa g_o fun g => (pa r_o fun r => (∃ (F : Nat → Nat × Nat) (i : Nat) (y : Nat → Nat) (G : Gr) (T : Tr), (g = y 0 ∧ RG S F i y G T ∧ isO S 19 r ∧ mN S r = 16 ∧ (F r).1 ≠ i) ∧ cs ≤ Rc ∧ sl ≤ Rs ∧ (∀ (S' : MM), (StR S' r 0 G.cn ∧ Keep (fun c => c = r) S S') → K none S' cs sl)))
  | _ => False
def sp_rall (g : Nat) (r : Nat) (F : Nat → Nat × Nat) (i : Nat) (y : Nat → Nat) (G : Gr) (T : Tr) : Sp := (fun av S => av = [.inr (.inr (some g)), .inr (.inr (some r))] ∧ (g = y 0 ∧ RG S F i y G T ∧ isO S 19 r ∧ mN S r = 16 ∧ (F r).1 ≠ i), fun _ S => 0, fun _ S => 0, fun _ S rv S' => rv = none ∧ (StR S' r 0 G.cn ∧ Keep (fun c => c = r) S S'), fun _ _ _ _ => False)
def tX12_all : CD := [(0, .iconst 0), (1, .istore_n 2), (2, .iload_n 2), (3, .bipush 16), (5, .if_icmp .ge 31), (8, .aload_n 1), (9, .iload_n 2), (10, .iload_n 2), (11, .aload_n 0), (12, .getfield 87), (15, .if_icmp .ge 12), (18, .aload_n 0), (19, .getfield 15), (22, .iload_n 2), (23, .iaload), (24, .goto 4), (27, .iconst 0), (28, .i2s), (29, .sastore), (30, .iinc 2 1), (33, .goto (-31)), (36, .return_)]
set_option maxRecDepth 100000 in
theorem kX12_all : chk cX12_all tX12_all = true := by decide +kernel

set_option maxRecDepth 100000 in
set_option maxHeartbeats 2000000 in
theorem c_rall (l : Launch) : ∀ (g : Nat) (r : Nat) (F : Nat → Nat × Nat) (i : Nat) (y : Nat → Nat) (G : Gr) (T : Tr), Ct l yX12_all cX12_all 3 none 0 0 (sp_rall g r F i y G T) := by
  intro g r F i y G T
  refine Ct.of (fX12, nX12, aX12, iX12, lX12, [], qX12, gX12, []) false tX12_all (fun _ S => look [(2, ([0,1,2], I_rall g r G S))]) (by decide) (by decide) kX12_all ⟨_, _, rfl⟩ fX12_ok nX12_ok aX12_ok iX12_ok lX12_ok (fun _ _ _ _ _ _ _ _ _ _ _ _ _ _ _ _ _ _ => no_all) qX12_ok gX12_ok rfl ?_ ?_
  · rintro _ S ⟨rfl, hp⟩
    refine ⟨Nat.le_of_ble_eq_true rfl, 300, ?_⟩
    show (∃ k1, I_rall g r G S k1 [(0, .inr (.inr (some g))), (1, .inr (.inr (some r))), (2, .inl (0 : Int32))] [] S 0 0)
    exact ⟨16, 0, rfl, fun s hs => absurd hs (Nat.not_lt_zero s), Keep.rf, rfl, rfl, rfl, rfl⟩
  · intro av S hpre pc I hI k lo st S1 cs sl h
    obtain ⟨rfl, hp⟩ := hpre
    have hm := look_in hI
    rw [List.mem_singleton] at hm
    cases hm
    obtain ⟨j, hj, hA, hK, rfl, rfl, rfl, rfl⟩ := h
    refine ⟨300, ?_⟩
    show (((16 : Int32) ≤ (nI j) → (([] : List MV) = [] ∧ mret none (sp_rall g r F i y G T) [.inr (.inr (some g)), .inr (.inr (some r))] S none S1 0 0)) ∧ (¬ (16 : Int32) ≤ (nI j) → (isO S1 13 g ∧ (((mI S1 1301 g) ≤ (nI j) → (isO S1 19 r ∧ inR S1 r (nI j) ∧ (∃ k1, k1 < k ∧ I_rall g r G S k1 [(0, .inr (.inr (some g))), (1, .inr (.inr (some r))), (2, .inl ((nI j) + (1 : Int32)))] [] (rI S1 r (upd (eI S1 r) (nI j).toNatClampNeg (((0 : Int32).toInt16.toInt32).toInt16.toInt32))) 0 0))) ∧ (¬ (mI S1 1301 g) ≤ (nI j) → (isO S1 13 g ∧ (pa (mR S1 1304 g) fun a_1 => ∃ v_2 : Int32, (isO S1 17 a_1 ∧ inR S1 a_1 (nI j) ∧ v_2 = eI S1 a_1 (nI j).toNatClampNeg ∨ a_1 = (mQ S1).1 ∧ vp_in (nI j) 16 ∧ v_2 = mRem (nI j).toNatClampNeg) ∧ (isO S1 19 r ∧ inR S1 r (nI j) ∧ (∃ k1, k1 < k ∧ I_rall g r G S k1 [(0, .inr (.inr (some g))), (1, .inr (.inr (some r))), (2, .inl ((nI j) + (1 : Int32)))] [] (rI S1 r (upd (eI S1 r) (nI j).toNatClampNeg v_2.toInt16.toInt32.toInt16.toInt32)) 0 0)))))))))
    obtain ⟨rfl, h0, hr, hN, hF⟩ := hp
    have h := h0.keep hK (fun b hb e => hF (e ▸ hb))
    have hnm := h.nm
    have m1 : mI S1 1301 (y 0) = nI G.m := (h 2).2.1
    have r1 := hK.isO hr
    have r2 : mN S1 r = 16 := (hK.1 r hr.1).2.2.trans hN
    have nx : ∀ v : Int32, v = nI (G.cn j) → j < 16 → ∃ k1, k1 < k ∧ I_rall (y 0) r G S k1 [(0, Sum.inr (Sum.inr (some (y 0)))), (1, Sum.inr (Sum.inr (some r))), (2, Sum.inl (nI j + 1))] [] (rI S1 r (upd (eI S1 r) (nI j).toNatClampNeg v)) 0 0 := by
      rintro _ rfl q
      refine ⟨k - 1, by omega, j + 1, by omega, fun s hs => ?_, hK.rI rfl, by rw [nI_1], rfl, rfl, rfl⟩
      rw [eI_rI, if_pos rfl, nI_clamp (by omega), upd]
      by_cases z : s = j
      · rw [if_pos z, z]
      · rw [if_neg z]; exact hA s (by omega)
    rw [m1, show (16 : Int32) = nI 16 from rfl]
    refine if_le (by decide) (by omega) (fun q => ⟨rfl, trivial, ⟨rfl, ⟨r1, by omega, by omega, fun s hs => ?_⟩, hK⟩, Nat.le_refl _, Nat.le_refl _⟩) (fun q => ⟨(h 0).1, if_le (by omega) (by omega) (fun w => ⟨r1, inRn r2 (by omega) (by decide), nx _ ?_ q⟩) (fun w => ⟨(h 0).1, h.g4 w ⟨r1, inRn r2 (by omega) (by decide), nx _ (sh32 (by have := cn_le h.ok j; omega)) q⟩⟩)⟩)
    · rw [Nat.zero_add]
      exact ⟨hA s (by omega), cn_le h.ok s⟩
    · rw [cn_0 h.ok w]; decide
theorem u_rall (l : Launch) : Us l yX12_all cX12_all 3 none 0 0 13 T_rall := by
  intro Rc Rs av S cs sl K Kx h
  unfold T_rall at h
  split at h
  · rename_i g_o r_o
    obtain ⟨g, rfl, h_1⟩ := pa_of h
    obtain ⟨r, rfl, h_2⟩ := pa_of h_1
    obtain ⟨F, i, y, G, T, hp, hc, hs, hk⟩ := h_2
    refine ⟨(sp_rall g r F i y G T), c_rall l g r F i y G T, fun _ _ h9 => ⟨_, _, h9.1, (h9.2.1 ▸ (h9.2.2.1 0).1)⟩, ⟨rfl, hp⟩, hc, hs, fun S' h8 => by
      obtain ⟨-, h8⟩ := h8
      exact hk _ h8, fun _ _ q => q.elim⟩
  · exact h.elim
