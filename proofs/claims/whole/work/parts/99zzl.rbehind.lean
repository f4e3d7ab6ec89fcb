/-! ===== The reference: isIn, behind ===== -/
def knO (S : MM) (r : Option Nat) (Ko : Option (Nat → Nat)) : Prop := (r = none ∧ Ko = none) ∨ ∃ a K, r = some a ∧ Ko = some K ∧ isO S 17 a ∧ mN S a = 256 ∧ ∀ j, j < 256 → eI S a j = nI (K j) ∧ K j < 2147483648
def isK (G : Gr) (Ko : Option (Nat → Nat)) (e : Nat) : Bool := match Ko with
  | none => false
  | some K => decide ((G.ev e).nu < K (G.ag (G.ev e).sl))
def T_rii : TR := fun Rc Rs av S cs sl K _Kx => match av with
  | [.inr (.inr g_o), .inl e_v, .inr (.inr r)] => pa g_o fun g => (∃ (e : Nat), e_v = nI e ∧ (∃ (F : Nat → Nat × Nat) (i : Nat) (y : Nat → Nat) (G : Gr) (T : Tr) (Ko : Option (Nat → Nat)), (g = y 0 ∧ RG S F i y G T ∧ e < G.n ∧ knO S r Ko) ∧ cs ≤ Rc ∧ sl ≤ Rs ∧ (K (some (.inl (bI (isK G Ko e)))) S cs sl)))
  | _ => False
def sp_rii (g : Nat) (e : Nat) (r : Option Nat) (F : Nat → Nat × Nat) (i : Nat) (y : Nat → Nat) (G : Gr) (T : Tr) (Ko : Option (Nat → Nat)) : Sp := (fun av S => av = [.inr (.inr (some g)), .inl (nI e), .inr (.inr r)] ∧ (g = y 0 ∧ RG S F i y G T ∧ e < G.n ∧ knO S r Ko), fun _ S => 0, fun _ S => 0, fun _ S rv S' => rv = (some (.inl (bI (isK G Ko e)))) ∧ S' = S, fun _ _ _ _ => False)
def tX14_isIn : CD := [(0, .aload_n 2), (1, .ifnull 29), (4, .aload_n 0), (5, .getfield 271), (8, .iload_n 1), (9, .iaload), (10, .aload_n 2), (11, .aload_n 0), (12, .getfield 265), (15, .aload_n 0), (16, .getfield 268), (19, .iload_n 1), (20, .iaload), (21, .iaload), (22, .iaload), (23, .if_icmp .ge 7), (26, .iconst 1), (27, .goto 4), (30, .iconst 0), (31, .ireturn)]
set_option maxRecDepth 100000 in
theorem kX14_isIn : chk cX14_isIn tX14_isIn = true := by decide +kernel

set_option maxRecDepth 100000 in
set_option maxHeartbeats 2000000 in
theorem c_rii (l : Launch) : ∀ (g : Nat) (e : Nat) (r : Option Nat) (F : Nat → Nat × Nat) (i : Nat) (y : Nat → Nat) (G : Gr) (T : Tr) (Ko : Option (Nat → Nat)), Ct l yX14_isIn cX14_isIn 3 (some .boolean) 0 0 (sp_rii g e r F i y G T Ko) := by
  intro g e r F i y G T Ko
  refine Ct.of (fX14, nX14, aX14, iX14, lX14, [], qX14, gX14, []) false tX14_isIn (fun _ _ _ => none) (by decide) (by decide) kX14_isIn ⟨_, _, rfl⟩ fX14_ok nX14_ok aX14_ok iX14_ok lX14_ok (fun _ _ _ _ _ _ _ _ _ _ _ _ _ _ _ _ _ _ => no_all) qX14_ok gX14_ok rfl ?_ ?_
  · rintro _ S ⟨rfl, hp⟩
    refine ⟨Nat.le_of_ble_eq_true rfl, 300, ?_⟩
    show ((r = none → (([] : List MV) = [] ∧ mret (some .boolean) (sp_rii g e r F i y G T Ko) [.inr (.inr (some g)), .inl (nI e), .inr (.inr r)] S (some (.inl (0 : Int32))) S 0 0)) ∧ (∀ w_1, r = some w_1 → (isO S 13 g ∧ (pa (mR S 1307 g) fun a_2 => ∃ v_3 : Int32, (isO S 17 a_2 ∧ inR S a_2 (nI e) ∧ v_3 = eI S a_2 (nI e).toNatClampNeg ∨ a_2 = (mQ S).1 ∧ vp_in (nI e) 16 ∧ v_3 = mRem (nI e).toNatClampNeg) ∧ (isO S 13 g ∧ (isO S 13 g ∧ (pa (mR S 1306 g) fun a_4 => ∃ v_5 : Int32, (isO S 17 a_4 ∧ inR S a_4 (nI e) ∧ v_5 = eI S a_4 (nI e).toNatClampNeg ∨ a_4 = (mQ S).1 ∧ vp_in (nI e) 16 ∧ v_5 = mRem (nI e).toNatClampNeg) ∧ (pa (mR S 1303 g) fun a_6 => ∃ v_7 : Int32, (isO S 17 a_6 ∧ inR S a_6 v_5 ∧ v_7 = eI S a_6 v_5.toNatClampNeg ∨ a_6 = (mQ S).1 ∧ vp_in v_5 16 ∧ v_7 = mRem v_5.toNatClampNeg) ∧ (pa r fun a_8 => ∃ v_9 : Int32, (isO S 17 a_8 ∧ inR S a_8 v_7 ∧ v_9 = eI S a_8 v_7.toNatClampNeg ∨ a_8 = (mQ S).1 ∧ vp_in v_7 16 ∧ v_9 = mRem v_7.toNatClampNeg) ∧ ((v_9 ≤ v_3 → (([] : List MV) = [] ∧ mret (some .boolean) (sp_rii g e r F i y G T Ko) [.inr (.inr (some g)), .inl (nI e), .inr (.inr r)] S (some (.inl (0 : Int32))) S 0 0)) ∧ (¬ v_9 ≤ v_3 → (([] : List MV) = [] ∧ mret (some .boolean) (sp_rii g e r F i y G T Ko) [.inr (.inr (some g)), .inl (nI e), .inr (.inr r)] S (some (.inl (1 : Int32))) S 0 0))))))))))))
    obtain ⟨rfl, h, he, hk⟩ := hp
    have hnm := h.nm
    rcases hk with ⟨rfl, rfl⟩ | ⟨a, K, rfl, rfl, k1, k2, k3⟩
    · exact ⟨fun _ => ⟨rfl, rt0, ⟨rfl, rfl⟩, Nat.le_refl _, Nat.le_refl _⟩, fun w e => by cases e⟩
    · refine ⟨fun e9 => (by cases e9), fun w9 e9 => ?_⟩
      have hs := h.ok.sl1 e he
      have hnu := Gr.nu_cn h.ok he
      have hcn := cn_le h.ok (G.ev e).sl
      have hag := h.ok.ag1 _ hs
      obtain ⟨q1, q2⟩ := k3 _ hag
      refine ⟨(h 0).1, h.g7 he ⟨(h 0).1, (h 0).1, h.g6 he (h.g3 hs (pa_i rfl ⟨nI (K (G.ag (G.ev e).sl)), Or.inl ⟨k1, inRn k2 hag (by decide), by rw [nI_clamp (by omega)]; exact q1.symm⟩, ?_⟩))⟩⟩
      refine if_le q2 (by omega) (fun w => ⟨rfl, rt0, ⟨?_, rfl⟩, Nat.le_refl _, Nat.le_refl _⟩) (fun w => ⟨rfl, rt1, ⟨?_, rfl⟩, Nat.le_refl _, Nat.le_refl _⟩)
      · have e1 : isK G (some K) e = false := decide_eq_false (by omega)
        rw [e1]; rfl
      · have e1 : isK G (some K) e = true := decide_eq_true w
        rw [e1]; rfl
  · exact fun _ _ _ _ _ h => by cases h
theorem u_rii (l : Launch) : Us l yX14_isIn cX14_isIn 3 (some .boolean) 0 0 99 T_rii := by
  intro Rc Rs av S cs sl K Kx h
  unfold T_rii at h
  split at h
  · rename_i g_o e_v r
    obtain ⟨g, rfl, h_1⟩ := pa_of h
    obtain ⟨e, rfl, h_2⟩ := h_1
    obtain ⟨F, i, y, G, T, Ko, hp, hc, hs, hk⟩ := h_2
    refine ⟨(sp_rii g e r F i y G T Ko), c_rii l g e r F i y G T Ko, fun _ _ _ => trivial, ⟨rfl, hp⟩, hc, hs, fun v9 S' h8 => by
      obtain ⟨h7, h8⟩ := h8
      cases h7
      subst h8
      exact hk, fun _ _ q => q.elim⟩
  · exact h.elim
def bhV (G : Gr) (Ko : Option (Nat → Nat)) (x f : Nat) : Prop := x ≤ f ∧ f ≤ G.n ∧ (∀ k, x ≤ k → k < f → isK G Ko k = true) ∧ (f < G.n → isK G Ko f = false)
def I_rbh (g x : Nat) (r : Option Nat) (G : Gr) (Ko : Option (Nat → Nat)) (S : MM) (k : Nat) : KT := fun lo st S1 cs sl => ∃ f, f + k = G.n ∧ x ≤ f ∧ (∀ k, x ≤ k → k < f → isK G Ko k = true) ∧ lo = [(0, .inr (.inr (some g))), (2, .inr (.inr r)), (3, .inl (nI f))] ∧ st = [] ∧ S = S1 ∧ cs = 0 ∧ sl = 0
def T_rbh : TR := fun Rc Rs av S cs sl K _Kx => match av with
  | [.inr (.inr g_o), .inl ev, .inr (.inr r)] => pa g_o fun g => (∃ (F : Nat → Nat × Nat) (i : Nat) (y : Nat → Nat) (G : Gr) (T : Tr) (Ko : Option (Nat → Nat)) (x : Nat), (g = y 0 ∧ RG S F i y G T ∧ knO S r Ko ∧ ev + 1 = nI x ∧ x ≤ G.n) ∧ cs ≤ Rc ∧ sl ≤ Rs ∧ (∀ (v : Int32), (∃ f, v = nI f ∧ bhV G Ko x f) → K (some (.inl v)) S cs sl))
  | _ => False
def sp_rbh (g : Nat) (ev : Int32) (r : Option Nat) (F : Nat → Nat × Nat) (i : Nat) (y : Nat → Nat) (G : Gr) (T : Tr) (Ko : Option (Nat → Nat)) (x : Nat) : Sp := (fun av S => av = [.inr (.inr (some g)), .inl ev, .inr (.inr r)] ∧ (g = y 0 ∧ RG S F i y G T ∧ knO S r Ko ∧ ev + 1 = nI x ∧ x ≤ G.n), fun _ S => 0, fun _ S => 0, fun _ S rv S' => ∃ v, rv = (some (.inl v)) ∧ (∃ f, v = nI f ∧ bhV G Ko x f) ∧ S' = S, fun _ _ _ _ => False)
def tX14_behind : CD := [(0, .iload_n 1), (1, .iconst 1), (2, .iadd), (3, .istore_n 3), (4, .iload_n 3), (5, .aload_n 0), (6, .getfield 173), (9, .if_icmp .ge 18), (12, .aload_n 0), (13, .iload_n 3), (14, .aload_n 2), (15, .invokestatic 335), (18, .ifCond .eq 9), (21, .iinc 3 1), (24, .goto (-20)), (27, .iload_n 3), (28, .ireturn)]
set_option maxRecDepth 100000 in
theorem kX14_behind : chk cX14_behind tX14_behind = true := by decide +kernel
theorem vX14_behind_335 : ∀ w ∈ ([.methodLink RX14 335 yX14_isIn, .static yX14_isIn, .initialized yX14_isIn.cls, .code yX14_isIn cX14_isIn 3 (some .boolean)] : List Cond), w ∈ lw_good := List.forall_mem_cons.mpr ⟨mgd 2288 (by decide +kernel) (by decide +kernel), List.forall_mem_cons.mpr ⟨mgd 2289 (by decide +kernel) (by decide +kernel), List.forall_mem_cons.mpr ⟨mgd 136 (by decide +kernel) (by decide +kernel), List.forall_mem_cons.mpr ⟨mgd 2290 (by decide +kernel) (by decide +kernel), fun _ h => absurd h List.not_mem_nil⟩⟩⟩⟩
set_option maxRecDepth 100000 in
set_option maxHeartbeats 2000000 in
theorem c_rbh (l : Launch) : ∀ (g : Nat) (ev : Int32) (r : Option Nat) (F : Nat → Nat × Nat) (i : Nat) (y : Nat → Nat) (G : Gr) (T : Tr) (Ko : Option (Nat → Nat)) (x : Nat), Ct l yX14_behind cX14_behind 4 (some .int) 1 22 (sp_rbh g ev r F i y G T Ko x) := by
  intro g ev r F i y G T Ko x
  refine Ct.of (fX14, nX14, aX14, iX14, lX14, [(335, 2, 3, 1, T_rii)], qX14, gX14, []) false tX14_behind (fun _ S => look [(4, ([0,2,3], I_rbh g x r G Ko S))]) (by decide) (by decide) kX14_behind ⟨_, _, rfl⟩ fX14_ok nX14_ok aX14_ok iX14_ok lX14_ok (fun p e R s m args below meth c Q D cy z r A C hR1 hR2 => List.forall_mem_cons.mpr ⟨cOK_use (fun _ _ _ _ _ _ _ _ h => let ⟨sp, h1, _, h3⟩ := u_rii l _ _ _ _ _ _ _ _ h; ⟨sp, cOK_S C h1 vX14_behind_335 ⟨by decide, by decide, by decide +kernel⟩ ⟨by rw [hR1]; decide, by rw [hR2]; decide⟩, h3⟩), fun _ h => absurd h List.not_mem_nil⟩) qX14_ok gX14_ok rfl ?_ ?_
  · rintro _ S ⟨rfl, hp⟩
    refine ⟨Nat.le_of_ble_eq_true rfl, 300, ?_⟩
    show (∃ k1, I_rbh g x r G Ko S k1 [(0, .inr (.inr (some g))), (2, .inr (.inr r)), (3, .inl (ev + (1 : Int32)))] [] S 0 0)
    obtain ⟨rfl, h, hk, he, hx⟩ := hp
    exact ⟨G.n - x, x, by omega, Nat.le_refl _, fun k a b => absurd b (by omega), by rw [he], rfl, rfl, rfl, rfl⟩
  · intro av S hpre pc I hI k lo st S1 cs sl h
    obtain ⟨rfl, hp⟩ := hpre
    have hm := look_in hI
    rw [List.mem_singleton] at hm
    cases hm
    obtain ⟨f, hf, hx, hall, rfl, rfl, rfl, rfl, rfl⟩ := h
    refine ⟨300, ?_⟩
    show (isO S 13 g ∧ (((mI S 1300 g) ≤ (nI f) → (([] : List MV) = [] ∧ mret (some .int) (sp_rbh g ev r F i y G T Ko x) [.inr (.inr (some g)), .inl ev, .inr (.inr r)] S (some (.inl (nI f))) S 0 0)) ∧ (¬ (mI S 1300 g) ≤ (nI f) → (2 = 2 ∧ (∃ (e_1 : Nat), nI f = nI e_1 ∧ (∃ (F_2 : Nat → Nat × Nat) (i_3 : Nat) (y_4 : Nat → Nat) (G_5 : Gr) (T_6 : Tr) (Ko_7 : Option (Nat → Nat)), (g = y_4 0 ∧ RG S F_2 i_3 y_4 G_5 T_6 ∧ e_1 < G_5.n ∧ knO S r Ko_7) ∧ 0 ≤ 0 ∧ 0 ≤ 0 ∧ ((((bI (isK G_5 Ko_7 e_1)) = 0 → (([] : List MV) = [] ∧ mret (some .int) (sp_rbh g ev r F i y G T Ko x) [.inr (.inr (some g)), .inl ev, .inr (.inr r)] S (some (.inl (nI f))) S 0 0)) ∧ (¬ (bI (isK G_5 Ko_7 e_1)) = 0 → (∃ k1, k1 < k ∧ I_rbh g x r G Ko S k1 [(0, .inr (.inr (some g))), (2, .inr (.inr r)), (3, .inl ((nI f) + (1 : Int32)))] [] S 0 0))))))))))
    obtain ⟨rfl, h, hk, he, hxn⟩ := hp
    have hnm := h.nm
    have e1 : mI S 1300 (y 0) = nI G.n := (h 2).1
    rw [e1]
    refine ⟨(h 0).1, if_le (by omega) (by omega) (fun w => ⟨rfl, trivial, ⟨_, rfl, ⟨f, rfl, hx, by omega, hall, fun q => absurd q (by omega)⟩, rfl⟩, Nat.le_refl _, Nat.le_refl _⟩) (fun w => ⟨rfl, f, rfl, F, i, y, G, T, Ko, ⟨rfl, h, w, hk⟩, Nat.le_refl _, Nat.le_refl _, fun q => ?_, fun q => ?_⟩)⟩
    · rw [bI_0] at q
      exact ⟨rfl, trivial, ⟨_, rfl, ⟨f, rfl, hx, by omega, hall, fun _ => q⟩, rfl⟩, Nat.le_refl _, Nat.le_refl _⟩
    · rw [bI_0, Bool.not_eq_false] at q
      refine ⟨k - 1, by omega, f + 1, by omega, by omega, fun n a b => ?_, by rw [nI_1], rfl, rfl, rfl, rfl⟩
      by_cases c : n = f
      · rw [c]; exact q
      · exact hall n a (by omega)
theorem u_rbh (l : Launch) : Us l yX14_behind cX14_behind 4 (some .int) 1 22 99 T_rbh := by
  intro Rc Rs av S cs sl K Kx h
  unfold T_rbh at h
  split at h
  · rename_i g_o ev r
    obtain ⟨g, rfl, h_1⟩ := pa_of h
    obtain ⟨F, i, y, G, T, Ko, x, hp, hc, hs, hk⟩ := h_1
    refine ⟨(sp_rbh g ev r F i y G T Ko x), c_rbh l g ev r F i y G T Ko x, fun _ _ _ => trivial, ⟨rfl, hp⟩, hc, hs, fun v9 S' h8 => by
      obtain ⟨v8, h7, h8, h6⟩ := h8
      cases h7
      subst h6
      exact hk _ h8, fun _ _ q => q.elim⟩
  · exact h.elim
