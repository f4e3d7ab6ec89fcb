/-! ===== Graph.textNode; reads over GI ===== -/
theorem del_stk {G : Gr} {k : Nat} (hG : G.ok) : ∀ N, N ≤ G.n → (del G G.cn N k = true ↔ ∃ j, j < N ∧ (G.ev j).ch = none ∧ (G.ev j).tg = k)
  | 0, _ => ⟨fun h => (by cases h), fun ⟨_, h, _⟩ => absurd h (Nat.not_lt_zero _)⟩
  | N + 1, hN => by
    have ih := del_stk hG (k := k) N (by omega)
    have hh : G.has G.cn N = true := decide_eq_true (Gr.nu_cn hG (show N < G.n by omega))
    rw [del, hh, Bool.and_true, Bool.or_eq_true, ih, decide_eq_true_eq]
    constructor
    · rintro (⟨j, a, b⟩ | h)
      · exact ⟨j, by omega, b⟩
      · exact ⟨N, by omega, h⟩
    · rintro ⟨j, a, b⟩
      by_cases q : j = N
      · subst q; exact Or.inr b
      · exact Or.inl ⟨j, by omega, b⟩
theorem vis_sn {G : Gr} (hG : G.ok) {k : Nat} (hk : k < G.n) : snW G G.cn (k + 1) = vis G (k + 1) := by
  have hh : G.has G.cn k = true := decide_eq_true (Gr.nu_cn hG hk)
  rw [snW, vis, Nat.add_sub_cancel, stV, if_pos hh, Bool.eq_iff_iff, decide_eq_true_eq, decide_eq_true_eq]
  have h1 := del_stk hG (k := k) G.n (Nat.le_refl _)
  constructor
  · intro h
    refine List.find?_eq_none.2 (fun j hj z => ?_)
    rw [if_pos (h1.2 ⟨j, List.mem_range.1 hj, of_decide_eq_true z⟩)] at h
    cases h
  · intro h
    rw [if_neg (fun w => ?_)]
    obtain ⟨j, a, b⟩ := h1.1 w
    exact List.find?_eq_none.1 h j (List.mem_range.2 a) (decide_eq_true b)
section TXT
variable {S S' : MM} {F : Nat → Nat × Nat} {i : Nat} {A : Nat → Nat} {X : GX} {G : Gr} {T : Tr} {H : List Nat} {W : Nat → Nat}
/-- the finger elsewhere -/
theorem GI.fing (h : GI S F i A X G T H W) {U V : List Nat} {x c : Nat} (e : T.od = U ++ x :: V) (hc : c = (U.filter (snW G W)).length + 1) (hx : snW G W x = true) : GI (fgS S (A 0) (xa A X x) c) F i A X G T H W ∧ Keep (fun b => (F b).1 = i) S (fgS S (A 0) (xa A X x) c) := by
  have g6 := (h 0).1
  have kk : Keep (fun b => b = A 0) S (fgS S (A 0) (xa A X x) c) := fgS_keep S (A 0) (xa A X x) c
  have hR : ∀ j b, j ≠ 610 → mR (fgS S (A 0) (xa A X x) c) j b = mR S j b := fun j b q => fgS_R q
  have hI : ∀ j b, j ≠ 611 → mI (fgS S (A 0) (xa A X x) c) j b = mI S j b := fun j b q => fgS_I q
  have hk : Keep (fun b => b = A 0 ∨ b = A 8 ∨ b = A 9 ∨ b = A 10) (msk0 S) (msk0 (fgS S (A 0) (xa A X x) c)) := by
    refine ⟨fun b hb => ⟨hb, rfl, rfl⟩, fun b hb hp => ⟨fun j => ?_, fun j => ?_, fun _ => rfl, rfl, rfl, rfl⟩, rfl, rfl⟩
    · show (if 507 < j ∧ j < 516 then 0 else mI (fgS S (A 0) (xa A X x) c) j b) = if 507 < j ∧ j < 516 then 0 else mI S j b
      rw [(kk.2.1 b hb (fun z => hp (Or.inl z))).1 j]
    · show (if 507 < j ∧ j < 516 then none else mR (fgS S (A 0) (xa A X x) c) j b) = if 507 < j ∧ j < 516 then none else mR S j b
      rw [(kk.2.1 b hb (fun z => hp (Or.inl z))).2.1 j]
  refine ⟨h.str hk (fun j _ _ q => hI j _ q) (fun j q => hR j _ q) ((hI 605 _ (by decide)).trans (h 6)) ((h 7).2.2.keep kk (fun z => h.fne (h 7).2.1 (h 0).2 (by decide) z)) ((hI 609 _ (by decide)).trans (h 13)) (fun k q c => (hI 513 _ (by decide)).trans (h 14 k q c)) (fun k q c => (hI 514 _ (by decide)).trans (h 15 k q c)) (fun y hy => ?_) (ChP.cg (h 17) (fun _ q => q) (fun b => hR 511 b (by decide)) (fun b => hR 512 b (by decide))) ⟨U ++ [x], V, by rw [e]; simp, ?_, ?_⟩ (h 21), kk.mono (fun b _ z => F1 (z ▸ (h 0).2))⟩
  · obtain ⟨a1, a2, a3⟩ := h 16 y hy
    exact ⟨(hR _ _ (by decide)).trans a1, (hR _ _ (by decide)).trans a2, fun q => (hR _ _ (by decide)).trans (a3 q)⟩
  · rw [List.map_append, List.map_singleton, List.getLastD_concat]; exact fgS_610
  · rw [fgS_611, seenC_cg (S' := fgS S (A 0) (xa A X x) c) (S := S) (fun y _ => hI 513 y (by decide)), h.seen (fun y hy => by rw [e]; simp at hy ⊢; rcases hy with q | q <;> simp [q]), List.filter_append, hc]
    simp [hx]
theorem GI.vseen (h : GI S F i A X G T H G.cn) {L : List Nat} (hL : ∀ x ∈ L, x ∈ T.od) : seenC S (L.map (xa A X)) = (L.filter (vis G)).length := by
  rw [h.seen hL]
  refine congrArg List.length (List.filter_congr (fun x hx => ?_))
  obtain ⟨k, rfl, k1, -⟩ := h.nd (hL x hx)
  exact vis_sn h.ok k1
end TXT
/-- the node of an index of the text -/
def TxN (G : Gr) (T : Tr) (x k : Nat) : Prop := ∃ U V, T.od = U ++ (k + 1) :: V ∧ vis G (k + 1) = true ∧ (U.filter (vis G)).length = x
def tnP (S S' : MM) (F : Nat → Nat × Nat) (i : Nat) (A : Nat → Nat) (X : GX) (G : Gr) (T : Tr) (H : List Nat) (x : Nat) (v : Option Nat) : Prop := ∃ k, v = some (X.ad k) ∧ TxN G T x k ∧ k < G.n ∧ GI S' F i A X G T H G.cn ∧ Keep (fun b => (F b).1 = i) S S'
def T_gtn : TR := fun Rc Rs av S cs sl K _Kx => match av with
  | [.inr (.inr g_o), .inl x_v] => pa g_o fun g => (∃ (x : Nat), x_v = nI x ∧ (∃ (F : Nat → Nat × Nat) (i : Nat) (A : Nat → Nat) (X : GX) (G : Gr) (T : Tr) (H : List Nat) (W : Nat → Nat), (g = A 0 ∧ GI S F i A X G T H W ∧ x < visN G T) ∧ cs ≤ Rc ∧ sl ≤ Rs ∧ (∀ (v : Option Nat) (S' : MM), (tnP S S' F i A X G T H x v) → K (some (.inr (.inr v))) S' cs sl)))
  | _ => False
def sp_gtn (g : Nat) (x : Nat) (F : Nat → Nat × Nat) (i : Nat) (A : Nat → Nat) (X : GX) (G : Gr) (T : Tr) (H : List Nat) (W : Nat → Nat) : Sp := (fun av S => av = [.inr (.inr (some g)), .inl (nI x)] ∧ (g = A 0 ∧ GI S F i A X G T H W ∧ x < visN G T), fun _ S => 0, fun _ S => 0, fun _ S rv S' => ∃ v, rv = (some (.inr (.inr v))) ∧ (tnP S S' F i A X G T H x v), fun _ _ _ _ => False)
def tX5_textNode : CD := [(0, .aload_n 0), (1, .invokevirtual 233), (4, .aload_n 0), (5, .iload_n 1), (6, .invokevirtual 178), (9, .areturn)]
set_option maxRecDepth 100000 in
theorem kX5_textNode : chk cX5_textNode tX5_textNode = true := by decide +kernel
theorem vX5_textNode_233 : ∀ w ∈ ([.methodLink RX5 233 yX5_showAll, .instanceMethod yX5_showAll, .selects yX5_showAll.cls yX5_showAll yX5_showAll, .initialized yX5_showAll.cls, .code yX5_showAll cX5_showAll 2 none] : List Cond), w ∈ lw_good := List.forall_mem_cons.mpr ⟨mgd 1158 (by decide +kernel) (by decide +kernel), List.forall_mem_cons.mpr ⟨mgd 875 (by decide +kernel) (by decide +kernel), List.forall_mem_cons.mpr ⟨mgd 876 (by decide +kernel) (by decide +kernel), List.forall_mem_cons.mpr ⟨mgd 125 (by decide +kernel) (by decide +kernel), List.forall_mem_cons.mpr ⟨mgd 877 (by decide +kernel) (by decide +kernel), fun _ h => absurd h List.not_mem_nil⟩⟩⟩⟩⟩
theorem vX5_textNode_178 : ∀ w ∈ ([.methodLink RX5 178 yX5_shownNode, .instanceMethod yX5_shownNode, .selects yX5_shownNode.cls yX5_shownNode yX5_shownNode, .initialized yX5_shownNode.cls, .code yX5_shownNode cX5_shownNode 3 (some (.object "WeaveText$Event"))] : List Cond), w ∈ lw_good := List.forall_mem_cons.mpr ⟨mgd 918 (by decide +kernel) (by decide +kernel), List.forall_mem_cons.mpr ⟨mgd 920 (by decide +kernel) (by decide +kernel), List.forall_mem_cons.mpr ⟨mgd 7 (by decide +kernel) (by decide +kernel), List.forall_mem_cons.mpr ⟨mgd 125 (by decide +kernel) (by decide +kernel), List.forall_mem_cons.mpr ⟨mgd 921 (by decide +kernel) (by decide +kernel), fun _ h => absurd h List.not_mem_nil⟩⟩⟩⟩⟩
set_option maxRecDepth 100000 in
set_option maxHeartbeats 2000000 in
theorem c_gtn (l : Launch) : ∀ (g : Nat) (x : Nat) (F : Nat → Nat × Nat) (i : Nat) (A : Nat → Nat) (X : GX) (G : Gr) (T : Tr) (H : List Nat) (W : Nat → Nat), Ct l yX5_textNode cX5_textNode 2 (some (.object "WeaveText$Event")) 6 130 (sp_gtn g x F i A X G T H W) := by
  intro g x F i A X G T H W
  refine Ct.of (fX5, nX5, aX5, iX5, lX5, [(233, 0, 1, 0, T_gsa), (178, 0, 2, 3, T_gsn)], qX5, gX5, []) false tX5_textNode (fun _ _ _ => none) (by decide) (by decide) kX5_textNode ⟨_, _, rfl⟩ fX5_ok nX5_ok aX5_ok iX5_ok lX5_ok (fun p e R s m args below meth c Q D cy z r A C hR1 hR2 => List.forall_mem_cons.mpr ⟨cOK_use (fun _ _ _ _ _ _ _ _ h => let ⟨sp, h1, h2, h3⟩ := u_gsa l _ _ _ _ _ _ _ _ h; ⟨sp, cOK_V C h1 vX5_textNode_233 ⟨by decide, by decide, by decide +kernel⟩ ⟨by rw [hR1]; decide, by rw [hR2]; decide⟩ (k := 6) (T := TX5) (N := 12) rfl (by decide) h2, h3⟩), List.forall_mem_cons.mpr ⟨cOK_use (fun _ _ _ _ _ _ _ _ h => let ⟨sp, h1, h2, h3⟩ := u_gsn l _ _ _ _ _ _ _ _ h; ⟨sp, cOK_V C h1 vX5_textNode_178 ⟨by decide, by decide, by decide +kernel⟩ ⟨by rw [hR1]; decide, by rw [hR2]; decide⟩ (k := 6) (T := TX5) (N := 12) rfl (by decide) h2, h3⟩), fun _ h => absurd h List.not_mem_nil⟩⟩) qX5_ok gX5_ok rfl ?_ ?_
  · rintro _ S ⟨rfl, hp⟩
    refine ⟨Nat.le_of_ble_eq_true rfl, 300, ?_⟩
    show (0 = 0 ∧ (∃ (rt_1 tk_2 d_3 c_4 sh_5 wa_6 ho_7 he_8 ht_9 : Nat) (X_10 : GX) (G_11 : Gr) (W0_12 : Nat → Nat) (H_13 : List Nat), (ShP S X_10 G_11 g rt_1 tk_2 d_3 c_4 sh_5 wa_6 W0_12 ∧ mR S 604 g = some ho_7 ∧ AL S ho_7 he_8 ht_9 5 (H_13.map X_10.ad) ∧ (∀ y, y ∈ H_13 → y < G_11.n) ∧ mI S 603 g = nI G_11.m) ∧ 0 ≤ 0 ∧ 0 ≤ 0 ∧ (∀ (S_14 : MM), (saP S S_14 X_10 G_11 g rt_1 sh_5 wa_6 W0_12 H_13) → (0 = 0 ∧ (∃ (i_15 : Nat), nI x = nI i_15 ∧ (∃ (rt_16 f_17 : Nat) (O_18 A_19 B_20 : List Nat), (isO S_14 6 g ∧ mR S_14 600 g = some rt_16 ∧ ChP S_14 rt_16 O_18 ∧ O_18.length ≤ 100000 ∧ O_18 = A_19 ++ B_20 ∧ mR S_14 610 g = some (A_19.getLastD rt_16) ∧ mI S_14 611 g = nI (seenC S_14 A_19) ∧ i_15 < seenC S_14 O_18) ∧ 0 ≤ 0 ∧ 0 ≤ 0 ∧ (∀ (x_22 : Option Nat) (S_21 : MM), (ndP S_14 S_21 g i_15 O_18 x_22) → (([] : List MV) = [] ∧ mret (some (.object "WeaveText$Event")) (sp_gtn g x F i A X G T H W) [.inr (.inr (some g)), .inl (nI x)] S (some (.inr (.inr x_22))) S_21 0 0))))))))
    obtain ⟨rfl, hG, hx⟩ := hp
    refine ⟨rfl, A 1, A 2, A 3, capF G.n, A 8, A 9, A 5, A 6, A 7, X, G, W, H, ⟨hG.shp, (hG 5).1, (hG 5).2.2.2.1, fun y hy => (((hG 20 : HdS G H).1 y).1 hy).1, hG 4⟩, Nat.le_refl _, Nat.le_refl _, fun S1 hS1 => ?_⟩
    obtain ⟨hG1, hK1⟩ := hG.showAll hS1
    obtain ⟨U, V, e1, a1, a2⟩ := hG1 18
    have l1 := hG.odl
    have l2 := hG.ok.hn
    refine ⟨rfl, x, rfl, A 1, A 1, T.od.map (xa A X), U.map (xa A X), V.map (xa A X), ⟨(hG1 0).1, (hG1 1).1, hG1 17, by rw [List.length_map]; omega, by rw [e1, List.map_append], a1, a2, ?_⟩, Nat.le_refl _, Nat.le_refl _, fun v S2 hS2 => ⟨rfl, trivial, ⟨v, rfl, ?_⟩, Nat.le_refl _, Nat.le_refl _⟩⟩
    · rw [hG1.vseen (fun y hy => hy)]; exact hx
    · obtain ⟨U1, y, B1, rfl, o1, o2, o3, rfl⟩ := hS2
      obtain ⟨U2, V2, r1, r2, r3⟩ := map_pre o1
      cases V2 with
      | nil => cases r3
      | cons z V2 =>
        rw [List.map_cons] at r3
        injection r3 with r4 r5
        have zo : z ∈ T.od := by rw [r1]; simp
        obtain ⟨k, rfl, k1, -⟩ := hG1.nd zo
        have hs := (hG1.sn zo).1 (by rw [← r4]; exact o2)
        have hU : ∀ w ∈ U2, w ∈ T.od := fun w hw => by rw [r1]; simp [hw]
        rw [r2] at o3
        have o4 := o3
        rw [hG1.seen hU] at o3
        rw [hG1.vseen hU] at o4
        obtain ⟨g1, g2⟩ := hG1.fing (c := x + 1) r1 (by rw [o3]) hs
        rw [r4]
        exact ⟨k, rfl, ⟨U2, V2, r1, by rw [← vis_sn hG1.ok k1]; exact hs, o4⟩, k1, g1, hK1.tr g2⟩
  · exact fun _ _ _ _ _ h => by cases h
theorem u_gtn (l : Launch) : Us l yX5_textNode cX5_textNode 2 (some (.object "WeaveText$Event")) 6 130 6 T_gtn := by
  intro Rc Rs av S cs sl K Kx h
  unfold T_gtn at h
  split at h
  · rename_i g_o x_v
    obtain ⟨g, rfl, h_1⟩ := pa_of h
    obtain ⟨x, rfl, h_2⟩ := h_1
    obtain ⟨F, i, A, X, G, T, H, W, hp, hc, hs, hk⟩ := h_2
    refine ⟨(sp_gtn g x F i A X G T H W), c_gtn l g x F i A X G T H W, fun _ _ h9 => ⟨_, _, h9.1, (h9.2.1 ▸ (h9.2.2.1 0).1)⟩, ⟨rfl, hp⟩, hc, hs, fun v9 S' h8 => by
      obtain ⟨v8, h7, h8⟩ := h8
      cases h7
      exact hk _ _ h8, fun _ _ q => q.elim⟩
  · exact h.elim
