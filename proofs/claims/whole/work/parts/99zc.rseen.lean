/-! ===== The reference's graph: isLess, isSeen, length, shownAt .. ===== -/
theorem key_lt {G : Gr} (h : G.ok) {e f : Nat} (he : e < G.n) (hf : f < G.n) : G.key e < G.key f ↔ (if G.ag (G.ev e).sl = G.ag (G.ev f).sl then (G.ev e).nu < (G.ev f).nu else G.ag (G.ev e).sl < G.ag (G.ev f).sl) := by
  have h1 := nu_le h he
  have h2 := nu_le h hf
  unfold Gr.key
  split
  · rename_i q; rw [q]; omega
  · omega
theorem rdI {S : MM} {f g a : Nat} {x v : Int32} {P : Int32 → Prop} (h1 : mR S f g = some a) (h2 : isO S 17 a) (h3 : inR S a x) (hv : eI S a x.toNatClampNeg = v) (hP : P v) : pa (mR S f g) fun a => ∃ v : Int32, (isO S 17 a ∧ inR S a x ∧ v = eI S a x.toNatClampNeg ∨ a = (mQ S).1 ∧ vp_in x 16 ∧ v = mRem x.toNatClampNeg) ∧ P v := pa_i h1 ⟨_, Or.inl ⟨h2, h3, hv.symm⟩, hP⟩
section RGR
variable {S S' : MM} {F F' : Nat → Nat × Nat} {i : Nat} {y : Nat → Nat} {G : Gr} {T : Tr}
theorem RG.r9 (h : RG S F i y G T) : mR S 1309 (y 0) = some (y 9) ∧ isO S 20 (y 9) ∧ mN S (y 9) = 8192 := h.row (k := 9) (by decide) (by decide) (by decide)
theorem RG.r10 (h : RG S F i y G T) : mR S 1310 (y 0) = some (y 10) ∧ isO S 17 (y 10) ∧ mN S (y 10) = 8192 := h.row (k := 10) (by decide) (by decide) (by decide)
theorem RG.r11 (h : RG S F i y G T) : mR S 1311 (y 0) = some (y 11) ∧ isO S 17 (y 11) ∧ mN S (y 11) = 8192 := h.row (k := 11) (by decide) (by decide) (by decide)
theorem RG.r12 (h : RG S F i y G T) : mR S 1312 (y 0) = some (y 12) ∧ isO S 17 (y 12) ∧ mN S (y 12) = 8192 := h.row (k := 12) (by decide) (by decide) (by decide)
theorem RG.r13 (h : RG S F i y G T) : mR S 1313 (y 0) = some (y 13) ∧ isO S 17 (y 13) ∧ mN S (y 13) = 8192 := h.row (k := 13) (by decide) (by decide) (by decide)
theorem RG.r14 (h : RG S F i y G T) : mR S 1314 (y 0) = some (y 14) ∧ isO S 17 (y 14) ∧ mN S (y 14) = 8192 := h.row (k := 14) (by decide) (by decide) (by decide)
theorem RG.r15 (h : RG S F i y G T) : mR S 1315 (y 0) = some (y 15) ∧ isO S 17 (y 15) ∧ mN S (y 15) = 8192 := h.row (k := 15) (by decide) (by decide) (by decide)
theorem RG.r16 (h : RG S F i y G T) : mR S 1316 (y 0) = some (y 16) ∧ isO S 20 (y 16) ∧ mN S (y 16) = 8192 := h.row (k := 16) (by decide) (by decide) (by decide)
theorem RG.r18 (h : RG S F i y G T) : mR S 1318 (y 0) = some (y 18) ∧ isO S 17 (y 18) ∧ mN S (y 18) = 8192 := h.row (k := 18) (by decide) (by decide) (by decide)
theorem RG.nm (h : RG S F i y G T) : G.n ≤ 8192 ∧ G.m ≤ 16 := ⟨h.ok.hn, h.ok.hm⟩
theorem RG.g6 (h : RG S F i y G T) {e : Nat} (he : e < G.n) {P : Int32 → Prop} (hP : P (nI (G.ev e).sl)) : pa (mR S 1306 (y 0)) fun a => ∃ v : Int32, (isO S 17 a ∧ inR S a (nI e) ∧ v = eI S a (nI e).toNatClampNeg ∨ a = (mQ S).1 ∧ vp_in (nI e) 16 ∧ v = mRem (nI e).toNatClampNeg) ∧ P v := by
  have := h.nm
  exact rdI h.r6.1 h.r6.2.1 (inRn h.r6.2.2 (by omega) (by decide)) (by rw [nI_clamp (by omega)]; exact (h 5 e he).1) hP
theorem RG.g7 (h : RG S F i y G T) {e : Nat} (he : e < G.n) {P : Int32 → Prop} (hP : P (nI (G.ev e).nu)) : pa (mR S 1307 (y 0)) fun a => ∃ v : Int32, (isO S 17 a ∧ inR S a (nI e) ∧ v = eI S a (nI e).toNatClampNeg ∨ a = (mQ S).1 ∧ vp_in (nI e) 16 ∧ v = mRem (nI e).toNatClampNeg) ∧ P v := by
  have := h.nm
  exact rdI h.r7.1 h.r7.2.1 (inRn h.r7.2.2 (by omega) (by decide)) (by rw [nI_clamp (by omega)]; exact (h 5 e he).2.1) hP
theorem RG.g3 (h : RG S F i y G T) {s : Nat} (hs : s < G.m) {P : Int32 → Prop} (hP : P (nI (G.ag s))) : pa (mR S 1303 (y 0)) fun a => ∃ v : Int32, (isO S 17 a ∧ inR S a (nI s) ∧ v = eI S a (nI s).toNatClampNeg ∨ a = (mQ S).1 ∧ vp_in (nI s) 16 ∧ v = mRem (nI s).toNatClampNeg) ∧ P v := by
  have := h.nm
  exact rdI h.r3.1 h.r3.2.1 (inRn h.r3.2.2 (by omega) (by decide)) (by rw [nI_clamp (by omega)]; exact (h 3 s hs).1) hP
theorem RG.g4 (h : RG S F i y G T) {s : Nat} (hs : s < G.m) {P : Int32 → Prop} (hP : P (nI (G.cn s))) : pa (mR S 1304 (y 0)) fun a => ∃ v : Int32, (isO S 17 a ∧ inR S a (nI s) ∧ v = eI S a (nI s).toNatClampNeg ∨ a = (mQ S).1 ∧ vp_in (nI s) 16 ∧ v = mRem (nI s).toNatClampNeg) ∧ P v := by
  have := h.nm
  exact rdI h.r4.1 h.r4.2.1 (inRn h.r4.2.2 (by omega) (by decide)) (by rw [nI_clamp (by omega)]; exact (h 3 s hs).2) hP
theorem RG.g20 (h : RG S F i y G T) {e : Nat} (he : e < G.n) {P : Int32 → Prop} (hP : P (hdI (dls G e))) : pa (mR S 1320 (y 0)) fun a => ∃ v : Int32, (isO S 17 a ∧ inR S a (nI e) ∧ v = eI S a (nI e).toNatClampNeg ∨ a = (mQ S).1 ∧ vp_in (nI e) 16 ∧ v = mRem (nI e).toNatClampNeg) ∧ P v := by
  have := h.nm
  exact rdI h.r20.1 h.r20.2.1 (inRn h.r20.2.2 (by omega) (by decide)) (by rw [nI_clamp (by omega)]; exact (h 10 e he).1) hP
theorem RG.odn (h : RG S F i y G T) {j : Nat} (hj : j < T.od.length) : ∃ k, T.od.getD j 0 = k + 1 ∧ k < G.n ∧ (G.ev k).ch ≠ none ∧ k + 1 ∈ T.od := by
  have hm : T.od.getD j 0 ∈ T.od := by
    rw [List.getD_eq_getElem?_getD, List.getElem?_eq_getElem hj]
    exact List.getElem_mem hj
  obtain ⟨k, e, a, b⟩ := h.ond hm
  exact ⟨k, e, a, b, e ▸ hm⟩
theorem RG.odl (h : RG S F i y G T) : T.od.length ≤ G.n := by
  have h1 : T.od.Nodup := h.tnd
  have h2 : (T.od.map (· - 1)).Nodup := by
    rw [List.nodup_iff_pairwise_ne, List.pairwise_map]
    refine (List.nodup_iff_pairwise_ne.1 h1).imp_of_mem (fun {a b} ha hb hab e => hab ?_)
    obtain ⟨k, rfl, _⟩ := h.ond ha
    obtain ⟨k', rfl, _⟩ := h.ond hb
    simp only [Nat.add_sub_cancel] at e
    rw [e]
  have h3 := List.Nodup.length_le_of_subset h2 (l₂ := List.range G.n) (fun x hx => by
    obtain ⟨a, ha, rfl⟩ := List.mem_map.1 hx
    obtain ⟨k, rfl, hk, _⟩ := h.ond ha
    exact List.mem_range.2 hk)
  rw [List.length_map, List.length_range] at h3
  exact h3
theorem RG.g21 (h : RG S F i y G T) {j : Nat} (hj : j < T.od.length) {P : Int32 → Prop} (hP : P (nI (T.od.getD j 0 - 1))) : pa (mR S 1321 (y 0)) fun a => ∃ v : Int32, (isO S 17 a ∧ inR S a (nI j) ∧ v = eI S a (nI j).toNatClampNeg ∨ a = (mQ S).1 ∧ vp_in (nI j) 16 ∧ v = mRem (nI j).toNatClampNeg) ∧ P v := by
  have := h.nm
  have := h.odl
  exact rdI h.r21.1 h.r21.2.1 (inRn h.r21.2.2 (by omega) (by decide)) (by rw [nI_clamp (by omega)]; exact h 7 j hj) hP
end RGR
def T_rlss : TR := fun Rc Rs av S cs sl K _Kx => match av with
  | [.inr (.inr g_o), .inl e_v, .inl f_v] => pa g_o fun g => (∃ (e : Nat), e_v = nI e ∧ (∃ (f : Nat), f_v = nI f ∧ (∃ (F : Nat → Nat × Nat) (i : Nat) (y : Nat → Nat) (G : Gr) (T : Tr), (g = y 0 ∧ RG S F i y G T ∧ e < G.n ∧ f < G.n) ∧ cs ≤ Rc ∧ sl ≤ Rs ∧ (K (some (.inl (bI (decide (G.key e < G.key f))))) S cs sl))))
  | _ => False
def sp_rlss (g : Nat) (e : Nat) (f : Nat) (F : Nat → Nat × Nat) (i : Nat) (y : Nat → Nat) (G : Gr) (T : Tr) : Sp := (fun av S => av = [.inr (.inr (some g)), .inl (nI e), .inl (nI f)] ∧ (g = y 0 ∧ RG S F i y G T ∧ e < G.n ∧ f < G.n), fun _ S => 0, fun _ S => 0, fun _ S rv S' => rv = (some (.inl (bI (decide (G.key e < G.key f))))) ∧ S' = S, fun _ _ _ _ => False)
def tX12_isLess : CD := [(0, .aload_n 0), (1, .getfield 9), (4, .aload_n 0), (5, .getfield 23), (8, .iload_n 1), (9, .iaload), (10, .iaload), (11, .aload_n 0), (12, .getfield 9), (15, .aload_n 0), (16, .getfield 23), (19, .iload_n 2), (20, .iaload), (21, .iaload), (22, .if_icmp .eq 36), (25, .aload_n 0), (26, .getfield 9), (29, .aload_n 0), (30, .getfield 23), (33, .iload_n 1), (34, .iaload), (35, .iaload), (36, .aload_n 0), (37, .getfield 9), (40, .aload_n 0), (41, .getfield 23), (44, .iload_n 2), (45, .iaload), (46, .iaload), (47, .if_icmp .ge 7), (50, .iconst 1), (51, .goto 27), (54, .iconst 0), (55, .goto 23), (58, .aload_n 0), (59, .getfield 26), (62, .iload_n 1), (63, .iaload), (64, .aload_n 0), (65, .getfield 26), (68, .iload_n 2), (69, .iaload), (70, .if_icmp .ge 7), (73, .iconst 1), (74, .goto 4), (77, .iconst 0), (78, .ireturn)]
set_option maxRecDepth 100000 in
theorem kX12_isLess : chk cX12_isLess tX12_isLess = true := by decide +kernel

set_option maxRecDepth 100000 in
set_option maxHeartbeats 2000000 in
theorem c_rlss (l : Launch) : ∀ (g : Nat) (e : Nat) (f : Nat) (F : Nat → Nat × Nat) (i : Nat) (y : Nat → Nat) (G : Gr) (T : Tr), Ct l yX12_isLess cX12_isLess 3 (some .boolean) 0 0 (sp_rlss g e f F i y G T) := by
  intro g e f F i y G T
  refine Ct.of (fX12, nX12, aX12, iX12, lX12, [], qX12, gX12, []) false tX12_isLess (fun _ _ _ => none) (by decide) (by decide) kX12_isLess ⟨_, _, rfl⟩ fX12_ok nX12_ok aX12_ok iX12_ok lX12_ok (fun _ _ _ _ _ _ _ _ _ _ _ _ _ _ _ _ _ _ => no_all) qX12_ok gX12_ok rfl ?_ ?_
  · rintro _ S ⟨rfl, hp⟩
    refine ⟨Nat.le_of_ble_eq_true rfl, 300, ?_⟩
    show (isO S 13 g ∧ (isO S 13 g ∧ (pa (mR S 1306 g) fun a_1 => ∃ v_2 : Int32, (isO S 17 a_1 ∧ inR S a_1 (nI e) ∧ v_2 = eI S a_1 (nI e).toNatClampNeg ∨ a_1 = (mQ S).1 ∧ vp_in (nI e) 16 ∧ v_2 = mRem (nI e).toNatClampNeg) ∧ (pa (mR S 1303 g) fun a_3 => ∃ v_4 : Int32, (isO S 17 a_3 ∧ inR S a_3 v_2 ∧ v_4 = eI S a_3 v_2.toNatClampNeg ∨ a_3 = (mQ S).1 ∧ vp_in v_2 16 ∧ v_4 = mRem v_2.toNatClampNeg) ∧ (isO S 13 g ∧ (isO S 13 g ∧ (pa (mR S 1306 g) fun a_5 => ∃ v_6 : Int32, (isO S 17 a_5 ∧ inR S a_5 (nI f) ∧ v_6 = eI S a_5 (nI f).toNatClampNeg ∨ a_5 = (mQ S).1 ∧ vp_in (nI f) 16 ∧ v_6 = mRem (nI f).toNatClampNeg) ∧ (pa (mR S 1303 g) fun a_7 => ∃ v_8 : Int32, (isO S 17 a_7 ∧ inR S a_7 v_6 ∧ v_8 = eI S a_7 v_6.toNatClampNeg ∨ a_7 = (mQ S).1 ∧ vp_in v_6 16 ∧ v_8 = mRem v_6.toNatClampNeg) ∧ ((v_4 = v_8 → (isO S 13 g ∧ (pa (mR S 1307 g) fun a_9 => ∃ v_10 : Int32, (isO S 17 a_9 ∧ inR S a_9 (nI e) ∧ v_10 = eI S a_9 (nI e).toNatClampNeg ∨ a_9 = (mQ S).1 ∧ vp_in (nI e) 16 ∧ v_10 = mRem (nI e).toNatClampNeg) ∧ (isO S 13 g ∧ (pa (mR S 1307 g) fun a_11 => ∃ v_12 : Int32, (isO S 17 a_11 ∧ inR S a_11 (nI f) ∧ v_12 = eI S a_11 (nI f).toNatClampNeg ∨ a_11 = (mQ S).1 ∧ vp_in (nI f) 16 ∧ v_12 = mRem (nI f).toNatClampNeg) ∧ ((v_12 ≤ v_10 → (([] : List MV) = [] ∧ mret (some .boolean) (sp_rlss g e f F i y G T) [.inr (.inr (some g)), .inl (nI e), .inl (nI f)] S (some (.inl (0 : Int32))) S 0 0)) ∧ (¬ v_12 ≤ v_10 → (([] : List MV) = [] ∧ mret (some .boolean) (sp_rlss g e f F i y G T) [.inr (.inr (some g)), .inl (nI e), .inl (nI f)] S (some (.inl (1 : Int32))) S 0 0)))))))) ∧ (¬ v_4 = v_8 → (isO S 13 g ∧ (isO S 13 g ∧ (pa (mR S 1306 g) fun a_13 => ∃ v_14 : Int32, (isO S 17 a_13 ∧ inR S a_13 (nI e) ∧ v_14 = eI S a_13 (nI e).toNatClampNeg ∨ a_13 = (mQ S).1 ∧ vp_in (nI e) 16 ∧ v_14 = mRem (nI e).toNatClampNeg) ∧ (pa (mR S 1303 g) fun a_15 => ∃ v_16 : Int32, (isO S 17 a_15 ∧ inR S a_15 v_14 ∧ v_16 = eI S a_15 v_14.toNatClampNeg ∨ a_15 = (mQ S).1 ∧ vp_in v_14 16 ∧ v_16 = mRem v_14.toNatClampNeg) ∧ (isO S 13 g ∧ (isO S 13 g ∧ (pa (mR S 1306 g) fun a_17 => ∃ v_18 : Int32, (isO S 17 a_17 ∧ inR S a_17 (nI f) ∧ v_18 = eI S a_17 (nI f).toNatClampNeg ∨ a_17 = (mQ S).1 ∧ vp_in (nI f) 16 ∧ v_18 = mRem (nI f).toNatClampNeg) ∧ (pa (mR S 1303 g) fun a_19 => ∃ v_20 : Int32, (isO S 17 a_19 ∧ inR S a_19 v_18 ∧ v_20 = eI S a_19 v_18.toNatClampNeg ∨ a_19 = (mQ S).1 ∧ vp_in v_18 16 ∧ v_20 = mRem v_18.toNatClampNeg) ∧ ((v_20 ≤ v_16 → (([] : List MV) = [] ∧ mret (some .boolean) (sp_rlss g e f F i y G T) [.inr (.inr (some g)), .inl (nI e), .inl (nI f)] S (some (.inl (0 : Int32))) S 0 0)) ∧ (¬ v_20 ≤ v_16 → (([] : List MV) = [] ∧ mret (some .boolean) (sp_rlss g e f F i y G T) [.inr (.inr (some g)), .inl (nI e), .inl (nI f)] S (some (.inl (1 : Int32))) S 0 0)))))))))))))))))))))
    obtain ⟨rfl, h, he, hf⟩ := hp
    have s1 := h.ok.sl1 e he
    have s2 := h.ok.sl1 f hf
    have t1 := h.ok.ag1 _ s1
    have t2 := h.ok.ag1 _ s2
    have u1 := nu_le h.ok he
    have u2 := nu_le h.ok hf
    have hk := key_lt h.ok he hf
    refine ⟨(h 0).1, (h 0).1, h.g6 he (h.g3 s1 ⟨(h 0).1, (h 0).1, h.g6 hf (h.g3 s2 (if_eq (by omega) (by omega) (fun q => ⟨(h 0).1, h.g7 he ⟨(h 0).1, h.g7 hf (if_le (by omega) (by omega) (fun q1 => ⟨rfl, rt0, ⟨?_, rfl⟩, Nat.le_refl _, Nat.le_refl _⟩) (fun q1 => ⟨rfl, rt1, ⟨?_, rfl⟩, Nat.le_refl _, Nat.le_refl _⟩))⟩⟩) (fun q => ⟨(h 0).1, (h 0).1, h.g6 he (h.g3 s1 ⟨(h 0).1, (h 0).1, h.g6 hf (h.g3 s2 (if_le (by omega) (by omega) (fun q1 => ⟨rfl, rt0, ⟨?_, rfl⟩, Nat.le_refl _, Nat.le_refl _⟩) (fun q1 => ⟨rfl, rt1, ⟨?_, rfl⟩, Nat.le_refl _, Nat.le_refl _⟩)))⟩)⟩)))⟩)⟩
    · rw [if_pos q] at hk
      rw [decide_eq_false (fun w => absurd (hk.1 w) (by omega))]; rfl
    · rw [if_pos q] at hk
      rw [decide_eq_true (hk.2 (by omega))]; rfl
    · rw [if_neg q] at hk
      rw [decide_eq_false (fun w => absurd (hk.1 w) (by omega))]; rfl
    · rw [if_neg q] at hk
      rw [decide_eq_true (hk.2 (by omega))]; rfl
  · exact fun _ _ _ _ _ h => by cases h
theorem u_rlss (l : Launch) : Us l yX12_isLess cX12_isLess 3 (some .boolean) 0 0 13 T_rlss := by
  intro Rc Rs av S cs sl K Kx h
  unfold T_rlss at h
  split at h
  · rename_i g_o e_v f_v
    obtain ⟨g, rfl, h_1⟩ := pa_of h
    obtain ⟨e, rfl, h_2⟩ := h_1
    obtain ⟨f, rfl, h_3⟩ := h_2
    obtain ⟨F, i, y, G, T, hp, hc, hs, hk⟩ := h_3
    refine ⟨(sp_rlss g e f F i y G T), c_rlss l g e f F i y G T, fun _ _ h9 => ⟨_, _, h9.1, (h9.2.1 ▸ (h9.2.2.1 0).1)⟩, ⟨rfl, hp⟩, hc, hs, fun v9 S' h8 => by
      obtain ⟨h7, h8⟩ := h8
      cases h7
      subst h8
      exact hk, fun _ _ q => q.elim⟩
  · exact h.elim
theorem bI_0 {b : Bool} : bI b = 0 ↔ b = false := by cases b <;> decide
theorem dlC_tl {S : MM} {r : Nat} : ∀ {L0 L : List Nat} {j : Nat}, dlC S r (L0 ++ j :: L) → eI S r j = hdI L
  | [], _, _, h => h.1
  | _ :: L0, _, _, h => dlC_tl (L0 := L0) h.2
theorem del_dls {G : Gr} {W : Nat → Nat} {k : Nat} : ∀ N, (del G W N k = true ↔ ∃ j, j < N ∧ ((G.ev j).ch = none ∧ (G.ev j).tg = k) ∧ G.has W j = true)
  | 0 => ⟨fun h => (by cases h), fun ⟨_, h, _⟩ => absurd h (Nat.not_lt_zero _)⟩
  | N + 1 => by
    rw [del, Bool.or_eq_true, del_dls N, Bool.and_eq_true, decide_eq_true_eq]
    constructor
    · rintro (⟨j, a, b⟩ | h)
      · exact ⟨j, by omega, b⟩
      · exact ⟨N, by omega, h⟩
    · rintro ⟨j, a, b⟩
      by_cases q : j = N
      · subst q; exact Or.inr b
      · exact Or.inl ⟨j, by omega, b⟩
theorem snW_t {G : Gr} {W : Nat → Nat} {k : Nat} (h1 : G.has W k = true) (h2 : ∀ j, j ∈ dls G k → G.has W j = false) : snW G W (k + 1) = true := by
  rw [snW, Nat.add_sub_cancel, stV, if_pos h1, if_neg]
  · rfl
  · rw [del_dls]
    rintro ⟨j, a, b, c⟩
    rw [h2 j (mem_dls.2 ⟨a, b⟩)] at c
    cases c
theorem snW_f {G : Gr} {W : Nat → Nat} {k j : Nat} (h1 : j ∈ dls G k) (h2 : G.has W j = true) : snW G W (k + 1) = false := by
  rw [snW, Nat.add_sub_cancel, stV]
  split
  · rw [if_pos ((del_dls _).2 ⟨j, (mem_dls.1 h1).1, (mem_dls.1 h1).2, h2⟩)]; rfl
  · rfl
theorem snW_n {G : Gr} {W : Nat → Nat} {k : Nat} (h1 : G.has W k = false) : snW G W (k + 1) = false := by
  rw [snW, Nat.add_sub_cancel, stV, h1]; rfl
def I_isn (g r o nd : Nat) (G : Gr) (W : Nat → Nat) (S : MM) (k : Nat) : KT := fun lo st S1 cs sl => ∃ L0 L, dls G nd = L0 ++ L ∧ L.length = k ∧ G.has W nd = true ∧ (∀ j, j ∈ L0 → G.has W j = false) ∧ lo = [(0, .inr (.inr (some g))), (1, .inr (.inr (some r))), (2, .inl (nI o)), (3, .inl (nI nd)), (4, .inl (hdI L))] ∧ st = [] ∧ S = S1 ∧ cs = 0 ∧ sl = 0
def T_rsn : TR := fun Rc Rs av S cs sl K _Kx => match av with
  | [.inr (.inr g_o), .inr (.inr r_o), .inl o_v, .inl nd_v] => pa g_o fun g => (pa r_o fun r => (∃ (o : Nat), o_v = nI o ∧ (∃ (nd : Nat), nd_v = nI nd ∧ (∃ (F : Nat → Nat × Nat) (i : Nat) (y : Nat → Nat) (G : Gr) (T : Tr) (W : Nat → Nat), (g = y 0 ∧ RG S F i y G T ∧ StR S r o W ∧ nd < G.n) ∧ cs ≤ Rc ∧ sl ≤ Rs ∧ (K (some (.inl (bI (snW G W (nd + 1))))) S cs sl)))))
  | _ => False
def sp_rsn (g : Nat) (r : Nat) (o : Nat) (nd : Nat) (F : Nat → Nat × Nat) (i : Nat) (y : Nat → Nat) (G : Gr) (T : Tr) (W : Nat → Nat) : Sp := (fun av S => av = [.inr (.inr (some g)), .inr (.inr (some r)), .inl (nI o), .inl (nI nd)] ∧ (g = y 0 ∧ RG S F i y G T ∧ StR S r o W ∧ nd < G.n), fun _ S => 0, fun _ S => 0, fun _ S rv S' => rv = (some (.inl (bI (snW G W (nd + 1))))) ∧ S' = S, fun _ _ _ _ => False)
def tX12_isSeen : CD := [(0, .aload_n 0), (1, .aload_n 1), (2, .iload_n 2), (3, .iload_n 3), (4, .invokevirtual 94), (7, .ifCond .ne 5), (10, .iconst 0), (11, .ireturn), (12, .aload_n 0), (13, .getfield 69), (16, .iload_n 3), (17, .iaload), (18, .istore 4), (20, .iload 4), (22, .ifCond .lt 28), (25, .aload_n 0), (26, .aload_n 1), (27, .iload_n 2), (28, .iload 4), (30, .invokevirtual 94), (33, .ifCond .eq 5), (36, .iconst 0), (37, .ireturn), (38, .aload_n 0), (39, .getfield 66), (42, .iload 4), (44, .iaload), (45, .istore 4), (47, .goto (-27)), (50, .iconst 1), (51, .ireturn)]
set_option maxRecDepth 100000 in
theorem kX12_isSeen : chk cX12_isSeen tX12_isSeen = true := by decide +kernel
theorem vX12_isSeen_94 : ∀ w ∈ ([.methodLink RX12 94 yX12_has, .instanceMethod yX12_has, .selects yX12_has.cls yX12_has yX12_has, .initialized yX12_has.cls, .code yX12_has cX12_has 4 (some .boolean)] : List Cond), w ∈ lw_good := List.forall_mem_cons.mpr ⟨mgd 2009 (by decide +kernel) (by decide +kernel), List.forall_mem_cons.mpr ⟨mgd 2010 (by decide +kernel) (by decide +kernel), List.forall_mem_cons.mpr ⟨mgd 2011 (by decide +kernel) (by decide +kernel), List.forall_mem_cons.mpr ⟨mgd 138 (by decide +kernel) (by decide +kernel), List.forall_mem_cons.mpr ⟨mgd 2012 (by decide +kernel) (by decide +kernel), fun _ h => absurd h List.not_mem_nil⟩⟩⟩⟩⟩
set_option maxRecDepth 100000 in
set_option maxHeartbeats 2000000 in
theorem c_rsn (l : Launch) : ∀ (g : Nat) (r : Nat) (o : Nat) (nd : Nat) (F : Nat → Nat × Nat) (i : Nat) (y : Nat → Nat) (G : Gr) (T : Tr) (W : Nat → Nat), Ct l yX12_isSeen cX12_isSeen 5 (some .boolean) 1 23 (sp_rsn g r o nd F i y G T W) := by
  intro g r o nd F i y G T W
  refine Ct.of (fX12, nX12, aX12, iX12, lX12, [(94, 0, 4, 1, T_rhas)], qX12, gX12, []) false tX12_isSeen (fun _ S => look [(20, ([0,1,2,3,4], I_isn g r o nd G W S))]) (by decide) (by decide) kX12_isSeen ⟨_, _, rfl⟩ fX12_ok nX12_ok aX12_ok iX12_ok lX12_ok (fun p e R s m args below meth c Q D cy z r A C hR1 hR2 => List.forall_mem_cons.mpr ⟨cOK_use (fun _ _ _ _ _ _ _ _ h => let ⟨sp, h1, h2, h3⟩ := u_rhas l _ _ _ _ _ _ _ _ h; ⟨sp, cOK_V C h1 vX12_isSeen_94 ⟨by decide, by decide, by decide +kernel⟩ ⟨by rw [hR1]; decide, by rw [hR2]; decide⟩ (k := 13) (T := TX12) (N := 27) rfl (by decide) h2, h3⟩), fun _ h => absurd h List.not_mem_nil⟩) qX12_ok gX12_ok rfl ?_ ?_
  · rintro _ S ⟨rfl, hp⟩
    refine ⟨Nat.le_of_ble_eq_true rfl, 300, ?_⟩
    show (0 = 0 ∧ (∃ (o_1 : Nat), nI o = nI o_1 ∧ (∃ (e_2 : Nat), nI nd = nI e_2 ∧ (∃ (F_3 : Nat → Nat × Nat) (i_4 : Nat) (y_5 : Nat → Nat) (G_6 : Gr) (T_7 : Tr) (W_8 : Nat → Nat), (g = y_5 0 ∧ RG S F_3 i_4 y_5 G_6 T_7 ∧ StR S r o_1 W_8 ∧ e_2 < G_6.n) ∧ 0 ≤ 0 ∧ 0 ≤ 0 ∧ (((¬ (bI (G_6.has W_8 e_2)) = 0 → (isO S 13 g ∧ (pa (mR S 1320 g) fun a_10 => ∃ v_11 : Int32, (isO S 17 a_10 ∧ inR S a_10 (nI nd) ∧ v_11 = eI S a_10 (nI nd).toNatClampNeg ∨ a_10 = (mQ S).1 ∧ vp_in (nI nd) 16 ∧ v_11 = mRem (nI nd).toNatClampNeg) ∧ (∃ k1, I_isn g r o nd G W S k1 [(0, .inr (.inr (some g))), (1, .inr (.inr (some r))), (2, .inl (nI o)), (3, .inl (nI nd)), (4, .inl v_11)] [] S 0 0)))) ∧ ((bI (G_6.has W_8 e_2)) = 0 → (([] : List MV) = [] ∧ mret (some .boolean) (sp_rsn g r o nd F i y G T W) [.inr (.inr (some g)), .inr (.inr (some r)), .inl (nI o), .inl (nI nd)] S (some (.inl (0 : Int32))) S 0 0))))))))
    obtain ⟨rfl, h, hw, hk⟩ := hp
    refine ⟨rfl, o, rfl, nd, rfl, F, i, y, G, T, W, ⟨rfl, h, hw, hk⟩, Nat.le_refl _, Nat.le_refl _, fun q => ⟨(h 0).1, h.g20 hk ⟨_, [], dls G nd, rfl, rfl, ?_, fun j hj => (by cases hj), rfl, rfl, rfl, rfl, rfl⟩⟩, fun q => ⟨rfl, rt0, ⟨?_, rfl⟩, Nat.le_refl _, Nat.le_refl _⟩⟩
    · rw [bI_0] at q; simpa using q
    · rw [bI_0] at q; rw [snW_n q]; rfl
  · intro av S hpre pc I hI k lo st S1 cs sl h
    obtain ⟨rfl, hp⟩ := hpre
    have hm := look_in hI
    rw [List.mem_singleton] at hm
    cases hm
    obtain ⟨L0, L, hL, hk, hh, hn, rfl, rfl, rfl, rfl, rfl⟩ := h
    refine ⟨300, ?_⟩
    show (((hdI L) < 0 → (([] : List MV) = [] ∧ mret (some .boolean) (sp_rsn g r o nd F i y G T W) [.inr (.inr (some g)), .inr (.inr (some r)), .inl (nI o), .inl (nI nd)] S (some (.inl (1 : Int32))) S 0 0)) ∧ (¬ (hdI L) < 0 → (0 = 0 ∧ (∃ (o_1 : Nat), nI o = nI o_1 ∧ (∃ (e_2 : Nat), hdI L = nI e_2 ∧ (∃ (F_3 : Nat → Nat × Nat) (i_4 : Nat) (y_5 : Nat → Nat) (G_6 : Gr) (T_7 : Tr) (W_8 : Nat → Nat), (g = y_5 0 ∧ RG S F_3 i_4 y_5 G_6 T_7 ∧ StR S r o_1 W_8 ∧ e_2 < G_6.n) ∧ 0 ≤ 0 ∧ 0 ≤ 0 ∧ ((((bI (G_6.has W_8 e_2)) = 0 → (isO S 13 g ∧ (pa (mR S 1319 g) fun a_10 => ∃ v_11 : Int32, (isO S 17 a_10 ∧ inR S a_10 (hdI L) ∧ v_11 = eI S a_10 (hdI L).toNatClampNeg ∨ a_10 = (mQ S).1 ∧ vp_in (hdI L) 16 ∧ v_11 = mRem (hdI L).toNatClampNeg) ∧ (∃ k1, k1 < k ∧ I_isn g r o nd G W S k1 [(0, .inr (.inr (some g))), (1, .inr (.inr (some r))), (2, .inl (nI o)), (3, .inl (nI nd)), (4, .inl v_11)] [] S 0 0)))) ∧ (¬ (bI (G_6.has W_8 e_2)) = 0 → (([] : List MV) = [] ∧ mret (some .boolean) (sp_rsn g r o nd F i y G T W) [.inr (.inr (some g)), .inr (.inr (some r)), .inl (nI o), .inl (nI nd)] S (some (.inl (0 : Int32))) S 0 0))))))))))
    obtain ⟨rfl, h, hw, hd⟩ := hp
    have hnm := h.nm
    cases L with
    | nil => exact ⟨fun _ => ⟨rfl, rt1, ⟨by rw [snW_t hh (fun j hj => hn j (by rw [hL] at hj; simpa using hj))]; rfl, rfl⟩, Nat.le_refl _, Nat.le_refl _⟩, fun w => absurd (by decide : (-1 : Int32) < 0) w⟩
    | cons j L =>
      have hj : j ∈ dls G nd := by rw [hL]; exact List.mem_append_right _ List.mem_cons_self
      have hjn := (mem_dls.1 hj).1
      have hc := (h 10 nd hd).2
      rw [hL] at hc
      refine ⟨fun w => absurd w (nI_pos (show j < 2147483648 by omega)), fun _ => ⟨rfl, o, rfl, j, rfl, F, i, y, G, T, W, ⟨rfl, h, hw, hjn⟩, Nat.le_refl _, Nat.le_refl _, fun q => ⟨(h 0).1, rdI (v := hdI L) h.r19.1 h.r19.2.1 (inRn (i := j) h.r19.2.2 (by omega) (by decide)) (by show eI S (y 19) (nI j).toNatClampNeg = _; rw [nI_clamp (by omega)]; exact dlC_tl hc) ⟨L.length, by rw [← hk]; exact Nat.lt_succ_self _, L0 ++ [j], L, by rw [hL, List.append_assoc]; rfl, rfl, hh, fun x hx => ?_, rfl, rfl, rfl, rfl, rfl⟩⟩, fun q => ⟨rfl, rt0, ⟨?_, rfl⟩, Nat.le_refl _, Nat.le_refl _⟩⟩⟩
      · rcases List.mem_append.1 hx with z | z
        · exact hn x z
        · rw [List.mem_singleton.1 z]; exact bI_0.1 q
      · rw [bI_0] at q
        rw [snW_f hj (by simpa using q)]; rfl
theorem u_rsn (l : Launch) : Us l yX12_isSeen cX12_isSeen 5 (some .boolean) 1 23 13 T_rsn := by
  intro Rc Rs av S cs sl K Kx h
  unfold T_rsn at h
  split at h
  · rename_i g_o r_o o_v nd_v
    obtain ⟨g, rfl, h_1⟩ := pa_of h
    obtain ⟨r, rfl, h_2⟩ := pa_of h_1
    obtain ⟨o, rfl, h_3⟩ := h_2
    obtain ⟨nd, rfl, h_4⟩ := h_3
    obtain ⟨F, i, y, G, T, W, hp, hc, hs, hk⟩ := h_4
    refine ⟨(sp_rsn g r o nd F i y G T W), c_rsn l g r o nd F i y G T W, fun _ _ h9 => ⟨_, _, h9.1, (h9.2.1 ▸ (h9.2.2.1 0).1)⟩, ⟨rfl, hp⟩, hc, hs, fun v9 S' h8 => by
      obtain ⟨h7, h8⟩ := h8
      cases h7
      subst h8
      exact hk, fun _ _ q => q.elim⟩
  · exact h.elim
