/-! ===== Graph.renewHeads ===== -/
/-- the heads without some, and with a new one among them by the keys -/
def HdN (G : Gr) (H : List Nat) (e : Nat) (H2 : List Nat) : Prop := (∀ x, x ∈ H2 ↔ x = e ∨ (x ∈ H ∧ x ∉ (G.ev e).pr)) ∧ H2.Pairwise (fun p q => G.key p < G.key q) ∧ H2.length ≤ H.length + 1
def rhP (S S' : MM) (X : GX) (G : Gr) (ho d c e : Nat) (H : List Nat) : Prop := ∃ d' c' H2, AL S' ho d' c' 5 (H2.map X.ad) ∧ Keep (AP S ho d c) S S' ∧ ((d' = d ∧ c ≠ 0) ∨ d' ∉ mL S) ∧ HdN G H e H2 ∧ ((c' = c) ∨ (c' = gcap c ∧ H.length = c))
/-- the heads without the first k parents -/
def hdF (G : Gr) (H : List Nat) (e k : Nat) : List Nat := H.filter (fun x => decide (x ∉ (G.ev e).pr.take k))
theorem hdF_0 (G : Gr) (H : List Nat) (e : Nat) : hdF G H e 0 = H := by
  unfold hdF
  rw [List.filter_eq_self]
  intro x _
  simp
theorem hdF_s {G : Gr} {H : List Nat} {e k : Nat} (hk : k < (G.ev e).pr.length) : hdF G H e (k + 1) = (hdF G H e k).filter (fun x => decide (x ≠ (G.ev e).pr.getD k 0)) := by
  unfold hdF
  rw [List.filter_filter]
  refine List.filter_congr (fun x _ => ?_)
  rw [List.take_succ_eq_append_getElem hk, getD_el hk]
  simp only [List.mem_append, List.mem_singleton, not_or, ← Bool.decide_and]
  exact decide_eq_decide.2 And.comm
theorem hdF_mem {G : Gr} {H : List Nat} {e k x : Nat} : x ∈ hdF G H e k ↔ x ∈ H ∧ x ∉ (G.ev e).pr.take k := by
  unfold hdF
  rw [List.mem_filter, decide_eq_true_eq]
theorem EvT.keepA {S S1 : MM} {X : GX} {G : Gr} {ho d c kk : Nat} {L : List Nat} (h : EvT S X G) (hA : AL S ho d c kk L) (hk : Keep (AP S ho d c) S S1) : EvT S1 X G := by
  refine h.keep hk (fun k q => ?_) (fun s q => ?_)
  · obtain ⟨a1, a2, a3, a4, a5, a6, a7, a8, a9, a10, -⟩ := h.2.1 k q
    exact ⟨AP.no a1 (by decide) (isO_ne a1 hA.1 (by decide)), AP.no a6 (by decide) (isO_ne a6 hA.1 (by decide)), AP.no a10 (by decide) (isO_ne a10 hA.1 (by decide))⟩
  · obtain ⟨a1, -⟩ := h.2.2.1 s q
    exact AP.no a1 (by decide) (isO_ne a1 hA.1 (by decide))
/-- an insertion into a row in order -/
theorem pw_ins {f : Nat → Nat} {L : List Nat} {x k : Nat} (h : L.Pairwise (fun p q => f p < f q)) (hk : k ≤ L.length) (h1 : ∀ j, j < k → f (L.getD j 0) < f x) (h2 : ∀ j, k ≤ j → j < L.length → f x < f (L.getD j 0)) : (L.take k ++ x :: L.drop k).Pairwise (fun p q => f p < f q) := by
  have hx : ∀ z, z ∈ L.take k → f z < f x := by
    intro z hz
    obtain ⟨j, g1, g2⟩ := List.mem_iff_getElem.1 hz
    rw [List.length_take] at g1
    have := h1 j (by omega)
    rw [List.getElem_take] at g2
    rw [getD_el (L := L) (j := j) (by omega), g2] at this
    exact this
  have hy : ∀ z, z ∈ L.drop k → f x < f z := by
    intro z hz
    obtain ⟨j, g1, g2⟩ := List.mem_iff_getElem.1 hz
    rw [List.length_drop] at g1
    have := h2 (k + j) (by omega) (by omega)
    rw [List.getElem_drop] at g2
    rw [getD_el (L := L) (j := k + j) (by omega), g2] at this
    exact this
  rw [List.pairwise_append, List.pairwise_cons]
  refine ⟨List.Pairwise.sublist (List.take_sublist _ _) h, ⟨hy, List.Pairwise.sublist (List.drop_sublist _ _) h⟩, fun u hu v hv => ?_⟩
  rcases List.mem_cons.1 hv with w | w
  · rw [w]; exact hx u hu
  · exact Nat.lt_trans (hx u hu) (hy v w)
def I_rh1 (g x ho d c e : Nat) (X : GX) (G : Gr) (H : List Nat) (S : MM) (t : Nat) : KT := fun lo st S1 cs sl => ∃ k, t = 1000000 + ((G.ev e).pr.length - k) ∧ k ≤ (G.ev e).pr.length ∧ lo = [(2, .inl (nI k)), (0, .inr (.inr (some g))), (1, .inr (.inr (some x)))] ∧ st = [] ∧ dhP S S1 ho d c ((hdF G H e k).map X.ad) ∧ cs = 0 ∧ sl = 0
def I_rh2 (g x ho d c e : Nat) (X : GX) (G : Gr) (H : List Nat) (S : MM) (t : Nat) : KT := fun lo st S1 cs sl => ∃ H1, H1 = hdF G H e (G.ev e).pr.length ∧ t ≤ H1.length ∧ (∀ j, t ≤ j → j < H1.length → G.key e < G.key (H1.getD j 0)) ∧ lo = [(2, .inl (nI t)), (0, .inr (.inr (some g))), (1, .inr (.inr (some x)))] ∧ st = [] ∧ dhP S S1 ho d c (H1.map X.ad) ∧ cs = 0 ∧ sl = 0
def T_grh : TR := fun Rc Rs av S cs sl K _Kx => match av with
  | [.inr (.inr g_o), .inr (.inr x_o)] => pa g_o fun g => (pa x_o fun x => (∃ (ho d c e : Nat) (X : GX) (G : Gr) (H : List Nat), (isO S 6 g ∧ mR S 604 g = some ho ∧ AL S ho d c 5 (H.map X.ad) ∧ c ≤ 50000 ∧ EvT S X G ∧ e < G.n ∧ x = X.ad e ∧ (∀ y, y ∈ H → y < G.n ∧ y ≠ e) ∧ H.Pairwise (fun p q => G.key p < G.key q)) ∧ cs + (alC c H.length) ≤ Rc ∧ sl + (alZ c H.length) ≤ Rs ∧ (∀ (S' : MM), (rhP S S' X G ho d c e H) → K none S' (cs + (alC c H.length)) (sl + (alZ c H.length)))))
  | _ => False
def sp_grh (g : Nat) (x : Nat) (ho d c e : Nat) (X : GX) (G : Gr) (H : List Nat) : Sp := (fun av S => av = [.inr (.inr (some g)), .inr (.inr (some x))] ∧ (isO S 6 g ∧ mR S 604 g = some ho ∧ AL S ho d c 5 (H.map X.ad) ∧ c ≤ 50000 ∧ EvT S X G ∧ e < G.n ∧ x = X.ad e ∧ (∀ y, y ∈ H → y < G.n ∧ y ≠ e) ∧ H.Pairwise (fun p q => G.key p < G.key q)), fun _ S => alC c H.length, fun _ S => alZ c H.length, fun _ S rv S' => rv = none ∧ (rhP S S' X G ho d c e H), fun _ _ _ _ => False)
def tX5_renewHeads : CD := [(0, .iconst 0), (1, .istore_n 2), (2, .iload_n 2), (3, .aload_n 1), (4, .getfield 220), (7, .arraylength), (8, .if_icmp .ge 19), (11, .aload_n 0), (12, .aload_n 1), (13, .getfield 220), (16, .iload_n 2), (17, .aaload), (18, .invokevirtual 224), (21, .iinc 2 1), (24, .goto (-22)), (27, .aload_n 0), (28, .getfield 40), (31, .invokevirtual 68), (34, .istore_n 2), (35, .iload_n 2), (36, .ifCond .le 33), (39, .aload_n 0), (40, .getfield 40), (43, .iload_n 2), (44, .iconst 1), (45, .isub), (46, .invokevirtual 76), (49, .checkcast 9), (52, .invokevirtual 112), (55, .aload_n 1), (56, .invokevirtual 112), (59, .lcmp), (60, .ifCond .le 9), (63, .iinc 2 (-1)), (66, .goto (-31)), (69, .aload_n 0), (70, .getfield 40), (73, .iload_n 2), (74, .aload_n 1), (75, .invokevirtual 227), (78, .return_)]
set_option maxRecDepth 100000 in
theorem kX5_renewHeads : chk cX5_renewHeads tX5_renewHeads = true := by decide +kernel
theorem vX5_renewHeads_224 : ∀ w ∈ ([.methodLink RX5 224 yX5_dropHead, .instanceMethod yX5_dropHead, .selects yX5_dropHead.cls yX5_dropHead yX5_dropHead, .initialized yX5_dropHead.cls, .code yX5_dropHead cX5_dropHead 3 none] : List Cond), w ∈ lw_good := List.forall_mem_cons.mpr ⟨mgd 1011 (by decide +kernel) (by decide +kernel), List.forall_mem_cons.mpr ⟨mgd 1013 (by decide +kernel) (by decide +kernel), List.forall_mem_cons.mpr ⟨mgd 13 (by decide +kernel) (by decide +kernel), List.forall_mem_cons.mpr ⟨mgd 125 (by decide +kernel) (by decide +kernel), List.forall_mem_cons.mpr ⟨mgd 1014 (by decide +kernel) (by decide +kernel), fun _ h => absurd h List.not_mem_nil⟩⟩⟩⟩⟩
theorem vX5_renewHeads_68 : ∀ w ∈ ([.methodLink RX5 68 yJx4a65c_size_8abf5, .instanceMethod yJx4a65c_size_8abf5, .selects yJx4a65c_size_8abf5.cls yJx4a65c_size_8abf5 yJx4a65c_size_8abf5, .initialized yJx4a65c_size_8abf5.cls, .code yJx4a65c_size_8abf5 cJx4a65c_size_8abf5 1 (some .int)] : List Cond), w ∈ lw_good := List.forall_mem_cons.mpr ⟨mgd 672 (by decide +kernel) (by decide +kernel), List.forall_mem_cons.mpr ⟨mgd 673 (by decide +kernel) (by decide +kernel), List.forall_mem_cons.mpr ⟨mgd 674 (by decide +kernel) (by decide +kernel), List.forall_mem_cons.mpr ⟨mgd 130 (by decide +kernel) (by decide +kernel), List.forall_mem_cons.mpr ⟨mgd 675 (by decide +kernel) (by decide +kernel), fun _ h => absurd h List.not_mem_nil⟩⟩⟩⟩⟩
theorem vX5_renewHeads_76 : ∀ w ∈ ([.methodLink RX5 76 yJx4a65c_get_915e3, .instanceMethod yJx4a65c_get_915e3, .selects yJx4a65c_get_915e3.cls yJx4a65c_get_915e3 yJx4a65c_get_915e3, .initialized yJx4a65c_get_915e3.cls, .code yJx4a65c_get_915e3 cJx4a65c_get_915e3 2 (some (.object "java/lang/Object"))] : List Cond), w ∈ lw_good := List.forall_mem_cons.mpr ⟨mgd 676 (by decide +kernel) (by decide +kernel), List.forall_mem_cons.mpr ⟨mgd 677 (by decide +kernel) (by decide +kernel), List.forall_mem_cons.mpr ⟨mgd 678 (by decide +kernel) (by decide +kernel), List.forall_mem_cons.mpr ⟨mgd 130 (by decide +kernel) (by decide +kernel), List.forall_mem_cons.mpr ⟨mgd 679 (by decide +kernel) (by decide +kernel), fun _ h => absurd h List.not_mem_nil⟩⟩⟩⟩⟩
theorem vX5_renewHeads_112 : ∀ w ∈ ([.methodLink RX5 112 yX4_id, .instanceMethod yX4_id, .selects yX4_id.cls yX4_id yX4_id, .initialized yX4_id.cls, .code yX4_id cX4_id 1 (some .long)] : List Cond), w ∈ lw_good := List.forall_mem_cons.mpr ⟨mgd 910 (by decide +kernel) (by decide +kernel), List.forall_mem_cons.mpr ⟨mgd 911 (by decide +kernel) (by decide +kernel), List.forall_mem_cons.mpr ⟨mgd 912 (by decide +kernel) (by decide +kernel), List.forall_mem_cons.mpr ⟨mgd 126 (by decide +kernel) (by decide +kernel), List.forall_mem_cons.mpr ⟨mgd 913 (by decide +kernel) (by decide +kernel), fun _ h => absurd h List.not_mem_nil⟩⟩⟩⟩⟩
theorem vX5_renewHeads_227 : ∀ w ∈ ([.methodLink RX5 227 yJx4a65c_add_7a177, .instanceMethod yJx4a65c_add_7a177, .selects yJx4a65c_add_7a177.cls yJx4a65c_add_7a177 yJx4a65c_add_7a177, .initialized yJx4a65c_add_7a177.cls, .code yJx4a65c_add_7a177 cJx4a65c_add_7a177 5 none] : List Cond), w ∈ lw_good := List.forall_mem_cons.mpr ⟨mgd 1024 (by decide +kernel) (by decide +kernel), List.forall_mem_cons.mpr ⟨mgd 1025 (by decide +kernel) (by decide +kernel), List.forall_mem_cons.mpr ⟨mgd 1026 (by decide +kernel) (by decide +kernel), List.forall_mem_cons.mpr ⟨mgd 130 (by decide +kernel) (by decide +kernel), List.forall_mem_cons.mpr ⟨mgd 1027 (by decide +kernel) (by decide +kernel), fun _ h => absurd h List.not_mem_nil⟩⟩⟩⟩⟩
set_option maxRecDepth 100000 in
set_option maxHeartbeats 2000000 in
theorem c_grh (l : Launch) : ∀ (g : Nat) (x : Nat) (ho d c e : Nat) (X : GX) (G : Gr) (H : List Nat), Ct l yX5_renewHeads cX5_renewHeads 3 none 6 143 (sp_grh g x ho d c e X G H) := by
  intro g x ho d c e X G H
  refine Ct.of (fX5, nX5, aX5, iX5, lX5, [(224, 0, 2, 0, T_gdh), (68, 0, 1, 1, T_alsz), (76, 0, 2, 3, T_alget), (112, 0, 1, 2, T_eid), (227, 0, 3, 0, T_alins)], qX5, gX5, []) false tX5_renewHeads (fun _ S => look [(2, ([2,0,1], I_rh1 g x ho d c e X G H S)), (35, ([2,0,1], I_rh2 g x ho d c e X G H S))]) (by decide) (by decide) kX5_renewHeads ⟨_, _, rfl⟩ fX5_ok nX5_ok aX5_ok iX5_ok lX5_ok (fun p e R s m args below meth c Q D cy z r A C hR1 hR2 => List.forall_mem_cons.mpr ⟨cOK_use (fun _ _ _ _ _ _ _ _ h => let ⟨sp, h1, h2, h3⟩ := u_gdh l _ _ _ _ _ _ _ _ h; ⟨sp, cOK_V C h1 vX5_renewHeads_224 ⟨by decide, by decide, by decide +kernel⟩ ⟨by rw [hR1]; decide, by rw [hR2]; decide⟩ (k := 6) (T := TX5) (N := 12) rfl (by decide) h2, h3⟩), List.forall_mem_cons.mpr ⟨cOK_use (fun _ _ _ _ _ _ _ _ h => let ⟨sp, h1, h2, h3⟩ := u_alsz l _ _ _ _ _ _ _ _ h; ⟨sp, cOK_V C h1 vX5_renewHeads_68 ⟨by decide, by decide, by decide +kernel⟩ ⟨by rw [hR1]; decide, by rw [hR2]; decide⟩ (k := 0) (T := TJx4a65c) (N := 3) rfl (by decide) h2, h3⟩), List.forall_mem_cons.mpr ⟨cOK_use (fun _ _ _ _ _ _ _ _ h => let ⟨sp, h1, h2, h3⟩ := u_alget l _ _ _ _ _ _ _ _ h; ⟨sp, cOK_V C h1 vX5_renewHeads_76 ⟨by decide, by decide, by decide +kernel⟩ ⟨by rw [hR1]; decide, by rw [hR2]; decide⟩ (k := 0) (T := TJx4a65c) (N := 3) rfl (by decide) h2, h3⟩), List.forall_mem_cons.mpr ⟨cOK_use (fun _ _ _ _ _ _ _ _ h => let ⟨sp, h1, h2, h3⟩ := u_eid l _ _ _ _ _ _ _ _ h; ⟨sp, cOK_V C h1 vX5_renewHeads_112 ⟨by decide, by decide, by decide +kernel⟩ ⟨by rw [hR1]; decide, by rw [hR2]; decide⟩ (k := 5) (T := TX4) (N := 16) rfl (by decide) h2, h3⟩), List.forall_mem_cons.mpr ⟨cOK_use (fun _ _ _ _ _ _ _ _ h => let ⟨sp, h1, h2, h3⟩ := u_alins l _ _ _ _ _ _ _ _ h; ⟨sp, cOK_V C h1 vX5_renewHeads_227 ⟨by decide, by decide, by decide +kernel⟩ ⟨by rw [hR1]; decide, by rw [hR2]; decide⟩ (k := 0) (T := TJx4a65c) (N := 3) rfl (by decide) h2, h3⟩), fun _ h => absurd h List.not_mem_nil⟩⟩⟩⟩⟩) qX5_ok gX5_ok rfl ?_ ?_
  · rintro _ S ⟨rfl, hp⟩
    refine ⟨Nat.le_of_ble_eq_true rfl, 300, ?_⟩
    show (∃ k1, I_rh1 g x ho d c e X G H S k1 [(2, .inl (0 : Int32)), (0, .inr (.inr (some g))), (1, .inr (.inr (some x)))] [] S 0 0)
    obtain ⟨h1, h2, h3, h4, h5, h6, rfl, h8, h9⟩ := hp
    refine ⟨1000000 + ((G.ev e).pr.length - 0), 0, rfl, Nat.zero_le _, rfl, rfl, ?_, rfl, rfl⟩
    rw [hdF_0]
    exact ⟨h3, Keep.rf⟩
  · intro av S hpre pc I hI k lo st S1 cs sl h
    obtain ⟨rfl, hp⟩ := hpre
    have hm := look_in hI
    simp only [List.mem_cons, List.not_mem_nil, or_false] at hm
    rcases hm with hm | hm
    · cases hm
      obtain ⟨k, rfl, hk, rfl, rfl, hD, rfl, rfl⟩ := h
      refine ⟨300, ?_⟩
      show (isO S1 5 x ∧ (pa (mR S1 503 x) fun a_1 => ∃ v_2 : Int32, (a_1 ∈ mL S1 ∧ ¬ mK S1 a_1 < 16 ∧ mK S1 a_1 < 29 ∧ v_2 = Int32.ofNat (mN S1 a_1) ∨ a_1 = mZ S1 ∧ v_2 = 0) ∧ ((v_2 ≤ (nI k) → (isO S1 6 g ∧ (0 = 0 ∧ ((pa (mR S1 604 g) fun a_3 => (∃ (d_4 c_5 kk_6 : Nat) (L_7 : List Nat), (AL S1 a_3 d_4 c_5 kk_6 L_7) ∧ 0 ≤ alC c H.length ∧ 0 ≤ alZ c H.length ∧ ((∃ k1, k1 < (1000000 + ((G.ev e).pr.length - k)) ∧ I_rh2 g x ho d c e X G H S k1 [(2, .inl (nI L_7.length)), (0, .inr (.inr (some g))), (1, .inr (.inr (some x)))] [] S1 0 0)))))))) ∧ (¬ v_2 ≤ (nI k) → (isO S1 5 x ∧ (pa (mR S1 503 x) fun a_9 => a_9 ∈ mL S1 ∧ ¬ mK S1 a_9 < 21 ∧ mK S1 a_9 < 29 ∧ inR S1 a_9 (nI k) ∧ (0 = 0 ∧ ((pa (eR S1 a_9 (nI k).toNatClampNeg) fun a_10 => (∃ (ho_11 d_12 c_13 : Nat) (L_14 : List Nat), (isO S1 6 g ∧ mR S1 604 g = some ho_11 ∧ AL S1 ho_11 d_12 c_13 5 L_14) ∧ 0 ≤ alC c H.length ∧ 0 ≤ alZ c H.length ∧ (∀ (S_15 : MM), (dhP S1 S_15 ho_11 d_12 c_13 (L_14.filter (fun y => decide (y ≠ a_10)))) → (∃ k1, k1 < (1000000 + ((G.ev e).pr.length - k)) ∧ I_rh1 g x ho d c e X G H S k1 [(2, .inl ((nI k) + (1 : Int32))), (0, .inr (.inr (some g))), (1, .inr (.inr (some x)))] [] S_15 0 0))))))))))))
      obtain ⟨h1, h2, h3, h4, h5, h6, rfl, h8, h9⟩ := hp
      obtain ⟨hA, hK⟩ := hD
      have hE1 := h5.keepA h3 hK
      have gk : ¬ AP S ho d c g := AP.no h1 (by decide) (isO_ne h1 h3.1 (by decide))
      have g1 : isO S1 6 g := hK.isO h1
      have g2 : mR S1 604 g = some ho := by rw [(hK.2.1 g h1.1 gk).2.1]; exact h2
      obtain ⟨a1, a2, a3, a4, a5, a6, a7, a8, -⟩ := hE1.2.1 e h6
      have hal := hA.2.2.2.1
      have hac := hA.2.2.2.2.1
      have hln := h5.1.hn
      have hpn : ∀ p, p ∈ (G.ev e).pr → p < G.n := fun p hp9 => Nat.lt_trans (h5.1.pr1 e h6 p hp9).1 h6
      have hpl : (G.ev e).pr.length ≤ G.n := by
        have hnd : (G.ev e).pr.Nodup := (h5.1.pr4 e h6).imp (fun hlt e9 => by rw [e9] at hlt; exact Nat.lt_irrefl _ hlt)
        have := List.Nodup.length_le_of_subset hnd (l₂ := List.range G.n) (fun p hp9 => List.mem_range.2 (hpn p hp9))
        rwa [List.length_range] at this
      rw [a5, g2]
      refine ⟨a1, nI (G.ev e).pr.length, Or.inl ⟨a6.1, by rw [a6.2]; decide, by rw [a6.2]; decide, by rw [a7]; rfl⟩, if_le (by omega) (by omega) (fun z => ?_) (fun z => ?_)⟩
      · have ek : k = (G.ev e).pr.length := by omega
        rw [ek] at hA
        rw [List.length_map] at hal
        refine ⟨g1, rfl, d, c, 5, _, hA, Nat.zero_le _, Nat.zero_le _, (hdF G H e (G.ev e).pr.length).length, ?_, _, rfl, Nat.le_refl _, fun j q1 q2 => absurd q2 (Nat.not_lt.2 q1), by rw [List.length_map], rfl, ⟨hA, hK⟩, rfl, rfl⟩
        rw [ek] at hal
        omega
      · have hpk : (G.ev e).pr.getD k 0 < G.n := by
          rw [getD_el z]; exact hpn _ (List.getElem_mem _)
        rw [nI_clamp (by omega)]
        refine ⟨a1, a6.1, by rw [a6.2]; decide, by rw [a6.2]; decide, by rw [inR, a7]; exact vp_in_nI z (by omega), rfl, ?_⟩
        rw [a8 k z]
        refine ⟨ho, d, c, _, ⟨g1, rfl, hA⟩, Nat.zero_le _, Nat.zero_le _, fun S2 hD2 => ⟨1000000 + ((G.ev e).pr.length - (k + 1)), by omega, k + 1, rfl, by omega, by rw [nI_1], rfl, ?_, rfl, rfl⟩⟩
        obtain ⟨b1, b2⟩ := hD2
        refine ⟨?_, AP.tr hK b2 (Or.inl rfl)⟩
        rw [hdF_s z]
        have e9 : ((hdF G H e k).map X.ad).filter (fun y => decide (y ≠ X.ad ((G.ev e).pr.getD k 0))) = ((hdF G H e k).filter (fun x => decide (x ≠ (G.ev e).pr.getD k 0))).map X.ad := by
          rw [List.filter_map]
          congr 1
          refine List.filter_congr (fun y hy => ?_)
          refine decide_eq_decide.2 (not_congr ⟨fun q => hE1.2.2.2 _ _ (h8 y (hdF_mem.1 hy).1).1 hpk q, fun q => by rw [q]⟩)
        rw [← e9]
        exact b1
    · cases hm
      obtain ⟨H1, hH, ht, hL, rfl, rfl, hD, rfl, rfl⟩ := h
      refine ⟨300, ?_⟩
      show (((nI k) ≤ 0 → (isO S1 6 g ∧ (0 = 0 ∧ ((pa (mR S1 604 g) fun a_1 => (∃ (i_2 : Nat), nI k = nI i_2 ∧ (∃ (d_3 c_4 kk_5 : Nat) (L_6 : List Nat), (AL S1 a_1 d_3 c_4 kk_5 L_6 ∧ isO S1 kk_5 x ∧ i_2 ≤ L_6.length ∧ c_4 ≤ 50000) ∧ 0 + (alC c_4 L_6.length) ≤ alC c H.length ∧ 0 + (alZ c_4 L_6.length) ≤ alZ c H.length ∧ (∀ (S_7 : MM), (adP S1 S_7 a_1 d_3 c_4 kk_5 L_6 (L_6.take i_2 ++ x :: L_6.drop i_2)) → (([] : List MV) = [] ∧ mret none (sp_grh g x ho d c e X G H) [.inr (.inr (some g)), .inr (.inr (some x))] S none S_7 (0 + (alC c_4 L_6.length)) (0 + (alZ c_4 L_6.length))))))))))) ∧ (¬ (nI k) ≤ 0 → (isO S1 6 g ∧ (0 = 0 ∧ ((pa (mR S1 604 g) fun a_8 => (∃ (i_9 : Nat), (nI k) - (1 : Int32) = nI i_9 ∧ (∃ (d_10 c_11 kk_12 : Nat) (L_13 : List Nat), (AL S1 a_8 d_10 c_11 kk_12 L_13 ∧ i_9 < L_13.length) ∧ 0 ≤ alC c H.length ∧ 0 ≤ alZ c H.length ∧ (((∀ w_15, (L_13[i_9]?) = some w_15 → isO S1 5 w_15) ∧ (0 = 0 ∧ ((pa (L_13[i_9]?) fun a_16 => (∃ (g_17 : Nat), (isO S1 5 a_16 ∧ mR S1 500 a_16 = some g_17 ∧ isO S1 1 g_17) ∧ 0 ≤ alC c H.length ∧ 0 ≤ alZ c H.length ∧ ((0 = 0 ∧ (∃ (g_19 : Nat), (isO S1 5 x ∧ mR S1 500 x = some g_19 ∧ isO S1 1 g_19) ∧ 0 ≤ alC c H.length ∧ 0 ≤ alZ c H.length ∧ ((((lg_cmp (evId S1 a_16 g_17) (evId S1 x g_19)) ≤ 0 → (isO S1 6 g ∧ (0 = 0 ∧ ((pa (mR S1 604 g) fun a_21 => (∃ (i_22 : Nat), nI k = nI i_22 ∧ (∃ (d_23 c_24 kk_25 : Nat) (L_26 : List Nat), (AL S1 a_21 d_23 c_24 kk_25 L_26 ∧ isO S1 kk_25 x ∧ i_22 ≤ L_26.length ∧ c_24 ≤ 50000) ∧ 0 + (alC c_24 L_26.length) ≤ alC c H.length ∧ 0 + (alZ c_24 L_26.length) ≤ alZ c H.length ∧ (∀ (S_27 : MM), (adP S1 S_27 a_21 d_23 c_24 kk_25 L_26 (L_26.take i_22 ++ x :: L_26.drop i_22)) → (([] : List MV) = [] ∧ mret none (sp_grh g x ho d c e X G H) [.inr (.inr (some g)), .inr (.inr (some x))] S none S_27 (0 + (alC c_24 L_26.length)) (0 + (alZ c_24 L_26.length))))))))))) ∧ (¬ (lg_cmp (evId S1 a_16 g_17) (evId S1 x g_19)) ≤ 0 → (∃ k1, k1 < k ∧ I_rh2 g x ho d c e X G H S k1 [(2, .inl ((nI k) + (-1 : Int32))), (0, .inr (.inr (some g))), (1, .inr (.inr (some x)))] [] S1 0 0)))))))))))))))))))))
      obtain ⟨h1, h2, h3, h4, h5, h6, rfl, h8, h9⟩ := hp
      obtain ⟨hA, hK⟩ := hD
      have hE1 := h5.keepA h3 hK
      have gk : ¬ AP S ho d c g := AP.no h1 (by decide) (isO_ne h1 h3.1 (by decide))
      have g1 : isO S1 6 g := hK.isO h1
      have g2 : mR S1 604 g = some ho := by rw [(hK.2.1 g h1.1 gk).2.1]; exact h2
      have hal := hA.2.2.2.1
      have hac := hA.2.2.2.2.1
      have hHc := h3.2.2.2.1
      rw [List.length_map] at hal hHc
      have hmem : ∀ x, x ∈ H1 ↔ x ∈ H ∧ x ∉ (G.ev e).pr := fun x => by rw [hH, hdF_mem, List.take_length]
      have hlH : H1.length ≤ H.length := by rw [hH]; exact List.length_filter_le _ _
      have hsH : H1.Pairwise (fun p q => G.key p < G.key q) := by rw [hH]; exact List.Pairwise.sublist List.filter_sublist h9
      have hx5 : isO S1 5 (X.ad e) := (hE1.2.1 e h6).1
      have c1 : 0 + alC c (H1.map X.ad).length ≤ alC c H.length := by
        rw [List.length_map]
        unfold alC
        split <;> split <;> omega
      have c2 : 0 + alZ c (H1.map X.ad).length ≤ alZ c H.length := by
        rw [List.length_map]
        unfold alZ
        split <;> split <;> omega
      have fin : (∀ j, j < k → G.key (H1.getD j 0) < G.key e) → ∀ S7, adP S1 S7 ho d c 5 (H1.map X.ad) ((H1.map X.ad).take k ++ X.ad e :: (H1.map X.ad).drop k) → mret none (sp_grh g (X.ad e) ho d c e X G H) [.inr (.inr (some g)), .inr (.inr (some (X.ad e)))] S none S7 (0 + alC c (H1.map X.ad).length) (0 + alZ c (H1.map X.ad).length) := by
        intro hlow S7 hS
        obtain ⟨d', f1, f2, f3⟩ := hS
        have e9 : (H1.map X.ad).take k ++ X.ad e :: (H1.map X.ad).drop k = (H1.take k ++ e :: H1.drop k).map X.ad := by
          rw [List.map_append, List.map_cons, List.map_take, List.map_drop]
        rw [e9, List.length_map] at f1
        refine ⟨trivial, ⟨rfl, d', _, _, f1, AP.tr hK f2 (Or.inl rfl), f3.imp id (fun w q => w (hK.1 _ q).1), ⟨fun x => ?_, pw_ins hsH ht hlow hL, ?_⟩, ?_⟩, c1, c2⟩
        · rw [List.mem_append, List.mem_cons, ← hmem]
          constructor
          · rintro (w | w | w)
            · exact Or.inr (List.mem_of_mem_take w)
            · exact Or.inl w
            · exact Or.inr (List.mem_of_mem_drop w)
          · rintro (w | w)
            · exact Or.inr (Or.inl w)
            · rw [← List.take_append_drop k H1, List.mem_append] at w
              exact w.elim Or.inl (fun v => Or.inr (Or.inr v))
        · rw [List.length_append, List.length_cons, List.length_take, List.length_drop]; omega
        · unfold alK
          split
          · exact Or.inr ⟨rfl, by omega⟩
          · exact Or.inl rfl
      rw [g2]
      have tl : ∀ q : (∀ j, j < k → G.key (H1.getD j 0) < G.key e), isO S1 6 g ∧ (0 = 0 ∧ (∃ (i_2 : Nat), nI k = nI i_2 ∧ (∃ (d_3 c_4 kk_5 : Nat) (L_6 : List Nat), (AL S1 ho d_3 c_4 kk_5 L_6 ∧ isO S1 kk_5 (X.ad e) ∧ i_2 ≤ L_6.length ∧ c_4 ≤ 50000) ∧ 0 + (alC c_4 L_6.length) ≤ alC c H.length ∧ 0 + (alZ c_4 L_6.length) ≤ alZ c H.length ∧ (∀ (S_7 : MM), (adP S1 S_7 ho d_3 c_4 kk_5 L_6 (L_6.take i_2 ++ X.ad e :: L_6.drop i_2)) → (([] : List MV) = [] ∧ mret none (sp_grh g (X.ad e) ho d c e X G H) [.inr (.inr (some g)), .inr (.inr (some (X.ad e)))] S none S_7 (0 + (alC c_4 L_6.length)) (0 + (alZ c_4 L_6.length))))))) := fun q => ⟨g1, rfl, k, rfl, d, c, 5, H1.map X.ad, ⟨hA, hx5, by rw [List.length_map]; exact ht, h4⟩, c1, c2, fun S7 hS => ⟨rfl, fin q S7 hS⟩⟩
      refine if_le (b := 0) (by omega) (by decide) (fun z => tl (fun j hj => by omega)) (fun z => ?_)
      have hk1 : k - 1 < H1.length := by omega
      have hin : H1.getD (k - 1) 0 ∈ H1 := by rw [getD_el hk1]; exact List.getElem_mem _
      have hn1 := h8 _ ((hmem _).1 hin).1
      have el : (H1.map X.ad)[k - 1]? = some (X.ad (H1.getD (k - 1) 0)) := by
        rw [List.getElem?_map, List.getElem?_eq_getElem hk1, getD_el hk1]; rfl
      refine ⟨g1, rfl, k - 1, pk_sub (b := 1) (by omega), d, c, 5, H1.map X.ad, ⟨hA, by rw [List.length_map]; exact hk1⟩, Nat.zero_le _, Nat.zero_le _, fun w hw => hA.el (List.mem_of_getElem? hw), rfl, ?_⟩
      rw [el]
      refine ⟨_, ⟨(hE1.2.1 _ hn1.1).1, (hE1.2.1 _ hn1.1).2.1, (hE1.agk hn1.1).1⟩, Nat.zero_le _, Nat.zero_le _, rfl, _, ⟨hx5, (hE1.2.1 e h6).2.1, (hE1.agk h6).1⟩, Nat.zero_le _, Nat.zero_le _, ?_⟩
      rw [hE1.id hn1.1, hE1.id h6]
      have kk := lNk (hE1.key_lt hn1.1) (hE1.key_lt h6)
      refine ⟨fun u => tl (fun j hj => ?_), fun u => ⟨k - 1, by omega, H1, hH, by omega, fun j q1 q2 => ?_, ?_, rfl, ⟨hA, hK⟩, rfl, rfl⟩⟩
      · have u2 := kk.2.1.1 ((lg_cmp_le _ _).1 u)
        have hne : G.key (H1.getD (k - 1) 0) ≠ G.key e := fun e9 => hn1.2 (Gr.key_inj h5.1 hn1.1 h6 e9)
        by_cases w : j = k - 1
        · rw [w]; omega
        · have := List.pairwise_iff_getElem.1 hsH j (k - 1) (by omega) hk1 (by omega)
          rw [← getD_el, ← getD_el] at this
          omega
      · by_cases w : j = k - 1
        · rw [w]
          refine Decidable.byContradiction (fun v => u ((lg_cmp_le _ _).2 (kk.2.1.2 (by omega))))
        · exact hL j (by omega) q2
      · rw [show nI k + (-1 : Int32) = nI k - 1 from (Int32.sub_eq_add_neg _ _).symm, show nI k - (1 : Int32) = nI (k - 1) from pk_sub (b := 1) (by omega)]
theorem u_grh (l : Launch) : Us l yX5_renewHeads cX5_renewHeads 3 none 6 143 6 T_grh := by
  intro Rc Rs av S cs sl K Kx h
  unfold T_grh at h
  split at h
  · rename_i g_o x_o
    obtain ⟨g, rfl, h_1⟩ := pa_of h
    obtain ⟨x, rfl, h_2⟩ := pa_of h_1
    obtain ⟨ho, d, c, e, X, G, H, hp, hc, hs, hk⟩ := h_2
    refine ⟨(sp_grh g x ho d c e X G H), c_grh l g x ho d c e X G H, fun _ _ h9 => ⟨_, _, h9.1, h9.2.1⟩, ⟨rfl, hp⟩, hc, hs, fun S' h8 => by
      obtain ⟨-, h8⟩ := h8
      exact hk _ h8, fun _ _ q => q.elim⟩
  · exact h.elim
