/-! ===== Peer.lacks ===== -/
/-- what a peer b knows of the four: rows of 256 counts -/
def KnR (S : MM) (b kn : Nat) (kr : Nat → Nat) (Kn : Nat → Nat → Nat) : Prop := mR S 1103 b = some kn ∧ isO S 28 kn ∧ mN S kn = 4 ∧ ∀ o, o < 4 → eR S kn o = some (kr o) ∧ isO S (17) (kr o) ∧ mN S (kr o) = 256 ∧ ∀ j, j < 256 → eI S (kr o) j = nI (Kn o j) ∧ Kn o j < 2147483648
def lckP (G : Gr) (Kn : Nat → Nat → Nat) (o : Option Nat) (l : Nat) : Prop := match o with
  | none => True
  | some o => Kn o (G.ag (G.ev l).sl) ≤ (G.ev l).nu
def T_plk : TR := fun Rc Rs av S cs sl K _Kx => match av with
  | [.inr (.inr b_o), .inl o, .inr (.inr e_o)] => pa b_o fun b => (pa e_o fun e => (∃ (F : Nat → Nat × Nat) (i : Nat) (A : Nat → Nat) (X : GX) (G : Gr) (T : Tr) (H : List Nat) (W : Nat → Nat) (kn : Nat) (kr : Nat → Nat) (Kn : Nat → Nat → Nat) (oo : Option Nat) (l9 : Nat), (isO S 11 b ∧ KnR S b kn kr Kn ∧ GI S F i A X G T H W ∧ l9 < G.n ∧ e = X.ad l9 ∧ o = loI oo ∧ (∀ q, oo = some q → q < 4)) ∧ cs ≤ Rc ∧ sl ≤ Rs ∧ (K (some (.inl (tf (lckP G Kn oo l9)))) S cs sl)))
  | _ => False
def sp_plk (b : Nat) (o : Int32) (e : Nat) (F : Nat → Nat × Nat) (i : Nat) (A : Nat → Nat) (X : GX) (G : Gr) (T : Tr) (H : List Nat) (W : Nat → Nat) (kn : Nat) (kr : Nat → Nat) (Kn : Nat → Nat → Nat) (oo : Option Nat) (l9 : Nat) : Sp := (fun av S => av = [.inr (.inr (some b)), .inl o, .inr (.inr (some e))] ∧ (isO S 11 b ∧ KnR S b kn kr Kn ∧ GI S F i A X G T H W ∧ l9 < G.n ∧ e = X.ad l9 ∧ o = loI oo ∧ (∀ q, oo = some q → q < 4)), fun _ S => 0, fun _ S => 0, fun _ S rv S' => rv = (some (.inl (tf (lckP G Kn oo l9)))) ∧ S' = S, fun _ _ _ _ => False)
def tX10_lacks : CD := [(0, .iload_n 1), (1, .iconst (-1)), (2, .if_icmp .eq 24), (5, .aload_n 2), (6, .getfield 179), (9, .aload_n 0), (10, .getfield 27), (13, .iload_n 1), (14, .aaload), (15, .aload_n 2), (16, .getfield 180), (19, .getfield 184), (22, .iaload), (23, .if_icmp .lt 7), (26, .iconst 1), (27, .goto 4), (30, .iconst 0), (31, .ireturn)]
set_option maxRecDepth 100000 in
theorem kX10_lacks : chk cX10_lacks tX10_lacks = true := by decide +kernel

set_option maxRecDepth 100000 in
set_option maxHeartbeats 2000000 in
theorem c_plk (l : Launch) : ∀ (b : Nat) (o : Int32) (e : Nat) (F : Nat → Nat × Nat) (i : Nat) (A : Nat → Nat) (X : GX) (G : Gr) (T : Tr) (H : List Nat) (W : Nat → Nat) (kn : Nat) (kr : Nat → Nat) (Kn : Nat → Nat → Nat) (oo : Option Nat) (l9 : Nat), Ct l yX10_lacks cX10_lacks 3 (some .boolean) 0 0 (sp_plk b o e F i A X G T H W kn kr Kn oo l9) := by
  intro b o e F i A X G T H W kn kr Kn oo l9
  refine Ct.of (fX10, nX10, aX10, iX10, lX10, [], qX10, gX10, []) false tX10_lacks (fun _ _ _ => none) (by decide) (by decide) kX10_lacks ⟨_, _, rfl⟩ fX10_ok nX10_ok aX10_ok iX10_ok lX10_ok (fun _ _ _ _ _ _ _ _ _ _ _ _ _ _ _ _ _ _ => no_all) qX10_ok gX10_ok rfl ?_ ?_
  · rintro _ S ⟨rfl, hp⟩
    refine ⟨Nat.le_of_ble_eq_true rfl, 300, ?_⟩
    show ((o = (-1 : Int32) → (([] : List MV) = [] ∧ mret (some .boolean) (sp_plk b o e F i A X G T H W kn kr Kn oo l9) [.inr (.inr (some b)), .inl o, .inr (.inr (some e))] S (some (.inl (1 : Int32))) S 0 0)) ∧ (¬ o = (-1 : Int32) → (isO S 5 e ∧ (isO S 11 b ∧ (pa (mR S 1103 b) fun a_1 => a_1 ∈ mL S ∧ ¬ mK S a_1 < 21 ∧ mK S a_1 < 29 ∧ inR S a_1 o ∧ (isO S 5 e ∧ (pa (mR S 500 e) fun a_2 => isO S 1 a_2 ∧ (pa (eR S a_1 o.toNatClampNeg) fun a_3 => ∃ v_4 : Int32, (isO S 17 a_3 ∧ inR S a_3 (mI S 100 a_2) ∧ v_4 = eI S a_3 (mI S 100 a_2).toNatClampNeg ∨ a_3 = (mQ S).1 ∧ vp_in (mI S 100 a_2) 16 ∧ v_4 = mRem (mI S 100 a_2).toNatClampNeg) ∧ (((mI S 501 e) < v_4 → (([] : List MV) = [] ∧ mret (some .boolean) (sp_plk b o e F i A X G T H W kn kr Kn oo l9) [.inr (.inr (some b)), .inl o, .inr (.inr (some e))] S (some (.inl (0 : Int32))) S 0 0)) ∧ (¬ (mI S 501 e) < v_4 → (([] : List MV) = [] ∧ mret (some .boolean) (sp_plk b o e F i A X G T H W kn kr Kn oo l9) [.inr (.inr (some b)), .inl o, .inr (.inr (some e))] S (some (.inl (1 : Int32))) S 0 0)))))))))))
    obtain ⟨h1, ⟨k1, k2, k3, k4⟩, hG, hl, rfl, rfl, ho⟩ := hp
    cases oo with
    | none => exact ⟨fun _ => ⟨rfl, Or.inr rfl, ⟨by rw [tf_t (show lckP G Kn none l9 from trivial)], rfl⟩, Nat.le_refl _, Nat.le_refl _⟩, fun z => absurd rfl z⟩
    | some q =>
      have hq := ho q rfl
      obtain ⟨v1, v2, v3, -⟩ := hG.ev.2.1 l9 hl
      have ag := hG.ev.2.2.1 _ (hG.ok.sl1 l9 hl)
      have agb := hG.ok.ag1 _ (hG.ok.sl1 l9 hl)
      have nub := hG.ev.nu hl
      obtain ⟨r1, r2, r3, r4⟩ := k4 q hq
      obtain ⟨r5, r6⟩ := r4 _ agb
      have e1 : (nI q).toNatClampNeg = q := nI_clamp (by omega)
      refine ⟨fun z => ?_, fun z => ⟨v1, h1, pa_i k1 ⟨k2.1, by rw [k2.2]; decide, by rw [k2.2]; decide, ?_, v1, pa_i v2 ⟨ag.1, pa_i (show eR S kn (loI (some q)).toNatClampNeg = some (kr q) by rw [show loI (some q) = nI q from rfl, e1]; exact r1) ⟨nI (Kn q (G.ag (G.ev l9).sl)), Or.inl ⟨r2, ?_, ?_⟩, ?_⟩⟩⟩⟩⟩
      · have z : nI q = -1 := z
        have w := nI_pos (n := q) (by omega)
        rw [z] at w
        exact absurd (by decide) w
      · show vp_in (nI q) (mN S kn)
        rw [k3]; exact vp_in_nI hq (by decide)
      · rw [ag.2.1, inR, r3]; exact vp_in_nI agb (by decide)
      · rw [ag.2.1, nI_clamp (by omega), r5]
      · rw [v3]
        refine if_lt (by omega) r6 (fun w => ⟨rfl, Or.inl rfl, ⟨?_, rfl⟩, Nat.le_refl _, Nat.le_refl _⟩) (fun w => ⟨rfl, Or.inr rfl, ⟨?_, rfl⟩, Nat.le_refl _, Nat.le_refl _⟩)
        · rw [tf_f (show ¬ lckP G Kn (some q) l9 from fun u => by have u : Kn q (G.ag (G.ev l9).sl) ≤ (G.ev l9).nu := u; omega)]
        · rw [tf_t (show lckP G Kn (some q) l9 from w)]
  · exact fun _ _ _ _ _ h => by cases h
theorem u_plk (l : Launch) : Us l yX10_lacks cX10_lacks 3 (some .boolean) 0 0 11 T_plk := by
  intro Rc Rs av S cs sl K Kx h
  unfold T_plk at h
  split at h
  · rename_i b_o o e_o
    obtain ⟨b, rfl, h_1⟩ := pa_of h
    obtain ⟨e, rfl, h_2⟩ := pa_of h_1
    obtain ⟨F, i, A, X, G, T, H, W, kn, kr, Kn, oo, l9, hp, hc, hs, hk⟩ := h_2
    refine ⟨(sp_plk b o e F i A X G T H W kn kr Kn oo l9), c_plk l b o e F i A X G T H W kn kr Kn oo l9, fun _ _ h9 => ⟨_, _, h9.1, h9.2.1⟩, ⟨rfl, hp⟩, hc, hs, fun v9 S' h8 => by
      obtain ⟨h7, h8⟩ := h8
      cases h7
      subst h8
      exact hk, fun _ _ q => q.elim⟩
  · exact h.elim
