/-! ===== the contracts so far, as transformers ===== -/
def T_ins : TR := fun Rc Rs av S cs sl K _Kx => match av with
  | [.inr (.inr a_o)] => pa a_o fun a => ((isO S 5 a) ∧ cs ≤ Rc ∧ sl ≤ Rs ∧ (K (some (.inl (if mI S 505 a = -1 then 0 else 1))) S cs sl))
  | _ => False
theorem u_ins (l : Launch) : Us l yX4_inserts cX4_inserts 1 (some .boolean) 0 0 5 T_ins := by
  intro Rc Rs av S cs sl K Kx h
  unfold T_ins at h
  split at h
  case h_2 => exact h.elim
  · rename_i a_o
    obtain ⟨a, rfl, h_1⟩ := pa_of h
    obtain ⟨hp, hc, hs, hk⟩ := h_1
    refine ⟨sp_inserts, c_X4_inserts l, fun _ _ ⟨a, e, h⟩ => ⟨a, [], e, h⟩, ⟨a, rfl, hp⟩, hc, hs, fun v S' h8 => ?_, fun _ _ q => q.elim⟩
    obtain ⟨h7, h6⟩ := h8 _ rfl
    cases h7
    subst h6
    exact hk
def T_vis : TR := fun Rc Rs av S cs sl K _Kx => match av with
  | [.inr (.inr a_o)] => pa a_o fun a => ((isO S 5 a) ∧ cs ≤ Rc ∧ sl ≤ Rs ∧ (K (some (.inl (if mI S 514 a = -1 then 1 else 0))) S cs sl))
  | _ => False
theorem u_vis (l : Launch) : Us l yX4_isVisible cX4_isVisible 1 (some .boolean) 0 0 5 T_vis := by
  intro Rc Rs av S cs sl K Kx h
  unfold T_vis at h
  split at h
  case h_2 => exact h.elim
  · rename_i a_o
    obtain ⟨a, rfl, h_1⟩ := pa_of h
    obtain ⟨hp, hc, hs, hk⟩ := h_1
    refine ⟨sp_isVisible, c_X4_isVisible l, fun _ _ ⟨a, e, h⟩ => ⟨a, [], e, h⟩, ⟨a, rfl, hp⟩, hc, hs, fun v S' h8 => ?_, fun _ _ q => q.elim⟩
    obtain ⟨h7, h6⟩ := h8 _ rfl
    cases h7
    subst h6
    exact hk
def T_eid : TR := fun Rc Rs av S cs sl K _Kx => match av with
  | [.inr (.inr a_o)] => pa a_o fun a => (∃ (g : Nat), (isO S 5 a ∧ mR S 500 a = some g ∧ isO S 1 g) ∧ cs ≤ Rc ∧ sl ≤ Rs ∧ (K (some (.inr (.inl (evId S a g)))) S cs sl))
  | _ => False
theorem u_eid (l : Launch) : Us l yX4_id cX4_id 1 (some .long) 0 0 5 T_eid := by
  intro Rc Rs av S cs sl K Kx h
  unfold T_eid at h
  split at h
  case h_2 => exact h.elim
  · rename_i a_o
    obtain ⟨a, rfl, h_1⟩ := pa_of h
    obtain ⟨g, hp, hc, hs, hk⟩ := h_1
    refine ⟨sp_id, c_X4_id l, fun _ _ ⟨a, g, e, h, _⟩ => ⟨a, [], e, h⟩, ⟨a, g, rfl, hp⟩, hc, hs, fun v S' h8 => ?_, fun _ _ q => q.elim⟩
    obtain ⟨h7, h6⟩ := h8 _ _ rfl hp.2.1
    cases h7
    subst h6
    exact hk
def T_anc : TR := fun Rc Rs av S cs sl K _Kx => match av with
  | [.inr (.inr a_o), .inl x] => pa a_o fun a => (∃ (g b : Nat), (isO S 5 a ∧ mR S 500 a = some g ∧ isO S 1 g ∧ mR S 504 a = some b ∧ isO S 17 b ∧ (¬ x = mI S 101 g → inR S b x)) ∧ cs ≤ Rc ∧ sl ≤ Rs ∧ (K (some (.inl (evAnc S a g b x))) S cs sl))
  | _ => False
theorem u_anc (l : Launch) : Us l yX4_ancestorsOf cX4_ancestorsOf 2 (some .int) 0 0 5 T_anc := by
  intro Rc Rs av S cs sl K Kx h
  unfold T_anc at h
  split at h
  case h_2 => exact h.elim
  · rename_i a_o x
    obtain ⟨a, rfl, h_1⟩ := pa_of h
    obtain ⟨g, b, hp, hc, hs, hk⟩ := h_1
    refine ⟨sp_anc, c_X4_ancestorsOf l, recv_anc, ⟨a, g, b, x, rfl, hp⟩, hc, hs, fun v S' h8 => ?_, fun _ _ q => q.elim⟩
    obtain ⟨h7, h6⟩ := h8 _ _ _ _ rfl hp.2.1 hp.2.2.2.1
    cases h7
    subst h6
    exact hk
def T_std : TR := fun Rc Rs av S cs sl K _Kx => match av with
  | [.inr (.inr a_o), .inl x] => pa a_o fun a => ((isO S 5 a) ∧ cs ≤ Rc ∧ sl ≤ Rs ∧ (K (some (.inl (if x ≤ mI S 502 a then 0 else if mI S 514 a = -1 then 1 else if mI S 514 a < x then 0 else 1))) S cs sl))
  | _ => False
theorem u_std (l : Launch) : Us l yX4_standsIn cX4_standsIn 2 (some .boolean) 0 0 5 T_std := by
  intro Rc Rs av S cs sl K Kx h
  unfold T_std at h
  split at h
  case h_2 => exact h.elim
  · rename_i a_o x
    obtain ⟨a, rfl, h_1⟩ := pa_of h
    obtain ⟨hp, hc, hs, hk⟩ := h_1
    refine ⟨sp_standsIn, c_X4_standsIn l, fun _ _ ⟨a, x, e, h⟩ => ⟨a, [.inl x], e, h⟩, ⟨a, x, rfl, hp⟩, hc, hs, fun v S' h8 => ?_, fun _ _ q => q.elim⟩
    obtain ⟨h7, h6⟩ := h8 _ _ rfl
    cases h7
    subst h6
    exact hk
def T_fol : TR := fun Rc Rs av S cs sl K _Kx => match av with
  | [.inr (.inr a_o), .inr (.inr o_o)] => pa a_o fun a => (pa o_o fun o => (∃ (g b h : Nat), (isO S 5 a ∧ isO S 5 o ∧ mR S 500 o = some h ∧ isO S 1 h ∧ mR S 500 a = some g ∧ isO S 1 g ∧ mR S 504 a = some b ∧ isO S 17 b ∧ (¬ mI S 101 h = mI S 101 g → inR S b (mI S 101 h))) ∧ cs ≤ Rc ∧ sl ≤ Rs ∧ (K (some (.inl (evFol S a g b o h))) S cs sl)))
  | _ => False
theorem u_fol (l : Launch) : Us l yX4_follows cX4_follows 2 (some .boolean) 1 21 5 T_fol := by
  intro Rc Rs av S cs sl K Kx h
  unfold T_fol at h
  split at h
  case h_2 => exact h.elim
  · rename_i a_o o_o
    obtain ⟨a, rfl, h_1⟩ := pa_of h
    obtain ⟨o, rfl, h_2⟩ := pa_of h_1
    obtain ⟨g, b, h, hp, hc, hs, hk⟩ := h_2
    refine ⟨sp_follows, c_X4_follows l, fun _ _ ⟨a, g, b, o, h, e, h1, _⟩ => ⟨a, [.inr (.inr (some o))], e, h1⟩, ⟨a, g, b, o, h, rfl, hp⟩, hc, hs, fun v S' h8 => ?_, fun _ _ q => q.elim⟩
    obtain ⟨h7, h6⟩ := h8 _ _ _ _ _ rfl hp.2.2.2.2.1 hp.2.2.2.2.2.2.1 hp.2.2.1
    cases h7
    subst h6
    exact hk
def T_wof : TR := fun Rc Rs av S cs sl K _Kx => match av with
  | [.inl c] => True ∧ cs ≤ Rc ∧ sl ≤ Rs ∧ (K (some (.inl (wOf c))) S cs sl)
  | _ => False
theorem u_wof (l : Launch) : Us l yX1_widthOf cX1_widthOf 1 (some .int) 0 0 99 T_wof := by
  intro Rc Rs av S cs sl K Kx h
  unfold T_wof at h
  split at h
  case h_2 => exact h.elim
  · rename_i c
    obtain ⟨hp, hc, hs, hk⟩ := h
    refine ⟨sp_widthOf, c_X1_widthOf l, fun _ _ _ => trivial, ⟨c, rfl⟩, hc, hs, fun v S' h8 => ?_, fun _ _ q => q.elim⟩
    obtain ⟨h7, h6⟩ := h8 _ rfl
    cases h7
    subst h6
    exact hk
def T_isch : TR := fun Rc Rs av S cs sl K _Kx => match av with
  | [.inl c] => True ∧ cs ≤ Rc ∧ sl ≤ Rs ∧ (K (some (.inl (isCh c))) S cs sl)
  | _ => False
theorem u_isch (l : Launch) : Us l yX1_isCharacter cX1_isCharacter 1 (some .boolean) 0 0 99 T_isch := by
  intro Rc Rs av S cs sl K Kx h
  unfold T_isch at h
  split at h
  case h_2 => exact h.elim
  · rename_i c
    obtain ⟨hp, hc, hs, hk⟩ := h
    refine ⟨sp_isCharacter, c_X1_isCharacter l, fun _ _ _ => trivial, ⟨c, rfl⟩, hc, hs, fun v S' h8 => ?_, fun _ _ q => q.elim⟩
    obtain ⟨h7, h6⟩ := h8 _ rfl
    cases h7
    subst h6
    exact hk
def T_bclr : TR := fun Rc Rs av S cs sl K _Kx => match av with
  | [.inr (.inr a_o)] => pa a_o fun a => ((isO S 2 a) ∧ cs ≤ Rc ∧ sl ≤ Rs ∧ (K none (clr S a) cs sl))
  | _ => False
theorem u_bclr (l : Launch) : Us l yX1_clear cX1_clear 1 none 0 0 2 T_bclr := by
  intro Rc Rs av S cs sl K Kx h
  unfold T_bclr at h
  split at h
  case h_2 => exact h.elim
  · rename_i a_o
    obtain ⟨a, rfl, h_1⟩ := pa_of h
    obtain ⟨hp, hc, hs, hk⟩ := h_1
    refine ⟨sp_clear, c_X1_clear l, recv_clear, ⟨a, rfl, hp⟩, hc, hs, fun S' h8 => ?_, fun _ _ q => q.elim⟩
    obtain ⟨-, h6⟩ := h8 _ rfl
    subst h6
    exact hk
def T_bget : TR := fun Rc Rs av S cs sl K _Kx => match av with
  | [.inr (.inr a_o), .inl p] => pa a_o fun a => (∃ (d : Nat) (B : List Nat), (By S a d B) ∧ cs ≤ Rc ∧ sl ≤ Rs ∧ (K (some (.inl (bAt B p))) S cs sl))
  | _ => False
theorem u_bget (l : Launch) : Us l yX1_get cX1_get 2 (some .int) 0 0 2 T_bget := by
  intro Rc Rs av S cs sl K Kx h
  unfold T_bget at h
  split at h
  case h_2 => exact h.elim
  · rename_i a_o p
    obtain ⟨a, rfl, h_1⟩ := pa_of h
    obtain ⟨d, B, hp, hc, hs, hk⟩ := h_1
    refine ⟨sp_get, c_X1_get l, recv_get, ⟨a, p, d, B, rfl, hp⟩, hc, hs, fun v S' h8 => ?_, fun _ _ q => q.elim⟩
    obtain ⟨h7, h6⟩ := h8
    cases h6 _ _ _ _ rfl hp
    subst h7
    exact hk
def T_bini : TR := fun Rc Rs av S cs sl K _Kx => match av with
  | [.inr (.inr a_o)] => pa a_o fun a => ((isO S 2 a) ∧ cs + 1 ≤ Rc ∧ sl + 64 ≤ Rs ∧ (∀ (S' : MM), (∃ q, q ∉ mL S ∧ S' = sI (sI (sR (nA S q 16 64) 200 a (some q)) 201 a 0) 202 a 0) → K none S' (cs + 1) (sl + 64)))
  | _ => False
theorem u_bini (l : Launch) : Us l yX1_init cX1_init 1 none 1 20 98 T_bini := by
  intro Rc Rs av S cs sl K Kx h
  unfold T_bini at h
  split at h
  case h_2 => exact h.elim
  · rename_i a_o
    obtain ⟨a, rfl, h_1⟩ := pa_of h
    obtain ⟨hp, hc, hs, hk⟩ := h_1
    refine ⟨sp_X1_init, c_X1_init l, fun _ _ ⟨a, e, _⟩ => ⟨a, [], e⟩, ⟨a, rfl, hp⟩, hc, hs, fun S' h8 => ?_, fun _ _ q => q.elim⟩
    obtain ⟨-, h6⟩ := h8 _ rfl
    exact hk _ h6
def T_badd : TR := fun Rc Rs av S cs sl K _Kx => match av with
  | [.inr (.inr a_o), .inl v] => pa a_o fun a => (∃ (d : Nat) (B : List Nat), (By S a d B) ∧ cs + (addNC 1 (mN S d) B.length) ≤ Rc ∧ sl + (addNS 1 (mN S d) B.length) ≤ Rs ∧ (∀ (S' : MM), (∃ d', App S S' a d d' B [v]) → K none S' (cs + (addNC 1 (mN S d) B.length)) (sl + (addNS 1 (mN S d) B.length))))
  | _ => False
theorem u_badd (l : Launch) : Us l yX1_add cX1_add 2 none 2 54 2 T_badd := by
  intro Rc Rs av S cs sl K Kx h
  unfold T_badd at h
  split at h
  case h_2 => exact h.elim
  · rename_i a_o v
    obtain ⟨a, rfl, h_1⟩ := pa_of h
    obtain ⟨d, B, hp, hc, hs, hk⟩ := h_1
    have h0 := (App.nil hp).cost hp.len
    simp only [List.length_nil, addNC, addNS, Nat.zero_add] at h0
    have e1 : addNC 1 (mN S d) B.length = addC S a := by rw [h0.1]; simp only [addNC, Nat.zero_add]
    have e2 : addNS 1 (mN S d) B.length = addS S a := by rw [h0.2]; simp only [addNS, Nat.zero_add]
    rw [e1] at hc hk
    rw [e2] at hs hk
    exact ⟨sp_add, c_X1_add l, recv_add, ⟨a, v, d, B, rfl, hp⟩, hc, hs, fun S' h8 => by have h9 := App.one hp h8; exact hk _ h9, fun _ _ q => q.elim⟩
theorem app_use {ok : List MV → MM → Prop} {vals : List MV → MM → List Int32} {a d : Nat} {vs : List MV} {B : List Nat} {S : MM} {ws : List Int32} {cs sl Rc Rs : Nat} {K : Option MV → MM → Nat → Nat → Prop} {Kx : Nat → MM → Nat → Nat → Prop} (hB : By S a d B) (hok : ok (.inr (.inr (some a)) :: vs) S) (hv : vals (.inr (.inr (some a)) :: vs) S = ws) (hc : cs + addNC ws.length (mN S d) B.length ≤ Rc) (hs : sl + addNS ws.length (mN S d) B.length ≤ Rs) (hk : ∀ S', (∃ d', App S S' a d d' B ws) → K none S' (cs + addNC ws.length (mN S d) B.length) (sl + addNS ws.length (mN S d) B.length)) : Told 0 (spApp ok vals) Rc Rs (.inr (.inr (some a)) :: vs) S cs sl K Kx := by
  subst hv
  have e1 : (spApp ok vals).2.1 (.inr (.inr (some a)) :: vs) S = addNC (vals (.inr (.inr (some a)) :: vs) S).length (mN S d) B.length := by
    show addNC (vals (.inr (.inr (some a)) :: vs) S).length (capOf S a) (lenOf S a) = _
    rw [hB.cap_of, hB.len_of]
  have e2 : (spApp ok vals).2.2.1 (.inr (.inr (some a)) :: vs) S = addNS (vals (.inr (.inr (some a)) :: vs) S).length (mN S d) B.length := by
    show addNS (vals (.inr (.inr (some a)) :: vs) S).length (capOf S a) (lenOf S a) = _
    rw [hB.cap_of, hB.len_of]
  refine ⟨⟨⟨a, vs, d, B, rfl, hB⟩, hok⟩, by rw [e1]; exact hc, by rw [e2]; exact hs, fun S' h8 => ?_, fun _ _ q => q.elim⟩
  obtain ⟨-, h7⟩ := h8
  rw [e1, e2]
  exact hk _ (h7 _ _ _ _ rfl hB)
def rcv_app {ok : List MV → MM → Prop} {vals : List MV → MM → List Int32} : ∀ av S, (spApp ok vals).1 av S → rcv 2 av S := recv_app
def T_bword : TR := fun Rc Rs av S cs sl K _Kx => match av with
  | [.inr (.inr a_o), .inl w] => pa a_o fun a => (∃ (d : Nat) (B : List Nat), (By S a d B) ∧ cs + (addNC 4 (mN S d) B.length) ≤ Rc ∧ sl + (addNS 4 (mN S d) B.length) ≤ Rs ∧ (∀ (S' : MM), (∃ d', App S S' a d d' B [ush w 24, ush w 16, ush w 8, w]) → K none S' (cs + (addNC 4 (mN S d) B.length)) (sl + (addNS 4 (mN S d) B.length))))
  | _ => False
theorem u_bword (l : Launch) : Us l yX1_addWord cX1_addWord 2 none 3 75 2 T_bword := by
  intro Rc Rs av S cs sl K Kx h
  unfold T_bword at h
  split at h
  case h_2 => exact h.elim
  · rename_i a_o w
    obtain ⟨a, rfl, h_1⟩ := pa_of h
    obtain ⟨d, B, hp, hc, hs, hk⟩ := h_1
    exact ⟨sp_addWord, c_X1_addWord l, recv_app, app_use hp ⟨_, _, rfl⟩ rfl hc hs hk⟩
def T_bvar : TR := fun Rc Rs av S cs sl K _Kx => match av with
  | [.inr (.inr a_o), .inl v] => pa a_o fun a => (∃ (d : Nat) (B : List Nat), (By S a d B) ∧ cs + (addNC (vbs 4 v).length (mN S d) B.length) ≤ Rc ∧ sl + (addNS (vbs 4 v).length (mN S d) B.length) ≤ Rs ∧ (∀ (S' : MM), (∃ d', App S S' a d d' B (vbs 4 v)) → K none S' (cs + (addNC (vbs 4 v).length (mN S d) B.length)) (sl + (addNS (vbs 4 v).length (mN S d) B.length))))
  | _ => False
theorem u_bvar (l : Launch) : Us l yX1_addVarint cX1_addVarint 4 none 3 75 2 T_bvar := by
  intro Rc Rs av S cs sl K Kx h
  unfold T_bvar at h
  split at h
  case h_2 => exact h.elim
  · rename_i a_o v
    obtain ⟨a, rfl, h_1⟩ := pa_of h
    obtain ⟨d, B, hp, hc, hs, hk⟩ := h_1
    exact ⟨sp_addVarint, c_X1_addVarint l, recv_app, app_use hp ⟨_, _, rfl⟩ rfl hc hs hk⟩
def T_brng : TR := fun Rc Rs av S cs sl K _Kx => match av with
  | [.inr (.inr a_o), .inr (.inr f_o), .inl x, .inl y] => pa a_o fun a => (pa f_o fun f => (∃ (d df : Nat) (B F : List Nat) (i j : Nat), (By S a d B ∧ By S f df F ∧ f ≠ a ∧ df ≠ d ∧ x = nI i ∧ y = nI j ∧ i ≤ 32768 ∧ j ≤ 32768) ∧ cs + (addNC (rngV F i (j - i)).length (mN S d) B.length) ≤ Rc ∧ sl + (addNS (rngV F i (j - i)).length (mN S d) B.length) ≤ Rs ∧ (∀ (S' : MM), (∃ d', App S S' a d d' B (rngV F i (j - i))) → K none S' (cs + (addNC (rngV F i (j - i)).length (mN S d) B.length)) (sl + (addNS (rngV F i (j - i)).length (mN S d) B.length)))))
  | _ => False
theorem u_brng (l : Launch) : Us l yX1_addRange cX1_addRange 5 none 3 75 2 T_brng := by
  intro Rc Rs av S cs sl K Kx h
  unfold T_brng at h
  split at h
  case h_2 => exact h.elim
  · rename_i a_o f_o x y
    obtain ⟨a, rfl, h_1⟩ := pa_of h
    obtain ⟨f, rfl, h_2⟩ := pa_of h_1
    obtain ⟨d, df, B, F, i, j, hp, hc, hs, hk⟩ := h_2
    obtain ⟨hB, hF, h1, h2, rfl, rfl, h3, h4⟩ := hp
    refine ⟨sp_addRange, c_X1_addRange l, recv_app, app_use hB ⟨a, f, i, j, d, df, B, F, rfl, hB, hF, h1, h2, h3, h4⟩ ?_ hc hs hk⟩
    show rngV (bytesOf S f) (nI i).toNatClampNeg ((nI j).toNatClampNeg - (nI i).toNatClampNeg) = _
    rw [hF.bytes, nI_clamp (by omega), nI_clamp (by omega)]
def T_bcol : TR := fun Rc Rs av S cs sl K _Kx => match av with
  | [.inr (.inr a_o), .inr (.inr f_o)] => pa a_o fun a => (pa f_o fun f => (∃ (d df : Nat) (B F : List Nat), (By S a d B ∧ By S f df F ∧ f ≠ a ∧ df ≠ d) ∧ cs + (addNC (vbs 4 (nI F.length) ++ rngV F 0 F.length).length (mN S d) B.length) ≤ Rc ∧ sl + (addNS (vbs 4 (nI F.length) ++ rngV F 0 F.length).length (mN S d) B.length) ≤ Rs ∧ (∀ (S' : MM), (∃ d', App S S' a d d' B (vbs 4 (nI F.length) ++ rngV F 0 F.length)) → K none S' (cs + (addNC (vbs 4 (nI F.length) ++ rngV F 0 F.length).length (mN S d) B.length)) (sl + (addNS (vbs 4 (nI F.length) ++ rngV F 0 F.length).length (mN S d) B.length)))))
  | _ => False
theorem u_bcol (l : Launch) : Us l yX1_addColumn cX1_addColumn 2 none 4 99 2 T_bcol := by
  intro Rc Rs av S cs sl K Kx h
  unfold T_bcol at h
  split at h
  case h_2 => exact h.elim
  · rename_i a_o f_o
    obtain ⟨a, rfl, h_1⟩ := pa_of h
    obtain ⟨f, rfl, h_2⟩ := pa_of h_1
    obtain ⟨d, df, B, F, hp, hc, hs, hk⟩ := h_2
    obtain ⟨hB, hF, h1, h2⟩ := hp
    refine ⟨sp_addColumn, c_X1_addColumn l, recv_app, app_use hB ⟨a, f, d, df, B, F, rfl, hB, hF, h1, h2⟩ ?_ hc hs hk⟩
    show vbs 4 (nI (bytesOf S f).length) ++ rngV (bytesOf S f) 0 (bytesOf S f).length = _
    rw [hF.bytes]
def T_bbeg : TR := fun Rc Rs av S cs sl K _Kx => match av with
  | [.inr (.inr a_o), .inl k, .inl s] => pa a_o fun a => (∃ (d : Nat) (B : List Nat), (By S a d B) ∧ cs + (addNC 3 (mN S d) 0) ≤ Rc ∧ sl + (addNS 3 (mN S d) 0) ≤ Rs ∧ (∀ (S' : MM), (∃ d', App (clr S a) S' a d d' [] [87, k, s]) → K none S' (cs + (addNC 3 (mN S d) 0)) (sl + (addNS 3 (mN S d) 0))))
  | _ => False
theorem u_bbeg (l : Launch) : Us l yX1_begin cX1_begin 3 none 3 75 2 T_bbeg := by
  intro Rc Rs av S cs sl K Kx h
  unfold T_bbeg at h
  split at h
  case h_2 => exact h.elim
  · rename_i a_o k s
    obtain ⟨a, rfl, h_1⟩ := pa_of h
    obtain ⟨d, B, hp, hc, hs, hk⟩ := h_1
    rw [← hp.cap_of] at hc hs hk
    refine ⟨sp_begin, c_X1_begin l, recv_begin, ⟨a, k, s, d, B, rfl, hp⟩, hc, hs, fun S' h8 => ?_, fun _ _ q => q.elim⟩
    obtain ⟨-, h7⟩ := h8
    exact hk _ (h7 _ _ _ _ _ rfl hp)
def T_bchk : TR := fun Rc Rs av S cs sl K _Kx => match av with
  | [.inr (.inr a_o), .inl x] => pa a_o fun a => (∃ (d : Nat) (B : List Nat) (n : Nat), (By S a d B ∧ x = nI n ∧ n ≤ 32768) ∧ cs ≤ Rc ∧ sl ≤ Rs ∧ (K (some (.inl (crcN B n ^^^ -1))) S cs sl))
  | _ => False
theorem u_bchk (l : Launch) : Us l yX1_checksum cX1_checksum 4 (some .int) 1 21 2 T_bchk := by
  intro Rc Rs av S cs sl K Kx h
  unfold T_bchk at h
  split at h
  case h_2 => exact h.elim
  · rename_i a_o x
    obtain ⟨a, rfl, h_1⟩ := pa_of h
    obtain ⟨d, B, n, hp, hc, hs, hk⟩ := h_1
    obtain ⟨hB, rfl, hn⟩ := hp
    refine ⟨sp_checksum, c_X1_checksum l, recv_checksum, ⟨a, n, d, B, rfl, hB, hn⟩, hc, hs, fun v S' h8 => ?_, fun _ _ q => q.elim⟩
    obtain ⟨h7, h6⟩ := h8
    cases h6 _ _ _ _ rfl hn hB
    subst h7
    exact hk
def T_bseal : TR := fun Rc Rs av S cs sl K _Kx => match av with
  | [.inr (.inr a_o)] => pa a_o fun a => (∃ (d : Nat) (B : List Nat), (By S a d B) ∧ cs + (addNC 4 (mN S d) B.length) ≤ Rc ∧ sl + (addNS 4 (mN S d) B.length) ≤ Rs ∧ (∀ (S' : MM), (∃ d', App S S' a d d' B (sealV (crcOf B) 4)) → K none S' (cs + (addNC 4 (mN S d) B.length)) (sl + (addNS 4 (mN S d) B.length))))
  | _ => False
theorem u_bseal (l : Launch) : Us l yX1_seal cX1_seal 3 none 3 75 2 T_bseal := by
  intro Rc Rs av S cs sl K Kx h
  unfold T_bseal at h
  split at h
  case h_2 => exact h.elim
  · rename_i a_o
    obtain ⟨a, rfl, h_1⟩ := pa_of h
    obtain ⟨d, B, hp, hc, hs, hk⟩ := h_1
    refine ⟨sp_seal, c_X1_seal l, recv_app, app_use (ws := sealV (crcOf B) 4) hp ⟨_, rfl⟩ ?_ hc hs hk⟩
    show sealV (crcOf (bytesOf S a)) 4 = _
    rw [hp.bytes]
