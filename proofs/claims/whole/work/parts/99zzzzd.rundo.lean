/-! ===== The reference: undo0 ===== -/
def ownS (S S' : MM) (F : Nat → Nat × Nat) (t : Nat) (z : Nat → Nat) (Y : Nat → Nat → Nat) (R' : Rb) (kz : Nat → Nat) (p : Nat) : Prop := ∃ F' Y', MD S' F' t z Y' R' kz ∧ (∀ b, b ∈ mL S → F' b = F b) ∧ Keep (fun c => 100 ≤ (F c).1) S S' ∧ mI S' 1551 t = mI S 1551 t ∧ (∀ q k, k < 100 → Y' q k = Y q k) ∧ Keep (fun c => c = z 15 ∨ gO F (101 + p) c) S S'
def T_row7 : TR := fun Rc Rs av S cs sl K _Kx => match av with
  | [.inr (.inr t_o), .inl p_v] => pa t_o fun t => (∃ (p : Nat), p_v = nI p ∧ (∃ (F : Nat → Nat × Nat) (z : Nat → Nat) (Y : Nat → Nat → Nat) (R : Rb) (kz : Nat → Nat) (s : Nat) (pr : List Nat), (MD S F t z Y R kz ∧ p < 4 ∧ raP (R.Q.G p) (R.Q.T p) p s (R.Q.G p).cn pr) ∧ cs + (ad1 (R.Q.G p) s) ≤ Rc ∧ sl + (ad2 (R.Q.G p) s) ≤ Rs ∧ (∀ (v : Int32) (S' : MM), (v = nI (R.Q.G p).n) ∧ (ownS S S' F t z Y (R.sG p (pGr (eGr (R.Q.G p) s p) s (R.Q.G p).cn pr) (R.Q.T p)) kz p) → K (some (.inl v)) S' (cs + (ad1 (R.Q.G p) s)) (sl + (ad2 (R.Q.G p) s)))))
  | _ => False
def sp_row7 (t : Nat) (p : Nat) (F : Nat → Nat × Nat) (z : Nat → Nat) (Y : Nat → Nat → Nat) (R : Rb) (kz : Nat → Nat) (s : Nat) (pr : List Nat) : Sp := (fun av S => av = [.inr (.inr (some t)), .inl (nI p)] ∧ (MD S F t z Y R kz ∧ p < 4 ∧ raP (R.Q.G p) (R.Q.T p) p s (R.Q.G p).cn pr), fun _ S => ad1 (R.Q.G p) s, fun _ S => ad2 (R.Q.G p) s, fun _ S rv S' => ∃ v, rv = (some (.inl v)) ∧ (v = nI (R.Q.G p).n) ∧ (ownS S S' F t z Y (R.sG p (pGr (eGr (R.Q.G p) s p) s (R.Q.G p).cn pr) (R.Q.T p)) kz p), fun _ _ _ _ => False)
set_option maxRecDepth 100000 in
set_option maxHeartbeats 2000000 in
theorem c_row7 (l : Launch) : ∀ (t : Nat) (p : Nat) (F : Nat → Nat × Nat) (z : Nat → Nat) (Y : Nat → Nat → Nat) (R : Rb) (kz : Nat → Nat) (s : Nat) (pr : List Nat), Ct l yX14_own cX14_own 2 (some .int) 3 80 (sp_row7 t p F z Y R kz s pr) := by
  intro t p F z Y R kz s pr
  refine Ct.of (fX14, nX14, aX14, iX14, lX14, [(182, 0, 2, 0, T_rall), (186, 0, 4, 1, T_rad)], qX14, gX14, []) false tX14_own (fun _ _ _ => none) (by decide) (by decide) kX14_own ⟨_, _, rfl⟩ fX14_ok nX14_ok aX14_ok iX14_ok lX14_ok (fun p e R s m args below meth c Q D cy z r A C hR1 hR2 => List.forall_mem_cons.mpr ⟨cOK_use (fun _ _ _ _ _ _ _ _ h => let ⟨sp, h1, h2, h3⟩ := u_rall l _ _ _ _ _ _ _ _ h; ⟨sp, cOK_V C h1 vX14_own_182 ⟨by decide, by decide, by decide +kernel⟩ ⟨by rw [hR1]; decide, by rw [hR2]; decide⟩ (k := 13) (T := TX12) (N := 27) rfl (by decide) h2, h3⟩), List.forall_mem_cons.mpr ⟨cOK_use (fun _ _ _ _ _ _ _ _ h => let ⟨sp, h1, h2, h3⟩ := u_rad l _ _ _ _ _ _ _ _ h; ⟨sp, cOK_V C h1 vX14_own_186 ⟨by decide, by decide, by decide +kernel⟩ ⟨by rw [hR1]; decide, by rw [hR2]; decide⟩ (k := 13) (T := TX12) (N := 27) rfl (by decide) h2, h3⟩), fun _ h => absurd h List.not_mem_nil⟩⟩) qX14_ok gX14_ok rfl ?_ ?_
  · rintro _ S ⟨rfl, hp⟩
    refine ⟨Nat.le_of_ble_eq_true rfl, 300, ?_⟩
    show (isO S 15 t ∧ (pa (mR S 1500 t) fun a_1 => a_1 ∈ mL S ∧ ¬ mK S a_1 < 21 ∧ mK S a_1 < 29 ∧ inR S a_1 (nI p) ∧ (isO S 15 t ∧ (0 = 0 ∧ ((pa (eR S a_1 (nI p).toNatClampNeg) fun a_2 => ((pa (mR S 1515 t) fun a_3 => (∃ (F_4 : Nat → Nat × Nat) (i_5 : Nat) (y_6 : Nat → Nat) (G_7 : Gr) (T_8 : Tr), (a_2 = y_6 0 ∧ RG S F_4 i_5 y_6 G_7 T_8 ∧ isO S 19 a_3 ∧ mN S a_3 = 16 ∧ (F_4 a_3).1 ≠ i_5) ∧ 0 ≤ ad1 (R.Q.G p) s ∧ 0 ≤ ad2 (R.Q.G p) s ∧ (∀ (S_9 : MM), (StR S_9 a_3 0 G_7.cn ∧ Keep (fun c => c = a_3) S S_9) → (isO S_9 15 t ∧ (pa (mR S_9 1500 t) fun a_10 => a_10 ∈ mL S_9 ∧ ¬ mK S_9 a_10 < 21 ∧ mK S_9 a_10 < 29 ∧ inR S_9 a_10 (nI p) ∧ (isO S_9 15 t ∧ (0 = 0 ∧ ((pa (eR S_9 a_10 (nI p).toNatClampNeg) fun a_11 => ((pa (mR S_9 1515 t) fun a_12 => (∃ (a_13 : Nat), nI p = nI a_13 ∧ (∃ (o_14 : Nat), (0 : Int32) = nI o_14 ∧ (∃ (F_15 : Nat → Nat × Nat) (i_16 : Nat) (y_17 : Nat → Nat) (G_18 : Gr) (T_19 : Tr) (W_20 : Nat → Nat) (s_21 : Nat) (pr_22 : List Nat), (a_11 = y_17 0 ∧ RG S_9 F_15 i_16 y_17 G_18 T_19 ∧ FO S_9 F_15 ∧ i_16 ≠ 0 ∧ StR S_9 a_12 o_14 W_20 ∧ (F_15 a_12).1 ≠ i_16 ∧ raP G_18 T_19 a_13 s_21 W_20 pr_22) ∧ 0 + (ad1 G_18 s_21) ≤ ad1 (R.Q.G p) s ∧ 0 + (ad2 G_18 s_21) ≤ ad2 (R.Q.G p) s ∧ (∀ (x_24 : Int32) (S_23 : MM), (x_24 = nI G_18.n) ∧ (adQ S_9 S_23 F_15 i_16 y_17 G_18 T_19 a_13 s_21 W_20 pr_22) → (([] : List MV) = [] ∧ mret (some .int) (sp_row7 t p F z Y R kz s pr) [.inr (.inr (some t)), .inl (nI p)] S (some (.inl x_24)) S_23 (0 + (ad1 G_18 s_21)) (0 + (ad2 G_18 s_21)))))))))))))))))))))))))
    obtain ⟨h, hp4, hra⟩ := hp
    have r0 := h 1 0 (by decide)
    have r15 := h 1 15 (by decide)
    have g := (h 2 p hp4).2.1
    have cp : (nI p).toNatClampNeg = p := nI_clamp (by omega)
    have er : eR S (z 0) (nI p).toNatClampNeg = some (Y p 0) := by rw [cp]; exact (h 2 p hp4).1
    have o15 : (F (z 15)).1 ≠ 101 + p := by rw [r15.2.1]; show 100 ≠ 101 + p; omega
    refine ⟨(h 0).1, pa_i r0.1 ⟨r0.2.2.1.1, by rw [r0.2.2.1.2]; decide, by rw [r0.2.2.1.2]; decide, inRn (N := 4) r0.2.2.2 hp4 (by decide), (h 0).1, rfl, pa_i er (pa_i r15.1 ⟨F, 101 + p, Y p, R.Q.G p, R.Q.T p, ⟨rfl, g, r15.2.2.1, r15.2.2.2, o15⟩, Nat.zero_le _, Nat.zero_le _, fun S9 hS => ?_⟩)⟩⟩
    obtain ⟨hst, hk9⟩ := hS
    obtain ⟨h9, h51⟩ := h.scr (k0 := 15) (by decide) (by decide) hk9
    have g9 := (h9 2 p hp4).2.1
    have r0 := h9 1 0 (by decide)
    have r15' := h9 1 15 (by decide)
    have er : eR S9 (z 0) (nI p).toNatClampNeg = some (Y p 0) := by rw [cp]; exact (h9 2 p hp4).1
    refine ⟨(h9 0).1, pa_i r0.1 ⟨r0.2.2.1.1, by rw [r0.2.2.1.2]; decide, by rw [r0.2.2.1.2]; decide, inRn (N := 4) r0.2.2.2 hp4 (by decide), (h9 0).1, rfl, pa_i er (pa_i r15'.1 ⟨p, rfl, 0, rfl, F, 101 + p, Y p, R.Q.G p, R.Q.T p, (R.Q.G p).cn, s, pr, ⟨rfl, g9, h9 12, by omega, hst, o15, hra⟩, by omega, by omega, fun v S16 hQ => ?_⟩)⟩⟩
    obtain ⟨rfl, F', y', q1, q2, q3, q4, q5, -, q7⟩ := hQ
    have hcn : ∀ t, (R.Q.G p).cn t ≤ (pGr (eGr (R.Q.G p) s p) s (R.Q.G p).cn pr).cn t := fun t => by rw [pGr_cn, eGr_cn]; exact Nat.le_add_right _ _
    have hM := h9.gr hp4 q4 q7 q1 q5 q3 q2 hcn (fun x hx => hx)
    have kt := q4.2.1 t (h9 0).1.1 (fun w => by
      have := w.own
      rw [(h9 0).2] at this
      have : 100 = 101 + p := this
      omega)
    refine ⟨rfl, trivial, ⟨_, rfl, rfl, F', _, hM, fun b hb => q3 b (hk9.1 b hb).1, ?_, (kt.1 1551).trans h51, fun q k hk => ?_, ?_⟩, Nat.le_of_eq (Nat.zero_add _), Nat.le_of_eq (Nat.zero_add _)⟩
    · exact Keep.tr (hk9.mono (fun b _ e => by rw [e, r15.2.1]; exact Nat.le_refl _)) (q4.mono (fun b _ e => by rw [e.own]; omega))
    · by_cases c : q = p
      · subst c
        have e1 : upY Y q (fun k => if 116 ≤ k then Y q k else y' k) q = fun k => if 116 ≤ k then Y q k else y' k := if_pos rfl
        rw [e1]
        show (if 116 ≤ k then Y q k else y' k) = Y q k
        rw [if_neg (by omega)]
        exact q5 k hk
      · have e1 : upY Y p (fun k => if 116 ≤ k then Y p k else y' k) q = Y q := if_neg c
        rw [e1]
    · exact Keep.tr (hk9.mono (fun b _ e => Or.inl e)) (q4.mono (fun b _ e => Or.inr e))
  · exact fun _ _ _ _ _ h => by cases h
theorem u_row7 (l : Launch) : Us l yX14_own cX14_own 2 (some .int) 3 80 15 T_row7 := by
  intro Rc Rs av S cs sl K Kx h
  unfold T_row7 at h
  split at h
  · rename_i t_o p_v
    obtain ⟨t, rfl, h_1⟩ := pa_of h
    obtain ⟨p, rfl, h_2⟩ := h_1
    obtain ⟨F, z, Y, R, kz, s, pr, hp, hc, hs, hk⟩ := h_2
    refine ⟨(sp_row7 t p F z Y R kz s pr), c_row7 l t p F z Y R kz s pr, fun _ _ h9 => ⟨_, _, h9.1, (h9.2.1 0).1⟩, ⟨rfl, hp⟩, hc, hs, fun v9 S' h8 => by
      obtain ⟨v8, h7, h8⟩ := h8
      cases h7
      exact hk _ _ h8, fun _ _ q => q.elim⟩
  · exact h.elim
/-- the m-th event of a call -/
def uE (G : Gr) (n : Nat) (c : Bool × Nat × Nat) (m : Nat) : Nat := (agE G n).getD (c.2.1 + m) 0
def uH (G : Gr) (n : Nat) (c : Bool × Nat × Nat) (x m : Nat) : Bool := if c.1 = true then (decide (uE G n c m + 1 = x) && vis G x) else decide ((G.ev (uE G n c m)).tg + 1 = x)
def uA (G : Gr) (n : Nat) (c : Bool × Nat × Nat) (x : Nat) : Nat → Bool
  | 0 => false
  | m + 1 => uA G n c x m || uH G n c x m
theorem uA_mono {G : Gr} {n : Nat} {c : Bool × Nat × Nat} {x m : Nat} (h : uA G n c x m = true) : ∀ {k : Nat}, m ≤ k → uA G n c x k = true
  | 0, hk => by rw [show m = 0 by omega] at h; exact h
  | k + 1, hk => by
    rcases Nat.lt_or_ge k m with q | q
    · rw [show k + 1 = m by omega]; exact h
    · rw [uA, uA_mono h q]; rfl
theorem uA_vis {G : Gr} {n : Nat} {c : Bool × Nat × Nat} {x : Nat} (hc : c.1 = true) : ∀ {m : Nat}, uA G n c x m = true → vis G x = true
  | 0, h => by cases h
  | m + 1, h => by
    rw [uA, Bool.or_eq_true] at h
    rcases h with h | h
    · exact uA_vis hc h
    · rw [uH, if_pos hc, Bool.and_eq_true] at h
      exact h.2
/-- the nodes that undoing a call works on, in the order of the tree -/
def uL (G : Gr) (n : Nat) (c : Bool × Nat × Nat) (L : List Nat) : List Nat := L.filter (fun x => uA G n c x c.2.2)
theorem uL_s {G : Gr} {n : Nat} {c : Bool × Nat × Nat} {L : List Nat} {j : Nat} (hj : j < L.length) : uL G n c (L.take (j + 1)) = uL G n c (L.take j) ++ if uA G n c (L.getD j 0) c.2.2 = true then [L.getD j 0] else [] := by
  have e : L.take (j + 1) = L.take j ++ [L.getD j 0] := by
    rw [List.take_add_one, List.getD_eq_getElem?_getD, List.getElem?_eq_getElem hj]; rfl
  rw [e]
  unfold uL
  rw [List.filter_append]
  by_cases q : uA G n c (L.getD j 0) c.2.2 = true
  · rw [if_pos q, List.filter_cons_of_pos (p := fun x => uA G n c x c.2.2) q]; rfl
  · rw [if_neg q, List.filter_cons_of_neg (p := fun x => uA G n c x c.2.2) q]; rfl
theorem uL_l {G : Gr} {n : Nat} {c : Bool × Nat × Nat} {L : List Nat} : (uL G n c L).length ≤ L.length := List.length_filter_le _ _
def uC (R : Rb) (n : Nat) : Nat := match (R.C n).getLast? with
  | none => 0
  | some c => (uL (R.Q.G n) n c (R.Q.T n).od).length
def UcP (R : Rb) : Prop := ∀ n, n < 4 → ∀ c, c ∈ R.C n → c.2.1 + c.2.2 ≤ (agE (R.Q.G n) n).length ∧ (c.1 = false → ∀ m, m < c.2.2 → ((R.Q.G n).ev (uE (R.Q.G n) n c m)).ch = none)
/-- what undoing does: each node at its rank of that moment is struck, or comes again -/
def RuR (p s : Nat) (b : Bool) : List Nat → Gr → Tr → Gr → Tr → Prop
  | [], G, T, G', T' => G' = G ∧ T' = T
  | x :: L, G, T, G', T' => ∃ G1 T1, OwS G T p s (if b = true then none else (G.ev (x - 1)).ch) (rkN G T x) G1 T1 ∧ RuR p s b L G1 T1 G' T'
theorem RuR.snoc {p s : Nat} {b : Bool} {x : Nat} {G2 : Gr} {T2 : Tr} : ∀ {L : List Nat} {G : Gr} {T : Tr} {G1 : Gr} {T1 : Tr}, RuR p s b L G T G1 T1 → OwS G1 T1 p s (if b = true then none else (G1.ev (x - 1)).ch) (rkN G1 T1 x) G2 T2 → RuR p s b (L ++ [x]) G T G2 T2
  | [], G, T, G1, T1, h, h2 => by
    obtain ⟨rfl, rfl⟩ := h
    exact ⟨G2, T2, h2, rfl, rfl⟩
  | y :: L, G, T, G1, T1, h, h2 => by
    obtain ⟨G3, T3, h3, h4⟩ := h
    exact ⟨G3, T3, h3, RuR.snoc h4 h2⟩
theorem flt_at {f : Nat → Bool} {a b : Nat} {V V' : List Nat} (ha : f a = true) (hb : f b = true) : ∀ {U U' : List Nat}, U ++ a :: V = U' ++ b :: V' → (U.filter f).length = (U'.filter f).length → a = b
  | [], [], e, _ => by injection e
  | [], c :: U', e, h => by
    injection e with e1 e2
    rw [← e1, List.filter_cons_of_pos ha] at h
    cases h
  | c :: U, [], e, h => by
    injection e with e1 e2
    rw [e1, List.filter_cons_of_pos hb] at h
    cases h
  | c :: U, c' :: U', e, h => by
    injection e with e1 e2
    subst e1
    refine flt_at ha hb e2 ?_
    rw [List.filter_cons, List.filter_cons] at h
    split at h
    · rw [List.length_cons, List.length_cons] at h; omega
    · exact h
/-- a node that is struck at its rank: the other nodes stay as they are -/
theorem OwS.visK {G G' : Gr} {T T' : Tr} {p s y x : Nat} (h : OwS G T p s none (rkN G T y) G' T') (hg : GT G T) (hs : OwSl G p s) (hp : p < 256) (hy : y ∈ T.od) (hv : vis G y = true) (hx : x ∈ T.od) (hne : x ≠ y) (hvx : vis G x = true) : vis G' x = true := by
  obtain ⟨H, hH, e, e1, e2, e3, e4, e5, e6, e7, rfl, e8, e9⟩ := h
  have hge : GT (eGr G s p) T := hs.gt hg hp
  rcases e9 with ⟨q, -⟩ | ⟨-, rfl, U, V, u1, u2, u3⟩
  · exact absurd rfl q
  · have sv : ∀ w, w ∈ T'.od → snW (eGr G s p) e.pa w = vis G w := fun w hw => by
      obtain ⟨k, rfl, k2, -⟩ := (hge.2.2.2.1 _).1 hw
      rw [e3, hH.jn hg.1, ← eGr_cn G s p, vis_sn hge.1 k2, eGr_vis]
    have to : e.tg + 1 ∈ T'.od := by rw [u1]; simp
    have u2 : vis G (e.tg + 1) = true := by rw [← sv _ to]; exact u2
    have u4 : (U.filter (vis G)).length = rkN G T' y := by
      rw [← e6, ← u3]
      congr 1
      exact (List.filter_congr (fun w hw => sv w (by rw [u1]; exact List.mem_append_left _ hw))).symm
    obtain ⟨U', V', u5⟩ := List.append_of_mem hy
    have u6 : rkN G T' y = (U'.filter (vis G)).length := rkN_at hg.2.2.1.2.1 u5
    have ey : e.tg + 1 = y := flt_at u2 hv (u1.symm.trans u5) (u4.trans u6)
    obtain ⟨k, rfl, -, -⟩ := (hg.2.2.2.1 _).1 hx
    have hvx := of_decide_eq_true hvx
    rw [Nat.add_sub_cancel] at hvx
    refine decide_eq_true ?_
    rw [Nat.add_sub_cancel, Gr.push_stk, eGr_stk, hvx, if_neg (fun q => hne (by rw [← ey, q.2]))]
    rfl
def uI (S S1 : MM) (F : Nat → Nat × Nat) (t : Nat) (z : Nat → Nat) (Y : Nat → Nat → Nat) (R : Rb) (kz : Nat → Nat) (L : List Nat) : Prop := cxQ S S1 F t z Y R kz ∧ ∀ k, k < L.length → eI S1 (z 22) k = nI (L.getD k 0 - 1)
theorem uI.wr {S S1 : MM} {F : Nat → Nat × Nat} {t : Nat} {z : Nat → Nat} {Y : Nat → Nat → Nat} {R : Rb} {kz : Nat → Nat} {L : List Nat} (h : uI S S1 F t z Y R kz L) (x : Nat) : uI S (rI S1 (z 22) (upd (eI S1 (z 22)) L.length (nI (x - 1)))) F t z Y R kz (L ++ [x]) := by
  refine ⟨h.1.wr _, fun k hk => ?_⟩
  rw [List.length_append] at hk
  have hk : k < L.length + 1 := hk
  rw [eI_rI, if_pos rfl, upd, List.getD_eq_getElem?_getD]
  by_cases e : k = L.length
  · rw [if_pos e, e, List.getElem?_append_right (Nat.le_refl _), Nat.sub_self]; rfl
  · rw [if_neg e, List.getElem?_append_left (by omega), ← List.getD_eq_getElem?_getD]
    exact h.2 k (by omega)
theorem sP_sG (R : Rb) (n : Nat) (G1 G2 : Gr) (T1 T2 : Tr) (Kn : Nat → Nat → Nat) (C : List (Bool × Nat × Nat)) : (R.sP n G1 T1 Kn C).sG n G2 T2 = R.sP n G2 T2 Kn C := by
  show ((upF (upF R.Q.G n G1) n G2, upF (upF R.Q.T n T1) n T2, R.1.2.2.1, upF R.Q.Kn n Kn, R.1.2.2.2.2), upF R.C n C, R.2.2) = _
  rw [upF_up, upF_up]; rfl
/-- the last call is taken away -/
theorem RP.un {S : MM} {F : Nat → Nat × Nat} {i : Nat} {y : Nat → Nat} {G : Gr} {T : Tr} {Kn : Nat → Nat → Nat} {C : List (Bool × Nat × Nat)} (h : RP S F i y G T Kn C) : RP (sI S 1326 (y 0) (nI (C.length - 1))) F i y G T Kn C.dropLast := by
  obtain ⟨hG, hn, hc⟩ := h
  have hl : C.dropLast.length = C.length - 1 := List.length_dropLast ..
  have hm : ∀ j, RGm (updZ (fun k => mI S (1300 + k) (y 0)) 26 (nI (C.length - 1))) (fun k => eI S (y k)) (fun s => mN S (y (100 + s))) G T j := by
    have h0 := hG.rm
    intro j
    match j with
    | 0 => trivial
    | 1 => trivial
    | 2 => exact h0 2
    | 3 => exact h0 3
    | 4 => exact h0 4
    | 5 => exact h0 5
    | 6 => exact h0 6
    | 7 => exact h0 7
    | 8 => exact h0 8
    | 9 => exact h0 9
    | 10 => exact h0 10
    | 11 => exact h0 11
    | 12 => exact h0 12
    | n + 13 => trivial
  refine ⟨(hG.rs.si 26 (nI (C.length - 1))).rg hm, hn, ?_, by rw [hl]; have := hc.2.1; omega, fun k hk => ?_⟩
  · rw [hl, mI_sI, if_pos ⟨rfl, rfl⟩]
  · rw [hl] at hk
    have e : C.dropLast.getD k (false, 0, 0) = C.getD k (false, 0, 0) := by
      rw [List.getD_eq_getElem?_getD, List.getD_eq_getElem?_getD, List.dropLast_eq_take, List.getElem?_take, if_pos (by omega)]
    rw [e]
    exact hc.2.2 k (by omega)
def uM (b : Bool) (L : List Nat) : List Nat := if b = true then L.reverse else L
def uQ (R : Rb) (n : Nat) : Rb := R.sP n (R.Q.G n) (R.Q.T n) (R.Q.Kn n) (R.C n).dropLast
/-- undoing under way: j nodes are done -/
def urM (S S1 : MM) (F F1 : Nat → Nat × Nat) (t : Nat) (z : Nat → Nat) (Y Y1 : Nat → Nat → Nat) (R : Rb) (kz : Nat → Nat) (n d : Nat) (c : Bool × Nat × Nat) (L : List Nat) (j : Nat) (G1 : Gr) (T1 : Tr) : Prop := MD S1 F1 t z Y1 ((uQ R n).sG n G1 T1) kz ∧ mdN9 S S1 F F1 t ∧ (∀ k, k < 100 → Y1 n k = Y n k) ∧ (eI S1 (Y n 23) d = bI c.1 ∧ ∀ k, k < L.length → eI S1 (z 22) k = nI (L.getD k 0 - 1)) ∧ RuR n (owN (R.Q.G n) n) c.1 ((uM c.1 L).take j) (R.Q.G n) (R.Q.T n) G1 T1 ∧ GT G1 T1 ∧ (L.length ≠ 0 → OwSl G1 n (owN (R.Q.G n) n)) ∧ G1.n = (R.Q.G n).n + j ∧ G1.cn (owN (R.Q.G n) n) = (R.Q.G n).cn (owN (R.Q.G n) n) + j ∧ (∀ x, x ∈ L → x ∈ T1.od ∧ G1.ev (x - 1) = (R.Q.G n).ev (x - 1)) ∧ (c.1 = true → ∀ k, k + j < L.length → vis G1 (L.getD k 0) = true)
def udA (R : Rb) (p : Int32) (n d : Nat) (c : Bool × Nat × Nat) : Prop := n < 4 ∧ p = nI n ∧ d + 1 = (R.C n).length ∧ (R.C n)[d]? = some c
def udL (R : Rb) (n : Nat) (c : Bool × Nat × Nat) : List Nat := uL (R.Q.G n) n c (R.Q.T n).od
def rudQ (S S' : MM) (F : Nat → Nat × Nat) (t : Nat) (R : Rb) (kz : Nat → Nat) (p v : Int32) : Prop := ∃ n d c G' T', udA R p n d c ∧ roP (R.Q.G n) n (udL R n c).length ∧ v = nI (udL R n c).length ∧ RuR n (owN (R.Q.G n) n) c.1 (uM c.1 (udL R n c)) (R.Q.G n) (R.Q.T n) G' T' ∧ mdQ S S' F t (R.sP n G' T' (R.Q.Kn n) (R.C n).dropLast) kz
def rudX (S S' : MM) (F : Nat → Nat × Nat) (t : Nat) (R : Rb) (kz : Nat → Nat) (p : Int32) : Prop := ∃ n d c, udA R p n d c ∧ ¬ roP (R.Q.G n) n (udL R n c).length ∧ mdQ S S' F t R kz
def I_ud1 (t : Nat) (p : Int32) (Y : Nat → Nat → Nat) (R : Rb) (S : MM) (k : Nat) : KT := fun lo st S1 cs sl => ∃ n d c, k = 4000000000 ∧ udA R p n d c ∧ lo = [(0, .inr (.inr (some t))), (1, .inl (nI n)), (2, .inr (.inr (some (Y n 0))))] ∧ st = [] ∧ S = S1 ∧ cs = 2 ∧ sl = 12
def I_ud2 (t : Nat) (p : Int32) (F : Nat → Nat × Nat) (z : Nat → Nat) (Y : Nat → Nat → Nat) (R : Rb) (kz : Nat → Nat) (S : MM) (k : Nat) : KT := fun lo st S1 cs sl => ∃ n d c w j, k = ((R.Q.T n).od.length + 1 - j) * 100000 + 90000 ∧ udA R p n d c ∧ j ≤ (R.Q.T n).od.length ∧ w = (uL (R.Q.G n) n c ((R.Q.T n).od.take j)).length ∧ uI S S1 F t z Y R kz (uL (R.Q.G n) n c ((R.Q.T n).od.take j)) ∧ lo = [(0, .inr (.inr (some t))), (1, .inl (nI n)), (2, .inr (.inr (some (Y n 0)))), (3, .inl (nI d)), (4, .inl (nI c.2.2)), (5, .inl (nI c.2.1)), (6, .inl (nI w)), (7, .inr (.inr (some (z 22)))), (8, .inl (nI j))] ∧ st = [] ∧ cs = 2 ∧ sl = 12
def I_ud3 (t : Nat) (p : Int32) (F : Nat → Nat × Nat) (z : Nat → Nat) (Y : Nat → Nat → Nat) (R : Rb) (kz : Nat → Nat) (S : MM) (k : Nat) : KT := fun lo st S1 cs sl => ∃ n d c w j b m, k = ((R.Q.T n).od.length + 1 - j) * 100000 + (20001 + (8193 - m) * 2) ∧ udA R p n d c ∧ j < (R.Q.T n).od.length ∧ w = (uL (R.Q.G n) n c ((R.Q.T n).od.take j)).length ∧ m ≤ c.2.2 ∧ b = uA (R.Q.G n) n c ((R.Q.T n).od.getD j 0) m ∧ uI S S1 F t z Y R kz (uL (R.Q.G n) n c ((R.Q.T n).od.take j)) ∧ lo = [(0, .inr (.inr (some t))), (1, .inl (nI n)), (2, .inr (.inr (some (Y n 0)))), (3, .inl (nI d)), (4, .inl (nI c.2.2)), (5, .inl (nI c.2.1)), (6, .inl (nI w)), (7, .inr (.inr (some (z 22)))), (8, .inl (nI j)), (9, .inl (bI b)), (10, .inl (nI m))] ∧ st = [] ∧ cs = 2 ∧ sl = 12
def I_ud4 (t : Nat) (p : Int32) (F : Nat → Nat × Nat) (z : Nat → Nat) (Y : Nat → Nat → Nat) (R : Rb) (kz : Nat → Nat) (S : MM) (k : Nat) : KT := fun lo st S1 cs sl => ∃ n d c w j b m, k = ((R.Q.T n).od.length + 1 - j) * 100000 + (20000 + (8193 - m) * 2) ∧ udA R p n d c ∧ j < (R.Q.T n).od.length ∧ w = (uL (R.Q.G n) n c ((R.Q.T n).od.take j)).length ∧ m < c.2.2 ∧ b = uA (R.Q.G n) n c ((R.Q.T n).od.getD j 0) (m + 1) ∧ uI S S1 F t z Y R kz (uL (R.Q.G n) n c ((R.Q.T n).od.take j)) ∧ lo = [(0, .inr (.inr (some t))), (1, .inl (nI n)), (2, .inr (.inr (some (Y n 0)))), (3, .inl (nI d)), (4, .inl (nI c.2.2)), (5, .inl (nI c.2.1)), (6, .inl (nI w)), (7, .inr (.inr (some (z 22)))), (8, .inl (nI j)), (9, .inl (bI b)), (10, .inl (nI m))] ∧ st = [] ∧ cs = 2 ∧ sl = 12
def I_ud5 (t : Nat) (p : Int32) (F : Nat → Nat × Nat) (z : Nat → Nat) (Y : Nat → Nat → Nat) (R : Rb) (kz : Nat → Nat) (S : MM) (k : Nat) : KT := fun lo st S1 cs sl => ∃ n d c w j b, k = ((R.Q.T n).od.length + 1 - j) * 100000 + 10 ∧ udA R p n d c ∧ j < (R.Q.T n).od.length ∧ w = (uL (R.Q.G n) n c ((R.Q.T n).od.take j)).length ∧ b = uA (R.Q.G n) n c ((R.Q.T n).od.getD j 0) c.2.2 ∧ uI S S1 F t z Y R kz (uL (R.Q.G n) n c ((R.Q.T n).od.take j)) ∧ lo = [(0, .inr (.inr (some t))), (1, .inl (nI n)), (2, .inr (.inr (some (Y n 0)))), (3, .inl (nI d)), (4, .inl (nI c.2.2)), (5, .inl (nI c.2.1)), (6, .inl (nI w)), (7, .inr (.inr (some (z 22)))), (8, .inl (nI j)), (9, .inl (bI b))] ∧ st = [] ∧ cs = 2 ∧ sl = 12
def I_ud6 (t : Nat) (p : Int32) (F : Nat → Nat × Nat) (z : Nat → Nat) (Y : Nat → Nat → Nat) (R : Rb) (kz : Nat → Nat) (S : MM) (k : Nat) : KT := fun lo st S1 cs sl => ∃ n d c w j, k = ((R.Q.T n).od.length + 1 - j) * 100000 + 5 ∧ udA R p n d c ∧ j < (R.Q.T n).od.length ∧ w = (uL (R.Q.G n) n c ((R.Q.T n).od.take (j + 1))).length ∧ uI S S1 F t z Y R kz (uL (R.Q.G n) n c ((R.Q.T n).od.take (j + 1))) ∧ lo = [(0, .inr (.inr (some t))), (1, .inl (nI n)), (2, .inr (.inr (some (Y n 0)))), (3, .inl (nI d)), (4, .inl (nI c.2.2)), (5, .inl (nI c.2.1)), (6, .inl (nI w)), (7, .inr (.inr (some (z 22)))), (8, .inl (nI j))] ∧ st = [] ∧ cs = 2 ∧ sl = 12
def I_ud7 (t : Nat) (p : Int32) (F : Nat → Nat × Nat) (z : Nat → Nat) (Y : Nat → Nat → Nat) (R : Rb) (kz : Nat → Nat) (S : MM) (k : Nat) : KT := fun lo st S1 cs sl => ∃ n d c w, k = 20000 ∧ udA R p n d c ∧ w = (udL R n c).length ∧ uI S S1 F t z Y R kz (udL R n c) ∧ lo = [(0, .inr (.inr (some t))), (1, .inl (nI n)), (2, .inr (.inr (some (Y n 0)))), (3, .inl (nI d)), (6, .inl (nI w)), (7, .inr (.inr (some (z 22))))] ∧ st = [] ∧ cs = 2 ∧ sl = 12
def I_ud8 (t : Nat) (p : Int32) (F : Nat → Nat × Nat) (z : Nat → Nat) (Y : Nat → Nat → Nat) (R : Rb) (kz : Nat → Nat) (S : MM) (k : Nat) : KT := fun lo st S1 cs sl => ∃ n d c w j F1 Y1 G1 T1, k = w - j ∧ udA R p n d c ∧ j ≤ w ∧ w = (udL R n c).length ∧ roP (R.Q.G n) n w ∧ urM S S1 F F1 t z Y Y1 R kz n d c (udL R n c) j G1 T1 ∧ lo = [(0, .inr (.inr (some t))), (1, .inl (nI n)), (2, .inr (.inr (some (Y n 0)))), (3, .inl (nI d)), (6, .inl (nI w)), (7, .inr (.inr (some (z 22)))), (8, .inl (nI j))] ∧ st = [] ∧ cs = 3 + dC1 R n j ∧ sl = 18 + dC2 R n j
def T_run0 : TR := fun Rc Rs av S cs sl K Kx => match av with
  | [.inr (.inr t_o), .inl p] => pa t_o fun t => (∃ (F : Nat → Nat × Nat) (z : Nat → Nat) (Y : Nat → Nat → Nat) (R : Rb) (kz : Nat → Nat), (MD S F t z Y R kz ∧ AbC R ∧ UcP R) ∧ cs + (3 + dC1 R p.toNatClampNeg (uC R p.toNatClampNeg)) ≤ Rc ∧ sl + (18 + dC2 R p.toNatClampNeg (uC R p.toNatClampNeg)) ≤ Rs ∧ ((∀ (v : Int32) (S' : MM), (rudQ S S' F t R kz p v) → K (some (.inl v)) S' (cs + (3 + dC1 R p.toNatClampNeg (uC R p.toNatClampNeg))) (sl + (18 + dC2 R p.toNatClampNeg (uC R p.toNatClampNeg)))) ∧ ((np 4 p) → Kx 1 S (cs + (3 + dC1 R p.toNatClampNeg (uC R p.toNatClampNeg))) (sl + (18 + dC2 R p.toNatClampNeg (uC R p.toNatClampNeg)))) ∧ ((∃ n, n < 4 ∧ p = nI n ∧ R.C n = []) → Kx 2 S (cs + (3 + dC1 R p.toNatClampNeg (uC R p.toNatClampNeg))) (sl + (18 + dC2 R p.toNatClampNeg (uC R p.toNatClampNeg)))) ∧ (∀ (S' : MM), (rudX S S' F t R kz p) → Kx 0 S' (cs + (3 + dC1 R p.toNatClampNeg (uC R p.toNatClampNeg))) (sl + (18 + dC2 R p.toNatClampNeg (uC R p.toNatClampNeg))))))
  | _ => False
def sp_run0 (t : Nat) (p : Int32) (F : Nat → Nat × Nat) (z : Nat → Nat) (Y : Nat → Nat → Nat) (R : Rb) (kz : Nat → Nat) : Sp := (fun av S => av = [.inr (.inr (some t)), .inl p] ∧ (MD S F t z Y R kz ∧ AbC R ∧ UcP R), fun _ S => 3 + dC1 R p.toNatClampNeg (uC R p.toNatClampNeg), fun _ S => 18 + dC2 R p.toNatClampNeg (uC R p.toNatClampNeg), fun _ S rv S' => ∃ v, rv = (some (.inl v)) ∧ (rudQ S S' F t R kz p v), fun _ S E S' => (E = 1 ∧ (np 4 p) ∧ S' = S) ∨ (E = 2 ∧ (∃ n, n < 4 ∧ p = nI n ∧ R.C n = []) ∧ S' = S) ∨ (E = 0 ∧ (rudX S S' F t R kz p)))
def tX14_undo0 : CD := [(0, .aload_n 0), (1, .iload_n 1), (2, .invokevirtual 203), (5, .astore_n 2), (6, .aload_n 2), (7, .getfield 194), (10, .ifCond .le 7), (13, .iconst 1), (14, .goto 4), (17, .iconst 0), (18, .invokestatic 236), (21, .aload_n 2), (22, .getfield 194), (25, .iconst 1), (26, .isub), (27, .istore_n 3), (28, .aload_n 2), (29, .getfield 200), (32, .iload_n 3), (33, .iaload), (34, .istore 4), (36, .aload_n 2), (37, .getfield 197), (40, .iload_n 3), (41, .iaload), (42, .istore 5), (44, .iconst 0), (45, .istore 6), (47, .aload_n 0), (48, .getfield 67), (51, .astore 7), (53, .iconst 0), (54, .istore 8), (56, .iload 8), (58, .aload_n 2), (59, .getfield 239), (62, .if_icmp .ge 130), (65, .iconst 0), (66, .istore 9), (68, .iconst 0), (69, .istore 10), (71, .iload 10), (73, .iload 4), (75, .if_icmp .ge 88), (78, .iload 9), (80, .ifCond .ne 83), (83, .aload_n 2), (84, .iload_n 1), (85, .iload 5), (87, .iload 10), (89, .iadd), (90, .invokevirtual 242), (93, .istore 11), (95, .aload_n 2), (96, .getfield 190), (99, .iload_n 3), (100, .baload), (101, .ifCond .eq 32), (104, .iload 11), (106, .aload_n 2), (107, .getfield 246), (110, .iload 8), (112, .iaload), (113, .if_icmp .ne 16), (116, .aload_n 2), (117, .iload 11), (119, .invokevirtual 249), (122, .ifCond .eq 7), (125, .iconst 1), (126, .goto 29), (129, .iconst 0), (130, .goto 25), (133, .aload_n 2), (134, .getfield 253), (137, .iload 11), (139, .iaload), (140, .aload_n 2), (141, .getfield 246), (144, .iload 8), (146, .iaload), (147, .if_icmp .ne 7), (150, .iconst 1), (151, .goto 4), (154, .iconst 0), (155, .istore 9), (157, .iinc 10 1), (160, .goto (-89)), (163, .iload 9), (165, .ifCond .ne 6), (168, .goto 18), (171, .aload 7), (173, .iload 6), (175, .aload_n 2), (176, .getfield 246), (179, .iload 8), (181, .iaload), (182, .iastore), (183, .iinc 6 1), (186, .iinc 8 1), (189, .goto (-133)), (192, .aload_n 0), (193, .aload_n 2), (194, .iload_n 1), (195, .iload 6), (197, .invokevirtual 214), (200, .aload_n 2), (201, .dup), (202, .getfield 194), (205, .iconst 1), (206, .isub), (207, .putfield 194), (210, .iconst 0), (211, .istore 8), (213, .iload 8), (215, .iload 6), (217, .if_icmp .ge 84), (220, .aload_n 2), (221, .getfield 190), (224, .iload_n 3), (225, .baload), (226, .ifCond .eq 37), (229, .aload 7), (231, .iload 6), (233, .iconst 1), (234, .isub), (235, .iload 8), (237, .isub), (238, .iaload), (239, .istore 9), (241, .aload_n 2), (242, .iload 9), (244, .invokevirtual 256), (247, .istore 10), (249, .aload_n 2), (250, .aload_n 0), (251, .iload_n 1), (252, .invokevirtual 221), (255, .iload 10), (257, .invokevirtual 232), (260, .goto 35), (263, .aload_n 2), (264, .aload 7), (266, .iload 8), (268, .iaload), (269, .invokevirtual 256), (272, .istore 9), (274, .aload_n 2), (275, .aload_n 0), (276, .iload_n 1), (277, .invokevirtual 221), (280, .iload 9), (282, .aload_n 2), (283, .getfield 259), (286, .aload 7), (288, .iload 8), (290, .iaload), (291, .iaload), (292, .invokevirtual 224), (295, .iinc 8 1), (298, .goto (-85)), (301, .iload 6), (303, .ireturn)]
set_option maxRecDepth 100000 in
theorem kX14_undo0 : chk cX14_undo0 tX14_undo0 = true := by decide +kernel
theorem vX14_undo0_203 : ∀ w ∈ ([.methodLink RX14 203 yX14_graph, .instanceMethod yX14_graph, .selects yX14_graph.cls yX14_graph yX14_graph, .initialized yX14_graph.cls, .code yX14_graph cX14_graph 2 (some (.object "WeaveTextModel$Graph"))] : List Cond), w ∈ lw_good := List.forall_mem_cons.mpr ⟨mgd 1946 (by decide +kernel) (by decide +kernel), List.forall_mem_cons.mpr ⟨mgd 1948 (by decide +kernel) (by decide +kernel), List.forall_mem_cons.mpr ⟨mgd 52 (by decide +kernel) (by decide +kernel), List.forall_mem_cons.mpr ⟨mgd 136 (by decide +kernel) (by decide +kernel), List.forall_mem_cons.mpr ⟨mgd 1949 (by decide +kernel) (by decide +kernel), fun _ h => absurd h List.not_mem_nil⟩⟩⟩⟩⟩
theorem vX14_undo0_236 : ∀ w ∈ ([.methodLink RX14 236 yX14_there, .static yX14_there, .initialized yX14_there.cls, .code yX14_there cX14_there 1 none] : List Cond), w ∈ lw_good := List.forall_mem_cons.mpr ⟨mgd 2066 (by decide +kernel) (by decide +kernel), List.forall_mem_cons.mpr ⟨mgd 2067 (by decide +kernel) (by decide +kernel), List.forall_mem_cons.mpr ⟨mgd 136 (by decide +kernel) (by decide +kernel), List.forall_mem_cons.mpr ⟨mgd 2068 (by decide +kernel) (by decide +kernel), fun _ h => absurd h List.not_mem_nil⟩⟩⟩⟩
theorem vX14_undo0_242 : ∀ w ∈ ([.methodLink RX14 242 yX12_find, .instanceMethod yX12_find, .selects yX12_find.cls yX12_find yX12_find, .initialized yX12_find.cls, .code yX12_find cX12_find 4 (some .int)] : List Cond), w ∈ lw_good := List.forall_mem_cons.mpr ⟨mgd 2070 (by decide +kernel) (by decide +kernel), List.forall_mem_cons.mpr ⟨mgd 2071 (by decide +kernel) (by decide +kernel), List.forall_mem_cons.mpr ⟨mgd 2072 (by decide +kernel) (by decide +kernel), List.forall_mem_cons.mpr ⟨mgd 138 (by decide +kernel) (by decide +kernel), List.forall_mem_cons.mpr ⟨mgd 2073 (by decide +kernel) (by decide +kernel), fun _ h => absurd h List.not_mem_nil⟩⟩⟩⟩⟩
theorem vX14_undo0_249 : ∀ w ∈ ([.methodLink RX14 249 yX12_isShown, .instanceMethod yX12_isShown, .selects yX12_isShown.cls yX12_isShown yX12_isShown, .initialized yX12_isShown.cls, .code yX12_isShown cX12_isShown 2 (some .boolean)] : List Cond), w ∈ lw_good := List.forall_mem_cons.mpr ⟨mgd 2074 (by decide +kernel) (by decide +kernel), List.forall_mem_cons.mpr ⟨mgd 1955 (by decide +kernel) (by decide +kernel), List.forall_mem_cons.mpr ⟨mgd 1956 (by decide +kernel) (by decide +kernel), List.forall_mem_cons.mpr ⟨mgd 138 (by decide +kernel) (by decide +kernel), List.forall_mem_cons.mpr ⟨mgd 1957 (by decide +kernel) (by decide +kernel), fun _ h => absurd h List.not_mem_nil⟩⟩⟩⟩⟩
theorem vX14_undo0_214 : ∀ w ∈ ([.methodLink RX14 214 yX14_needRoom, .instanceMethod yX14_needRoom, .selects yX14_needRoom.cls yX14_needRoom yX14_needRoom, .initialized yX14_needRoom.cls, .code yX14_needRoom cX14_needRoom 4 none] : List Cond), w ∈ lw_good := List.forall_mem_cons.mpr ⟨mgd 1971 (by decide +kernel) (by decide +kernel), List.forall_mem_cons.mpr ⟨mgd 1973 (by decide +kernel) (by decide +kernel), List.forall_mem_cons.mpr ⟨mgd 55 (by decide +kernel) (by decide +kernel), List.forall_mem_cons.mpr ⟨mgd 136 (by decide +kernel) (by decide +kernel), List.forall_mem_cons.mpr ⟨mgd 1974 (by decide +kernel) (by decide +kernel), fun _ h => absurd h List.not_mem_nil⟩⟩⟩⟩⟩
theorem vX14_undo0_256 : ∀ w ∈ ([.methodLink RX14 256 yX12_shownBefore, .instanceMethod yX12_shownBefore, .selects yX12_shownBefore.cls yX12_shownBefore yX12_shownBefore, .initialized yX12_shownBefore.cls, .code yX12_shownBefore cX12_shownBefore 4 (some .int)] : List Cond), w ∈ lw_good := List.forall_mem_cons.mpr ⟨mgd 2075 (by decide +kernel) (by decide +kernel), List.forall_mem_cons.mpr ⟨mgd 2076 (by decide +kernel) (by decide +kernel), List.forall_mem_cons.mpr ⟨mgd 2077 (by decide +kernel) (by decide +kernel), List.forall_mem_cons.mpr ⟨mgd 138 (by decide +kernel) (by decide +kernel), List.forall_mem_cons.mpr ⟨mgd 2078 (by decide +kernel) (by decide +kernel), fun _ h => absurd h List.not_mem_nil⟩⟩⟩⟩⟩
theorem vX14_undo0_221 : ∀ w ∈ ([.methodLink RX14 221 yX14_own, .instanceMethod yX14_own, .selects yX14_own.cls yX14_own yX14_own, .initialized yX14_own.cls, .code yX14_own cX14_own 2 (some .int)] : List Cond), w ∈ lw_good := List.forall_mem_cons.mpr ⟨mgd 1984 (by decide +kernel) (by decide +kernel), List.forall_mem_cons.mpr ⟨mgd 1986 (by decide +kernel) (by decide +kernel), List.forall_mem_cons.mpr ⟨mgd 56 (by decide +kernel) (by decide +kernel), List.forall_mem_cons.mpr ⟨mgd 136 (by decide +kernel) (by decide +kernel), List.forall_mem_cons.mpr ⟨mgd 1987 (by decide +kernel) (by decide +kernel), fun _ h => absurd h List.not_mem_nil⟩⟩⟩⟩⟩
theorem vX14_undo0_232 : ∀ w ∈ ([.methodLink RX14 232 yX12_erase, .instanceMethod yX12_erase, .selects yX12_erase.cls yX12_erase yX12_erase, .initialized yX12_erase.cls, .code yX12_erase cX12_erase 4 none] : List Cond), w ∈ lw_good := List.forall_mem_cons.mpr ⟨mgd 2053 (by decide +kernel) (by decide +kernel), List.forall_mem_cons.mpr ⟨mgd 2054 (by decide +kernel) (by decide +kernel), List.forall_mem_cons.mpr ⟨mgd 2055 (by decide +kernel) (by decide +kernel), List.forall_mem_cons.mpr ⟨mgd 138 (by decide +kernel) (by decide +kernel), List.forall_mem_cons.mpr ⟨mgd 2056 (by decide +kernel) (by decide +kernel), fun _ h => absurd h List.not_mem_nil⟩⟩⟩⟩⟩
theorem vX14_undo0_224 : ∀ w ∈ ([.methodLink RX14 224 yX12_insert, .instanceMethod yX12_insert, .selects yX12_insert.cls yX12_insert yX12_insert, .initialized yX12_insert.cls, .code yX12_insert cX12_insert 10 none] : List Cond), w ∈ lw_good := List.forall_mem_cons.mpr ⟨mgd 1997 (by decide +kernel) (by decide +kernel), List.forall_mem_cons.mpr ⟨mgd 1998 (by decide +kernel) (by decide +kernel), List.forall_mem_cons.mpr ⟨mgd 1999 (by decide +kernel) (by decide +kernel), List.forall_mem_cons.mpr ⟨mgd 138 (by decide +kernel) (by decide +kernel), List.forall_mem_cons.mpr ⟨mgd 2000 (by decide +kernel) (by decide +kernel), fun _ h => absurd h List.not_mem_nil⟩⟩⟩⟩⟩
set_option maxRecDepth 100000 in
set_option maxHeartbeats 2000000 in
theorem c_run0 (l : Launch) (hlt : l.stackTraces = false) : ∀ (t : Nat) (p : Int32) (F : Nat → Nat × Nat) (z : Nat → Nat) (Y : Nat → Nat → Nat) (R : Rb) (kz : Nat → Nat), CtX l yX14_undo0 (Cond.code yX14_undo0 cX14_undo0 12 (some .int)) (some .int) 8 130 (sp_run0 t p F z Y R kz) := by
  intro t p F z Y R kz
  refine CtX.of hlt (fX14, nX14, aX14, iX14, lX14, [(203, 0, 2, 3, T_rgr), (236, 2, 1, 0, T_rth), (242, 0, 3, 1, T_rfn), (249, 0, 2, 1, T_rish), (214, 0, 4, 0, T_rnr), (256, 0, 2, 1, T_rsbf), (221, 0, 2, 1, T_row7), (232, 0, 3, 0, T_rer), (224, 0, 4, 0, T_ris)], qX14, gX14, []) false tX14_undo0 (fun _ S => look [(21, ([0,1,2], I_ud1 t p Y R S)), (56, ([0,1,2,3,4,5,6,7,8], I_ud2 t p F z Y R kz S)), (71, ([0,1,2,3,4,5,6,7,8,9,10], I_ud3 t p F z Y R kz S)), (157, ([0,1,2,3,4,5,6,7,8,9,10], I_ud4 t p F z Y R kz S)), (163, ([0,1,2,3,4,5,6,7,8,9], I_ud5 t p F z Y R kz S)), (186, ([0,1,2,3,4,5,6,7,8], I_ud6 t p F z Y R kz S)), (192, ([0,1,2,3,6,7], I_ud7 t p F z Y R kz S)), (213, ([0,1,2,3,6,7,8], I_ud8 t p F z Y R kz S))]) (by decide) (by decide) kX14_undo0 ⟨_, _, rfl⟩ fX14_ok nX14_ok aX14_ok iX14_ok lX14_ok (fun p e R s m args below meth c Q D cy z r A C hR1 hR2 => List.forall_mem_cons.mpr ⟨cOK_use (fun _ _ _ _ _ _ _ _ h => let ⟨sp, h1, h2, h3⟩ := u_rgr l hlt _ _ _ _ _ _ _ _ h; ⟨sp, cOKx_V C h1 vX14_undo0_203 ⟨by decide, by decide, by decide +kernel⟩ ⟨by rw [hR1]; decide, by rw [hR2]; decide⟩ (k := 15) (T := TX14) (N := 52) rfl (by decide) h2, h3⟩), List.forall_mem_cons.mpr ⟨cOK_use (fun _ _ _ _ _ _ _ _ h => let ⟨sp, h1, _, h3⟩ := u_rth l hlt _ _ _ _ _ _ _ _ h; ⟨sp, cOKx_S C h1 vX14_undo0_236 ⟨by decide, by decide, by decide +kernel⟩ ⟨by rw [hR1]; decide, by rw [hR2]; decide⟩, h3⟩), List.forall_mem_cons.mpr ⟨cOK_use (fun _ _ _ _ _ _ _ _ h => let ⟨sp, h1, h2, h3⟩ := u_rfn l _ _ _ _ _ _ _ _ h; ⟨sp, cOK_V C h1 vX14_undo0_242 ⟨by decide, by decide, by decide +kernel⟩ ⟨by rw [hR1]; decide, by rw [hR2]; decide⟩ (k := 13) (T := TX12) (N := 27) rfl (by decide) h2, h3⟩), List.forall_mem_cons.mpr ⟨cOK_use (fun _ _ _ _ _ _ _ _ h => let ⟨sp, h1, h2, h3⟩ := u_rish l _ _ _ _ _ _ _ _ h; ⟨sp, cOK_V C h1 vX14_undo0_249 ⟨by decide, by decide, by decide +kernel⟩ ⟨by rw [hR1]; decide, by rw [hR2]; decide⟩ (k := 13) (T := TX12) (N := 27) rfl (by decide) h2, h3⟩), List.forall_mem_cons.mpr ⟨cOK_use (fun _ _ _ _ _ _ _ _ h => let ⟨sp, h1, h2, h3⟩ := u_rnr l hlt _ _ _ _ _ _ _ _ h; ⟨sp, cOKx_V C h1 vX14_undo0_214 ⟨by decide, by decide, by decide +kernel⟩ ⟨by rw [hR1]; decide, by rw [hR2]; decide⟩ (k := 15) (T := TX14) (N := 52) rfl (by decide) h2, h3⟩), List.forall_mem_cons.mpr ⟨cOK_use (fun _ _ _ _ _ _ _ _ h => let ⟨sp, h1, h2, h3⟩ := u_rsbf l _ _ _ _ _ _ _ _ h; ⟨sp, cOK_V C h1 vX14_undo0_256 ⟨by decide, by decide, by decide +kernel⟩ ⟨by rw [hR1]; decide, by rw [hR2]; decide⟩ (k := 13) (T := TX12) (N := 27) rfl (by decide) h2, h3⟩), List.forall_mem_cons.mpr ⟨cOK_use (fun _ _ _ _ _ _ _ _ h => let ⟨sp, h1, h2, h3⟩ := u_row7 l _ _ _ _ _ _ _ _ h; ⟨sp, cOK_V C h1 vX14_undo0_221 ⟨by decide, by decide, by decide +kernel⟩ ⟨by rw [hR1]; decide, by rw [hR2]; decide⟩ (k := 15) (T := TX14) (N := 52) rfl (by decide) h2, h3⟩), List.forall_mem_cons.mpr ⟨cOK_use (fun _ _ _ _ _ _ _ _ h => let ⟨sp, h1, h2, h3⟩ := u_rer l _ _ _ _ _ _ _ _ h; ⟨sp, cOK_V C h1 vX14_undo0_232 ⟨by decide, by decide, by decide +kernel⟩ ⟨by rw [hR1]; decide, by rw [hR2]; decide⟩ (k := 13) (T := TX12) (N := 27) rfl (by decide) h2, h3⟩), List.forall_mem_cons.mpr ⟨cOK_use (fun _ _ _ _ _ _ _ _ h => let ⟨sp, h1, h2, h3⟩ := u_ris l _ _ _ _ _ _ _ _ h; ⟨sp, cOK_V C h1 vX14_undo0_224 ⟨by decide, by decide, by decide +kernel⟩ ⟨by rw [hR1]; decide, by rw [hR2]; decide⟩ (k := 13) (T := TX12) (N := 27) rfl (by decide) h2, h3⟩), fun _ h => absurd h List.not_mem_nil⟩⟩⟩⟩⟩⟩⟩⟩⟩) qX14_ok gX14_ok (fun _ h => absurd h List.not_mem_nil) ?_ ?_
  · rintro _ S ⟨rfl, hp⟩
    refine ⟨Nat.le_of_ble_eq_true rfl, 300, ?_⟩
    show (0 = 0 ∧ (∃ (F_1 : Nat → Nat × Nat) (z_2 : Nat → Nat) (Y_3 : Nat → Nat → Nat) (R_4 : Rb) (kz_5 : Nat → Nat), (MD S F_1 t z_2 Y_3 R_4 kz_5) ∧ 0 + 1 ≤ 3 + dC1 R p.toNatClampNeg (uC R p.toNatClampNeg) ∧ 0 + 6 ≤ 18 + dC2 R p.toNatClampNeg (uC R p.toNatClampNeg) ∧ ((∀ (x_7 : Option Nat) (S_6 : MM), (S_6 = S ∧ ∃ n, n < 4 ∧ p = nI n ∧ x_7 = some (Y_3 n 0)) → (pa x_7 fun a_8 => isO S_6 13 a_8 ∧ (((mI S_6 1326 a_8) ≤ 0 → (2 = 2 ∧ (((0 : Int32) = 0 ∨ (0 : Int32) = 1) ∧ 0 + 1 + 1 ≤ 3 + dC1 R p.toNatClampNeg (uC R p.toNatClampNeg) ∧ 0 + 6 + 6 ≤ 18 + dC2 R p.toNatClampNeg (uC R p.toNatClampNeg) ∧ ((∀ (S_9 : MM), (S_9 = S_6 ∧ (0 : Int32) = 1) → (∃ k1, I_ud1 t p Y R S k1 [(0, .inr (.inr (some t))), (1, .inl p), (2, .inr (.inr x_7))] [] S_9 (0 + 1 + 1) (0 + 6 + 6))) ∧ (((0 : Int32) = 0) → mthr (sp_run0 t p F z Y R kz) [.inr (.inr (some t)), .inl p] S 2 S_6 (0 + 1 + 1) (0 + 6 + 6)))))) ∧ (¬ (mI S_6 1326 a_8) ≤ 0 → (2 = 2 ∧ (((1 : Int32) = 0 ∨ (1 : Int32) = 1) ∧ 0 + 1 + 1 ≤ 3 + dC1 R p.toNatClampNeg (uC R p.toNatClampNeg) ∧ 0 + 6 + 6 ≤ 18 + dC2 R p.toNatClampNeg (uC R p.toNatClampNeg) ∧ ((∀ (S_11 : MM), (S_11 = S_6 ∧ (1 : Int32) = 1) → (∃ k1, I_ud1 t p Y R S k1 [(0, .inr (.inr (some t))), (1, .inl p), (2, .inr (.inr x_7))] [] S_11 (0 + 1 + 1) (0 + 6 + 6))) ∧ (((1 : Int32) = 0) → mthr (sp_run0 t p F z Y R kz) [.inr (.inr (some t)), .inl p] S 2 S_6 (0 + 1 + 1) (0 + 6 + 6))))))))) ∧ ((np 4 p) → mthr (sp_run0 t p F z Y R kz) [.inr (.inr (some t)), .inl p] S 1 S (0 + 1) (0 + 6)))))
    obtain ⟨hM, hA, hU⟩ := hp
    refine ⟨rfl, F, z, Y, R, kz, hM, by omega, by omega, fun v S6 h => ?_, fun h => ⟨Or.inl ⟨rfl, h, rfl⟩, by show 0 + 1 ≤ 3 + dC1 R p.toNatClampNeg (uC R p.toNatClampNeg); omega, by show 0 + 6 ≤ 18 + dC2 R p.toNatClampNeg (uC R p.toNatClampNeg); omega⟩⟩
    obtain ⟨e6, n, hn, hpn, rfl⟩ := h
    subst S6
    have hRP := (hM 2 n hn).2
    have g := hRP.1
    have e26 : mI S 1326 (Y n 0) = nI (R.C n).length := hRP.2.2.1
    have hc8 := hRP.2.2.2.1
    refine pa_i rfl ⟨(g 0).1, ?_⟩
    rw [e26]
    refine if_le (b := 0) (by omega) (by decide) (fun w => ⟨rfl, Or.inl rfl, by omega, by omega, fun S9 h => absurd h.2 (by decide), fun _ => ⟨Or.inr (Or.inl ⟨rfl, ⟨n, hn, hpn, List.eq_nil_of_length_eq_zero (by omega)⟩, rfl⟩), by show 0 + 1 + 1 ≤ 3 + dC1 R p.toNatClampNeg (uC R p.toNatClampNeg); omega, by show 0 + 6 + 6 ≤ 18 + dC2 R p.toNatClampNeg (uC R p.toNatClampNeg); omega⟩⟩) (fun w => ⟨rfl, Or.inr rfl, by omega, by omega, fun S9 h => ?_, fun h => absurd h (by decide)⟩)
    obtain ⟨e9, -⟩ := h
    subst S9
    exact ⟨4000000000, n, (R.C n).length - 1, (R.C n)[(R.C n).length - 1]'(by omega), rfl, ⟨hn, hpn, by omega, List.getElem?_eq_getElem (by omega)⟩, by rw [hpn], rfl, rfl, rfl, rfl⟩
  · intro av S hpre pc I hI k lo st S1 cs sl h
    obtain ⟨rfl, hp⟩ := hpre
    have hm := look_in hI
    simp only [List.mem_cons, List.not_mem_nil, or_false] at hm
    rcases hm with hm | hm | hm | hm | hm | hm | hm | hm
    · cases hm
      obtain ⟨n, d, c, rfl, hX, rfl, rfl, rfl, rfl, rfl⟩ := h
      refine ⟨300, ?_⟩
      show (isO S 13 (Y n 0) ∧ (isO S 13 (Y n 0) ∧ (pa (mR S 1325 (Y n 0)) fun a_1 => ∃ v_2 : Int32, (isO S 17 a_1 ∧ inR S a_1 ((mI S 1326 (Y n 0)) - (1 : Int32)) ∧ v_2 = eI S a_1 ((mI S 1326 (Y n 0)) - (1 : Int32)).toNatClampNeg ∨ a_1 = (mQ S).1 ∧ vp_in ((mI S 1326 (Y n 0)) - (1 : Int32)) 16 ∧ v_2 = mRem ((mI S 1326 (Y n 0)) - (1 : Int32)).toNatClampNeg) ∧ (isO S 13 (Y n 0) ∧ (pa (mR S 1324 (Y n 0)) fun a_3 => ∃ v_4 : Int32, (isO S 17 a_3 ∧ inR S a_3 ((mI S 1326 (Y n 0)) - (1 : Int32)) ∧ v_4 = eI S a_3 ((mI S 1326 (Y n 0)) - (1 : Int32)).toNatClampNeg ∨ a_3 = (mQ S).1 ∧ vp_in ((mI S 1326 (Y n 0)) - (1 : Int32)) 16 ∧ v_4 = mRem ((mI S 1326 (Y n 0)) - (1 : Int32)).toNatClampNeg) ∧ (isO S 15 t ∧ (∃ k1, k1 < 4000000000 ∧ I_ud2 t p F z Y R kz S k1 [(0, .inr (.inr (some t))), (1, .inl (nI n)), (2, .inr (.inr (some (Y n 0)))), (3, .inl ((mI S 1326 (Y n 0)) - (1 : Int32))), (4, .inl v_2), (5, .inl v_4), (6, .inl (0 : Int32)), (7, .inr (.inr (mR S 1522 t))), (8, .inl (0 : Int32))] [] S 2 12)))))))
      obtain ⟨hM, hA, hU⟩ := hp
      obtain ⟨hn, hpn, hd, hcd⟩ := id hX
      have hRP := (hM 2 n hn).2
      have g := hRP.1
      have hnm := g.nm
      have hol := g.odl
      have e26 : mI S 1326 (Y n 0) = nI (R.C n).length := hRP.2.2.1
      have hc8 := hRP.2.2.2.1
      have r24 := g.rk (k := 24) (by decide) (by decide) (by decide)
      have r25 := g.rk (k := 25) (by decide) (by decide) (by decide)
      have ed : nI (R.C n).length - 1 = nI d := by rw [nI_sub1 (by omega)]; congr 1; omega
      have ec : (R.C n).getD d (false, 0, 0) = c := by rw [List.getD_eq_getElem?_getD, hcd]; rfl
      have cl := hRP.2.2.2.2 d (by omega)
      rw [ec] at cl
      rw [e26, ed]
      refine ⟨(g 0).1, (g 0).1, rdI (v := nI c.2.2) r25.1 r25.2.2.1 (inRn (N := 8192) r25.2.2.2 (by omega) (by decide)) (by rw [nI_clamp (by omega)]; exact cl.2.2) ⟨(g 0).1, rdI (v := nI c.2.1) r24.1 r24.2.2.1 (inRn (N := 8192) r24.2.2.2 (by omega) (by decide)) (by rw [nI_clamp (by omega)]; exact cl.2.1) ⟨(hM 0).1, ((R.Q.T n).od.length + 1 - 0) * 100000 + 90000, by omega, n, d, c, 0, 0, rfl, hX, Nat.zero_le _, rfl, ⟨⟨hM, fun _ _ => rfl, Keep.rf, rfl⟩, fun k hk => absurd hk (Nat.not_lt_zero k)⟩, by rw [(hM 1 22 (by decide)).1]; rfl, rfl, rfl, rfl⟩⟩⟩
    · cases hm
      obtain ⟨n, d, c, w, j, rfl, hX, hj, hw, hI, rfl, rfl, rfl, rfl⟩ := h
      refine ⟨300, ?_⟩
      show (isO S1 13 (Y n 0) ∧ (((mI S1 1302 (Y n 0)) ≤ (nI j) → (∃ k1, k1 < (((R.Q.T n).od.length + 1 - j) * 100000 + 90000) ∧ I_ud7 t p F z Y R kz S k1 [(0, .inr (.inr (some t))), (1, .inl (nI n)), (2, .inr (.inr (some (Y n 0)))), (3, .inl (nI d)), (6, .inl (nI w)), (7, .inr (.inr (some (z 22))))] [] S1 2 12)) ∧ (¬ (mI S1 1302 (Y n 0)) ≤ (nI j) → (∃ k1, k1 < (((R.Q.T n).od.length + 1 - j) * 100000 + 90000) ∧ I_ud3 t p F z Y R kz S k1 [(0, .inr (.inr (some t))), (1, .inl (nI n)), (2, .inr (.inr (some (Y n 0)))), (3, .inl (nI d)), (4, .inl (nI c.2.2)), (5, .inl (nI c.2.1)), (6, .inl (nI w)), (7, .inr (.inr (some (z 22)))), (8, .inl (nI j)), (9, .inl (0 : Int32)), (10, .inl (0 : Int32))] [] S1 2 12))))
      have hM := hI.1.1
      have hn := hX.1
      have g : RG S1 F (101 + n) (Y n) (R.Q.G n) (R.Q.T n) := (hM 2 n hn).2.1
      have hnm := g.nm
      have hol := g.odl
      have e1 : mI S1 1302 (Y n 0) = nI (R.Q.T n).od.length := (g 2).2.2
      rw [e1]
      refine ⟨(g 0).1, if_le (by omega) (by omega) (fun q => ?_) (fun q => ?_)⟩
      · have htk : (R.Q.T n).od.take j = (R.Q.T n).od := List.take_of_length_le q
        rw [htk] at hI hw
        exact ⟨20000, by omega, n, d, c, w, rfl, hX, hw, hI, rfl, rfl, rfl, rfl⟩
      · exact ⟨((R.Q.T n).od.length + 1 - j) * 100000 + (20001 + (8193 - 0) * 2), by omega, n, d, c, w, j, false, 0, rfl, hX, q, hw, Nat.zero_le _, rfl, hI, rfl, rfl, rfl, rfl⟩
    · cases hm
      obtain ⟨n, d, c, w, j, b, m, rfl, hX, hj, hw, hmc, hb, hI, rfl, rfl, rfl, rfl⟩ := h
      refine ⟨300, ?_⟩
      show (((nI c.2.2) ≤ (nI m) → (∃ k1, k1 < (((R.Q.T n).od.length + 1 - j) * 100000 + (20001 + (8193 - m) * 2)) ∧ I_ud5 t p F z Y R kz S k1 [(0, .inr (.inr (some t))), (1, .inl (nI n)), (2, .inr (.inr (some (Y n 0)))), (3, .inl (nI d)), (4, .inl (nI c.2.2)), (5, .inl (nI c.2.1)), (6, .inl (nI w)), (7, .inr (.inr (some (z 22)))), (8, .inl (nI j)), (9, .inl (bI b))] [] S1 2 12)) ∧ (¬ (nI c.2.2) ≤ (nI m) → ((¬ (bI b) = 0 → (∃ k1, k1 < (((R.Q.T n).od.length + 1 - j) * 100000 + (20001 + (8193 - m) * 2)) ∧ I_ud5 t p F z Y R kz S k1 [(0, .inr (.inr (some t))), (1, .inl (nI n)), (2, .inr (.inr (some (Y n 0)))), (3, .inl (nI d)), (4, .inl (nI c.2.2)), (5, .inl (nI c.2.1)), (6, .inl (nI w)), (7, .inr (.inr (some (z 22)))), (8, .inl (nI j)), (9, .inl (bI b))] [] S1 2 12)) ∧ ((bI b) = 0 → (0 = 0 ∧ (∃ (a_1 : Nat), nI n = nI a_1 ∧ (∃ (F_2 : Nat → Nat × Nat) (i_3 : Nat) (y_4 : Nat → Nat) (G_5 : Gr) (T_6 : Tr), ((Y n 0) = y_4 0 ∧ RG S1 F_2 i_3 y_4 G_5 T_6 ∧ a_1 < 256) ∧ 2 ≤ 3 + dC1 R p.toNatClampNeg (uC R p.toNatClampNeg) ∧ 12 ≤ 18 + dC2 R p.toNatClampNeg (uC R p.toNatClampNeg) ∧ ((isO S1 13 (Y n 0) ∧ (pa (mR S1 1323 (Y n 0)) fun a_8 => (isO S1 16 a_8 ∨ isO S1 20 a_8) ∧ inR S1 a_8 (nI d) ∧ (((eI S1 a_8 (nI d).toNatClampNeg) = 0 → (isO S1 13 (Y n 0) ∧ (pa (mR S1 1318 (Y n 0)) fun a_9 => ∃ v_10 : Int32, (isO S1 17 a_9 ∧ inR S1 a_9 (fnV G_5 a_1 ((nI c.2.1) + (nI m))) ∧ v_10 = eI S1 a_9 (fnV G_5 a_1 ((nI c.2.1) + (nI m))).toNatClampNeg ∨ a_9 = (mQ S1).1 ∧ vp_in (fnV G_5 a_1 ((nI c.2.1) + (nI m))) 16 ∧ v_10 = mRem (fnV G_5 a_1 ((nI c.2.1) + (nI m))).toNatClampNeg) ∧ (isO S1 13 (Y n 0) ∧ (pa (mR S1 1321 (Y n 0)) fun a_11 => ∃ v_12 : Int32, (isO S1 17 a_11 ∧ inR S1 a_11 (nI j) ∧ v_12 = eI S1 a_11 (nI j).toNatClampNeg ∨ a_11 = (mQ S1).1 ∧ vp_in (nI j) 16 ∧ v_12 = mRem (nI j).toNatClampNeg) ∧ ((¬ v_10 = v_12 → (∃ k1, k1 < (((R.Q.T n).od.length + 1 - j) * 100000 + (20001 + (8193 - m) * 2)) ∧ I_ud4 t p F z Y R kz S k1 [(0, .inr (.inr (some t))), (1, .inl (nI n)), (2, .inr (.inr (some (Y n 0)))), (3, .inl (nI d)), (4, .inl (nI c.2.2)), (5, .inl (nI c.2.1)), (6, .inl (nI w)), (7, .inr (.inr (some (z 22)))), (8, .inl (nI j)), (9, .inl (0 : Int32)), (10, .inl (nI m))] [] S1 2 12)) ∧ (v_10 = v_12 → (∃ k1, k1 < (((R.Q.T n).od.length + 1 - j) * 100000 + (20001 + (8193 - m) * 2)) ∧ I_ud4 t p F z Y R kz S k1 [(0, .inr (.inr (some t))), (1, .inl (nI n)), (2, .inr (.inr (some (Y n 0)))), (3, .inl (nI d)), (4, .inl (nI c.2.2)), (5, .inl (nI c.2.1)), (6, .inl (nI w)), (7, .inr (.inr (some (z 22)))), (8, .inl (nI j)), (9, .inl (1 : Int32)), (10, .inl (nI m))] [] S1 2 12)))))))) ∧ (¬ (eI S1 a_8 (nI d).toNatClampNeg) = 0 → (isO S1 13 (Y n 0) ∧ (pa (mR S1 1321 (Y n 0)) fun a_13 => ∃ v_14 : Int32, (isO S1 17 a_13 ∧ inR S1 a_13 (nI j) ∧ v_14 = eI S1 a_13 (nI j).toNatClampNeg ∨ a_13 = (mQ S1).1 ∧ vp_in (nI j) 16 ∧ v_14 = mRem (nI j).toNatClampNeg) ∧ ((¬ (fnV G_5 a_1 ((nI c.2.1) + (nI m))) = v_14 → (∃ k1, k1 < (((R.Q.T n).od.length + 1 - j) * 100000 + (20001 + (8193 - m) * 2)) ∧ I_ud4 t p F z Y R kz S k1 [(0, .inr (.inr (some t))), (1, .inl (nI n)), (2, .inr (.inr (some (Y n 0)))), (3, .inl (nI d)), (4, .inl (nI c.2.2)), (5, .inl (nI c.2.1)), (6, .inl (nI w)), (7, .inr (.inr (some (z 22)))), (8, .inl (nI j)), (9, .inl (0 : Int32)), (10, .inl (nI m))] [] S1 2 12)) ∧ ((fnV G_5 a_1 ((nI c.2.1) + (nI m))) = v_14 → (0 = 0 ∧ (∃ (k1_15 : Nat), fnV G_5 a_1 ((nI c.2.1) + (nI m)) = nI k1_15 ∧ (∃ (F_16 : Nat → Nat × Nat) (i_17 : Nat) (y_18 : Nat → Nat) (G_19 : Gr) (T_20 : Tr), ((Y n 0) = y_18 0 ∧ RG S1 F_16 i_17 y_18 G_19 T_20 ∧ k1_15 < G_19.n) ∧ 2 ≤ 3 + dC1 R p.toNatClampNeg (uC R p.toNatClampNeg) ∧ 12 ≤ 18 + dC2 R p.toNatClampNeg (uC R p.toNatClampNeg) ∧ ((((bI (vis G_19 (k1_15 + 1))) = 0 → (∃ k1, k1 < (((R.Q.T n).od.length + 1 - j) * 100000 + (20001 + (8193 - m) * 2)) ∧ I_ud4 t p F z Y R kz S k1 [(0, .inr (.inr (some t))), (1, .inl (nI n)), (2, .inr (.inr (some (Y n 0)))), (3, .inl (nI d)), (4, .inl (nI c.2.2)), (5, .inl (nI c.2.1)), (6, .inl (nI w)), (7, .inr (.inr (some (z 22)))), (8, .inl (nI j)), (9, .inl (0 : Int32)), (10, .inl (nI m))] [] S1 2 12)) ∧ (¬ (bI (vis G_19 (k1_15 + 1))) = 0 → (∃ k1, k1 < (((R.Q.T n).od.length + 1 - j) * 100000 + (20001 + (8193 - m) * 2)) ∧ I_ud4 t p F z Y R kz S k1 [(0, .inr (.inr (some t))), (1, .inl (nI n)), (2, .inr (.inr (some (Y n 0)))), (3, .inl (nI d)), (4, .inl (nI c.2.2)), (5, .inl (nI c.2.1)), (6, .inl (nI w)), (7, .inr (.inr (some (z 22)))), (8, .inl (nI j)), (9, .inl (1 : Int32)), (10, .inl (nI m))] [] S1 2 12)))))))))))))))))))))))
      obtain ⟨hM0, hA, hU⟩ := hp
      have hM := hI.1.1
      obtain ⟨hn, hpn, hd, hcd⟩ := id hX
      have hRP := (hM 2 n hn).2
      have g : RG S1 F (101 + n) (Y n) (R.Q.G n) (R.Q.T n) := hRP.1
      have hnm := g.nm
      have hol := g.odl
      have hGT := (hA n hn).1
      have hcm : c ∈ R.C n := List.mem_of_getElem? hcd
      obtain ⟨hu1, hu2⟩ := hU n hn c hcm
      have ha8 := agE_8192 g.ok n
      have hc8 := hRP.2.2.2.1
      have ec : (R.C n).getD d (false, 0, 0) = c := by rw [List.getD_eq_getElem?_getD, hcd]; rfl
      have cl := hRP.2.2.2.2 d (by omega)
      rw [ec] at cl
      obtain ⟨x9, hx, hxn, hxc, hxo⟩ := g.odn hj
      have k1 : 2 ≤ 3 + dC1 R p.toNatClampNeg (uC R p.toNatClampNeg) := by omega
      have k2 : 12 ≤ 18 + dC2 R p.toNatClampNeg (uC R p.toNatClampNeg) := by omega
      have go5 : b = uA (R.Q.G n) n c ((R.Q.T n).od.getD j 0) c.2.2 → ∃ k1, k1 < ((R.Q.T n).od.length + 1 - j) * 100000 + (20001 + (8193 - m) * 2) ∧ I_ud5 t p F z Y R kz S k1 [(0, .inr (.inr (some t))), (1, .inl (nI n)), (2, .inr (.inr (some (Y n 0)))), (3, .inl (nI d)), (4, .inl (nI c.2.2)), (5, .inl (nI c.2.1)), (6, .inl (nI w)), (7, .inr (.inr (some (z 22)))), (8, .inl (nI j)), (9, .inl (bI b))] [] S1 2 12 := fun h9 => ⟨((R.Q.T n).od.length + 1 - j) * 100000 + 10, Nat.add_lt_add_left (Nat.lt_of_lt_of_le (by decide) (Nat.le_add_right 20001 _)) _, n, d, c, w, j, b, rfl, hX, hj, hw, h9, hI, rfl, rfl, rfl, rfl⟩
      refine if_le (by omega) (by omega) (fun q => go5 ?_) (fun q => ⟨fun q2 => go5 ?_, fun q2 => ?_⟩)
      · rw [hb, show m = c.2.2 by omega]
      · rw [bI_0, Bool.not_eq_false] at q2
        rw [q2]
        exact (uA_mono (hb.symm.trans q2) hmc).symm
      · rw [bI_0] at q2
        have hbF : uA (R.Q.G n) n c (x9 + 1) m = false := by rw [← hx, ← hb]; exact q2
        have hlt : c.2.1 + m < (agE (R.Q.G n) n).length := by omega
        have hef : fnV (R.Q.G n) n (nI c.2.1 + nI m) = nI (uE (R.Q.G n) n c m) := by
          rw [nI_add, fnV, if_neg (nI_pos (by omega)), nI_clamp (by omega), uE, List.getD_eq_getElem?_getD, List.getElem?_eq_getElem hlt]
          rfl
        have hen : uE (R.Q.G n) n c m < (R.Q.G n).n := by
          refine agE_n g.ok (a := n) ?_
          rw [uE, List.getD_eq_getElem?_getD, List.getElem?_eq_getElem hlt]
          exact List.getElem_mem hlt
        have go4 : ∀ b9 : Bool, b9 = uH (R.Q.G n) n c (x9 + 1) m → ∃ k1, k1 < ((R.Q.T n).od.length + 1 - j) * 100000 + (20001 + (8193 - m) * 2) ∧ I_ud4 t p F z Y R kz S k1 [(0, .inr (.inr (some t))), (1, .inl (nI n)), (2, .inr (.inr (some (Y n 0)))), (3, .inl (nI d)), (4, .inl (nI c.2.2)), (5, .inl (nI c.2.1)), (6, .inl (nI w)), (7, .inr (.inr (some (z 22)))), (8, .inl (nI j)), (9, .inl (bI b9)), (10, .inl (nI m))] [] S1 2 12 := fun b9 h9 => ⟨((R.Q.T n).od.length + 1 - j) * 100000 + (20000 + (8193 - m) * 2), by omega, n, d, c, w, j, b9, m, rfl, hX, hj, hw, q, by rw [h9, hx, uA, hbF, Bool.false_or], hI, rfl, rfl, rfl, rfl⟩
        have r23 := g.rk (k := 23) (by decide) (by decide) (by decide)
        have r18 := g.rk (k := 18) (by decide) (by decide) (by decide)
        have e23 : eI S1 (Y n 23) (nI d).toNatClampNeg = bI c.1 := by rw [nI_clamp (by omega)]; exact cl.1
        have xv : (R.Q.T n).od.getD j 0 - 1 = x9 := by rw [hx, Nat.add_sub_cancel]
        refine ⟨rfl, n, rfl, F, 101 + n, Y n, R.Q.G n, R.Q.T n, ⟨rfl, g, by omega⟩, k1, k2, (g 0).1, pa_i r23.1 ⟨Or.inr r23.2.2.1, inRn (N := 8192) r23.2.2.2 (by omega) (by decide), ?_⟩⟩
        rw [e23, hef]
        refine ⟨fun q3 => ?_, fun q3 => ?_⟩
        · rw [bI_0] at q3
          have hch := hu2 q3 m q
          have htg := (hGT.2.1 _ hen).2 hch
          refine ⟨(g 0).1, rdI (v := nI ((R.Q.G n).ev (uE (R.Q.G n) n c m)).tg) r18.1 r18.2.2.1 (inRn (N := 8192) r18.2.2.2 (by omega) (by decide)) (by rw [nI_clamp (by omega)]; exact ((g 6 _ hen).2 hch (by omega)).2) ⟨(g 0).1, g.g21 hj ?_⟩⟩
          rw [xv]
          refine if_ne (by omega) (by omega) (fun q4 => go4 false ?_) (fun q4 => go4 true ?_)
          · rw [uH, if_neg (by rw [q3]; decide)]
            exact (decide_eq_false (by omega)).symm
          · rw [uH, if_neg (by rw [q3]; decide)]
            exact (decide_eq_true (by omega)).symm
        · rw [bI_0, Bool.not_eq_false] at q3
          refine ⟨(g 0).1, g.g21 hj ?_⟩
          rw [xv]
          refine if_ne (by omega) (by omega) (fun q4 => go4 false ?_) (fun q4 => ⟨rfl, _, rfl, F, 101 + n, Y n, R.Q.G n, R.Q.T n, ⟨rfl, g, hen⟩, k1, k2, fun q5 => go4 false ?_, fun q5 => go4 true ?_⟩)
          · rw [uH, if_pos q3, decide_eq_false (by omega)]; rfl
          · rw [bI_0, q4] at q5
            rw [uH, if_pos q3, q5, Bool.and_false]
          · rw [bI_0, Bool.not_eq_false, q4] at q5
            rw [uH, if_pos q3, q5, decide_eq_true (by omega)]; rfl
    · cases hm
      obtain ⟨n, d, c, w, j, b, m, rfl, hX, hj, hw, hmc, hb, hI, rfl, rfl, rfl, rfl⟩ := h
      refine ⟨300, ?_⟩
      show (∃ k1, k1 < (((R.Q.T n).od.length + 1 - j) * 100000 + (20000 + (8193 - m) * 2)) ∧ I_ud3 t p F z Y R kz S k1 [(0, .inr (.inr (some t))), (1, .inl (nI n)), (2, .inr (.inr (some (Y n 0)))), (3, .inl (nI d)), (4, .inl (nI c.2.2)), (5, .inl (nI c.2.1)), (6, .inl (nI w)), (7, .inr (.inr (some (z 22)))), (8, .inl (nI j)), (9, .inl (bI b)), (10, .inl ((nI m) + (1 : Int32)))] [] S1 2 12)
      have hM := hI.1.1
      obtain ⟨hM0, hA, hU⟩ := hp
      obtain ⟨hn, hpn, hd, hcd⟩ := id hX
      have g : RG S1 F (101 + n) (Y n) (R.Q.G n) (R.Q.T n) := (hM 2 n hn).2.1
      have ha8 := agE_8192 g.ok n
      have hu1 := (hU n hn c (List.mem_of_getElem? hcd)).1
      rw [nI_1]
      exact ⟨((R.Q.T n).od.length + 1 - j) * 100000 + (20001 + (8193 - (m + 1)) * 2), by omega, n, d, c, w, j, b, m + 1, rfl, hX, hj, hw, hmc, hb, hI, rfl, rfl, rfl, rfl⟩
    · cases hm
      obtain ⟨n, d, c, w, j, b, rfl, hX, hj, hw, hb, hI, rfl, rfl, rfl, rfl⟩ := h
      refine ⟨300, ?_⟩
      show ((¬ (bI b) = 0 → (isO S1 13 (Y n 0) ∧ (pa (mR S1 1321 (Y n 0)) fun a_1 => ∃ v_2 : Int32, (isO S1 17 a_1 ∧ inR S1 a_1 (nI j) ∧ v_2 = eI S1 a_1 (nI j).toNatClampNeg ∨ a_1 = (mQ S1).1 ∧ vp_in (nI j) 16 ∧ v_2 = mRem (nI j).toNatClampNeg) ∧ (isO S1 17 (z 22) ∧ inR S1 (z 22) (nI w) ∧ (∃ k1, k1 < (((R.Q.T n).od.length + 1 - j) * 100000 + 10) ∧ I_ud6 t p F z Y R kz S k1 [(0, .inr (.inr (some t))), (1, .inl (nI n)), (2, .inr (.inr (some (Y n 0)))), (3, .inl (nI d)), (4, .inl (nI c.2.2)), (5, .inl (nI c.2.1)), (6, .inl ((nI w) + (1 : Int32))), (7, .inr (.inr (some (z 22)))), (8, .inl (nI j))] [] (rI S1 (z 22) (upd (eI S1 (z 22)) (nI w).toNatClampNeg v_2)) 2 12))))) ∧ ((bI b) = 0 → (∃ k1, k1 < (((R.Q.T n).od.length + 1 - j) * 100000 + 10) ∧ I_ud6 t p F z Y R kz S k1 [(0, .inr (.inr (some t))), (1, .inl (nI n)), (2, .inr (.inr (some (Y n 0)))), (3, .inl (nI d)), (4, .inl (nI c.2.2)), (5, .inl (nI c.2.1)), (6, .inl (nI w)), (7, .inr (.inr (some (z 22)))), (8, .inl (nI j))] [] S1 2 12)))
      have hM := hI.1.1
      have hn := hX.1
      have g : RG S1 F (101 + n) (Y n) (R.Q.G n) (R.Q.T n) := (hM 2 n hn).2.1
      have hnm := g.nm
      have hol := g.odl
      have r22 := hM 1 22 (by decide)
      have hs9 := uL_s (G := R.Q.G n) (n := n) (c := c) hj
      have hvl : (uL (R.Q.G n) n c ((R.Q.T n).od.take j)).length ≤ j := Nat.le_trans uL_l (by rw [List.length_take]; omega)
      refine ⟨fun q => ?_, fun q => ?_⟩
      · rw [bI_0, Bool.not_eq_false] at q
        rw [if_pos (hb.symm.trans q)] at hs9
        refine ⟨(g 0).1, g.g21 hj ⟨r22.2.2.1, inRn (N := 8192) r22.2.2.2 (by omega) (by decide), ((R.Q.T n).od.length + 1 - j) * 100000 + 5, by omega, n, d, c, w + 1, j, rfl, hX, hj, by rw [hs9, List.length_append, hw]; rfl, ?_, by rw [nI_1], rfl, rfl, rfl⟩⟩
        rw [hs9, nI_clamp (by omega), hw]
        exact hI.wr _
      · rw [bI_0] at q
        rw [if_neg (by rw [← hb, q]; decide), List.append_nil] at hs9
        exact ⟨((R.Q.T n).od.length + 1 - j) * 100000 + 5, by omega, n, d, c, w, j, rfl, hX, hj, by rw [hs9]; exact hw, by rw [hs9]; exact hI, rfl, rfl, rfl, rfl⟩
    · cases hm
      obtain ⟨n, d, c, w, j, rfl, hX, hj, hw, hI, rfl, rfl, rfl, rfl⟩ := h
      refine ⟨300, ?_⟩
      show (∃ k1, k1 < (((R.Q.T n).od.length + 1 - j) * 100000 + 5) ∧ I_ud2 t p F z Y R kz S k1 [(0, .inr (.inr (some t))), (1, .inl (nI n)), (2, .inr (.inr (some (Y n 0)))), (3, .inl (nI d)), (4, .inl (nI c.2.2)), (5, .inl (nI c.2.1)), (6, .inl (nI w)), (7, .inr (.inr (some (z 22)))), (8, .inl ((nI j) + (1 : Int32)))] [] S1 2 12)
      rw [nI_1]
      exact ⟨((R.Q.T n).od.length + 1 - (j + 1)) * 100000 + 90000, by omega, n, d, c, w, j + 1, rfl, hX, hj, hw, hI, rfl, rfl, rfl, rfl⟩
    · cases hm
      obtain ⟨n, d, c, w, rfl, hX, rfl, hI, rfl, rfl, rfl, rfl⟩ := h
      refine ⟨300, ?_⟩
      show (0 = 0 ∧ (∃ (a_1 : Nat), nI n = nI a_1 ∧ (∃ (n_2 : Nat), nI (udL R n c).length = nI n_2 ∧ (∃ (F_3 : Nat → Nat × Nat) (i_4 : Nat) (y_5 : Nat → Nat) (G_6 : Gr) (T_7 : Tr), (isO S1 15 t ∧ (Y n 0) = y_5 0 ∧ RG S1 F_3 i_4 y_5 G_6 T_7 ∧ a_1 < 256 ∧ n_2 ≤ 100000) ∧ 2 + 1 ≤ 3 + dC1 R p.toNatClampNeg (uC R p.toNatClampNeg) ∧ 12 + 6 ≤ 18 + dC2 R p.toNatClampNeg (uC R p.toNatClampNeg) ∧ ((∀ (S_8 : MM), (S_8 = S1 ∧ (n_2 = 0 ∨ G_6.n + n_2 ≤ 8192 ∧ (hasAg G_6 a_1 ∨ G_6.m < 16))) → (isO S_8 13 (Y n 0) ∧ (True ∧ (isO S_8 13 (Y n 0) ∧ (∃ k1, k1 < 20000 ∧ I_ud8 t p F z Y R kz S k1 [(0, .inr (.inr (some t))), (1, .inl (nI n)), (2, .inr (.inr (some (Y n 0)))), (3, .inl (nI d)), (6, .inl (nI (udL R n c).length)), (7, .inr (.inr (some (z 22)))), (8, .inl (0 : Int32))] [] (sI S_8 1326 (Y n 0) ((mI S_8 1326 (Y n 0)) - (1 : Int32))) (2 + 1) (12 + 6)))))) ∧ ((n_2 ≠ 0 ∧ (8192 < G_6.n + n_2 ∨ ¬ hasAg G_6 a_1 ∧ G_6.m = 16)) → mthr (sp_run0 t p F z Y R kz) [.inr (.inr (some t)), .inl p] S 0 S1 (2 + 1) (12 + 6)))))))
      obtain ⟨hM0, hA, hU⟩ := hp
      obtain ⟨hn, hpn, hd, hcd⟩ := id hX
      have hM := hI.1.1
      have hRP := (hM 2 n hn).2
      have g : RG S1 F (101 + n) (Y n) (R.Q.G n) (R.Q.T n) := hRP.1
      have hnm := g.nm
      have hol := g.odl
      have hwl : (udL R n c).length ≤ (R.Q.T n).od.length := uL_l
      have hc8 := hRP.2.2.2.1
      have ec : (R.C n).getD d (false, 0, 0) = c := by rw [List.getD_eq_getElem?_getD, hcd]; rfl
      have cl := hRP.2.2.2.2 d (by omega)
      rw [ec] at cl
      refine ⟨rfl, n, rfl, (udL R n c).length, rfl, F, 101 + n, Y n, R.Q.G n, R.Q.T n, ⟨(hM 0).1, rfl, g, by omega, by omega⟩, by omega, by omega, fun S8 h => ?_, fun h => ⟨Or.inr (Or.inr ⟨rfl, n, d, c, hX, fun r => ?_, F, z, Y, hI.1⟩), by show 2 + 1 ≤ 3 + dC1 R p.toNatClampNeg (uC R p.toNatClampNeg); omega, by show 12 + 6 ≤ 18 + dC2 R p.toNatClampNeg (uC R p.toNatClampNeg); omega⟩⟩
      · obtain ⟨e8, hro⟩ := h
        subst S8
        have e26 : mI S1 1326 (Y n 0) = nI (R.C n).length := hRP.2.2.1
        rw [e26, nI_sub1 (by omega)]
        have hN := hRP.un
        have kp : Keep (fun c => (F c).1 = 101 + n) S1 (sI S1 1326 (Y n 0) (nI ((R.C n).length - 1))) := Keep.sI (P := fun c => (F c).1 = 101 + n) Keep.rf (by show (F (Y n 0)).1 = 101 + n; rw [(g 0).2])
        have hMD := hM.gp hn kp hN rfl (fun _ _ => rfl) (fun b hb => (kp.1 b (hM 12 b hb)).1) (fun s => Nat.le_refl _) (fun x hx => hx)
        rw [upY_own] at hMD
        have nt : t ≠ Y n 0 := fun e => by
          have := (hM 0).2
          rw [e, (g 0).2] at this
          injection this with this _
          omega
        refine ⟨(g 0).1, trivial, (g 0).1, (udL R n c).length - 0, by omega, n, d, c, (udL R n c).length, 0, F, Y, R.Q.G n, R.Q.T n, rfl, hX, Nat.zero_le _, rfl, hro, ⟨?_, hI.1.2.tr ⟨fun _ _ => rfl, kp.mono (fun b _ q => ?_), by rw [mI_sI, if_neg (fun e => nt e.2)]⟩, fun _ _ => rfl, ⟨cl.1, hI.2⟩, ⟨rfl, rfl⟩, (hA n hn).1, fun hne => owN_ok (hro.resolve_left hne).2, rfl, rfl, fun x hx => ⟨(List.mem_filter.1 hx).1, rfl⟩, fun hc k hk => ?_⟩, rfl, rfl, rfl, rfl⟩
        · have e2 : (uQ R n).sG n (R.Q.G n) (R.Q.T n) = uQ R n := sP_sG R n _ _ _ _ _ _
          rw [e2]; exact hMD
        · have q : (F b).1 = 101 + n := q
          show 100 ≤ (F b).1
          omega
        · have hkl : k < (udL R n c).length := by omega
          have hm9 : (udL R n c).getD k 0 ∈ udL R n c := by
            rw [List.getD_eq_getElem?_getD, List.getElem?_eq_getElem hkl]
            exact List.getElem_mem hkl
          exact uA_vis hc (List.mem_filter.1 hm9).2
      · rcases r with r | r
        · omega
        · rcases h.2 with q | q
          · omega
          · rcases r.2 with w | w
            · exact q.1 w
            · omega
    · cases hm
      obtain ⟨n, d, c, w, j, F1, Y1, G1, T1, rfl, hX, hjw, hw, hro, hU1, rfl, rfl, rfl, rfl⟩ := h
      refine ⟨300, ?_⟩
      show (((nI w) ≤ (nI j) → (([] : List MV) = [] ∧ mret (some .int) (sp_run0 t p F z Y R kz) [.inr (.inr (some t)), .inl p] S (some (.inl (nI w))) S1 (3 + dC1 R n j) (18 + dC2 R n j))) ∧ (¬ (nI w) ≤ (nI j) → (isO S1 13 (Y n 0) ∧ (pa (mR S1 1323 (Y n 0)) fun a_1 => (isO S1 16 a_1 ∨ isO S1 20 a_1) ∧ inR S1 a_1 (nI d) ∧ (((eI S1 a_1 (nI d).toNatClampNeg) = 0 → (∃ v_2 : Int32, (isO S1 17 (z 22) ∧ inR S1 (z 22) (nI j) ∧ v_2 = eI S1 (z 22) (nI j).toNatClampNeg ∨ (z 22) = (mQ S1).1 ∧ vp_in (nI j) 16 ∧ v_2 = mRem (nI j).toNatClampNeg) ∧ (0 = 0 ∧ (∃ (nd_3 : Nat), v_2 = nI nd_3 ∧ (∃ (F_4 : Nat → Nat × Nat) (i_5 : Nat) (y_6 : Nat → Nat) (G_7 : Gr) (T_8 : Tr) (pz_9 : Nat), ((Y n 0) = y_6 0 ∧ RG S1 F_4 i_5 y_6 G_7 T_8 ∧ pz_9 < T_8.od.length ∧ T_8.od.getD pz_9 0 = nd_3 + 1) ∧ (3 + dC1 R n j) ≤ 3 + dC1 R p.toNatClampNeg (uC R p.toNatClampNeg) ∧ (18 + dC2 R n j) ≤ 18 + dC2 R p.toNatClampNeg (uC R p.toNatClampNeg) ∧ ((0 = 0 ∧ (∃ (p_11 : Nat), nI n = nI p_11 ∧ (∃ (F_12 : Nat → Nat × Nat) (z_13 : Nat → Nat) (Y_14 : Nat → Nat → Nat) (R_15 : Rb) (kz_16 : Nat → Nat) (s_17 : Nat) (pr_18 : List Nat), (MD S1 F_12 t z_13 Y_14 R_15 kz_16 ∧ p_11 < 4 ∧ raP (R_15.Q.G p_11) (R_15.Q.T p_11) p_11 s_17 (R_15.Q.G p_11).cn pr_18) ∧ 3 + dC1 R n j + (ad1 (R_15.Q.G p_11) s_17) ≤ 3 + dC1 R p.toNatClampNeg (uC R p.toNatClampNeg) ∧ 18 + dC2 R n j + (ad2 (R_15.Q.G p_11) s_17) ≤ 18 + dC2 R p.toNatClampNeg (uC R p.toNatClampNeg) ∧ (∀ (x_20 : Int32) (S_19 : MM), (x_20 = nI (R_15.Q.G p_11).n) ∧ (ownS S1 S_19 F_12 t z_13 Y_14 (R_15.sG p_11 (pGr (eGr (R_15.Q.G p_11) s_17 p_11) s_17 (R_15.Q.G p_11).cn pr_18) (R_15.Q.T p_11)) kz_16 p_11) → (isO S_19 13 (Y n 0) ∧ (∃ v_21 : Int32, (isO S_19 17 (z 22) ∧ inR S_19 (z 22) (nI j) ∧ v_21 = eI S_19 (z 22) (nI j).toNatClampNeg ∨ (z 22) = (mQ S_19).1 ∧ vp_in (nI j) 16 ∧ v_21 = mRem (nI j).toNatClampNeg) ∧ (pa (mR S_19 1311 (Y n 0)) fun a_22 => ∃ v_23 : Int32, (isO S_19 17 a_22 ∧ inR S_19 a_22 v_21 ∧ v_23 = eI S_19 a_22 v_21.toNatClampNeg ∨ a_22 = (mQ S_19).1 ∧ vp_in v_21 16 ∧ v_23 = mRem v_21.toNatClampNeg) ∧ (0 = 0 ∧ (∃ (e_24 : Nat), x_20 = nI e_24 ∧ (∃ (ix_25 : Nat), nI ((T_8.od.take pz_9).filter (vis G_7)).length = nI ix_25 ∧ (∃ (c_26 : Nat), v_23 = nI c_26 ∧ (∃ (F_27 : Nat → Nat × Nat) (i_28 : Nat) (y_29 : Nat → Nat) (G_30 : Gr) (T_31 : Tr), ((Y n 0) = y_29 0 ∧ RG S_19 F_27 i_28 y_29 G_30 T_31 ∧ e_24 + 1 = G_30.n ∧ (G_30.ev e_24).ch = none ∧ (G_30.ev e_24).tg = 8192 ∧ e_24 + 1 ∉ T_31.od ∧ T_31.ok ∧ ix_25 ≤ (T_31.od.filter (snW G_30 (G_30.ev e_24).pa)).length ∧ c_26 < 2000000) ∧ 3 + dC1 R n j + (ad1 (R_15.Q.G p_11) s_17) ≤ 3 + dC1 R p.toNatClampNeg (uC R p.toNatClampNeg) ∧ 18 + dC2 R n j + (ad2 (R_15.Q.G p_11) s_17) ≤ 18 + dC2 R p.toNatClampNeg (uC R p.toNatClampNeg) ∧ (∀ (S_32 : MM), (inQ2 S_19 S_32 F_27 i_28 y_29 G_30 T_31 e_24 ix_25 c_26) → (∃ k1, k1 < (w - j) ∧ I_ud8 t p F z Y R kz S k1 [(0, .inr (.inr (some t))), (1, .inl (nI n)), (2, .inr (.inr (some (Y n 0)))), (3, .inl (nI d)), (6, .inl (nI w)), (7, .inr (.inr (some (z 22)))), (8, .inl ((nI j) + (1 : Int32)))] [] S_32 (3 + dC1 R n j + (ad1 (R_15.Q.G p_11) s_17)) (18 + dC2 R n j + (ad2 (R_15.Q.G p_11) s_17)))))))))))))))))))))) ∧ (¬ (eI S1 a_1 (nI d).toNatClampNeg) = 0 → (∃ v_33 : Int32, (isO S1 17 (z 22) ∧ inR S1 (z 22) (((nI w) - (1 : Int32)) - (nI j)) ∧ v_33 = eI S1 (z 22) (((nI w) - (1 : Int32)) - (nI j)).toNatClampNeg ∨ (z 22) = (mQ S1).1 ∧ vp_in (((nI w) - (1 : Int32)) - (nI j)) 16 ∧ v_33 = mRem (((nI w) - (1 : Int32)) - (nI j)).toNatClampNeg) ∧ (0 = 0 ∧ (∃ (nd_34 : Nat), v_33 = nI nd_34 ∧ (∃ (F_35 : Nat → Nat × Nat) (i_36 : Nat) (y_37 : Nat → Nat) (G_38 : Gr) (T_39 : Tr) (pz_40 : Nat), ((Y n 0) = y_37 0 ∧ RG S1 F_35 i_36 y_37 G_38 T_39 ∧ pz_40 < T_39.od.length ∧ T_39.od.getD pz_40 0 = nd_34 + 1) ∧ (3 + dC1 R n j) ≤ 3 + dC1 R p.toNatClampNeg (uC R p.toNatClampNeg) ∧ (18 + dC2 R n j) ≤ 18 + dC2 R p.toNatClampNeg (uC R p.toNatClampNeg) ∧ ((0 = 0 ∧ (∃ (p_42 : Nat), nI n = nI p_42 ∧ (∃ (F_43 : Nat → Nat × Nat) (z_44 : Nat → Nat) (Y_45 : Nat → Nat → Nat) (R_46 : Rb) (kz_47 : Nat → Nat) (s_48 : Nat) (pr_49 : List Nat), (MD S1 F_43 t z_44 Y_45 R_46 kz_47 ∧ p_42 < 4 ∧ raP (R_46.Q.G p_42) (R_46.Q.T p_42) p_42 s_48 (R_46.Q.G p_42).cn pr_49) ∧ 3 + dC1 R n j + (ad1 (R_46.Q.G p_42) s_48) ≤ 3 + dC1 R p.toNatClampNeg (uC R p.toNatClampNeg) ∧ 18 + dC2 R n j + (ad2 (R_46.Q.G p_42) s_48) ≤ 18 + dC2 R p.toNatClampNeg (uC R p.toNatClampNeg) ∧ (∀ (x_51 : Int32) (S_50 : MM), (x_51 = nI (R_46.Q.G p_42).n) ∧ (ownS S1 S_50 F_43 t z_44 Y_45 (R_46.sG p_42 (pGr (eGr (R_46.Q.G p_42) s_48 p_42) s_48 (R_46.Q.G p_42).cn pr_49) (R_46.Q.T p_42)) kz_47 p_42) → (0 = 0 ∧ (∃ (e_52 : Nat), x_51 = nI e_52 ∧ (∃ (ix_53 : Nat), nI ((T_39.od.take pz_40).filter (vis G_38)).length = nI ix_53 ∧ (∃ (F_54 : Nat → Nat × Nat) (i_55 : Nat) (y_56 : Nat → Nat) (G_57 : Gr) (T_58 : Tr), ((Y n 0) = y_56 0 ∧ RG S_50 F_54 i_55 y_56 G_57 T_58 ∧ e_52 + 1 = G_57.n ∧ (G_57.ev e_52).ch = none ∧ (G_57.ev e_52).tg = 8192 ∧ ix_53 < (T_58.od.filter (snW G_57 (G_57.ev e_52).pa)).length) ∧ 3 + dC1 R n j + (ad1 (R_46.Q.G p_42) s_48) ≤ 3 + dC1 R p.toNatClampNeg (uC R p.toNatClampNeg) ∧ 18 + dC2 R n j + (ad2 (R_46.Q.G p_42) s_48) ≤ 18 + dC2 R p.toNatClampNeg (uC R p.toNatClampNeg) ∧ (∀ (S_59 : MM), (∃ j t, atP T_58.od (snW G_57 (G_57.ev e_52).pa) ix_53 j ∧ T_58.od.getD j 0 = t + 1 ∧ RG S_59 F_54 i_55 y_56 (G_57.setD e_52 ix_53 t) T_58 ∧ Keep (gO F_54 i_55) S_50 S_59 ∧ mI S_59 1326 (y_56 0) = mI S_50 1326 (y_56 0)) → (∃ k1, k1 < (w - j) ∧ I_ud8 t p F z Y R kz S k1 [(0, .inr (.inr (some t))), (1, .inl (nI n)), (2, .inr (.inr (some (Y n 0)))), (3, .inl (nI d)), (6, .inl (nI w)), (7, .inr (.inr (some (z 22)))), (8, .inl ((nI j) + (1 : Int32)))] [] S_59 (3 + dC1 R n j + (ad1 (R_46.Q.G p_42) s_48)) (18 + dC2 R n j + (ad2 (R_46.Q.G p_42) s_48)))))))))))))))))))))))
      obtain ⟨hM0, hA, hU⟩ := hp
      obtain ⟨hn, hpn, hd, hcd⟩ := id hX
      obtain ⟨h1, hF, hy, ⟨h23, h22⟩, hRu, hGT, hOw, hGn, hGc, hxs, hvs⟩ := hU1
      have g0 := (hM0 2 n hn).2.1
      have hnm := g0.nm
      have hol := g0.odl
      have hwl : (udL R n c).length ≤ (R.Q.T n).od.length := uL_l
      have hc8 := (hM0 2 n hn).2.2.2.2.1
      have cp : p.toNatClampNeg = n := by rw [hpn]; exact nI_clamp (by omega)
      have hcl : (R.C n).getLast? = some c := by rw [List.getLast?_eq_getElem?, show (R.C n).length - 1 = d by omega]; exact hcd
      have cy : uC R n = w := by rw [hw]; unfold uC; rw [hcl]; rfl
      have eG : ((uQ R n).sG n G1 T1).Q.G n = G1 := upF_s
      have eT : ((uQ R n).sG n G1 T1).Q.T n = T1 := upF_s
      have budget : ∀ j', j' ≤ w → 3 + dC1 R n j' ≤ 3 + dC1 R p.toNatClampNeg (uC R p.toNatClampNeg) ∧ 18 + dC2 R n j' ≤ 18 + dC2 R p.toNatClampNeg (uC R p.toNatClampNeg) := fun j' hj' => by
        rw [cp, cy]
        have := rA_mono ((R.Q.G n).cn (owN (R.Q.G n) n)) hj'
        unfold dC1 dC2
        omega
      have g1 := (h1 2 n hn).2.1
      rw [eG, eT] at g1
      have y0 : Y1 n 0 = Y n 0 := hy 0 (by decide)
      have hml : (uM c.1 (udL R n c)).length = w := by rw [hw]; unfold uM; split; exact List.length_reverse; rfl
      refine if_le (by omega) (by omega) (fun q => ?_) (fun q => ?_)
      · have hjm : j = w := by omega
        subst hjm
        obtain ⟨b1, b2⟩ := budget j (Nat.le_refl _)
        rw [List.take_of_length_le (by rw [hml]; exact Nat.le_refl _)] at hRu
        have e2 : (uQ R n).sG n G1 T1 = R.sP n G1 T1 (R.Q.Kn n) (R.C n).dropLast := sP_sG R n _ _ _ _ _ _
        rw [e2] at h1
        exact ⟨rfl, trivial, ⟨_, rfl, n, d, c, G1, T1, hX, by rw [← hw]; exact hro, by rw [← hw], hRu, F1, z, Y1, h1, hF⟩, b1, b2⟩
      · have hne : (udL R n c).length ≠ 0 := by omega
        have hr := hro.resolve_left (by omega)
        have hOw := hOw hne
        obtain ⟨H, hH, -, -⟩ := hd_ex hGT.1
        obtain ⟨c1, c2⟩ := dC_s R n j hGc
        obtain ⟨b0, b0'⟩ := budget j (by omega)
        obtain ⟨b1, b2⟩ := budget (j + 1) q
        rw [← c1] at b1
        rw [← c2] at b2
        have r23 := g1.rk (k := 23) (by decide) (by decide) (by decide)
        have y23 : Y1 n 23 = Y n 23 := hy 23 (by decide)
        rw [y23, y0] at r23
        have r22 := h1 1 22 (by decide)
        have e23 : eI S1 (Y n 23) (nI d).toNatClampNeg = bI c.1 := by rw [nI_clamp (by omega)]; exact h23
        have hi13 : isO S1 13 (Y n 0) := by rw [← y0]; exact (g1 0).1
        have gd : ∀ i, i < w → ∃ x9, (udL R n c).getD i 0 = x9 + 1 ∧ (x9 + 1 ∈ udL R n c) ∧ eI S1 (z 22) i = nI x9 ∧ x9 < (R.Q.G n).n := fun i hi => by
          have hil : i < (udL R n c).length := by omega
          have hm9 : (udL R n c).getD i 0 ∈ udL R n c := by
            rw [List.getD_eq_getElem?_getD, List.getElem?_eq_getElem hil]
            exact List.getElem_mem hil
          obtain ⟨k9, e9, q9, -⟩ := g0.ond (List.mem_filter.1 hm9).1
          rw [e9] at hm9
          have := h22 i hil
          rw [e9, Nat.add_sub_cancel] at this
          exact ⟨k9, e9, hm9, this, q9⟩
        have pos : ∀ x, x ∈ T1.od → ∃ pz, pz < T1.od.length ∧ T1.od.getD pz 0 = x ∧ ((T1.od.take pz).filter (vis G1)).length = rkN G1 T1 x := fun x hx => by
          obtain ⟨U, V, e⟩ := List.append_of_mem hx
          refine ⟨U.length, by rw [e, List.length_append, List.length_cons]; omega, ?_, ?_⟩
          · rw [e, List.getD_eq_getElem?_getD, List.getElem?_append_right (Nat.le_refl _), Nat.sub_self]; rfl
          · rw [rkN_at hGT.2.2.1.2.1 e, e, List.take_left]
        have no15 : ∀ {x v}, F1 x = (100, v) → v ≠ 115 → ¬ (x = z 15 ∨ gO F1 (101 + n) x) := fun {x v} e h9 q => by
          rcases q with q | q
          · rw [q, (h1 1 15 (by decide)).2.1] at e
            injection e with _ e
            omega
          · have := q.own
            rw [e] at this
            have : 100 = 101 + n := this
            omega
        have no23 : ¬ (Y n 23 = z 15 ∨ gO F1 (101 + n) (Y n 23)) := fun q => by
          rcases q with q | ⟨k9, q, q2⟩
          · have := r23.2.1
            rw [q, (h1 1 15 (by decide)).2.1] at this
            injection this with this _
            omega
          · rw [r23.2.1] at q
            injection q with _ q
            omega
        have mtk : ∀ x, (uM c.1 (udL R n c))[j]? = some x → (uM c.1 (udL R n c)).take (j + 1) = (uM c.1 (udL R n c)).take j ++ [x] := fun x hx => by
          rw [List.take_add_one, hx]; rfl
        refine ⟨hi13, pa_i r23.1 ⟨Or.inr r23.2.2.1, inRn (N := 8192) r23.2.2.2 (by omega) (by decide), ?_⟩⟩
        rw [e23]
        refine ⟨fun q3 => ?_, fun q3 => ?_⟩
        · rw [bI_0] at q3
          obtain ⟨x9, gx1, gx2, gx3, gx4⟩ := gd j q
          obtain ⟨ho1, ho2⟩ := hxs _ gx2
          rw [Nat.add_sub_cancel] at ho2
          obtain ⟨pz, pz1, pz2, pz3⟩ := pos _ ho1
          refine ⟨nI x9, Or.inl ⟨r22.2.2.1, inRn (N := 8192) r22.2.2.2 (by omega) (by decide), by rw [nI_clamp (by omega)]; exact gx3.symm⟩, rfl, x9, rfl, F1, 101 + n, Y1 n, G1, T1, pz, ⟨y0.symm, g1, pz1, pz2⟩, b0, b0', rfl, n, rfl, F1, z, Y1, (uQ R n).sG n G1 T1, kz, owN (R.Q.G n) n, H, ⟨h1, hn, ?_⟩, ?_, ?_, fun v S19 hQ => ?_⟩
          · rw [eG, eT]; exact own_pre hGT hOw (by omega) (by omega) hH
          · rw [eG]; omega
          · rw [eG]; omega
          · rw [eG, eT] at hQ
            rw [eG, pz3]
            obtain ⟨rfl, F2, Y2, h2, f2, k2, m2, y2, kk2⟩ := hQ
            rw [sG_sG] at h2
            obtain ⟨pa1, pa2, pa3⟩ := own_pa G1 (owN (R.Q.G n) n) n G1.cn H
            have eG2 : ((uQ R n).sG n (pGr (eGr G1 (owN (R.Q.G n) n) n) (owN (R.Q.G n) n) G1.cn H) T1).Q.G n = pGr (eGr G1 (owN (R.Q.G n) n) n) (owN (R.Q.G n) n) G1.cn H := upF_s
            have eT2 : ((uQ R n).sG n (pGr (eGr G1 (owN (R.Q.G n) n) n) (owN (R.Q.G n) n) G1.cn H) T1).Q.T n = T1 := upF_s
            have g2 := (h2 2 n hn).2.1
            rw [eG2, eT2] at g2
            have yy : Y2 n 0 = Y n 0 := (y2 n 0 (by decide)).trans y0
            have r22' := h2 1 22 (by decide)
            have k22 := kk2.2.1 (z 22) r22.2.2.1.1 (no15 r22.2.1 (by decide))
            have k23 := kk2.2.1 (Y n 23) r23.2.2.1.1 no23
            have hix := (rkN_le (G := G1) hGT.2.2.1.2.1 ho1).1
            obtain ⟨c9, hc9⟩ : ∃ c9, (G1.ev x9).ch = some c9 := by
              obtain ⟨k9, e9, -, n9⟩ := (hGT.2.2.2.1 _).1 ho1
              have : k9 = x9 := by omega
              subst this
              cases h9 : (G1.ev k9).ch with
              | none => exact absurd h9 n9
              | some c9 => exact ⟨c9, rfl⟩
            have hx1 : x9 < G1.n := by omega
            have hcc : c9 < 2000000 := (hGT.2.1 x9 hx1).1 c9 hc9
            have g11 : eI S19 (Y2 n 11) x9 = nI c9 := by
              have hlt : x9 < (pGr (eGr G1 (owN (R.Q.G n) n) n) (owN (R.Q.G n) n) G1.cn H).n := by
                show x9 < (eGr G1 (owN (R.Q.G n) n) n).n + 1
                rw [(eGr_n G1 _ n).1]; omega
              refine ((g2 6 x9 hlt).1 c9 ?_).2
              rw [pGr, Gr.push_old (by rw [(eGr_n G1 _ n).1]; exact hx1), (eGr_n G1 _ n).2]
              exact hc9
            have r11 := g2.rk (k := 11) (by decide) (by decide) (by decide)
            rw [yy] at r11
            have hi13' : isO S19 13 (Y n 0) := by rw [← yy]; exact (g2 0).1
            refine ⟨hi13', nI x9, Or.inl ⟨r22'.2.2.1, inRn (N := 8192) r22'.2.2.2 (by omega) (by decide), by rw [nI_clamp (by omega), k22.2.2.2.1]; exact gx3.symm⟩, rdI (v := nI c9) r11.1 r11.2.2.1 (inRn (N := 8192) r11.2.2.2 (by omega) (by decide)) (by rw [nI_clamp (by omega)]; exact g11) ⟨rfl, G1.n, rfl, rkN G1 T1 (x9 + 1), rfl, c9, rfl, F2, 101 + n, Y2 n, _, T1, ⟨yy.symm, g2, ?_, pa2, pa3, fun hx => ?_, hGT.2.2.1, ?_, hcc⟩, by omega, by omega, fun S34 hE => ?_⟩⟩
            · show G1.n + 1 = (eGr G1 (owN (R.Q.G n) n) n).n + 1
              rw [(eGr_n G1 _ n).1]
            · obtain ⟨k9, e9, l9, -⟩ := (hGT.2.2.2.1 _).1 hx
              omega
            · rw [pa1, own_len hGT hOw (by omega)]; exact hix
            · obtain ⟨T', U, V, a1, a3, a4, aU, aV, a5⟩ := hE
              rw [pa1] at a1
              have hO := own_ins hGT hOw (by omega) (by omega) hH hix hcc a1 aU aV
              obtain ⟨x1, x2, x3, x4⟩ := hO.nx hOw
              have hFO : FO S34 F2 := fun b hb => (a4.1 b (h2 12 b hb)).1
              have hodm : ∀ x, x ∈ T1.od → x ∈ T'.od := fun x hx => by
                rw [aU] at hx
                rw [aV]
                rcases List.mem_append.1 hx with w | w
                · exact List.mem_append_left _ w
                · exact List.mem_append_right _ (List.mem_cons_of_mem _ w)
              have hMD := h2.gr hn a4 a5 a3 (fun _ _ => rfl) (fun _ _ => rfl) hFO (fun s => by rw [eG2, setI_cn]; exact Nat.le_refl _) (fun q hq => by
                rw [eT2] at hq
                exact hodm q hq)
              have eY : (fun k => if 116 ≤ k then Y2 n k else Y2 n k) = Y2 n := funext (fun k => by split <;> rfl)
              rw [eY, upY_own, sG_sG] at hMD
              have nog : ∀ {q v}, F2 q = (100, v) → ¬ gO F2 (101 + n) q := fun {q v} e h9 => by
                have := h9.own
                rw [e] at this
                have : 100 = 101 + n := this
                omega
              have f23 : F2 (Y n 23) = F1 (Y n 23) := f2 _ r23.2.2.1.1
              have kt := a4.2.1 t (h2 0).1.1 (nog (h2 0).2)
              have kz22 := a4.2.1 (z 22) r22'.2.2.1.1 (nog r22'.2.1)
              have kz23 := a4.2.1 (Y n 23) (kk2.1 _ r23.2.2.1.1).1 (fun q => no23 (Or.inr (by
                obtain ⟨k9, e9, w9⟩ := q
                rw [f23] at e9
                exact ⟨k9, e9, w9⟩)))
              have old : ∀ k9, k9 < G1.n → ((pGr (eGr G1 (owN (R.Q.G n) n) n) (owN (R.Q.G n) n) G1.cn H).setI G1.n (rkN G1 T1 (x9 + 1)) c9).ev k9 = G1.ev k9 := fun k9 hk9 => by
                obtain ⟨H', -, hst⟩ := hO
                exact hst.old hk9
              have hfr : mdN9 S S34 F F2 t := hF.tr ⟨f2, Keep.trN k2 a4 (fun b hb q => by have := q.own; rw [f2 b hb] at this; show 100 ≤ (F1 b).1; omega), (kt.1 1551).trans m2⟩
              refine ⟨w - (j + 1), by omega, n, d, c, w, j + 1, F2, Y2, _, T', rfl, hX, q, hw, hro, ⟨hMD, hfr, fun k hk => (y2 n k hk).trans (hy k hk), ⟨by rw [kz23.2.2.2.1, k23.2.2.2.1]; exact h23, fun k hk => by rw [kz22.2.2.2.1, k22.2.2.2.1]; exact h22 k hk⟩, ?_, x4, fun _ => x3, by omega, by omega, fun x hx => ⟨hodm _ (hxs x hx).1, ?_⟩, fun hc => absurd (hc.symm.trans q3) (by decide)⟩, by rw [nI_1], rfl, by omega, by omega⟩
              · rw [mtk (x9 + 1) (by
                  unfold uM
                  rw [if_neg (by rw [q3]; decide), ← gx1, List.getD_eq_getElem?_getD, List.getElem?_eq_getElem (by omega)]; rfl)]
                refine hRu.snoc (x := x9 + 1) ?_
                rw [if_neg (by rw [q3]; decide), Nat.add_sub_cancel, hc9]
                exact hO
              · obtain ⟨k9, e9, q9, -⟩ := g0.ond (List.mem_filter.1 hx).1
                rw [old _ (by omega)]
                exact (hxs x hx).2
        · rw [bI_0, Bool.not_eq_false] at q3
          have ew : nI w - 1 - nI j = nI (w - 1 - j) := by rw [nI_sub1 (by omega), pk_sub (by omega)]
          rw [ew]
          obtain ⟨x9, gx1, gx2, gx3, gx4⟩ := gd (w - 1 - j) (by omega)
          obtain ⟨ho1, ho2⟩ := hxs _ gx2
          obtain ⟨pz, pz1, pz2, pz3⟩ := pos _ ho1
          have hvx : vis G1 (x9 + 1) = true := by rw [← gx1]; exact hvs q3 _ (by omega)
          refine ⟨nI x9, Or.inl ⟨r22.2.2.1, inRn (N := 8192) r22.2.2.2 (by omega) (by decide), by rw [nI_clamp (by omega)]; exact gx3.symm⟩, rfl, x9, rfl, F1, 101 + n, Y1 n, G1, T1, pz, ⟨y0.symm, g1, pz1, pz2⟩, b0, b0', rfl, n, rfl, F1, z, Y1, (uQ R n).sG n G1 T1, kz, owN (R.Q.G n) n, H, ⟨h1, hn, ?_⟩, ?_, ?_, fun v S19 hQ => ?_⟩
          · rw [eG, eT]; exact own_pre hGT hOw (by omega) (by omega) hH
          · rw [eG]; omega
          · rw [eG]; omega
          · rw [eG, eT] at hQ
            rw [eG, pz3]
            obtain ⟨rfl, F2, Y2, h2, f2, k2, m2, y2, kk2⟩ := hQ
            rw [sG_sG] at h2
            obtain ⟨pa1, pa2, pa3⟩ := own_pa G1 (owN (R.Q.G n) n) n G1.cn H
            have eG2 : ((uQ R n).sG n (pGr (eGr G1 (owN (R.Q.G n) n) n) (owN (R.Q.G n) n) G1.cn H) T1).Q.G n = pGr (eGr G1 (owN (R.Q.G n) n) n) (owN (R.Q.G n) n) G1.cn H := upF_s
            have eT2 : ((uQ R n).sG n (pGr (eGr G1 (owN (R.Q.G n) n) n) (owN (R.Q.G n) n) G1.cn H) T1).Q.T n = T1 := upF_s
            have g2 := (h2 2 n hn).2.1
            rw [eG2, eT2] at g2
            have yy : Y2 n 0 = Y n 0 := (y2 n 0 (by decide)).trans y0
            have r22' := h2 1 22 (by decide)
            have k22 := kk2.2.1 (z 22) r22.2.2.1.1 (no15 r22.2.1 (by decide))
            have k23 := kk2.2.1 (Y n 23) r23.2.2.1.1 no23
            have hix := (rkN_le (G := G1) hGT.2.2.1.2.1 ho1).2 hvx
            refine ⟨rfl, G1.n, rfl, rkN G1 T1 (x9 + 1), rfl, F2, 101 + n, Y2 n, _, T1, ⟨yy.symm, g2, ?_, pa2, pa3, ?_⟩, by omega, by omega, fun S34 hE => ?_⟩
            · show G1.n + 1 = (eGr G1 (owN (R.Q.G n) n) n).n + 1
              rw [(eGr_n G1 _ n).1]
            · rw [pa1, own_len hGT hOw (by omega)]; exact hix
            · obtain ⟨j', t', a1, a2, a3, a4, a5⟩ := hE
              rw [pa1] at a1
              have hO := own_del hGT hOw (by omega) (by omega) hH hix a1 a2
              obtain ⟨x1, x2, x3, x4⟩ := hO.nx hOw
              have hFO : FO S34 F2 := fun b hb => (a4.1 b (h2 12 b hb)).1
              have hMD := h2.gr hn a4 a5 a3 (fun _ _ => rfl) (fun _ _ => rfl) hFO (fun s => by rw [eG2, setD_cn]; exact Nat.le_refl _) (fun x hx => by rw [eT2] at hx; exact hx)
              have eY : (fun k => if 116 ≤ k then Y2 n k else Y2 n k) = Y2 n := funext (fun k => by split <;> rfl)
              rw [eY, upY_own, sG_sG] at hMD
              have nog : ∀ {q v}, F2 q = (100, v) → ¬ gO F2 (101 + n) q := fun {q v} e h9 => by
                have := h9.own
                rw [e] at this
                have : 100 = 101 + n := this
                omega
              have f23 : F2 (Y n 23) = F1 (Y n 23) := f2 _ r23.2.2.1.1
              have kt := a4.2.1 t (h2 0).1.1 (nog (h2 0).2)
              have kz22 := a4.2.1 (z 22) r22'.2.2.1.1 (nog r22'.2.1)
              have kz23 := a4.2.1 (Y n 23) (kk2.1 _ r23.2.2.1.1).1 (fun q => no23 (Or.inr (by
                obtain ⟨k9, e9, w9⟩ := q
                rw [f23] at e9
                exact ⟨k9, e9, w9⟩)))
              have old : ∀ k9, k9 < G1.n → ((pGr (eGr G1 (owN (R.Q.G n) n) n) (owN (R.Q.G n) n) G1.cn H).setD G1.n (rkN G1 T1 (x9 + 1)) t').ev k9 = G1.ev k9 := fun k9 hk9 => by
                obtain ⟨H', -, hst⟩ := hO
                exact hst.old hk9
              have hfr : mdN9 S S34 F F2 t := hF.tr ⟨f2, Keep.trN k2 a4 (fun b hb q => by have := q.own; rw [f2 b hb] at this; show 100 ≤ (F1 b).1; omega), (kt.1 1551).trans m2⟩
              have hnd : (udL R n c).Nodup := List.Nodup.sublist List.filter_sublist g0.tnd
              refine ⟨w - (j + 1), by omega, n, d, c, w, j + 1, F2, Y2, _, T1, rfl, hX, q, hw, hro, ⟨hMD, hfr, fun k hk => (y2 n k hk).trans (hy k hk), ⟨by rw [kz23.2.2.2.1, k23.2.2.2.1]; exact h23, fun k hk => by rw [kz22.2.2.2.1, k22.2.2.2.1]; exact h22 k hk⟩, ?_, x4, fun _ => x3, by omega, by omega, fun x hx => ⟨(hxs x hx).1, ?_⟩, fun hc k hk => ?_⟩, by rw [nI_1], rfl, by omega, by omega⟩
              · rw [mtk (x9 + 1) (by
                  unfold uM
                  rw [if_pos q3, List.getElem?_reverse (by omega), ← hw, ← gx1, List.getD_eq_getElem?_getD, List.getElem?_eq_getElem (by omega)]; rfl)]
                refine hRu.snoc (x := x9 + 1) ?_
                rw [if_pos q3]
                exact hO
              · obtain ⟨k9, e9, q9, -⟩ := g0.ond (List.mem_filter.1 hx).1
                rw [old _ (by omega)]
                exact (hxs x hx).2
              · obtain ⟨y9, gy1, gy2, -, -⟩ := gd k (by omega)
                have hne9 : y9 + 1 ≠ x9 + 1 := by
                  rw [← gy1, ← gx1]
                  exact od_ne hnd (show k < w - 1 - j by omega) (by omega)
                rw [gy1]
                exact hO.visK hGT hOw (by omega) ho1 hvx (hxs _ gy2).1 hne9 (by rw [← gy1]; exact hvs q3 k (by omega))
theorem u_run0 (l : Launch) (hlt : l.stackTraces = false) : UsX l yX14_undo0 (Cond.code yX14_undo0 cX14_undo0 12 (some .int)) (some .int) 8 130 15 T_run0 := by
  intro Rc Rs av S cs sl K Kx h
  unfold T_run0 at h
  split at h
  · rename_i t_o p
    obtain ⟨t, rfl, h_1⟩ := pa_of h
    obtain ⟨F, z, Y, R, kz, hp, hc, hs, hk, hx0, hx1, hx2⟩ := h_1
    refine ⟨(sp_run0 t p F z Y R kz), c_run0 l hlt t p F z Y R kz, fun _ _ h9 => ⟨_, _, h9.1, (h9.2.1 0).1⟩, ⟨rfl, hp⟩, hc, hs, fun v9 S' h8 => by
      obtain ⟨v8, h7, h8⟩ := h8
      cases h7
      exact hk _ _ h8, fun _ _ q => by
      rcases q with ⟨rfl, q⟩ | ⟨rfl, q⟩ | ⟨rfl, q⟩
      · obtain ⟨q, rfl⟩ := q
        exact hx0 q
      · obtain ⟨q, rfl⟩ := q
        exact hx1 q
      · exact hx2 _ q⟩
  · exact h.elim
