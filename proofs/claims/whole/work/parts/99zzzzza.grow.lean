/-! ===== Graphs grow: what stays ===== -/
def St1 (G : Gr) (T : Tr) (G' : Gr) (T' : Tr) : Prop := ∃ a P oc ix, StpE G T a P oc ix (slt G a) G' T'
/-- so many events came -/
def Gw : Nat → Gr → Tr → Gr → Tr → Prop
  | 0, G, T, G', T' => G' = G ∧ T' = T
  | n + 1, G, T, G', T' => ∃ G1 T1, St1 G T G1 T1 ∧ Gw n G1 T1 G' T'
section GW
variable {G G' : Gr} {T T' : Tr} {p s a ix : Nat} {P : List Nat} {oc : Option Nat}
theorem StpE.gt (h : StpE G T a P oc ix s G' T') : GT G' T' := by
  obtain ⟨e, e1, e2, e3, e4, e5, e6, e7, e8, e9, -⟩ := h
  exact e9
theorem StpE.pl (h : StpE G T a P oc ix s G' T') : ∀ p, p ∈ P → p < G.n := fun p hp => by
  obtain ⟨e, e1, e2, e3, e4, e5, e6, e7, e8, e9, -⟩ := h
  have := e7.2.2.2.1 p ((e4.2.1 p).2 (by rw [List.take_length]; exact hp))
  rw [(eGr_n G s a).1] at this
  exact this
theorem StpE.m' (h : StpE G T a P oc ix s G' T') : G'.m = (eGr G s a).m ∧ G'.ag = (eGr G s a).ag := by
  obtain ⟨e, e1, e2, e3, e4, e5, e6, e7, rfl, e9, -⟩ := h
  exact ⟨rfl, rfl⟩
theorem OwSl.slt (h : OwSl G p s) (hG : G.ok) : slt G p = s := by
  rcases h with ⟨h1, h2⟩ | ⟨h1, h2, h3⟩
  · exact slt_has hG h1 h2
  · rw [h1]
    exact slt_no (fun ⟨t, t1, t2⟩ => h3 t t1 t2)
theorem StpE.osl (h : StpE G T a P oc ix (slt G a) G' T') (hG : G.ok) : OwSl G a (slt G a) ∧ a < 256 := by
  obtain ⟨s1, s2⟩ := slt_eg hG a
  obtain ⟨m1, m2⟩ := h.m'
  have ok' := h.gt.1
  refine ⟨?_, ?_⟩
  · by_cases c : hasAg G a
    · obtain ⟨t, t1, t2⟩ := c
      rw [slt_has hG t1 t2]
      exact Or.inl ⟨t1, t2⟩
    · have e := slt_no c
      rw [e] at m1
      rw [e]
      refine Or.inr ⟨rfl, ?_, fun t ht w => c ⟨t, ht, w⟩⟩
      have := ok'.hm
      rw [m1] at this
      unfold eGr at this
      rw [if_neg (Nat.lt_irrefl _)] at this
      exact this
  · have := ok'.ag1 (slt G a) (by rw [m1]; exact s1)
    rw [m2, s2] at this
    exact this
theorem StpE.bfr (h : StpE G T a P oc ix (slt G a) G' T') (hg : GT G T) {x y : Nat} (hb : bfr T x y) : bfr T' x y := by
  obtain ⟨o1, o2⟩ := h.osl hg.1
  have hP := h.pl
  have hge := o1.gt hg o2
  obtain ⟨e, e1, e2, e3, e4, e5, e6, e7, rfl, e8, e9⟩ := h
  rcases e9 with ⟨-, -, q⟩ | ⟨-, rfl, -⟩
  · have hV : (eGr G (slt G a) a).Ver e.pa := by
      rw [e3, ← eGr_jn G (slt G a) a]
      exact Gr.jn_ver hge.1 (fun p hp => by rw [(eGr_n G (slt G a) a).1]; exact hP p hp)
    rw [← (eGr_n G (slt G a) a).1] at q
    obtain ⟨U, V, u1, u2, -⟩ := gt_insd hge hV q
    obtain ⟨U', V', W', b1⟩ := hb
    rw [u1] at b1
    generalize (eGr G (slt G a) a).n + 1 = z at u2
    rcases List.append_eq_append_iff.1 b1 with ⟨A, q1, q2⟩ | ⟨A, q1, q2⟩
    · exact ⟨U ++ z :: A, V', W', by rw [u2, q2]; simp⟩
    · cases A with
      | nil =>
        simp at q1 q2
        exact ⟨U' ++ [z], V', W', by rw [u2, ← q2, q1]; simp⟩
      | cons b A =>
        rw [List.cons_append] at q2
        injection q2 with q3 q4
        subst q3
        rcases List.append_eq_append_iff.1 q4 with ⟨A2, r1, r2⟩ | ⟨A2, r1, r2⟩
        · cases A2 with
          | nil =>
            simp at r1 r2
            exact ⟨U', V' ++ [z], W', by rw [u2, q1, ← r2, ← r1]; simp⟩
          | cons c A2 =>
            rw [List.cons_append] at r2
            injection r2 with r3 r4
            subst r3
            exact ⟨U', V', A2 ++ z :: V, by rw [u2, q1, r1]; simp⟩
        · exact ⟨U', A ++ z :: A2, W', by rw [u2, q1, r2]; simp⟩
  · exact hb
theorem St1.keep (h : St1 G T G' T') (hg : GT G T) : GT G' T' ∧ G'.n = G.n + 1 ∧ (G.AG3 → G'.AG3) ∧ (∀ k, k < G.n → G'.ev k = G.ev k) ∧ (∀ k, k ≤ G.n → G'.cnt k = G.cnt k) ∧ (∀ x y, bfr T x y → bfr T' x y) ∧ (∀ b, ∃ X, agE G' b = agE G b ++ X) ∧ (∀ b, hasAg G b → hasAg G' b) := by
  obtain ⟨a, P, oc, ix, h⟩ := h
  refine ⟨h.gt, h.cnt1, fun h3 => h.ag3 (slt_eg hg.1 a).1 h3, fun k hk => h.old hk, fun k hk => h.cntk hk, fun x y hb => h.bfr hg hb, fun b => ⟨_, agE_stp hg.1 h b⟩, fun b ⟨t, t1, t2⟩ => ?_⟩
  obtain ⟨m1, m2⟩ := h.m'
  refine ⟨t, ?_, by rw [m2, eGr_ag t1]; exact t2⟩
  rw [m1]
  unfold eGr
  split
  · exact t1
  · exact Nat.lt_succ_of_lt t1
theorem Gw.keep : ∀ {n : Nat} {G : Gr} {T : Tr}, Gw n G T G' T' → GT G T → GT G' T' ∧ G'.n = G.n + n ∧ (G.AG3 → G'.AG3) ∧ (∀ k, k < G.n → G'.ev k = G.ev k) ∧ (∀ k, k ≤ G.n → G'.cnt k = G.cnt k) ∧ (∀ x y, bfr T x y → bfr T' x y) ∧ (∀ b, ∃ X, agE G' b = agE G b ++ X) ∧ (∀ b, hasAg G b → hasAg G' b)
  | 0, G, T, h, hg => by
    obtain ⟨rfl, rfl⟩ := h
    exact ⟨hg, rfl, id, fun _ _ => rfl, fun _ _ => rfl, fun _ _ h => h, fun b => ⟨[], (List.append_nil _).symm⟩, fun _ h => h⟩
  | n + 1, G, T, h, hg => by
    obtain ⟨G1, T1, h1, h2⟩ := h
    obtain ⟨a1, a2, a3, a4, a5, a6, a7, a8⟩ := h1.keep hg
    obtain ⟨b1, b2, b3, b4, b5, b6, b7, b8⟩ := Gw.keep h2 a1
    refine ⟨b1, by omega, fun w => b3 (a3 w), fun k hk => (b4 k (by omega)).trans (a4 k hk), fun k hk => (b5 k (by omega)).trans (a5 k hk), fun x y hb => b6 x y (a6 x y hb), fun b => ?_, fun b w => b8 b (a8 b w)⟩
    obtain ⟨X, x1⟩ := a7 b
    obtain ⟨Y, y1⟩ := b7 b
    exact ⟨X ++ Y, by rw [y1, x1, List.append_assoc]⟩
theorem Gw.tr {G1 : Gr} {T1 : Tr} {m : Nat} : ∀ {n : Nat} {G : Gr} {T : Tr}, Gw n G T G1 T1 → Gw m G1 T1 G' T' → Gw (n + m) G T G' T'
  | 0, G, T, h1, h2 => by
    obtain ⟨rfl, rfl⟩ := h1
    rw [Nat.zero_add]; exact h2
  | n + 1, G, T, h1, h2 => by
    obtain ⟨G2, T2, a1, a2⟩ := h1
    rw [show n + 1 + m = (n + m) + 1 by omega]
    exact ⟨G2, T2, a1, Gw.tr a2 h2⟩
theorem OwS.st1 (h : OwS G T p s oc ix G' T') (hs : OwSl G p s) (hG : G.ok) : St1 G T G' T' := by
  obtain ⟨H, -, h⟩ := h
  exact ⟨p, H, oc, ix, by rw [hs.slt hG]; exact h⟩
theorem Run.gw : ∀ {L : List (Option Nat × Nat)} {G : Gr} {T : Tr}, Run p s L G T G' T' → (L ≠ [] → OwSl G p s) → GT G T → Gw L.length G T G' T'
  | [], G, T, h, _, _ => h
  | (oc, ix) :: L, G, T, h, hs, hg => by
    obtain ⟨G3, T3, a1, a2⟩ := h
    have hs := hs (by intro q; cases q)
    obtain ⟨n1, n2, n3, n4⟩ := a1.nx hs
    exact ⟨G3, T3, a1.st1 hs hg.1, Run.gw a2 (fun _ => n3) n4⟩
theorem RuR.gw {b : Bool} : ∀ {L : List Nat} {G : Gr} {T : Tr}, RuR p s b L G T G' T' → (L ≠ [] → OwSl G p s) → GT G T → Gw L.length G T G' T'
  | [], G, T, h, _, _ => h
  | x :: L, G, T, h, hs, hg => by
    obtain ⟨G3, T3, a1, a2⟩ := h
    have hs := hs (by intro q; cases q)
    obtain ⟨n1, n2, n3, n4⟩ := a1.nx hs
    exact ⟨G3, T3, a1.st1 hs hg.1, RuR.gw a2 (fun _ => n3) n4⟩
theorem brR.gw {L : List Nat} {f : Nat} : ∀ {E : List Ev3} {G : Gr} {T : Tr} {la : Option Nat}, brR L E G T la G' T' f → GT G T → ∃ n, Gw n G T G' T'
  | [], G, T, la, h, _ => ⟨0, h.1, h.2.1⟩
  | x :: E, G, T, la, h, hg => by
    obtain ⟨G1, T1, la1, f1, hb, h⟩ := h
    have st : (G1 = G ∧ T1 = T) ∨ St1 G T G1 T1 := by
      rcases hb with ⟨e, -, rfl, rfl, -⟩ | ⟨-, ⟨-, -, rfl, rfl⟩ | ⟨Q, -, ⟨-, -, rfl, rfl⟩ | ⟨-, -, ⟨-, rfl, rfl⟩ | ⟨-, hs, -⟩⟩⟩⟩
      · exact Or.inl ⟨rfl, rfl⟩
      · exact Or.inl ⟨rfl, rfl⟩
      · exact Or.inl ⟨rfl, rfl⟩
      · exact Or.inl ⟨rfl, rfl⟩
      · exact Or.inr ⟨_, _, _, _, hs⟩
    have w1 : ∃ n, Gw n G T G1 T1 := by
      rcases st with ⟨rfl, rfl⟩ | st
      · exact ⟨0, rfl, rfl⟩
      · exact ⟨1, G1, T1, st, rfl, rfl⟩
    obtain ⟨n1, w1⟩ := w1
    rcases h with ⟨-, -, rfl, rfl⟩ | ⟨-, h⟩
    · exact ⟨n1, w1⟩
    · obtain ⟨n2, w2⟩ := brR.gw h (w1.keep hg).1
      exact ⟨n1 + n2, w1.tr w2⟩
/-- edits and calls stay -/
theorem Gw.edx {n fi sz : Nat} (h : Gw n G T G' T') (hg : GT G T) (hl : fi + sz ≤ G.n) (hx : EdX G T fi sz) : EdX G' T' fi sz := by
  obtain ⟨-, -, -, h4, -, h6, -⟩ := h.keep hg
  have ev : ∀ k, k < sz → G'.ev (fi + k) = G.ev (fi + k) := fun k hk => h4 _ (by omega)
  rcases hx with ⟨x1, x2⟩ | ⟨x1, x2⟩
  · exact Or.inl ⟨fun k hk => by rw [ev k hk]; exact x1 k hk, fun k k' h1 h2 => h6 _ _ (x2 k k' h1 h2)⟩
  · exact Or.inr ⟨fun k hk => by rw [ev k hk]; exact x1 k hk, fun k k' h1 h2 => by rw [ev k (by omega), ev k' h2]; exact h6 _ _ (x2 k k' h1 h2)⟩
theorem Gw.cae {n m : Nat} {e : Nat × Nat} {c : Bool × Nat × Nat} (h : Gw n G T G' T') (hg : GT G T) (h1 : 1 ≤ e.2) (hx : CaE G m e c) : CaE G' m e c := by
  obtain ⟨-, -, -, h4, -, -, h7, -⟩ := h.keep hg
  obtain ⟨c1, c2, c3⟩ := hx
  have hlt : e.1 < G.n := agE_n hg.1 (List.mem_of_getElem? (c3 0 h1))
  refine ⟨c1, by rw [h4 _ hlt]; exact c2, fun k hk => ?_⟩
  obtain ⟨X, x1⟩ := h7 m
  have := c3 k hk
  rw [x1, List.getElem?_append_left (List.getElem?_eq_some_iff.1 this).1]
  exact this
end GW
