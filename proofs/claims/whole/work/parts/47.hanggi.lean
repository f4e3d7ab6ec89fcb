/-! ===== Hanging a node, in terms of GI ===== -/
theorem nodup_len {L M : List Nat} (h1 : L.Nodup) (h2 : M.Nodup) (h : ∀ x, x ∈ L ↔ x ∈ M) : L.length = M.length := by
  induction L generalizing M with
  | nil =>
    cases M with
    | nil => rfl
    | cons y M => exact absurd ((h y).2 List.mem_cons_self) List.not_mem_nil
  | cons x L ih =>
    rw [List.nodup_cons] at h1
    have hx := (h x).1 List.mem_cons_self
    have h3 := fil_drop (L := M) (p := fun _ => true) (q := fun y => decide (y ≠ x)) (t := x) h2 hx rfl (decide_eq_false (fun q => q rfl)) (fun y _ hy => decide_eq_true hy)
    have h4 : L.length = (M.filter (fun y => decide (y ≠ x))).length := ih h1.2 (h2.filter _) (fun y => by
      rw [List.mem_filter, ← h y, List.mem_cons, decide_eq_true_eq]
      constructor
      · exact fun q => ⟨Or.inr q, fun e => h1.1 (e ▸ q)⟩
      · exact fun ⟨q, e⟩ => q.resolve_left e)
    have h5 : M.filter (fun _ => true) = M := List.filter_eq_self.2 (fun _ _ => rfl)
    rw [List.length_cons, h4, h3, h5]
/-- a node is seen, is there, in a version -/
def snW (G : Gr) (W : Nat → Nat) (x : Nat) : Bool := decide (stV G W G.n (x - 1) = 1)
def ivW (G : Gr) (W : Nat → Nat) (x : Nat) : Bool := decide (stV G W G.n (x - 1) ≠ 0)
theorem ivW_has (G : Gr) (W : Nat → Nat) (x : Nat) : ivW G W x = G.has W (x - 1) := by
  unfold ivW stV
  cases G.has W (x - 1)
  · rfl
  · cases del G W G.n (x - 1) <;> rfl
theorem stV_le (G : Gr) (W : Nat → Nat) (N k : Nat) : stV G W N k ≤ 2 := by
  unfold stV
  split
  · split <;> decide
  · decide
section HGG
variable {S S' : MM} {F : Nat → Nat × Nat} {i : Nat} {A : Nat → Nat} {X : GX} {G : Gr} {T : Tr} {H : List Nat} {W : Nat → Nat}
theorem GI.st (h : GI S F i A X G T H W) {x : Nat} (hx : x ∈ T.od) : mI S 513 (xa A X x) = nI (stV G W G.n (x - 1)) := by
  obtain ⟨k, rfl, h1, h2⟩ := h.nd hx
  exact h 14 k h1 h2
theorem GI.sn (h : GI S F i A X G T H W) {x : Nat} (hx : x ∈ T.od) : mI S 513 (xa A X x) = 1 ↔ snW G W x = true := by
  have := stV_le G W G.n (x - 1)
  rw [h.st hx, snW, decide_eq_true_eq, show (1 : Int32) = nI 1 from rfl, nI_eq (by omega) (by decide)]
theorem GI.iv (h : GI S F i A X G T H W) {x : Nat} (hx : x ∈ T.od) : mI S 513 (xa A X x) ≠ 0 ↔ ivW G W x = true := by
  have := stV_le G W G.n (x - 1)
  rw [h.st hx, ivW, decide_eq_true_eq, show (0 : Int32) = nI 0 from rfl, Ne, nI_eq (by omega) (by decide)]
theorem GI.seen (h : GI S F i A X G T H W) {L : List Nat} (hL : ∀ x ∈ L, x ∈ T.od) : seenC S (L.map (xa A X)) = (L.filter (snW G W)).length := by
  induction L with
  | nil => rfl
  | cons x L ih =>
    have hx := hL x List.mem_cons_self
    have ih := ih (fun y hy => hL y (List.mem_cons_of_mem _ hy))
    rw [List.map_cons, seenC, ih, List.filter_cons]
    by_cases z : snW G W x = true
    · rw [if_pos ((h.sn hx).2 z), if_pos z, List.length_cons]; omega
    · rw [if_neg (fun q => z ((h.sn hx).1 q)), if_neg z]; omega
theorem GT.c1 (h : GT G T) : c1 G W G.n = (T.od.filter (snW G W)).length := by
  have e : (((List.range G.n).filter (fun k => decide ((G.ev k).ch ≠ none ∧ stV G W G.n k = 1))).map (· + 1)).length = (T.od.filter (snW G W)).length := by
    refine nodup_len ?_ (h.2.2.1.2.1.filter _) (fun x => ?_)
    · refine List.Pairwise.map _ (fun a b q e => q (by omega)) (List.nodup_range.filter _)
    · rw [List.mem_map, List.mem_filter, h.2.2.2.1 x]
      constructor
      · rintro ⟨k, k1, rfl⟩
        rw [List.mem_filter, List.mem_range, decide_eq_true_eq] at k1
        exact ⟨⟨k, rfl, k1.1, k1.2.1⟩, decide_eq_true k1.2.2⟩
      · rintro ⟨⟨k, rfl, k1, k2⟩, k3⟩
        exact ⟨k, by rw [List.mem_filter, List.mem_range, decide_eq_true_eq]; exact ⟨k1, k2, of_decide_eq_true k3⟩, rfl⟩
  rw [List.length_map] at e
  exact e
theorem GI.m2 (h : GI S F i A X G T H W) {n : Nat} {p : Option Nat} {O : List Nat} (hr : Rp T.fl T.fr T.sb n p O) (hO : ∀ x ∈ O, x ∈ T.od) : RpS S n (p.map (xa A X)) (O.map (xa A X)) := by
  refine ⟨?_, fun y hy => ?_⟩
  · induction n generalizing p O with
    | zero =>
      cases p with
      | none => rw [Rp.no] at hr; subst hr; exact Rp.no.2 rfl
      | some x => exact hr.elim
    | succ n ih =>
      cases p with
      | none => rw [Rp.no] at hr; subst hr; exact Rp.no.2 rfl
      | some x =>
        obtain ⟨B, C, D, b, c, d, rfl⟩ := hr
        have hx : x ∈ T.od := hO x (by simp)
        obtain ⟨q1, q2, q3⟩ := h 16 x (Or.inr hx)
        refine ⟨B.map (xa A X), C.map (xa A X), D.map (xa A X), ?_, ?_, ?_, by simp⟩
        · rw [show fL S (xa A X x) = _ from q1]; exact ih b (fun y hy => hO y (by simp [hy]))
        · rw [show fR S (xa A X x) = _ from q2]; exact ih c (fun y hy => hO y (by simp [hy]))
        · rw [show sB S (xa A X x) = _ from q3 (fun e => h.gt.2.2.1.2.2.1 (e ▸ hx))]; exact ih d (fun y hy => hO y (by simp [hy]))
  · obtain ⟨x, x1, rfl⟩ := List.mem_map.1 hy
    exact h.x5 (Or.inr (hO x x1))
theorem GI.m3 (h : GI S F i A X G T H W) : ∀ (n : Nat) (p : Option Nat), (∀ m, ∀ x ∈ sibW T.sb m p, x ∈ T.od) → sibW (sB S) n (p.map (xa A X)) = (sibW T.sb n p).map (xa A X)
  | 0, p, _ => by cases p <;> rfl
  | n + 1, none, _ => rfl
  | n + 1, some x, hp => by
    have hx : x ∈ T.od := hp 1 x List.mem_cons_self
    show xa A X x :: sibW (sB S) n (sB S (xa A X x)) = _
    rw [show sB S (xa A X x) = _ from (h 16 x (Or.inr hx)).2.2 (fun e => h.gt.2.2.1.2.2.1 (e ▸ hx)), GI.m3 h n (T.sb x) (fun m y hy => hp (m + 1) y (List.mem_cons_of_mem _ hy))]
    rfl
theorem GI.m4 (h : GI S F i A X G T H W) {lt : Nat → Bool} {lm : Nat → Bool} (hl : ∀ x ∈ T.od, lm (xa A X x) = lt x) : ∀ (n : Nat) (a p : Option Nat), (∀ m, ∀ x ∈ sibW T.sb m p, x ∈ T.od) → lstW lm (sB S) n (a.map (xa A X)) (p.map (xa A X)) = (lstW lt T.sb n a p).map (xa A X)
  | 0, a, p, _ => by cases p <;> rfl
  | n + 1, a, none, _ => rfl
  | n + 1, a, some x, hp => by
    have hx : x ∈ T.od := hp 1 x List.mem_cons_self
    have ih := GI.m4 h hl n (some x) (T.sb x) (fun m y hy => hp (m + 1) y (List.mem_cons_of_mem _ hy))
    rw [show (some x : Option Nat).map (xa A X) = some (xa A X x) from rfl] at ih ⊢
    unfold lstW
    rw [hl x hx]
    split
    · rw [show sB S (xa A X x) = _ from (h 16 x (Or.inr hx)).2.2 (fun e => h.gt.2.2.1.2.2.1 (e ▸ hx))]; exact ih
    · rfl
theorem GI.m5 (h : GI S F i A X G T H W) {B : List Nat} (hB : ∀ x ∈ B, x ∈ T.od) : (B.map (xa A X)).find? (shnB S) = (B.find? (ivW G W)).map (xa A X) := by
  induction B with
  | nil => rfl
  | cons x B ih =>
    have hx := hB x List.mem_cons_self
    have e : shnB S (xa A X x) = ivW G W x := by
      unfold shnB
      rw [Bool.eq_iff_iff, decide_eq_true_eq]
      exact h.iv hx
    rw [List.map_cons, List.find?_cons, List.find?_cons, e]
    cases ivW G W x
    · exact ih (fun y hy => hB y (List.mem_cons_of_mem _ hy))
    · rfl
theorem map_last (a : Nat → Nat) (L : List Nat) (d : Nat) : (L.map a).getLastD (a d) = a (L.getLastD d) := by
  rcases snoc_cases L with z | ⟨B, y, z⟩
  · rw [z]; rfl
  · rw [z, List.map_append, List.map_singleton, List.getLastD_concat, List.getLastD_concat]
theorem map_head (a : Nat → Nat) (L : List Nat) (d : Nat) : (L.map a).headD (a d) = a (L.headD d) := by cases L <;> rfl
theorem map_head? (a : Nat → Nat) (L : List Nat) : (L.map a).head? = L.head?.map a := by cases L <;> rfl
/-- rows of siblings lie among the nodes -/
theorem GT.rows (h : GT G T) (lf : Nat) (rg : Option Nat) : ∀ m, ∀ x ∈ sibW T.sb m (T.row lf rg), x ∈ T.od := fun m x hx => by
  cases rg with
  | none => exact (h.2.2.1.2.2.2.2.2.1 lf m x hx).1
  | some r => exact (h.2.2.1.2.2.2.2.2.2 r m x hx).1
theorem GI.ndp (h : GI S F i A X G T H W) : (T.od.map (xa A X)).Nodup := by
  refine List.pairwise_map.2 (List.Pairwise.imp_of_mem (fun {x y} hx hy hne e => hne (h.xi (Or.inr hx) (Or.inr hy) e)) h.gt.2.2.1.2.1)
theorem GI.rt0 (h : GI S F i A X G T H W) : A 1 ∉ T.od.map (xa A X) := fun q => by
  obtain ⟨x, x1, x2⟩ := List.mem_map.1 q
  have := h.xi (Or.inr x1) (Or.inl rfl) (x2.trans rfl)
  exact h.gt.2.2.1.2.2.1 (this ▸ x1)
/-- a prefix of the nodes' addresses is one of the nodes -/
theorem map_pre {a : Nat → Nat} {O A B : List Nat} (h : O.map a = A ++ B) : ∃ A' B', O = A' ++ B' ∧ A = A'.map a ∧ B = B'.map a :=
  ⟨O.take A.length, O.drop A.length, (List.take_append_drop _ _).symm, by rw [List.map_take, h, List.take_left], by rw [List.map_drop, h, List.drop_left]⟩
end HGG
