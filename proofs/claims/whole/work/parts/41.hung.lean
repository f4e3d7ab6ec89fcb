/-! ===== What hanging leaves: the chain and the tree ===== -/
theorem last_in {A : List Nat} {rt : Nat} : A.getLastD rt = rt ∧ A = [] ∨ A.getLastD rt ∈ A := by
  rcases snoc_cases A with z | ⟨B, y, z⟩
  · exact Or.inl ⟨by rw [z]; rfl, z⟩
  · exact Or.inr (by rw [z, List.getLastD_concat]; simp)
theorem last_app {A B : List Nat} {rt : Nat} (h : B ≠ []) : (A ++ B).getLastD rt = B.getLastD rt := by
  rcases snoc_cases B with z | ⟨C, y, z⟩
  · exact absurd z h
  · rw [z, ← List.append_assoc, List.getLastD_concat, List.getLastD_concat]
/-- next and previous behind a link -/
theorem lkS_nx {S : MM} {e x b : Nat} (hex : e ≠ x) : mR (lkS S e x) 512 b = if b = x then some e else if b = e then mR S 512 x else mR S 512 b := by
  unfold lkS
  split
  · rename_i y hy
    rw [mR_sR]
    by_cases z : b = x
    · rw [if_pos ⟨rfl, z⟩, if_pos z]
    · rw [if_neg (fun q => z q.2), if_neg z, mR_sR, if_neg (fun q => absurd q.1 (by decide)), mR_sR]
      by_cases w : b = e
      · rw [if_pos ⟨rfl, w⟩, if_pos w, hy]
      · rw [if_neg (fun q => w q.2), if_neg w, mR_sR, if_neg (fun q => absurd q.1 (by decide))]
  · rename_i hy
    rw [mR_sR]
    by_cases z : b = x
    · rw [if_pos ⟨rfl, z⟩, if_pos z]
    · rw [if_neg (fun q => z q.2), if_neg z, mR_sR]
      by_cases w : b = e
      · rw [if_pos ⟨rfl, w⟩, if_pos w, hy]
      · rw [if_neg (fun q => w q.2), if_neg w, mR_sR, if_neg (fun q => absurd q.1 (by decide))]
theorem lkS_pv {S : MM} {e x b : Nat} : mR (lkS S e x) 511 b = if mR S 512 x = some b then some e else if b = e then some x else mR S 511 b := by
  unfold lkS
  split
  · rename_i y hy
    rw [hy, mR_sR, if_neg (fun q => absurd q.1 (by decide)), mR_sR]
    by_cases z : b = y
    · rw [if_pos ⟨rfl, z⟩, if_pos (by rw [z])]
    · rw [if_neg (fun q => z q.2), if_neg (fun q => z (Option.some.inj q).symm), mR_sR, if_neg (fun q => absurd q.1 (by decide)), mR_sR]
      by_cases w : b = e
      · rw [if_pos ⟨rfl, w⟩, if_pos w]
      · rw [if_neg (fun q => w q.2), if_neg w]
  · rename_i hy
    have hr : (if (none : Option Nat) = some b then some e else if b = e then some x else mR S 511 b) = if b = e then some x else mR S 511 b := if_neg (fun q => by cases q)
    rw [hy, hr, mR_sR, if_neg (fun q => absurd q.1 (by decide)), mR_sR, if_neg (fun q => absurd q.1 (by decide)), mR_sR]
    by_cases w : b = e
    · rw [if_pos ⟨rfl, w⟩, if_pos w]
    · rw [if_neg (fun q => w q.2), if_neg w]
theorem ChP.link {S S2 : MM} {rt e : Nat} {O U V : List Nat} (h : ChP S rt O) (hO : O = U ++ V) (hn : O.Nodup) (hr : rt ∉ O) (he : e ∉ O) (her : e ≠ rt) (e5 : isO S 5 e) (k1 : ∀ b, isO S 5 b → isO S2 5 b) (k2 : ∀ b, mR S2 512 b = mR (lkS S e (U.getLastD rt)) 512 b) (k3 : ∀ b, mR S2 511 b = mR (lkS S e (U.getLastD rt)) 511 b) : ChP S2 rt (U ++ e :: V) := by
  have hz : U.getLastD rt ≠ e := by
    rcases last_in (A := U) (rt := rt) with q | q
    · rw [q.1]; exact fun w => her w.symm
    · exact fun w => he (by rw [hO, List.mem_append]; exact Or.inl (w ▸ q))
  have nz : mR S 512 (U.getLastD rt) = V.head? := h.2.2.1 U V hO
  have UV : ∀ y, y ∈ U → y ∉ V := fun y h1 h2 => by
    rw [hO, List.nodup_append] at hn
    exact hn.2.2 y h1 y h2 rfl
  have inO : ∀ y, y ∈ U ∨ y ∈ V → y ∈ O := fun y q => by rw [hO, List.mem_append]; exact q
  refine ⟨k1 _ h.1, fun y hy => ?_, fun A B e1 => ?_, fun A y B e1 => ?_⟩
  · rw [List.mem_append, List.mem_cons] at hy
    rcases hy with q | q | q
    · exact k1 _ (h.2.1 y (inO y (Or.inl q)))
    · rw [q]; exact k1 _ e5
    · exact k1 _ (h.2.1 y (inO y (Or.inr q)))
  · rw [k2, lkS_nx (fun w => hz w.symm), nz]
    rcases List.append_eq_append_iff.1 e1 with ⟨a, q1, q2⟩ | ⟨c, q1, q2⟩
    · cases a with
      | nil =>
        rw [List.append_nil] at q1
        rw [q1, if_pos rfl]
        rw [List.nil_append] at q2
        rw [← q2]; rfl
      | cons v a =>
        rw [List.cons_append, List.cons.injEq] at q2
        obtain ⟨rfl, q2⟩ := q2
        cases a with
        | nil =>
          rw [q1, List.getLastD_concat, if_neg (fun w => hz w.symm), if_pos rfl, q2]; rfl
        | cons w a =>
          have hl : A.getLastD rt = (w :: a).getLastD rt := by
            rw [q1, show U ++ e :: w :: a = (U ++ [e]) ++ (w :: a) by simp, last_app (by simp)]
          have hm : (w :: a).getLastD rt ∈ V := by
            rcases last_in (A := w :: a) (rt := rt) with x | x
            · cases x.2
            · rw [q2]; exact List.mem_append_left _ x
          rw [hl, if_neg, if_neg]
          · have e2 : O = (U ++ (w :: a)) ++ B := by rw [hO, q2]; simp
            have := h.2.2.1 _ _ e2
            rw [last_app (by simp)] at this
            exact this
          · exact fun x => he (x ▸ inO _ (Or.inr hm))
          · intro x
            rcases last_in (A := U) (rt := rt) with y | y
            · rw [y.1] at x; exact hr (x ▸ inO _ (Or.inr hm))
            · exact UV _ y (x ▸ hm)
    · cases c with
      | nil =>
        rw [List.append_nil] at q1
        rw [← q1, if_pos rfl, q2]; rfl
      | cons w c =>
        have e2 : O = A ++ (w :: c ++ V) := by rw [hO, q1]; simp
        have hA := h.2.2.1 A _ e2
        have hU : U.getLastD rt = (w :: c).getLastD rt := by rw [q1, last_app (by simp)]
        have hm : (w :: c).getLastD rt ∈ w :: c := by
          rcases last_in (A := w :: c) (rt := rt) with x | x
          · cases x.2
          · exact x
        rw [if_neg, if_neg, hA, q2]
        · rfl
        · intro x
          rcases last_in (A := A) (rt := rt) with y | y
          · rw [y.1] at x; exact her x.symm
          · exact he (by rw [e2]; exact List.mem_append_left _ (x ▸ y))
        · intro x
          rw [hU] at x
          rcases last_in (A := A) (rt := rt) with y | y
          · rw [y.1] at x
            exact hr (by rw [e2, x]; exact List.mem_append_right _ (List.mem_append_left _ hm))
          · rw [e2, List.nodup_append] at hn
            exact hn.2.2 _ y _ (List.mem_append_left _ hm) x
  · rw [k3, lkS_pv, nz]
    rcases List.append_eq_append_iff.1 e1 with ⟨a, q1, q2⟩ | ⟨c, q1, q2⟩
    · cases a with
      | nil =>
        rw [List.nil_append, List.cons.injEq] at q2
        obtain ⟨rfl, rfl⟩ := q2
        rw [List.append_nil] at q1
        rw [if_neg, if_pos rfl, q1]
        intro x
        exact he (inO _ (Or.inr (List.mem_of_mem_head? x)))
      | cons v a =>
        rw [List.cons_append, List.cons.injEq] at q2
        obtain ⟨rfl, q2⟩ := q2
        cases a with
        | nil =>
          rw [q1, q2, List.getLastD_concat, List.nil_append, List.head?_cons, if_pos rfl]
        | cons w a =>
          have hl : A.getLastD rt = (w :: a).getLastD rt := by
            rw [q1, show U ++ e :: w :: a = (U ++ [e]) ++ (w :: a) by simp, last_app (by simp)]
          have e2 : O = (U ++ (w :: a)) ++ y :: B := by rw [hO, q2]; simp
          have hp := h.2.2.2 _ _ _ e2
          rw [last_app (by simp)] at hp
          rw [hl, if_neg, if_neg, hp]
          · exact fun x => he (x ▸ inO _ (Or.inr (by rw [q2]; simp)))
          · intro x
            rw [q2] at x
            have x : w = y := Option.some.inj x
            rw [e2, x, List.nodup_append] at hn
            exact hn.2.2 y (by simp) y (by simp) rfl
    · cases c with
      | nil =>
        rw [List.nil_append, List.cons.injEq] at q2
        obtain ⟨rfl, rfl⟩ := q2
        rw [List.append_nil] at q1
        rw [if_neg, if_pos rfl, q1]
        intro x
        exact he (inO _ (Or.inr (List.mem_of_mem_head? x)))
      | cons w c =>
        rw [List.cons_append, List.cons.injEq] at q2
        obtain ⟨rfl, q2⟩ := q2
        have e2 : O = A ++ y :: (c ++ V) := by rw [hO, q1]; simp
        have yU : y ∈ U := by rw [q1]; simp
        rw [if_neg, if_neg, h.2.2.2 _ _ _ e2]
        · exact fun x => he (x ▸ inO _ (Or.inl yU))
        · exact fun x => UV y yU (List.mem_of_mem_head? x)
