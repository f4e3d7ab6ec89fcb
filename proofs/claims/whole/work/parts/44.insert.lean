/-! ===== Inserting a node, as mathematics ===== -/
def Tr.rgt (T : Tr) (iv : Nat → Bool) (lf : Nat) (B : List Nat) (rg : Option Nat) : Prop := ((∃ y ∈ sibW T.sb T.od.length (T.fr lf), iv y = true) ∧ rg = B.find? iv) ∨ (¬ (∃ y ∈ sibW T.sb T.od.length (T.fr lf), iv y = true) ∧ rg = none)
def Tr.ins (T T' : Tr) (iv sn lt : Nat → Bool) (e i : Nat) : Prop := ∃ A B rg, T.od = A ++ B ∧ (A = [] ∨ sn (A.getLastD 0) = true) ∧ (A.filter sn).length = i ∧ T.rgt iv (A.getLastD 0) B rg ∧ T' = T.put lt (A.getLastD 0) rg e T'.od ∧ T'.ok
theorem mid_uniq {r : Nat} {L1 R1 L2 R2 : List Nat} (h : L1 ++ r :: R1 = L2 ++ r :: R2) (hn : (L1 ++ r :: R1).Nodup) : L1 = L2 ∧ R1 = R2 := by
  rcases List.append_eq_append_iff.1 h with ⟨a, q1, q2⟩ | ⟨a, q1, q2⟩
  · cases a with
    | nil => simp at q1 q2; exact ⟨q1.symm, q2⟩
    | cons v a =>
      rw [List.cons_append, List.cons.injEq] at q2
      rw [q2.2] at hn
      rw [List.nodup_append, List.nodup_cons] at hn
      exact absurd (by simp) hn.2.1.1
  · cases a with
    | nil => simp at q1 q2; exact ⟨q1, q2.symm⟩
    | cons v a =>
      rw [List.cons_append, List.cons.injEq] at q2
      rw [q1, ← q2.1, List.nodup_append] at hn
      exact absurd rfl (hn.2.2 r (by simp) r (by simp))
theorem pre_nil {A a C : List Nat} (hn : (A ++ a ++ C).Nodup) (h0 : 0 ∉ A ++ a ++ C) (h : A.getLastD 0 = (A ++ a).getLastD 0) : a = [] := by
  rcases snoc_cases a with z | ⟨b, y, rfl⟩
  · exact z
  · rw [← List.append_assoc, List.getLastD_concat] at h
    rcases last_in (A := A) (rt := 0) with w | w
    · rw [w.1] at h
      exact absurd (by simp [← h]) h0
    · rw [h] at w
      rw [List.append_assoc, List.nodup_append] at hn
      exact absurd rfl (hn.2.2 y w y (by simp))
theorem pre_uniq {A B P R : List Nat} (h : A ++ B = P ++ R) (hn : (A ++ B).Nodup) (h0 : 0 ∉ A ++ B) (hl : A.getLastD 0 = P.getLastD 0) : A = P ∧ B = R := by
  rcases List.append_eq_append_iff.1 h with ⟨a, q1, q2⟩ | ⟨a, q1, q2⟩
  · subst q1; subst q2
    rw [← List.append_assoc] at hn h0
    have := pre_nil hn h0 hl
    subst this; simp
  · subst q1; subst q2
    have := pre_nil hn h0 hl.symm
    subst this; simp
theorem sib_rp {fl fr sb : Nat → Option Nat} {n c : Nat} {p : Option Nat} {F : List Nat} (h : Rp fl fr sb n p F) (hc : c ∈ sibW sb n p) : c ∈ F := by
  induction n generalizing p F with
  | zero => cases p <;> cases hc
  | succ n ih =>
    cases p with
    | none => cases hc
    | some x =>
      obtain ⟨A, B, C, -, -, r, rfl⟩ := h
      rcases List.mem_cons.1 hc with z | z
      · rw [z]; simp
      · have := ih r z; simp [this]
/-- below what is not there nothing is there -/
theorem Rp.dead {fl fr sb : Nat → Option Nat} {iv : Nat → Bool} (hc : ∀ x m c, x ≠ 0 → (c ∈ sibW sb m (fl x) ∨ c ∈ sibW sb m (fr x)) → iv c = true → iv x = true) {n : Nat} {p : Option Nat} {F : List Nat} (h : Rp fl fr sb n p F) (h0 : 0 ∉ F) (hd : ∀ c ∈ sibW sb n p, iv c = false) : ∀ y ∈ F, iv y = false := by
  induction n generalizing p F with
  | zero =>
    cases p with
    | none => rw [Rp.no] at h; subst h; exact fun y hy => by cases hy
    | some x => exact h.elim
  | succ n ih =>
    cases p with
    | none => rw [Rp.no] at h; subst h; exact fun y hy => by cases hy
    | some x =>
      obtain ⟨A, B, C, a, b, c, rfl⟩ := h
      simp only [List.mem_append, List.mem_cons, not_or] at h0
      have x0 : x ≠ 0 := fun w => h0.2.1 w.symm
      have hx : iv x = false := hd x List.mem_cons_self
      intro y hy
      simp only [List.mem_append, List.mem_cons] at hy
      rcases hy with hy | hy | hy | hy
      · exact ih a h0.1 (fun c q => Bool.eq_false_iff.2 (fun w => by rw [hc x n c x0 (Or.inl q) w] at hx; cases hx)) y hy
      · rw [hy]; exact hx
      · exact ih b h0.2.2.1 (fun c q => Bool.eq_false_iff.2 (fun w => by rw [hc x n c x0 (Or.inr q) w] at hx; cases hx)) y hy
      · exact ih c h0.2.2.2 (fun c q => hd c (List.mem_cons_of_mem _ q)) y hy
theorem Tr.rgt_mem {T : Tr} {iv : Nat → Bool} {lf r : Nat} {B : List Nat} {rg : Option Nat} (h : T.rgt iv lf B rg) (hr : rg = some r) : r ∈ B := by
  rcases h with ⟨-, q⟩ | ⟨-, q⟩
  · rw [hr] at q; exact List.mem_of_find?_eq_some q.symm
  · rw [hr] at q; cases q
/-- how many that are seen stand in front of the new node -/
theorem Tr.cnt_ok {T : Tr} {iv sn : Nat → Bool} {A B P Q1 Q2 R : List Nat} {rg : Option Nat} (h : T.ok) (hv : ∀ c, c ∈ T.od → iv c = true → T.pr c ≠ 0 → iv (T.pr c) = true) (hs : ∀ y, sn y = true → iv y = true) (hO : T.od = A ++ B) (hr : T.rgt iv (A.getLastD 0) B rg) (h1 : T.od = (P ++ Q1) ++ (Q2 ++ R)) (h2 : Rp T.fl T.fr T.sb T.od.length (T.row (A.getLastD 0) rg) (Q1 ++ Q2)) (h3 : rg = none → P.getLastD 0 = A.getLastD 0) (h4 : ∀ r, rg = some r → R.head? = some r) : ((P ++ Q1).filter sn).length = (A.filter sn).length := by
  obtain ⟨k1, k2, k3, k4, k5, k6, k7⟩ := h
  have hc : ∀ x m c, x ≠ 0 → (c ∈ sibW T.sb m (T.fl x) ∨ c ∈ sibW T.sb m (T.fr x)) → iv c = true → iv x = true := fun x m c x0 q w => by
    have : c ∈ T.od ∧ T.pr c = x := q.elim (fun q => k7 x m c q) (fun q => k6 x m c q)
    have u := hv c this.1 w
    rw [this.2] at u
    exact u x0
  have z0 : ∀ L : List Nat, (∀ y ∈ L, iv y = false) → L.filter sn = [] := fun L q => List.filter_eq_nil_iff.2 (fun y hy w => by have u := q y hy; rw [hs y w] at u; cases u)
  have lO : A.getLastD 0 = 0 ∨ A.getLastD 0 ∈ T.od := last_in.elim (fun w => Or.inl w.1) (fun w => Or.inr (by rw [hO]; exact List.mem_append_left _ w))
  cases rg with
  | none =>
    have e1 : A ++ B = P ++ (Q1 ++ (Q2 ++ R)) := by rw [← hO, h1]; simp
    obtain ⟨rfl, -⟩ := pre_uniq e1 (hO ▸ k2) (hO ▸ k3) (h3 rfl).symm
    have hd : ∀ c ∈ sibW T.sb T.od.length (T.fr (A.getLastD 0)), iv c = false := fun c q => Bool.eq_false_iff.2 (fun w => by
      rcases hr with ⟨⟨y, y1, y2⟩, f⟩ | ⟨n, -⟩
      · have : B.find? iv = none := f.symm
        rw [List.find?_eq_none] at this
        have yB : y ∈ B := by
          have := sib_rp h2 y1
          have e2 : B = Q1 ++ (Q2 ++ R) := List.append_cancel_left e1
          rw [e2]; simp at this ⊢; rcases this with u | u <;> simp [u]
        exact this y yB y2
      · exact n ⟨c, q, w⟩)
    have := Rp.dead hc h2 (fun w => k3 (by rw [h1]; simp at w ⊢; rcases w with u | u <;> simp [u])) hd
    rw [List.filter_append, z0 Q1 (fun y hy => this y (List.mem_append_left _ hy)), List.append_nil]
  | some r =>
    rcases hr with ⟨⟨y, y1, y2⟩, f⟩ | ⟨-, q⟩
    · obtain ⟨P0, F0, R0, s1, s2, s3, -⟩ := Tr.site (rg := none) ⟨k1, k2, k3, k4, k5, k6, k7⟩ lO (fun r q => by cases q)
      have e1 : A ++ B = P0 ++ (F0 ++ R0) := by rw [← hO, s1]; simp
      obtain ⟨rfl, rfl⟩ := pre_uniq e1 (hO ▸ k2) (hO ▸ k3) (s3 rfl).symm
      have yF := sib_rp s2 y1
      have rF : r ∈ F0 := by
        rw [List.find?_append] at f
        cases hf : F0.find? iv with
        | none => exact absurd y2 (List.find?_eq_none.1 hf y yF)
        | some r2 => rw [hf] at f; cases f; exact List.mem_of_find?_eq_some hf
      have nF : F0.Nodup := by
        have := k2
        rw [s1, List.nodup_append, List.nodup_append] at this
        exact this.1.2.1
      obtain ⟨X, A', B', Y, g1, -, g3, -⟩ := s2.at nF rF
      have eA : A' = Q1 ++ Q2 := g1.uniq h2
      obtain ⟨R', rfl⟩ : ∃ R', R = r :: R' := by
        have := h4 r rfl
        cases R with
        | nil => cases this
        | cons v R => cases this; exact ⟨R, rfl⟩
      obtain ⟨-, B1, B2, f1, f2⟩ := List.find?_eq_some_iff_append.1 f.symm
      have e2 : (P ++ (Q1 ++ Q2)) ++ r :: R' = (A ++ (X ++ (Q1 ++ Q2))) ++ r :: ((B' ++ Y) ++ R0) := by
        have : T.od = (P ++ (Q1 ++ Q2)) ++ r :: R' := by rw [h1]; simp
        rw [← this, s1, g3, eA]; simp
      have e3 : (A ++ B1) ++ r :: B2 = (A ++ (X ++ (Q1 ++ Q2))) ++ r :: ((B' ++ Y) ++ R0) := by
        have : T.od = (A ++ B1) ++ r :: B2 := by rw [hO, f1]; simp
        rw [← this, s1, g3, eA]; simp
      have n2 : ((P ++ (Q1 ++ Q2)) ++ r :: R').Nodup := by
        have : T.od = (P ++ (Q1 ++ Q2)) ++ r :: R' := by rw [h1]; simp
        exact this ▸ k2
      have n3 : ((A ++ B1) ++ r :: B2).Nodup := by
        have : T.od = (A ++ B1) ++ r :: B2 := by rw [hO, f1]; simp
        exact this ▸ k2
      have p1 : P = A ++ X := by
        have := (mid_uniq e2 n2).1
        rw [← List.append_assoc A X] at this
        exact List.append_cancel_right this
      have p2 : B1 = X ++ (Q1 ++ Q2) := List.append_cancel_left (mid_uniq e3 n3).1
      have d : ∀ y ∈ X ++ Q1, iv y = false := fun y hy => by
        have := f2 y (by rw [p2]; simp at hy ⊢; rcases hy with u | u <;> simp [u])
        simpa using this
      rw [p1, List.append_assoc, List.filter_append, z0 _ d, List.append_nil]
    · cases q
/-- the pointers do not hang on the list that is given -/
theorem Tr.put_same (T : Tr) (lt : Nat → Bool) (lf : Nat) (rg : Option Nat) (e : Nat) (L M : List Nat) : (T.put lt lf rg e L).fl = (T.put lt lf rg e M).fl ∧ (T.put lt lf rg e L).fr = (T.put lt lf rg e M).fr ∧ (T.put lt lf rg e L).sb = (T.put lt lf rg e M).sb ∧ (T.put lt lf rg e L).pr = (T.put lt lf rg e M).pr ∧ (T.put lt lf rg e L).od = L := by
  unfold Tr.put
  split
  · exact ⟨rfl, rfl, rfl, rfl, rfl⟩
  · split <;> exact ⟨rfl, rfl, rfl, rfl, rfl⟩
theorem sn_uniq {sn : Nat → Bool} {A a : List Nat} (h2 : (A ++ a) = [] ∨ sn ((A ++ a).getLastD 0) = true) (h : (A.filter sn).length = ((A ++ a).filter sn).length) : a = [] := by
  rcases snoc_cases a with z | ⟨b, y, rfl⟩
  · exact z
  · rw [← List.append_assoc, List.getLastD_concat] at h2
    rcases h2 with q | q
    · simp at q
    · simp [List.filter_append, q] at h
theorem Tr.ins_uniq {T T1 T2 : Tr} {iv sn lt : Nat → Bool} {e i : Nat} (h1 : T.ins T1 iv sn lt e i) (h2 : T.ins T2 iv sn lt e i) : T1 = T2 := by
  obtain ⟨A, B, rg, a1, a2, a3, a4, a5, a6⟩ := h1
  obtain ⟨A', B', rg', b1, b2, b3, b4, b5, b6⟩ := h2
  have hAB : A = A' ∧ B = B' := by
    rcases List.append_eq_append_iff.1 (a1.symm.trans b1) with ⟨a, q1, q2⟩ | ⟨a, q1, q2⟩
    · have : a = [] := sn_uniq (by rw [← q1]; exact b2) (by rw [← q1, a3, b3])
      subst this
      simp at q1 q2
      exact ⟨q1.symm, q2⟩
    · have : a = [] := sn_uniq (by rw [← q1]; exact a2) (by rw [← q1, a3, b3])
      subst this
      simp at q1 q2
      exact ⟨q1, q2.symm⟩
  obtain ⟨rfl, rfl⟩ := hAB
  have hrg : rg = rg' := by
    rcases a4 with ⟨p, q⟩ | ⟨p, q⟩ <;> rcases b4 with ⟨p', q'⟩ | ⟨p', q'⟩
    · rw [q, q']
    · exact absurd p p'
    · exact absurd p' p
    · rw [q, q']
  subst hrg
  obtain ⟨s1, s2, s3, s4, s5⟩ := T.put_same lt (A.getLastD 0) rg e T1.od T2.od
  rw [← a5, ← b5] at s1 s2 s3 s4
  have u := a6.1
  rw [s1, s2, s3] at u
  have ho := u.uniq b6.1
  rw [a5, b5, ho]
/-- an insertion there is, and where the node stands -/
theorem Tr.ins_ex {T : Tr} {iv sn lt : Nat → Bool} {e : Nat} {A B : List Nat} {rg : Option Nat} (h : T.ok) (he : e ∉ T.od) (he0 : e ≠ 0) (hv : ∀ c, c ∈ T.od → iv c = true → T.pr c ≠ 0 → iv (T.pr c) = true) (hs : ∀ y, sn y = true → iv y = true) (hO : T.od = A ++ B) (hA : A = [] ∨ sn (A.getLastD 0) = true) (hr : T.rgt iv (A.getLastD 0) B rg) :
    ∃ T' P Q1 Q2 R, T.ins T' iv sn lt e (A.filter sn).length ∧ T' = T.put lt (A.getLastD 0) rg e T'.od ∧ T.od = (P ++ Q1) ++ (Q2 ++ R) ∧ T'.od = (P ++ Q1) ++ e :: (Q2 ++ R) ∧ ((P ++ Q1).filter sn).length = (A.filter sn).length ∧ Rp T.fl T.fr T.sb T.od.length (T.row (A.getLastD 0) rg) (Q1 ++ Q2) ∧ (rg = none → P.getLastD 0 = A.getLastD 0) ∧ (∀ r, rg = some r → R.head? = some r) ∧ (lstW lt T.sb T.od.length none (T.row (A.getLastD 0) rg) = none → Q1 = []) ∧ ∀ x, lstW lt T.sb T.od.length none (T.row (A.getLastD 0) rg) = some x → ∃ D, Rp T.fl T.fr T.sb T.od.length (T.fr x) D ∧ Q1 ≠ [] ∧ Q1.getLastD 0 = D.getLastD x := by
  have lO : A.getLastD 0 = 0 ∨ A.getLastD 0 ∈ T.od := last_in.elim (fun w => Or.inl w.1) (fun w => Or.inr (by rw [hO]; exact List.mem_append_left _ w))
  obtain ⟨P, Q1, Q2, R, p1, p2, p3, p4, p5, p6, p7⟩ := Tr.put_ok (lt := lt) (rg := rg) h he he0 lO (fun r q => by rw [hO]; exact List.mem_append_right _ (Tr.rgt_mem hr q))
  have o1 := (T.put_same lt (A.getLastD 0) rg e ((P ++ Q1) ++ e :: (Q2 ++ R)) []).2.2.2.2
  have o2 : T.put lt (A.getLastD 0) rg e ((P ++ Q1) ++ e :: (Q2 ++ R)) = T.put lt (A.getLastD 0) rg e (T.put lt (A.getLastD 0) rg e ((P ++ Q1) ++ e :: (Q2 ++ R))).od := by rw [o1]
  exact ⟨_, P, Q1, Q2, R, ⟨A, B, rg, hO, hA, rfl, hr, o2, p2⟩, o2, p1, o1, Tr.cnt_ok h hv hs hO hr p1 p3 p4 p5, p3, p4, p5, p6, p7⟩
