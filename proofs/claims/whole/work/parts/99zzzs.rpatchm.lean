/-! ===== What the reference reads of a patch is within bounds ===== -/
theorem rd1_ok {B L : List Nat} {q p p' : Nat} {s : SpR} (hB : ∀ b ∈ B, b < 256) (hL : ∀ a ∈ L, a < 256) (h : rd1 B L q p = some (s, p')) : s.1 < 256 ∧ s.2.1 < 2147483648 ∧ 1 ≤ s.2.2 ∧ s.2.2 < 2147483648 := by
  unfold rd1 at h
  cases h1 : (vint B q p).1 with
  | none => rw [h1] at h; cases h
  | some a =>
    rw [h1] at h
    have h : (if a < L.length then (vint B q (vint B q p).2).1.bind fun nu => (vint B q (vint B q (vint B q p).2).2).1.bind fun w => if 1 ≤ w then some ((L.getD a 0, nu, w), (vint B q (vint B q (vint B q p).2).2).2) else none else none) = some (s, p') := h
    by_cases ha : a < L.length
    · rw [if_pos ha] at h
      cases h2 : (vint B q (vint B q p).2).1 with
      | none => rw [h2] at h; cases h
      | some nu =>
        cases h3 : (vint B q (vint B q (vint B q p).2).2).1 with
        | none => rw [h2, h3] at h; cases h
        | some w =>
          rw [h2, h3] at h
          have h : (if 1 ≤ w then some ((L.getD a 0, nu, w), (vint B q (vint B q (vint B q p).2).2).2) else none) = some (s, p') := h
          by_cases hw : 1 ≤ w
          · rw [if_pos hw] at h
            injection h with h
            injection h with h _
            subst h
            refine ⟨hL _ ?_, vint_lt hB h2, hw, vint_lt hB h3⟩
            rw [List.getD_eq_getElem?_getD, List.getElem?_eq_getElem ha]
            exact List.getElem_mem ha
          · rw [if_neg hw] at h; cases h
    · rw [if_neg ha] at h; cases h
def spOk (s : SpR) : Prop := s.1 < 256 ∧ s.2.1 < 2147483648 ∧ 1 ≤ s.2.2 ∧ s.2.2 ≤ 8192
theorem rdSq_ok {B L : List Nat} {q : Nat} (hB : ∀ b ∈ B, b < 256) (hL : ∀ a ∈ L, a < 256) : ∀ {f T p : Nat} {A : List SpR}, (∀ s, s ∈ A → spOk s) → A.length ≤ T → T ≤ 8192 → (∀ s, s ∈ (rdSq B L q f T p A).2 → spOk s) ∧ (rdSq B L q f T p A).2.length ≤ 8192
  | 0, T, p, A, hA, hT, hT2 => ⟨hA, Nat.le_trans hT hT2⟩
  | f + 1, T, p, A, hA, hT, hT2 => by
    rw [rdSq]
    split
    · cases h1 : rd1 B L q p with
      | none => exact ⟨hA, Nat.le_trans hT hT2⟩
      | some w =>
        obtain ⟨s, p'⟩ := w
        have ok := rd1_ok hB hL h1
        show (∀ s', s' ∈ (if T + s.2.2 ≤ 8192 then rdSq B L q f (T + s.2.2) p' (A ++ [s]) else (false, A)).2 → spOk s') ∧ (if T + s.2.2 ≤ 8192 then rdSq B L q f (T + s.2.2) p' (A ++ [s]) else (false, A)).2.length ≤ 8192
        by_cases c : T + s.2.2 ≤ 8192
        · rw [if_pos c]
          refine rdSq_ok hB hL (fun s' hs' => ?_) ?_ c
          · rcases List.mem_append.1 hs' with w | w
            · exact hA s' w
            · rw [List.mem_singleton.1 w]
              exact ⟨ok.1, ok.2.1, ok.2.2.1, by omega⟩
          · rw [List.length_append]
            show A.length + 1 ≤ _
            omega
        · rw [if_neg c]; exact ⟨hA, Nat.le_trans hT hT2⟩
    · exact ⟨hA, Nat.le_trans hT hT2⟩
theorem nsp_ok {B L : List Nat} {cA cE : Nat → Nat} (hB : ∀ b ∈ B, b < 256) (hL : ∀ a ∈ L, a < 256) : (∀ s, s ∈ (nsp B L cA cE).2 → spOk s) ∧ (nsp B L cA cE).2.length ≤ 8192 := rdSq_ok hB hL (fun s hs => by cases hs) (Nat.zero_le _) (by decide)
/-- the parents -/
def prOk (x : Nat × Nat) : Prop := x.1 < 256 ∧ x.2 < 4294967296
theorem prX_ok {B : List Nat} {q n : Nat} (hB : ∀ b ∈ B, b < 256) : ∀ {k : Nat} {M : List (Nat × Nat)} {p : Nat}, (∀ x, x ∈ M → x.1 < n ∧ x.2 < 2147483648) → p ≤ q → (∀ x, x ∈ (prX B q n k M p).2.1 → x.1 < n ∧ x.2 < 2147483648) ∧ (prX B q n k M p).2.1.length + p ≤ M.length + q ∧ ((prX B q n k M p).1 = true → (prX B q n k M p).2.1.length + p ≤ M.length + (prX B q n k M p).2.2 ∧ (prX B q n k M p).2.2 ≤ q)
  | 0, M, p, hM, hp => ⟨hM, by show M.length + p ≤ M.length + q; omega, fun _ => ⟨Nat.le_refl _, hp⟩⟩
  | k + 1, M, p, hM, hp => by
    have no : (∀ x, x ∈ M → x.1 < n ∧ x.2 < 2147483648) ∧ M.length + p ≤ M.length + q ∧ ((false : Bool) = true → M.length + p ≤ M.length + p ∧ p ≤ q) := ⟨hM, by omega, fun h => by cases h⟩
    cases h1 : (vint B q p).1 with
    | none => rw [prX_1 h1]; exact no
    | some a =>
      by_cases hn : a < n
      · cases h2 : (vint B q (vint B q p).2).1 with
        | none => rw [prX_3 h1 h2]; exact no
        | some b =>
          rw [prX_4 h1 hn h2]
          have g1 := vint_gt h1
          have g2 := vint_gt h2
          have ih := prX_ok (q := q) (n := n) hB (k := k) (M := M ++ [(a, b)]) (p := (vint B q (vint B q p).2).2) (fun x hx => by
            rcases List.mem_append.1 hx with w | w
            · exact hM x w
            · rw [List.mem_singleton.1 w]
              exact ⟨hn, vint_lt hB h2⟩) g2.2
          have el : (M ++ [(a, b)]).length = M.length + 1 := by rw [List.length_append]; rfl
          rw [el] at ih
          refine ⟨ih.1, by have := ih.2.1; omega, fun h => ?_⟩
          have := ih.2.2 h
          omega
      · rw [prX_2 h1 hn]; exact no
theorem rdPq_ok {B L : List Nat} {q p0 : Nat} {A : List SpR} (hB : ∀ b ∈ B, b < 256) (hL : ∀ a ∈ L, a < 256) (hA : ∀ s, s ∈ A → spOk s) : ∀ {k p : Nat} {D : List (List (Nat × Nat))}, (∀ P, P ∈ D → ∀ x, x ∈ P → prOk x) → D.length + k = A.length → D.flatten.length + p0 ≤ p → p ≤ q → (∀ P, P ∈ (rdPq B L q A k p D).2.1 → ∀ x, x ∈ P → prOk x) ∧ (rdPq B L q A k p D).2.1.flatten.length + p0 ≤ q ∧ ((rdPq B L q A k p D).1 = true → (rdPq B L q A k p D).2.1.length = A.length)
  | 0, p, D, hD, hl, hf, hp => ⟨hD, by show D.flatten.length + p0 ≤ q; omega, fun _ => by show D.length = A.length; omega⟩
  | k + 1, p, D, hD, hl, hf, hp => by
    have no : (∀ P, P ∈ D → ∀ x, x ∈ P → prOk x) ∧ D.flatten.length + p0 ≤ q ∧ ((false : Bool) = true → D.length = A.length) := ⟨hD, by omega, fun h => by cases h⟩
    cases h1 : (vint B q p).1 with
    | none => rw [rdPq_1 h1]; exact no
    | some c =>
      have g1 := vint_gt h1
      by_cases c0 : c = 0
      · subst c0
        by_cases d0 : D.length = 0
        · rw [rdPq_2 h1 d0]; exact no
        · rw [rdPq_3 h1 d0]
          have hj : D.length - 1 < A.length := by omega
          have hm : A.getD (D.length - 1) (0, 0, 0) ∈ A := by
            rw [List.getD_eq_getElem?_getD, List.getElem?_eq_getElem hj]
            exact List.getElem_mem hj
          have ok := hA _ hm
          refine rdPq_ok hB hL hA (fun P hP x hx => ?_) (by rw [List.length_append]; show D.length + 1 + k = _; omega) (by rw [fl_1, List.length_append]; show D.flatten.length + 1 + p0 ≤ _; omega) g1.2
          rcases List.mem_append.1 hP with w | w
          · exact hD P w x hx
          · rw [List.mem_singleton.1 w] at hx
            rw [List.mem_singleton.1 hx]
            exact ⟨ok.1, by show (A.getD (D.length - 1) (0, 0, 0)).2.1 + (A.getD (D.length - 1) (0, 0, 0)).2.2 - 1 < 4294967296; have := ok.2.1; have := ok.2.2.2; omega⟩
      · rw [rdPq_4 h1 c0]
        have px := prX_ok (q := q) (n := L.length) hB (k := c - 1) (M := []) (p := (vint B q p).2) (fun x hx => by cases hx) g1.2
        generalize prX B q L.length (c - 1) [] (vint B q p).2 = X at px ⊢
        have hD2 : ∀ P, P ∈ D ++ [rsv L X.2.1] → ∀ x, x ∈ P → prOk x := fun P hP x hx => by
          rcases List.mem_append.1 hP with w | w
          · exact hD P w x hx
          · rw [List.mem_singleton.1 w] at hx
            obtain ⟨y, y1, rfl⟩ := List.mem_map.1 hx
            have ya := px.1 y y1
            refine ⟨hL _ ?_, by show y.2 < 4294967296; omega⟩
            rw [List.getD_eq_getElem?_getD, List.getElem?_eq_getElem ya.1]
            exact List.getElem_mem ya.1
        have lx : (rsv L X.2.1).length = X.2.1.length := List.length_map _
        have px2 : X.2.1.length + (vint B q p).2 ≤ q := by have := px.2.1; rw [List.length_nil] at this; omega
        unfold rpE
        by_cases x1 : X.1 = true
        · rw [if_pos x1]
          have px3 := px.2.2 x1
          rw [List.length_nil] at px3
          exact rdPq_ok hB hL hA hD2 (by rw [List.length_append]; show D.length + 1 + k = _; omega) (by rw [fl_1, List.length_append, lx]; omega) px3.2
        · rw [if_neg x1]
          exact ⟨hD2, by show (D ++ [rsv L X.2.1]).flatten.length + p0 ≤ q; rw [fl_1, List.length_append, lx]; omega, fun h => by cases h⟩
theorem npa_ok {B L : List Nat} {cA cE : Nat → Nat} {A : List SpR} (hB : ∀ b ∈ B, b < 256) (hL : ∀ a ∈ L, a < 256) (hA : ∀ s, s ∈ A → spOk s) (hc : cA 2 ≤ cE 2) (hq : cE 2 ≤ 32768) : (∀ P, P ∈ (npa B L cA cE A).2.1 → ∀ x, x ∈ P → prOk x) ∧ (npa B L cA cE A).2.1.flatten.length ≤ 32768 ∧ ((npa B L cA cE A).1 = true → (npa B L cA cE A).2.1.length = A.length) := by
  have := rdPq_ok (q := cE 2) (p0 := cA 2) hB hL hA (k := A.length) (p := cA 2) (D := []) (fun P hP => by cases hP) (Nat.zero_add _) (Nat.le_of_eq (Nat.zero_add _)) hc
  exact ⟨this.1, by have := this.2.1; unfold npa; omega, this.2.2⟩
/-- the operations -/
def opOk (A : List SpR) (O : List (Nat × Int)) : Prop := ∀ j, j < O.length → (O.getD j (0, 0)).1 < 3 ∧ 0 ≤ (O.getD j (0, 0)).2 ∧ (O.getD j (0, 0)).2 ≤ 1073750016 * ((j : Int) + 1) ∧ ((O.getD j (0, 0)).1 = 2 → ((A.getD j (0, 0, 0)).2.2 : Int) ≤ (O.getD j (0, 0)).2 + 1)
def insA (A : List SpR) (O : List (Nat × Int)) : Nat → Nat
  | 0 => 0
  | n + 1 => insA A O n + if (O.getD n (0, 0)).1 = 0 then (A.getD n (0, 0, 0)).2.2 else 0
theorem insA_app {A : List SpR} {O : List (Nat × Int)} {x : Nat × Int} : ∀ {n : Nat}, n ≤ O.length → insA A (O ++ [x]) n = insA A O n
  | 0, _ => rfl
  | n + 1, h => by
    rw [insA, insA, insA_app (by omega), List.getD_eq_getElem?_getD, List.getElem?_append_left (by omega), ← List.getD_eq_getElem?_getD]
theorem insL_A {A : List SpR} {O : List (Nat × Int)} : ∀ {r s : Nat}, insA A O s + insL A O r s = insA A O (s + r)
  | 0, s => rfl
  | r + 1, s => by
    have := insL_A (A := A) (O := O) (r := r) (s := s + 1)
    rw [insA] at this
    rw [insL, show s + (r + 1) = s + 1 + r by omega]
    omega
theorem rdO_k {B : List Nat} {q p z : Nat} {e : Int} {x : Nat × Int × Int × Nat} (h : rdO B q p z e = some x) : x.1 < 3 ∧ 0 ≤ x.2.1 ∧ 0 ≤ x.2.1 + opS x.1 * ((z : Int) - 1) ∧ p < x.2.2.2 ∧ x.2.2.2 ≤ q := by
  cases ev : (vint B q p).1 with
  | none => rw [rdO_1 ev] at h; cases h
  | some c =>
    have g := vint_gt ev
    by_cases hn : 0 ≤ e + zz c ∧ 0 ≤ e + zz c + opS (c % 3) * ((z : Int) - 1)
    · rw [rdO_3 ev hn] at h
      injection h with h
      subst h
      exact ⟨Nat.mod_lt _ (by decide), hn.1, hn.2, g.1, g.2⟩
    · rw [rdO_2 ev hn] at h; cases h
theorem rdOq_ok {B : List Nat} {q : Nat} {A : List SpR} (hB : ∀ b ∈ B, b < 256) (hA : ∀ s, s ∈ A → spOk s) : ∀ {k p : Nat} {e : Int} {I : Nat} {D : List (Nat × Int)} {x : List (Nat × Int) × Nat × Nat}, opOk A D → D.length + k = A.length → -(1073750016 * (D.length : Int)) ≤ e → e ≤ 1073750016 * (D.length : Int) → I = insA A D D.length → rdOq B q A k p e I D = some x → opOk A x.1 ∧ x.1.length = A.length ∧ x.2.1 = insA A x.1 A.length
  | 0, p, e, I, D, x, hD, hl, h1, h2, hI, h => by
    rw [rdOq] at h
    injection h with h
    subst h
    have : D.length = A.length := by omega
    exact ⟨hD, this, by show I = insA A D A.length; rw [hI, this]⟩
  | k + 1, p, e, I, D, x, hD, hl, h1, h2, hI, h => by
    have hj : D.length < A.length := by omega
    have hm : A.getD D.length (0, 0, 0) ∈ A := by
      rw [List.getD_eq_getElem?_getD, List.getElem?_eq_getElem hj]
      exact List.getElem_mem hj
    have ok := hA _ hm
    cases ho : rdO B q p (A.getD D.length (0, 0, 0)).2.2 e with
    | none => rw [rdOq_1 ho] at h; cases h
    | some y =>
      rw [rdOq_2 ho] at h
      have hk := rdO_k ho
      obtain ⟨kd, i, e', p'⟩ := y
      have hb := rdO_b hB ho
      have el : (D ++ [(kd, i)]).length = D.length + 1 := by rw [List.length_append]; rfl
      have hk3 : kd < 3 := hk.1
      have hi0 : 0 ≤ i := hk.2.1
      have hi1 : 0 ≤ i + opS kd * (((A.getD D.length (0, 0, 0)).2.2 : Int) - 1) := hk.2.2.1
      have ob : -8192 ≤ opS kd * ((A.getD D.length (0, 0, 0)).2.2 : Int) ∧ opS kd * ((A.getD D.length (0, 0, 0)).2.2 : Int) ≤ 8192 := by
        have := ok.2.2.2
        rcases opS_b kd with w | w | w <;> rw [w] <;> omega
      have he' : e' = i + opS kd * ((A.getD D.length (0, 0, 0)).2.2 : Int) := hb.1
      refine rdOq_ok hB hA (k := k) (p := p') (e := e') (I := I + if kd = 0 then (A.getD D.length (0, 0, 0)).2.2 else 0) (D := D ++ [(kd, i)]) (fun j hj9 => ?_) (by rw [el]; omega) (by rw [el, he']; omega) (by rw [el, he']; omega) ?_ h
      · rw [el] at hj9
        by_cases c : j = D.length
        · subst c
          rw [List.getD_eq_getElem?_getD, List.getElem?_append_right (Nat.le_refl _), Nat.sub_self]
          refine ⟨hk3, hi0, by show i ≤ _; omega, fun k2 => ?_⟩
          have k2 : kd = 2 := k2
          have e9 : opS kd = -1 := by unfold opS; rw [if_neg (by omega), if_neg (by omega)]
          rw [e9] at hi1
          show ((A.getD D.length (0, 0, 0)).2.2 : Int) ≤ i + 1
          omega
        · rw [List.getD_eq_getElem?_getD, List.getElem?_append_left (by omega), ← List.getD_eq_getElem?_getD]
          exact hD j (by omega)
      · have eg : (D ++ [(kd, i)]).getD D.length (0, 0) = (kd, i) := by
          rw [List.getD_eq_getElem?_getD, List.getElem?_append_right (Nat.le_refl _), Nat.sub_self]; rfl
        rw [el, insA, insA_app (Nat.le_refl _), ← hI, eg]
theorem nop_ok {B : List Nat} {cA cE : Nat → Nat} {A : List SpR} {x : List (Nat × Int) × Nat × Nat} (hB : ∀ b ∈ B, b < 256) (hA : ∀ s, s ∈ A → spOk s) (h : nop B cA cE A = some x) : opOk A x.1 ∧ x.1.length = A.length ∧ x.2.1 = insL A x.1 A.length 0 := by
  have := rdOq_ok (q := cE 3) hB hA (k := A.length) (p := cA 3) (e := 0) (I := 0) (D := []) (fun j hj => absurd hj (Nat.not_lt_zero j)) (Nat.zero_add _) (Int.le_refl _) (Int.le_refl _) rfl h
  refine ⟨this.1, this.2.1, this.2.2.trans ?_⟩
  have e := insL_A (A := A) (O := x.1) (r := A.length) (s := 0)
  rw [Nat.zero_add] at e
  rw [← e]
  exact Nat.zero_add _
/-- all is within bounds -/
theorem dtB_of {B L : List Nat} {cA cE : Nat → Nat} {x : List (Nat × Int) × Nat × Nat} {SY : List Int32} (hB : ∀ b ∈ B, b < 256) (hL : ∀ a ∈ L, a < 256) (hc : cA 2 ≤ cE 2) (hq : cE 2 ≤ 32768) (h2 : (npa B L cA cE (nsp B L cA cE).2).1 = true) (h3 : nop B cA cE (nsp B L cA cE).2 = some x) (hS : ∀ c, c ∈ SY → ∃ y, c = nI y ∧ y < 2000000) (hI : x.2.1 = SY.length) : dtB (nsp B L cA cE).2 (npa B L cA cE (nsp B L cA cE).2).2.1 x.1 SY := by
  obtain ⟨a1, a2⟩ := nsp_ok (cA := cA) (cE := cE) hB hL
  obtain ⟨b1, b2, b3⟩ := npa_ok (A := (nsp B L cA cE).2) hB hL a1 hc hq
  obtain ⟨c1, c2, c3⟩ := nop_ok hB a1 h3
  refine ⟨b3 h2, c2, fun s hs => a1 s hs, b1, b2, fun j hj => ?_, hS, c3.symm.trans hI⟩
  obtain ⟨o1, o2, o3, o4⟩ := c1 j (by omega)
  exact ⟨o1, o2, by omega, o4⟩
/-- what is unpacked: bytes, at most 32768 -/
theorem upkF_ok {B : List Nat} {q tt : Nat} (hB : ∀ b ∈ B, b < 256) : ∀ {t : Nat} {R : List Nat} {p : Nat}, (∀ x ∈ R, x < 256) → R.length ≤ tt → (∀ x ∈ (upkF B q tt t R p).2.1, x < 256) ∧ (upkF B q tt t R p).2.1.length ≤ tt
  | 0, R, p, h1, h2 => ⟨h1, h2⟩
  | t + 1, R, p, h1, h2 => by
    unfold upkF
    split
    · exact ⟨h1, h2⟩
    · split
      · exact ⟨h1, h2⟩
      · rename_i v _
        split
        · exact ⟨h1, h2⟩
        · rename_i hv
          split
          · split
            · refine upkF_ok hB (fun x hx => ?_) ?_
              · rcases List.mem_append.1 hx with w | w
                · exact h1 x w
                · exact slc_lt hB _ _ x w
              · rw [List.length_append, slc_len]; omega
            · exact ⟨h1, h2⟩
          · split
            · exact ⟨h1, h2⟩
            · split
              · refine upkF_ok hB (fun x hx => ?_) ?_
                · rcases List.mem_append.1 hx with w | w
                  · exact h1 x w
                  · exact repW_lt h1 _ x w
                · rw [List.length_append, repW_len]; omega
              · exact ⟨h1, h2⟩
theorem upk_ok {B : List Nat} (hB : ∀ b ∈ B, b < 256) (q p : Nat) : (∀ x ∈ (upk B q p).2.1, x < 256) ∧ (upk B q p).2.1.length ≤ 32768 := by
  unfold upk
  split
  · exact ⟨fun x hx => (by cases hx), Nat.zero_le _⟩
  · split
    · rename_i tt _ h
      have := upkF_ok (q := q) (tt := tt) hB (t := tt + 1) (R := []) (p := (vint B q p).2) (fun x hx => (by cases hx)) (Nat.zero_le _)
      exact ⟨this.1, Nat.le_trans this.2 h⟩
    · exact ⟨fun x hx => (by cases hx), Nat.zero_le _⟩
