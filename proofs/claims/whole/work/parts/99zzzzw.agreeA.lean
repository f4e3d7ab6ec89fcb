/-! ===== Agreement: reading a patch ===== -/
def sp3 (s : SpT) : SpR := (s.1, s.2.1, s.2.2.1)
def op2 (s : SpT) : Nat × Int := (s.2.2.2.2.2.2.1, s.2.2.2.2.2.2.2)
/-- spans read one behind another -/
def Chn (B L : List Nat) (qs qp qo : Nat) : RdT → List SpT → RdT → Prop
  | st, [], st' => st' = st
  | st, s :: A, st' => ∃ st1, rdS B L qs qp qo st = some (s, st1) ∧ Chn B L qs qp qo st1 A st'
def SpC (B L : List Nat) (q : Nat) : Nat → List SpR → Nat → Prop
  | p, [], p' => p' = p
  | p, s :: A, p' => ∃ p1, rd1 B L q p = some (s, p1) ∧ SpC B L q p1 A p'
def sz3 : List SpR → Nat
  | [] => 0
  | s :: A => s.2.2 + sz3 A
/-- the first span has parents of its own -/
def hd0 : List SpT → Prop
  | [] => True
  | s :: _ => s.2.2.2.1 ≠ 0
def prF (L : List Nat) (AA : List SpR) (s : SpT) (j : Nat) : List (Nat × Nat) := if s.2.2.2.1 = 0 then [pvS AA j] else rsv L s.2.2.2.2.1
def pas (L : List Nat) (AA : List SpR) : Nat → List SpT → List (List (Nat × Nat))
  | _, [] => []
  | j, s :: A => prF L AA s j :: pas L AA (j + 1) A
section RDC
variable {B L : List Nat} {qs qp qo : Nat}
theorem rd1_of {q p a nu w : Nat} (h1 : (vint B q p).1 = some a) (h2 : (vint B q (vint B q p).2).1 = some nu) (h3 : (vint B q (vint B q (vint B q p).2).2).1 = some w) (hn : a < L.length ∧ 1 ≤ w) : rd1 B L q p = some ((L.getD a 0, nu, w), (vint B q (vint B q (vint B q p).2).2).2) := by
  unfold rd1
  rw [h1, h2, h3]
  exact (if_pos hn.1).trans (if_pos hn.2)
theorem rd1_in {q p : Nat} {s : SpR} {p' : Nat} (h : rd1 B L q p = some (s, p')) : ∃ a nu w, (vint B q p).1 = some a ∧ (vint B q (vint B q p).2).1 = some nu ∧ (vint B q (vint B q (vint B q p).2).2).1 = some w ∧ a < L.length ∧ 1 ≤ w ∧ s = (L.getD a 0, nu, w) ∧ p' = (vint B q (vint B q (vint B q p).2).2).2 := by
  unfold rd1 at h
  cases h1 : (vint B q p).1 with
  | none => rw [h1] at h; cases h
  | some a =>
    rw [h1] at h
    have h : (if a < L.length then (vint B q (vint B q p).2).1.bind fun nu => (vint B q (vint B q (vint B q p).2).2).1.bind fun w => if 1 ≤ w then some ((L.getD a 0, nu, w), (vint B q (vint B q (vint B q p).2).2).2) else none else none) = some (s, p') := h
    by_cases c : a < L.length
    · rw [if_pos c] at h
      cases h2 : (vint B q (vint B q p).2).1 with
      | none => rw [h2] at h; cases h
      | some nu =>
        cases h3 : (vint B q (vint B q (vint B q p).2).2).1 with
        | none => rw [h2, h3] at h; cases h
        | some w =>
          rw [h2, h3] at h
          have h : (if 1 ≤ w then some ((L.getD a 0, nu, w), (vint B q (vint B q (vint B q p).2).2).2) else none) = some (s, p') := h
          by_cases c2 : 1 ≤ w
          · rw [if_pos c2] at h
            injection h with h
            injection h with e1 e2
            exact ⟨a, nu, w, rfl, rfl, rfl, c, c2, e1.symm, e2.symm⟩
          · rw [if_neg c2] at h; cases h
    · rw [if_neg c] at h; cases h
theorem rd1_gt {q p : Nat} {s : SpR} {p' : Nat} (h : rd1 B L q p = some (s, p')) : p < q ∧ p' ≤ q ∧ 1 ≤ s.2.2 := by
  obtain ⟨a, nu, w, h1, h2, h3, h4, h5, rfl, rfl⟩ := rd1_in h
  have g1 := vint_gt h1
  have g3 := vint_gt h3
  exact ⟨by omega, g3.2, h5⟩
/-- a span, column by column -/
theorem rdS_in {st st' : RdT} {s : SpT} (h : rdS B L qs qp qo st = some (s, st')) : rd1 B L qs st.1 = some (sp3 s, st'.1) ∧ rdP B L.length qp st.2.1 = some (s.2.2.2.1, s.2.2.2.2.1, st'.2.1) ∧ rdO B qo st.2.2.1 s.2.2.1 st.2.2.2 = some (s.2.2.2.2.2.2.1, s.2.2.2.2.2.2.2, st'.2.2.2, st'.2.2.1) := by
  cases h1 : (vint B qs st.1).1 with
  | none => rw [rdS_1 h1] at h; cases h
  | some a =>
    cases h2 : (vint B qs (vint B qs st.1).2).1 with
    | none => rw [rdS_2 h2] at h; cases h
    | some nu =>
      cases h3 : (vint B qs (vint B qs (vint B qs st.1).2).2).1 with
      | none => rw [rdS_3 h3] at h; cases h
      | some z =>
        by_cases hn : a < L.length ∧ 1 ≤ z
        · rw [rdS_5 h1 h2 h3 hn] at h
          cases hP : rdP B L.length qp st.2.1 with
          | none => rw [hP] at h; cases h
          | some P =>
            rw [hP] at h
            have h : ((rdO B qo st.2.2.1 z st.2.2.2).bind fun O => some ((L.getD a 0, nu, z, P.1, P.2.1, (vint B qp st.2.1).2, O.1, O.2.1), ((vint B qs (vint B qs (vint B qs st.1).2).2).2, P.2.2, O.2.2.2, O.2.2.1))) = some (s, st') := h
            cases hO : rdO B qo st.2.2.1 z st.2.2.2 with
            | none => rw [hO] at h; cases h
            | some O =>
              rw [hO] at h
              have h : some ((L.getD a 0, nu, z, P.1, P.2.1, (vint B qp st.2.1).2, O.1, O.2.1), ((vint B qs (vint B qs (vint B qs st.1).2).2).2, P.2.2, O.2.2.2, O.2.2.1)) = some (s, st') := h
              injection h with h
              injection h with e1 e2
              subst e1 e2
              exact ⟨rd1_of h1 h2 h3 hn, rfl, hO⟩
        · rw [rdS_4 h1 h2 h3 hn] at h; cases h
theorem rdS_of {p pp po : Nat} {e : Int} {s : SpR} {p' : Nat} {P : Nat × List (Nat × Nat) × Nat} {O : Nat × Int × Int × Nat} (h1 : rd1 B L qs p = some (s, p')) (h2 : rdP B L.length qp pp = some P) (h3 : rdO B qo po s.2.2 e = some O) : rdS B L qs qp qo (p, pp, po, e) = some ((s.1, s.2.1, s.2.2, P.1, P.2.1, (vint B qp pp).2, O.1, O.2.1), (p', P.2.2, O.2.2.2, O.2.2.1)) := by
  obtain ⟨a, nu, w, k1, k2, k3, k4, k5, rfl, rfl⟩ := rd1_in h1
  rw [rdS_5 (st := (p, pp, po, e)) k1 k2 k3 ⟨k4, k5⟩]
  show (rdP B L.length qp pp).bind _ = _
  rw [h2]
  show (rdO B qo po w e).bind _ = _
  have h3 : rdO B qo po w e = some O := h3
  rw [h3]
  rfl
theorem rdL_ch {A2 : List SpT} {I2 : Nat} {st2 : RdT} : ∀ {f T I : Nat} {st : RdT} {A : List SpT}, T ≤ 8192 → rdL B L qs qp qo f T I st A = some (A2, I2, st2) → ∃ A1, A2 = A ++ A1 ∧ Chn B L qs qp qo st A1 st2 ∧ I2 = I + insN A1 ∧ T + sz3 (A1.map sp3) ≤ 8192 ∧ (T = 0 → hd0 A1)
  | 0, T, I, st, A, hT, h => by rw [rdL] at h; cases h
  | f + 1, T, I, st, A, hT, h => by
    by_cases c : T < 8192 ∧ st.1 < qs
    · cases h2 : rdS B L qs qp qo st with
      | none => rw [rdL_2 c h2] at h; cases h
      | some z =>
        obtain ⟨s, st'⟩ := z
        by_cases c3 : s.2.2.1 ≤ 8192 - T ∧ ¬ (T = 0 ∧ s.2.2.2.1 = 0)
        · rw [rdL_4 c h2 c3] at h
          obtain ⟨A1, e1, e2, e3, e4, e5⟩ := rdL_ch (by omega) h
          refine ⟨s :: A1, by rw [e1, List.append_assoc]; rfl, ⟨st', h2, e2⟩, by rw [e3, insN]; omega, ?_, fun t w => c3.2 ⟨t, w⟩⟩
          show T + (s.2.2.1 + sz3 (A1.map sp3)) ≤ 8192
          omega
        · rw [rdL_3 c h2 c3] at h; cases h
    · rw [rdL_1 c] at h
      injection h with h
      injection h with h1 h2
      injection h2 with h2 h3
      exact ⟨[], by rw [h1, List.append_nil], h3.symm, h2.symm, hT, fun _ => trivial⟩
theorem ch_rdL {st2 : RdT} (hq : qs ≤ st2.1) : ∀ {A1 : List SpT} {f T I : Nat} {st : RdT} {A : List SpT}, Chn B L qs qp qo st A1 st2 → T + sz3 (A1.map sp3) ≤ 8192 → (T = 0 → hd0 A1) → A1.length < f → rdL B L qs qp qo f T I st A = some (A ++ A1, I + insN A1, st2)
  | [], 0, T, I, st, A, h, hT, h0, hf => absurd hf (Nat.not_lt_zero _)
  | [], f + 1, T, I, st, A, h, hT, h0, hf => by
    have h : st2 = st := h
    subst h
    rw [rdL_1 (fun c => by omega), List.append_nil]; rfl
  | s :: A1, 0, T, I, st, A, h, hT, h0, hf => absurd hf (Nat.not_lt_zero _)
  | s :: A1, f + 1, T, I, st, A, h, hT, h0, hf => by
    obtain ⟨st1, h1, h2⟩ := h
    have g := rd1_gt (rdS_in h1).1
    have g3 : 1 ≤ s.2.2.1 := g.2.2
    have hT : T + (s.2.2.1 + sz3 (A1.map sp3)) ≤ 8192 := hT
    have hf : A1.length + 1 < f + 1 := hf
    rw [rdL_4 ⟨by omega, g.1⟩ h1 ⟨by omega, fun w => h0 w.1 w.2⟩, ch_rdL hq h2 (by omega) (fun w => by omega) (by omega), List.append_assoc, insN, Nat.add_assoc]
    rfl
theorem ch_sp {st2 : RdT} (hq : qs ≤ st2.1) : ∀ {A1 : List SpT} {f T : Nat} {st : RdT} {A : List SpR}, Chn B L qs qp qo st A1 st2 → T + sz3 (A1.map sp3) ≤ 8192 → A1.length < f → rdSq B L qs f T st.1 A = (true, A ++ A1.map sp3)
  | [], 0, T, st, A, h, hT, hf => absurd hf (Nat.not_lt_zero _)
  | [], f + 1, T, st, A, h, hT, hf => by
    have h : st2 = st := h
    subst h
    rw [rdSq, if_neg (by omega), List.map_nil, List.append_nil]
  | s :: A1, 0, T, st, A, h, hT, hf => absurd hf (Nat.not_lt_zero _)
  | s :: A1, f + 1, T, st, A, h, hT, hf => by
    obtain ⟨st1, h1, h2⟩ := h
    have h3 := (rdS_in h1).1
    have g := rd1_gt h3
    have hT : T + (s.2.2.1 + sz3 (A1.map sp3)) ≤ 8192 := hT
    have hf : A1.length + 1 < f + 1 := hf
    have c2 : T + (sp3 s).2.2 ≤ 8192 := by show T + s.2.2.1 ≤ 8192; omega
    rw [rdSq, if_pos g.1, h3]
    refine (if_pos c2).trans ?_
    rw [ch_sp hq (T := T + (sp3 s).2.2) h2 (by show T + s.2.2.1 + sz3 (A1.map sp3) ≤ 8192; omega) (by omega), List.append_assoc]; rfl
theorem sp_ch {q : Nat} {A2 : List SpR} : ∀ {f T p : Nat} {A : List SpR}, T ≤ 8192 → rdSq B L q f T p A = (true, A2) → ∃ A1 p2, A2 = A ++ A1 ∧ SpC B L q p A1 p2 ∧ q ≤ p2 ∧ T + sz3 A1 ≤ 8192 ∧ A1.length < f
  | 0, T, p, A, hT, h => by rw [rdSq] at h; cases h
  | f + 1, T, p, A, hT, h => by
    rw [rdSq] at h
    by_cases c : p < q
    · rw [if_pos c] at h
      cases h2 : rd1 B L q p with
      | none => rw [h2] at h; cases h
      | some z =>
        obtain ⟨s, p'⟩ := z
        rw [h2] at h
        have h : (if T + s.2.2 ≤ 8192 then rdSq B L q f (T + s.2.2) p' (A ++ [s]) else (false, A)) = (true, A2) := h
        by_cases c3 : T + s.2.2 ≤ 8192
        · rw [if_pos c3] at h
          obtain ⟨A1, p2, e1, e2, e3, e4, e5⟩ := sp_ch c3 h
          exact ⟨s :: A1, p2, by rw [e1, List.append_assoc]; rfl, ⟨p', h2, e2⟩, e3, by show T + (s.2.2 + sz3 A1) ≤ 8192; omega, by show A1.length + 1 < f + 1; omega⟩
        · rw [if_neg c3] at h; cases h
    · rw [if_neg c] at h
      injection h with _ h1
      exact ⟨[], p, by rw [← h1, List.append_nil], rfl, by omega, hT, Nat.succ_pos _⟩
theorem prX_of {q n k p : Nat} {M P : List (Nat × Nat)} {p' : Nat} (h : prR B q n k M p = some (P, p')) : (prX B q n k M p).1 = true ∧ (prX B q n k M p).2 = (P, p') := by
  rw [prX_R] at h
  by_cases c : (prX B q n k M p).1 = true
  · rw [if_pos c] at h
    injection h with h
    exact ⟨c, h⟩
  · rw [if_neg c] at h; cases h
theorem ch_pa {AA : List SpR} {st2 : RdT} : ∀ {A1 : List SpT} {st : RdT} {D : List (List (Nat × Nat))}, Chn B L qs qp qo st A1 st2 → (D.length = 0 → hd0 A1) → rdPq B L qp AA A1.length st.2.1 D = (true, D ++ pas L AA D.length A1, st2.2.1)
  | [], st, D, h, h0 => by
    have h : st2 = st := h
    subst h
    show (true, D, st2.2.1) = (true, D ++ [], st2.2.1)
    rw [List.append_nil]
  | s :: A1, st, D, h, h0 => by
    obtain ⟨st1, h1, h2⟩ := h
    obtain ⟨v1, v2⟩ := rdP_pr (rdS_in h1).2.1
    have ih := fun W => ch_pa (AA := AA) (D := D ++ [W]) h2 (fun w => by rw [List.length_append] at w; exact absurd w (Nat.succ_ne_zero _))
    have el : ∀ W : List (Nat × Nat), (D ++ [W]).length = D.length + 1 := fun W => by rw [List.length_append]; rfl
    show rdPq B L qp AA (A1.length + 1) st.2.1 D = (true, D ++ prF L AA s D.length :: pas L AA (D.length + 1) A1, st2.2.1)
    by_cases c : s.2.2.2.1 = 0
    · rw [c] at v1 v2
      have v2 : some (([] : List (Nat × Nat)), (vint B qp st.2.1).2) = some (s.2.2.2.2.1, st1.2.1) := v2
      injection v2 with v2
      injection v2 with _ v2
      rw [rdPq_3 v1 (fun w => h0 w c), v2, ih, el, prF, if_pos c, List.append_assoc]; rfl
    · obtain ⟨p1, p2⟩ := prX_of v2
      rw [rdPq_4 v1 c, rpE, if_pos p1, p2]
      show rdPq B L qp AA A1.length st1.2.1 (D ++ [rsv L s.2.2.2.2.1]) = _
      rw [ih, el, prF, if_neg c, List.append_assoc]; rfl
theorem drop_g {α : Type} {d : α} {AA A1 : List α} {s : α} {n : Nat} (h : AA.drop n = s :: A1) : AA.getD n d = s ∧ AA.drop (n + 1) = A1 := by
  have e : AA[n]? = some s := by
    have := congrArg (fun l => l[0]?) h
    rw [List.getElem?_drop] at this
    exact this
  refine ⟨by rw [List.getD_eq_getElem?_getD, e]; rfl, ?_⟩
  have := congrArg (List.drop 1) h
  rw [List.drop_drop] at this
  exact this
theorem ch_op {AA : List SpR} {st2 : RdT} : ∀ {A1 : List SpT} {st : RdT} {I : Nat} {D : List (Nat × Int)}, Chn B L qs qp qo st A1 st2 → AA.drop D.length = A1.map sp3 → rdOq B qo AA A1.length st.2.2.1 st.2.2.2 I D = some (D ++ A1.map op2, I + insN A1, st2.2.2.1)
  | [], st, I, D, h, hd => by
    have h : st2 = st := h
    subst h
    show some (D, I, st2.2.2.1) = some (D ++ [], I, st2.2.2.1)
    rw [List.append_nil]
  | s :: A1, st, I, D, h, hd => by
    obtain ⟨st1, h1, h2⟩ := h
    obtain ⟨d1, d2⟩ := drop_g (d := (0, 0, 0)) hd
    have o := (rdS_in h1).2.2
    have o' : rdO B qo st.2.2.1 (AA.getD D.length (0, 0, 0)).2.2 st.2.2.2 = some (s.2.2.2.2.2.2.1, s.2.2.2.2.2.2.2, st1.2.2.2, st1.2.2.1) := by rw [d1]; exact o
    show rdOq B qo AA (A1.length + 1) st.2.2.1 st.2.2.2 I D = _
    rw [rdOq_2 o', d1]
    have el : (D ++ [op2 s]).length = D.length + 1 := by rw [List.length_append]; rfl
    refine (ch_op (D := D ++ [op2 s]) h2 (by rw [el]; exact d2)).trans ?_
    rw [List.append_assoc, insN, Nat.add_assoc]
    rfl
theorem rdP_of {q p : Nat} {c : Nat} (h : (vint B q p).1 = some c) (hc : (prX B q L.length (c - 1) [] (vint B q p).2).1 = true) : rdP B L.length q p = some (c, (prX B q L.length (c - 1) [] (vint B q p).2).2.1, (prX B q L.length (c - 1) [] (vint B q p).2).2.2) := rdP_3 h (by rw [prX_R, if_pos hc])
theorem ch_of {AA : List SpR} {p2 pp2 : Nat} {D2 : List (List (Nat × Nat))} {x : List (Nat × Int) × Nat × Nat} : ∀ {A1 : List SpR} {p pp po : Nat} {e : Int} {I : Nat} {D : List (List (Nat × Nat))} {O : List (Nat × Int)}, SpC B L qs p A1 p2 → rdPq B L qp AA A1.length pp D = (true, D2, pp2) → rdOq B qo AA A1.length po e I O = some x → AA.drop O.length = A1 → D.length = O.length → ∃ A3 st2, Chn B L qs qp qo (p, pp, po, e) A3 st2 ∧ A3.map sp3 = A1 ∧ st2.1 = p2 ∧ st2.2.1 = pp2 ∧ st2.2.2.1 = x.2.2 ∧ (D.length = 0 → hd0 A3)
  | [], p, pp, po, e, I, D, O, h1, h2, h3, hd, hl => by
    have h1 : p2 = p := h1
    have h2 : (true, D, pp) = (true, D2, pp2) := h2
    have h3 : some (O, I, po) = some x := h3
    injection h2 with _ h2
    injection h2 with _ h2
    injection h3 with h3
    exact ⟨[], (p, pp, po, e), rfl, rfl, h1.symm, h2, by rw [← h3], fun _ => trivial⟩
  | s :: A1, p, pp, po, e, I, D, O, h1, h2, h3, hd, hl => by
    obtain ⟨p1, k1, k2⟩ := h1
    obtain ⟨d1, d2⟩ := drop_g (d := (0, 0, 0)) hd
    have h2 : rdPq B L qp AA (A1.length + 1) pp D = (true, D2, pp2) := h2
    have h3 : rdOq B qo AA (A1.length + 1) po e I O = some x := h3
    cases hO : rdO B qo po (AA.getD O.length (0, 0, 0)).2.2 e with
    | none => rw [rdOq_1 hO] at h3; cases h3
    | some o =>
      rw [rdOq_2 hO] at h3
      rw [d1] at hO h3
      have eo : (O ++ [(o.1, o.2.1)]).length = O.length + 1 := by rw [List.length_append]; rfl
      cases hv : (vint B qp pp).1 with
      | none => rw [rdPq_1 hv] at h2; cases h2
      | some c =>
        by_cases c0 : c = 0
        · subst c0
          by_cases z : D.length = 0
          · rw [rdPq_2 hv z] at h2; cases h2
          · rw [rdPq_3 hv z] at h2
            have ed : (D ++ [[pvS AA D.length]]).length = D.length + 1 := by rw [List.length_append]; rfl
            obtain ⟨A3, st2, e1, e2, e3, e4, e5, e6⟩ := ch_of k2 h2 h3 (by rw [eo]; exact d2) (by rw [ed, eo, hl])
            have hP : rdP B L.length qp pp = some (0, [], (vint B qp pp).2) := rdP_3 hv rfl
            refine ⟨_ :: A3, st2, ⟨_, rdS_of k1 hP hO, e1⟩, ?_, e3, e4, e5, fun w => absurd w z⟩
            rw [List.map_cons, e2]; rfl
        · rw [rdPq_4 hv c0, rpE] at h2
          by_cases cx : (prX B qp L.length (c - 1) [] (vint B qp pp).2).1 = true
          · rw [if_pos cx] at h2
            have ed : (D ++ [rsv L (prX B qp L.length (c - 1) [] (vint B qp pp).2).2.1]).length = D.length + 1 := by rw [List.length_append]; rfl
            obtain ⟨A3, st2, e1, e2, e3, e4, e5, e6⟩ := ch_of k2 h2 h3 (by rw [eo]; exact d2) (by rw [ed, eo, hl])
            refine ⟨_ :: A3, st2, ⟨_, rdS_of k1 (rdP_of hv cx) hO, e1⟩, ?_, e3, e4, e5, fun w => c0⟩
            rw [List.map_cons, e2]; rfl
          · rw [if_neg cx] at h2; cases h2
theorem ch_le (hB : ∀ b ∈ B, b < 256) {st2 : RdT} : ∀ {A1 : List SpT} {st : RdT}, Chn B L qs qp qo st A1 st2 → st.2.1 ≤ qp → st.2.2.1 ≤ qo → st2.2.1 ≤ qp ∧ st2.2.2.1 ≤ qo
  | [], st, h, h1, h2 => by
    have h : st2 = st := h
    subst h
    exact ⟨h1, h2⟩
  | s :: A1, st, h, h1, h2 => by
    obtain ⟨st1, k1, k2⟩ := h
    obtain ⟨-, p1, o1⟩ := rdS_in k1
    obtain ⟨v1, v2⟩ := rdP_pr p1
    obtain ⟨x1, x2⟩ := prX_of v2
    have y1 := (prX_ok (n := L.length) hB (k := s.2.2.2.1 - 1) (M := []) (p := (vint B qp st.2.1).2) (fun x hx => by cases hx) (vint_gt v1).2).2.2 x1
    rw [x2] at y1
    exact ch_le hB k2 y1.2 (rdO_k o1).2.2.2.2
theorem ch_len : ∀ {A1 : List SpT} {st st2 : RdT}, Chn B L qs qp qo st A1 st2 → A1.length ≤ sz3 (A1.map sp3)
  | [], st, st2, h => Nat.zero_le _
  | s :: A1, st, st2, h => by
    obtain ⟨st1, k1, k2⟩ := h
    have := ch_len k2
    have g : 1 ≤ s.2.2.1 := (rd1_gt (rdS_in k1).1).2.2
    show A1.length + 1 ≤ s.2.2.1 + sz3 (A1.map sp3)
    omega
/-- the class's spans are the reference's -/
theorem rd_fw (hB : ∀ b ∈ B, b < 256) {x y : Nat → Nat} (hx2 : x 2 ≤ y 2) (hx3 : x 3 ≤ y 3) {n : Nat} {AA : List SpT} (h : rdAll B L (y 1) (y 2) (y 3) (x 1) (x 2) (x 3) n = some AA) : nsp B L x y = (true, AA.map sp3) ∧ npa B L x y (AA.map sp3) = (true, pas L (AA.map sp3) 0 AA, y 2) ∧ nop B x y (AA.map sp3) = some (AA.map op2, n, y 3) ∧ hd0 AA ∧ (∀ s, s ∈ AA → 1 ≤ s.2.2.1) := by
  unfold rdAll at h
  cases hl : rdL B L (y 1) (y 2) (y 3) 8193 0 0 (x 1, x 2, x 3, 0) [] with
  | none => rw [hl] at h; cases h
  | some z =>
    obtain ⟨A2, I2, st2⟩ := z
    rw [hl] at h
    have h : (if y 1 ≤ st2.1 ∧ y 2 ≤ st2.2.1 ∧ y 3 ≤ st2.2.2.1 ∧ I2 = n then some A2 else none) = some AA := h
    by_cases c : y 1 ≤ st2.1 ∧ y 2 ≤ st2.2.1 ∧ y 3 ≤ st2.2.2.1 ∧ I2 = n
    · rw [if_pos c] at h
      injection h with h
      subst h
      obtain ⟨A1, e1, e2, e3, e4, e5⟩ := rdL_ch (Nat.zero_le _) hl
      have e1 : A2 = A1 := e1
      subst e1
      obtain ⟨l1, l2⟩ := ch_le hB e2 hx2 hx3
      have q2 : st2.2.1 = y 2 := Nat.le_antisymm l1 c.2.1
      have q3 : st2.2.2.1 = y 3 := Nat.le_antisymm l2 c.2.2.1
      have ln := ch_len e2
      refine ⟨ch_sp (A := []) c.1 e2 (by omega) (by omega), ?_, ?_, e5 rfl, ?_⟩
      · have := ch_pa (AA := A2.map sp3) (D := []) e2 (fun _ => e5 rfl)
        rw [q2] at this
        unfold npa
        rw [List.length_map]
        exact this
      · have := ch_op (AA := A2.map sp3) (D := []) (I := 0) e2 rfl
        rw [q3, ← e3, c.2.2.2] at this
        unfold nop
        rw [List.length_map]
        exact this
      · have key : ∀ {A1 : List SpT} {st : RdT}, Chn B L (y 1) (y 2) (y 3) st A1 st2 → ∀ s, s ∈ A1 → 1 ≤ s.2.2.1 := by
          intro A1
          induction A1 with
          | nil => intro st _ s hs; cases hs
          | cons a A ih =>
            intro st hc s hs
            obtain ⟨st1, k1, k2⟩ := hc
            rcases List.mem_cons.1 hs with rfl | hs
            · exact (rd1_gt (rdS_in k1).1).2.2
            · exact ih k2 s hs
        exact key e2
    · rw [if_neg c] at h; cases h
theorem rd_bw {x y : Nat → Nat} {n : Nat} {Ox : List (Nat × Int) × Nat × Nat} (h1 : (nsp B L x y).1 = true) (h2 : (npa B L x y (nsp B L x y).2).1 = true ∧ (npa B L x y (nsp B L x y).2).2.2 = y 2) (h3 : nop B x y (nsp B L x y).2 = some Ox) (h4 : Ox.2.2 = y 3) (h5 : Ox.2.1 = n) : ∃ AA, rdAll B L (y 1) (y 2) (y 3) (x 1) (x 2) (x 3) n = some AA := by
  obtain ⟨A1, p2, e1, e2, e3, e4, e5⟩ := sp_ch (A2 := (nsp B L x y).2) (B := B) (L := L) (q := y 1) (f := 8193) (T := 0) (p := x 1) (A := []) (Nat.zero_le _) (by rw [← h1]; rfl)
  have e1 : (nsp B L x y).2 = A1 := e1
  rw [e1] at h2 h3
  have g2 : rdPq B L (y 2) A1 A1.length (x 2) [] = (true, (npa B L x y A1).2.1, y 2) := by
    show npa B L x y A1 = _
    exact Prod.ext h2.1 (Prod.ext rfl h2.2)
  obtain ⟨A3, st2, f1, f2, f3, f4, f5, f6⟩ := ch_of (qs := y 1) (O := []) e2 g2 h3 rfl rfl
  have hq : y 1 ≤ st2.1 := by omega
  have ln : A3.length = A1.length := by rw [← f2, List.length_map]
  have r := ch_rdL (I := 0) (T := 0) (f := 8193) (A := []) hq f1 (by rw [f2]; exact e4) (fun _ => f6 rfl) (by omega)
  have o := ch_op (AA := A1) (D := []) (I := 0) f1 f2.symm
  rw [ln] at o
  have o2 : some Ox = some ([] ++ A3.map op2, 0 + insN A3, st2.2.2.1) := h3.symm.trans o
  injection o2 with o2
  refine ⟨A3, ?_⟩
  unfold rdAll
  rw [r]
  refine if_pos ⟨hq, Nat.le_of_eq f4.symm, Nat.le_of_eq (f5.trans h4).symm, ?_⟩
  rw [← h5, o2]
end RDC
