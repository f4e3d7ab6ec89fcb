/-! ===== Both sides agree: what is seen at a mark, what is found ===== -/
theorem vw_st {G : Gr} (hG : G.ok) {m k : Nat} (hk : k < G.n) : snW G (G.cnt m) (k + 1) = (stM G m k == 1) := by
  have hd := del_dls (G := G) (W := G.cnt m) (k := k) G.n
  have hh : G.has (G.cnt m) k = decide (k < m) := Gr.has_cnt hG hk
  have key : (stV G (G.cnt m) G.n k = 1) ↔ (k < m ∧ ∀ j, stk G k = some j → m ≤ j) := by
    unfold stV
    rw [hh]
    by_cases c : k < m
    · rw [if_pos (decide_eq_true c)]
      constructor
      · intro h
        refine ⟨c, fun j hj => ?_⟩
        have h1 := List.find?_some hj
        have h2 := List.mem_range.1 (List.mem_of_find?_eq_some hj)
        have h1 := of_decide_eq_true h1
        refine Nat.le_of_not_lt (fun q => ?_)
        rw [if_pos (hd.2 ⟨j, h2, h1, by rw [Gr.has_cnt hG h2]; exact decide_eq_true q⟩)] at h
        cases h
      · intro h
        rw [if_neg (fun w => ?_)]
        obtain ⟨j, j1, j2, j3⟩ := hd.1 w
        rw [Gr.has_cnt hG j1] at j3
        have j3 := of_decide_eq_true j3
        cases hs : stk G k with
        | none => exact absurd (decide_eq_true j2) (by
            have := List.find?_eq_none.1 hs j (List.mem_range.2 j1)
            exact this)
        | some i =>
          have hi := h.2 i hs
          have : i ≤ j := by
            refine Nat.le_of_not_lt (fun q => ?_)
            obtain ⟨as, bs, e, hn⟩ := (List.find?_eq_some_iff_append.1 hs).2
            have hm : j ∈ as := by
              have hl : as.length = i := by
                have e2 : (List.range G.n)[as.length]? = some i := by rw [e, List.getElem?_append_right (Nat.le_refl _), Nat.sub_self]; rfl
                have := List.getElem?_eq_some_iff.1 e2
                obtain ⟨w1, w2⟩ := this
                rw [List.getElem_range] at w2
                exact w2
              have e3 : (List.range G.n)[j]? = some j := List.getElem?_range j1
              rw [e, List.getElem?_append_left (by omega)] at e3
              exact List.mem_of_getElem? e3
            have := hn j hm
            rw [decide_eq_true j2] at this
            cases this
          omega
    · rw [if_neg (by rw [decide_eq_false c]; decide)]
      exact ⟨fun h => (by cases h), fun h => absurd h.1 c⟩
  rw [snW, Nat.add_sub_cancel, Bool.eq_iff_iff, decide_eq_true_eq, key, beq_iff_eq]
  unfold stM
  constructor
  · intro h; rw [if_pos h]
  · intro h
    refine Classical.byContradiction (fun q => ?_)
    rw [if_neg q] at h
    cases h
theorem vw_eq {G : Gr} {T : Tr} (hg : GT G T) (m : Nat) : vwR G (G.cnt m) T.od = vwG G m T.od := by
  unfold vwR vwG
  congr 1
  refine List.filter_congr (fun x hx => ?_)
  obtain ⟨k, rfl, hk, -⟩ := (hg.2.2.2.1 x).1 hx
  rw [vw_st hg.1 hk, Nat.add_sub_cancel]
theorem df_eq {G : Gr} {T : Tr} (hg : GT G T) (m1 m2 : Nat) : T.od.map (rfN G (G.cnt m1) (G.cnt m2)) = hpG G m1 m2 T.od := by
  unfold hpG
  refine List.map_congr_left (fun x hx => ?_)
  obtain ⟨k, rfl, hk, -⟩ := (hg.2.2.2.1 x).1 hx
  have one : ∀ m, (if snW G (G.cnt m) (k + 1) = true then 1 else 0) = stM G m k := fun m => by
    rw [vw_st hg.1 hk]
    rcases stM_01 (G := G) (m := m) (k := k) with e | e <;> rw [e] <;> rfl
  unfold rfN
  rw [one, one, Nat.add_sub_cancel]
theorem bgn_iff {B : List Nat} : ∀ {t q : Nat} {P T : List Int32}, symsF B t q = some P → B.length ≤ q + t → (bgn B T q = true ↔ P.length ≤ T.length ∧ ∀ i, i < P.length → T.getD i 0 = P.getD i 0) := by
  have triv : ∀ {q : Nat} {T : List Int32}, B.length ≤ q → (bgn B T q = true ↔ ([] : List Int32).length ≤ T.length ∧ ∀ i, i < ([] : List Int32).length → T.getD i 0 = ([] : List Int32).getD i 0) := fun {q T} h => by
    have e : bgn B T q = true := by
      cases T with
      | nil => exact decide_eq_true h
      | cons c T => rw [bgn, if_pos h]
    exact ⟨fun _ => ⟨Nat.zero_le _, fun i hi => absurd hi (Nat.not_lt_zero i)⟩, fun _ => e⟩
  intro t
  induction t with
  | zero =>
    intro q P T h hl
    rw [symsF] at h
    injection h with h
    subst h
    exact triv hl
  | succ t ih =>
    intro q P T h hl
    rw [symsF] at h
    by_cases c : q < B.length
    · rw [if_pos c] at h
      by_cases c2 : symAt B q = -1
      · rw [if_pos c2] at h; cases h
      · rw [if_neg c2] at h
        obtain ⟨P', h', rfl⟩ := Option.map_eq_some_iff.1 h
        have w1 := (wN_le (symAt B q)).1
        cases T with
        | nil =>
          refine ⟨fun e => ?_, fun e => ?_⟩
          · have := of_decide_eq_true e; omega
          · have := e.1; rw [List.length_cons, List.length_nil] at this; omega
        | cons d T =>
          rw [bgn, if_neg (by omega)]
          by_cases c3 : symAt B q = d
          · rw [if_pos c3, ← c3, ih h' (by omega)]
            constructor
            · intro ⟨a1, a2⟩
              refine ⟨Nat.succ_le_succ a1, fun i hi => ?_⟩
              cases i with
              | zero => rfl
              | succ i => exact a2 i (Nat.lt_of_succ_lt_succ hi)
            · intro ⟨a1, a2⟩
              exact ⟨Nat.le_of_succ_le_succ a1, fun i hi => a2 (i + 1) (Nat.succ_lt_succ hi)⟩
          · rw [if_neg c3]
            refine ⟨fun e => (by cases e), fun e => absurd (e.2 0 (Nat.zero_lt_succ _)) (fun w => c3 w.symm)⟩
    · rw [if_neg c] at h
      injection h with h
      subst h
      exact triv (by omega)
theorem fdV_uniq {W P : List Int32} {x : Nat} {v v' : Int32} (h : fdV W P x v) (h' : fdV W P x v') : v = v' := by
  rcases h with ⟨j, a1, a2, a3, a4, a5⟩ | ⟨a1, a2⟩ <;> rcases h' with ⟨j', b1, b2, b3, b4, b5⟩ | ⟨b1, b2⟩
  · rcases Nat.lt_trichotomy j j' with q | q | q
    · exact absurd a4 (b5 j a1 q a3)
    · rw [a2, b2, q]
    · exact absurd b4 (a5 j' b1 q b3)
  · exact absurd a4 (b2 j a1 (by omega) a3)
  · exact absurd b4 (a2 j' b1 (by omega) b3)
  · rw [a1, b1]
theorem srch_fd {B : List Nat} {P : List Int32} (hP : ∀ T, bgn B T 0 = true ↔ P.length ≤ T.length ∧ ∀ i, i < P.length → T.getD i 0 = P.getD i 0) (hne : P ≠ []) {f : Nat} : ∀ (T U : List Int32), fdN (U ++ T) P f U.length → fdV (U ++ T) P f (srch B f T U.length)
  | [], U, h => by
    have hl : 0 < P.length := List.length_pos_iff.2 hne
    refine Or.inr ⟨rfl, fun q a b c => ?_⟩
    refine h q a ?_ c
    rw [List.append_nil] at c
    omega
  | c :: T, U, h => by
    have mt : fdM (U ++ c :: T) P U.length ↔ ∀ i, i < P.length → (c :: T).getD i 0 = P.getD i 0 := by
      have e : ∀ i, (U ++ c :: T).getD (U.length + i) 0 = (c :: T).getD i 0 := fun i => by
        rw [List.getD_eq_getElem?_getD, List.getElem?_append_right (Nat.le_add_right _ _), Nat.add_sub_cancel_left, ← List.getD_eq_getElem?_getD]
      constructor
      · intro w i hi; rw [← e]; exact w i hi
      · intro w i hi; rw [e]; exact w i hi
    rw [srch]
    by_cases q : f ≤ U.length ∧ bgn B (c :: T) 0 = true
    · rw [if_pos q]
      obtain ⟨w1, w2⟩ := (hP _).1 q.2
      exact Or.inl ⟨U.length, q.1, rfl, by rw [List.length_append]; omega, mt.2 w2, h⟩
    · rw [if_neg q]
      have e : U ++ c :: T = (U ++ [c]) ++ T := by rw [List.append_assoc]; rfl
      have el : U.length + 1 = (U ++ [c]).length := by rw [List.length_append]; rfl
      rw [e, el]
      refine srch_fd hP hne T (U ++ [c]) ?_
      rw [← e, ← el]
      intro q9 a b d
      by_cases w : q9 = U.length
      · subst w
        intro m9
        rw [List.length_append] at d
        exact q ⟨a, (hP _).2 ⟨by omega, mt.1 m9⟩⟩
      · exact h q9 a (by omega) d
/-- the reference finds what the class finds -/
theorem find_eq {B : List Nat} {W P : List Int32} {x : Nat} {v : Int32} (hs : syms B = some P) (hx : x ≤ W.length) (h : fdV W P x v) : v = findT B x W := by
  refine fdV_uniq h ?_
  unfold findT
  by_cases c : B = []
  · rw [if_pos c]
    subst c
    have e : P = [] := by
      have : syms [] = some [] := rfl
      rw [this] at hs
      injection hs with hs
      exact hs.symm
    subst e
    exact Or.inl ⟨x, Nat.le_refl _, rfl, hx, fun i hi => absurd hi (Nat.not_lt_zero i), fun q a b => absurd b (by omega)⟩
  · rw [if_neg c]
    have hl : 0 < B.length := List.length_pos_iff.2 c
    have hne : P ≠ [] := fun e => by
      subst e
      have hb := (bgn_iff (T := []) hs (by omega)).2 ⟨Nat.le_refl _, fun i hi => absurd hi (Nat.not_lt_zero i)⟩
      have := of_decide_eq_true hb
      omega
    exact srch_fd (U := []) (fun T => bgn_iff hs (by omega)) hne W (fun q a b => absurd b (Nat.not_lt_zero q))
