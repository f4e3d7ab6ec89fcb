/-! ===== What is written reads back: agents, spans, kinds ===== -/
theorem vrd_rt {B : List Nat} {q : Nat} : ∀ {t k p w n : Nat}, t + k = 5 → 1 ≤ t → n * 2 ^ (7 * k) < 2147483648 → (0 < k → 0 < n) → atB B p (vbN t n) → p + (vbN t n).length ≤ q → vrd B q t p k w = (some (w + n * 2 ^ (7 * k)), p + (vbN t n).length)
  | 0, k, p, w, n, h1, h2, h3, h4, h5, h6 => absurd h2 (by decide)
  | t + 1, k, p, w, n, h1, h2, h3, h4, h5, h6 => by
    have k4 : k = 4 → n < 8 := fun e => by
      subst e
      have h3 : n * 268435456 < 2147483648 := h3
      omega
    by_cases c : n ≤ 127
    · have e : vbN (t + 1) n = [n] := by rw [vbN, if_pos c]
      rw [e] at h5 h6 ⊢
      have h6 : p + 1 ≤ q := h6
      have b0 : B.getD p 0 = n := h5 0 (Nat.zero_lt_succ _)
      rw [vrd, if_pos (by omega), b0, if_neg (fun w => by have := k4 w.1; omega), if_neg (by omega), if_neg (fun w => by have := h4 w.2; omega)]
      rfl
    · have e : vbN (t + 1) n = (n % 128 + 128) :: vbN t (n / 128) := by rw [vbN, if_neg c]
      rw [e] at h5 h6 ⊢
      have h6 : p + ((vbN t (n / 128)).length + 1) ≤ q := h6
      have b0 : B.getD p 0 = n % 128 + 128 := h5 0 (Nat.zero_lt_succ _)
      have hk : k ≠ 4 := fun w => by have := k4 w; omega
      have hB : atB B (p + 1) (vbN t (n / 128)) := fun i hi => by
        have := h5 (i + 1) (Nat.succ_lt_succ hi)
        rw [show p + (i + 1) = p + 1 + i by omega] at this
        exact this
      have ep : 2 ^ (7 * (k + 1)) = 2 ^ (7 * k) * 128 := by rw [show 7 * (k + 1) = 7 * k + 7 by omega, Nat.pow_add]
      have dm := Nat.div_add_mod n 128
      have es : n % 128 * 2 ^ (7 * k) + n / 128 * 2 ^ (7 * (k + 1)) = n * 2 ^ (7 * k) := by
        rw [ep]
        generalize 2 ^ (7 * k) = P
        calc n % 128 * P + n / 128 * (P * 128) = (128 * (n / 128) + n % 128) * P := by
              rw [Nat.add_mul, Nat.mul_comm P 128, ← Nat.mul_assoc, Nat.mul_comm (n / 128) 128, Nat.add_comm]
          _ = n * P := by rw [dm]
      rw [vrd, if_pos (by omega), b0, if_neg (fun w => hk w.1), if_pos (by omega), vrd_rt (by omega) (by omega) (by omega) (fun _ => by omega) hB (by omega), Nat.add_sub_cancel, Nat.add_assoc, es, List.length_cons]
      congr 1
      omega
theorem vint_rg {B : List Nat} {q p n : Nat} (hn : n < 2147483648) (hB : atB B p (vbN 5 n)) (hq : p + (vbN 5 n).length ≤ q) : vint B q p = (some n, p + (vbN 5 n).length) := by
  have := vrd_rt (B := B) (q := q) (t := 5) (k := 0) (p := p) (w := 0) (n := n) rfl (by decide) (by rw [Nat.mul_zero, Nat.pow_zero, Nat.mul_one]; exact hn) (fun w => absurd w (Nat.lt_irrefl 0)) hB hq
  rw [Nat.mul_zero, Nat.pow_zero, Nat.mul_one, Nat.zero_add] at this
  exact this
/-- where the columns of a patch stand -/
theorem rmB_pre (V : Nat → List Int32) (p : Nat) {n : Nat} : ∀ {m : Nat}, n ≤ m → ∃ X, rmB V p m = rmB V p n ++ X
  | 0, h => ⟨[], by rw [show n = 0 by omega, List.append_nil]⟩
  | m + 1, h => by
    by_cases e : n = m + 1
    · exact ⟨[], by rw [e, List.append_nil]⟩
    · obtain ⟨X, x1⟩ := rmB_pre V p (n := n) (m := m) (by omega)
      exact ⟨X ++ (vbN 5 (V m).length ++ clp (vB (V m))), by rw [rmB, x1, List.append_assoc]⟩
theorem atB_pre {B : List Nat} {p : Nat} {L : List Nat} (h : ∃ X, B = L ++ X) (hp : p = 0) : atB B p L := fun i hi => by
  obtain ⟨X, rfl⟩ := h
  rw [hp, Nat.zero_add, List.getD_eq_getElem?_getD, List.getElem?_append_left hi, ← List.getD_eq_getElem?_getD]
theorem col_at {V : Nat → List Int32} {p : Nat} {x y : Nat → Nat} (hl : (rmB V p 5).length + 4 ≤ 32768) (h : Cols (rmA V p) x y) : ∀ k, k < 5 → clS y k = (rmB V p k).length ∧ y k = x k + (V k).length ∧ atB (rmA V p) (x k) (vB (V k)) ∧ y k = (rmB V p (k + 1)).length := by
  have hfit := pa_fit hl
  have eq : (rmA V p).length - 4 = (rmB V p 5).length := by
    unfold rmA
    rw [List.length_append, List.length_map, List.length_range]
    omega
  have key : ∀ k, k < 5 → clS y k = (rmB V p k).length → y k = x k + (V k).length ∧ atB (rmA V p) (x k) (vB (V k)) ∧ y k = (rmB V p (k + 1)).length := fun k hk hc => by
    obtain ⟨X, x1⟩ := rmB_pre V p (n := k + 1) (m := 5) (by omega)
    have a0 : atB (rmA V p) 0 (rmB V p (k + 1)) := atB_pre (by unfold rmA; exact ⟨_, by rw [x1, List.append_assoc]⟩) rfl
    rw [rmB] at a0
    obtain ⟨-, a1⟩ := atB_app a0
    rw [Nat.zero_add] at a1
    obtain ⟨a2, a3⟩ := atB_app a1
    have hV := hfit k hk
    rw [clp_id (by rw [vB_len]; omega)] at a3
    have el : (rmB V p (k + 1)).length = (rmB V p k).length + (vbN 5 (V k).length).length + (V k).length := by
      rw [rmB, List.length_append, List.length_append, clp_len, vB_len]; omega
    have el5 : (rmB V p (k + 1)).length ≤ (rmB V p 5).length := by rw [x1, List.length_append]; exact Nat.le_add_right _ _
    have v1 := vint_rg (q := (rmA V p).length - 4) (n := (V k).length) (by omega) a2 (by omega)
    have s1 := h.1 k hk
    unfold spl at s1
    rw [hc, v1] at s1
    have s1 : (if (V k).length ≤ (rmA V p).length - 4 - ((rmB V p k).length + (vbN 5 (V k).length).length) then some ((rmB V p k).length + (vbN 5 (V k).length).length, (rmB V p k).length + (vbN 5 (V k).length).length + (V k).length) else none) = some (x k, y k) := s1
    rw [if_pos (by omega)] at s1
    injection s1 with s1
    injection s1 with s2 s3
    rw [← s2, ← s3]
    exact ⟨rfl, a3, el.symm⟩
  have all : ∀ k, k < 5 → clS y k = (rmB V p k).length := by
    intro k
    induction k with
    | zero => intro _; rfl
    | succ k ih => intro hk; exact (key k (by omega) (ih (by omega))).2.2
  exact fun k hk => ⟨all k hk, key k hk (all k hk)⟩
/-- the column of agents -/
def mB : List Nat → List Nat
  | [] => []
  | a :: M => vbN 5 a ++ mB M
theorem mB_snoc (M : List Nat) (a : Nat) : mB (M ++ [a]) = mB M ++ vbN 5 a := by
  induction M with
  | nil => exact List.append_nil _
  | cons b M ih => rw [List.cons_append, mB, ih, mB, List.append_assoc]
theorem mtV_B {M : List Nat} (hM : ∀ x ∈ M, x < 256) (hl : M.length ≤ 256) : ∀ {k : Nat}, k ≤ M.length → vB (mtV M k) = vbN 5 M.length ++ mB (M.take k)
  | 0, _ => by
    rw [mtV, vbs_5 (by omega), List.take_zero]
    exact (List.append_nil _).symm
  | k + 1, hk => by
    have e : M.take (k + 1) = M.take k ++ [M.getD k 0] := by
      rw [List.take_add_one, List.getD_eq_getElem?_getD, List.getElem?_eq_getElem (by omega)]; rfl
    have hx : M.getD k 0 < 256 := by
      rw [List.getD_eq_getElem?_getD, List.getElem?_eq_getElem (by omega)]
      exact hM _ (List.getElem_mem _)
    rw [mtV, vB_app, mtV_B hM hl (by omega), vbs_5 (by omega), e, mB_snoc, List.append_assoc]
theorem agR_rt {B : List Nat} {q : Nat} {L' : List Nat} {p' : Nat} : ∀ {M L : List Nat} {p : Nat}, (∀ x ∈ M, x < 256) → atB B p (mB M) → p + (mB M).length ≤ q → agR B q M.length L p = some (L', p') → L' = L ++ M
  | [], L, p, hM, hB, hq, h => by
    have h : some (L, p) = some (L', p') := h
    injection h with h
    injection h with h1 _
    rw [← h1, List.append_nil]
  | a :: M, L, p, hM, hB, hq, h => by
    rw [mB] at hB hq
    obtain ⟨b1, b2⟩ := atB_app hB
    rw [List.length_append] at hq
    have v := vint_rg (q := q) (n := a) (by have := hM a List.mem_cons_self; omega) b1 (by omega)
    rw [List.length_cons, agR, v] at h
    have h : (if a < 256 ∧ a ∉ L then agR B q M.length (L ++ [a]) (p + (vbN 5 a).length) else none) = some (L', p') := h
    by_cases c : a < 256 ∧ a ∉ L
    · rw [if_pos c] at h
      rw [agR_rt (fun x hx => hM x (List.mem_cons_of_mem _ hx)) b2 (by omega) h, List.append_assoc]; rfl
    · rw [if_neg c] at h; cases h
theorem rdA_rt {B : List Nat} {x y : Nat} {M L : List Nat} (hM : ∀ a ∈ M, a < 256) (hl : M.length ≤ 256) (hB : atB B x (vB (mtV M M.length))) (hy : y = x + (mtV M M.length).length) (h : rdA B x y = some L) : L = M := by
  rw [← vB_len, mtV_B hM hl (Nat.le_refl _), List.take_length] at hy
  rw [mtV_B hM hl (Nat.le_refl _), List.take_length] at hB
  obtain ⟨b1, b2⟩ := atB_app hB
  rw [List.length_append] at hy
  have v := vint_rg (q := y) (n := M.length) (by omega) b1 (by omega)
  unfold rdA at h
  rw [v] at h
  have h : (if M.length ≤ 256 then (agR B y M.length [] (x + (vbN 5 M.length).length)).bind fun q => if y ≤ q.2 then some q.1 else none else none) = some L := h
  rw [if_pos hl] at h
  cases ha : agR B y M.length [] (x + (vbN 5 M.length).length) with
  | none => rw [ha] at h; cases h
  | some z =>
    obtain ⟨L1, p1⟩ := z
    rw [ha] at h
    have h : (if y ≤ p1 then some L1 else none) = some L := h
    have e := agR_rt hM b2 (by omega) ha
    by_cases c : y ≤ p1
    · rw [if_pos c] at h
      injection h with h
      rw [← h]; exact e
    · rw [if_neg c] at h; cases h
/-- a written span: its agent's place, first event, size, kind, code -/
abbrev Wsp : Type := Nat × Nat × Nat × Nat × Nat
def spB (G : Gr) : List Wsp → List Nat
  | [] => []
  | w :: W => (vbN 5 w.1 ++ (vbN 5 (G.ev w.2.1).nu ++ vbN 5 w.2.2.1)) ++ spB G W
def opB : List Wsp → List Nat
  | [] => []
  | w :: W => vbN 5 w.2.2.2.2 ++ opB W
theorem spB_snoc (G : Gr) (W : List Wsp) (w : Wsp) : spB G (W ++ [w]) = spB G W ++ (vbN 5 w.1 ++ (vbN 5 (G.ev w.2.1).nu ++ vbN 5 w.2.2.1)) := by
  induction W with
  | nil => exact List.append_nil _
  | cons b W ih =>
    rw [List.cons_append, spB, ih, spB]
    simp only [List.append_assoc]
theorem opB_snoc (W : List Wsp) (w : Wsp) : opB (W ++ [w]) = opB W ++ vbN 5 w.2.2.2.2 := by
  induction W with
  | nil => exact List.append_nil _
  | cons b W ih => rw [List.cons_append, opB, ih, opB, List.append_assoc]
/-- the events of a span are there, and of its kind -/
def spI (G : Gr) (f z kd : Nat) : Prop := ∀ k, k < z → ∃ j, j < G.n ∧ (G.ev j).sl = (G.ev f).sl ∧ (G.ev j).nu = (G.ev f).nu + k ∧ ((G.ev j).ch = none ↔ kd ≠ 0)
def Wok (G : Gr) (M : List Nat) (w : Wsp) : Prop := M[w.1]? = some (agI G w.2.1) ∧ w.1 < 256 ∧ w.2.1 < G.n ∧ w.2.2.1 ≤ 8192 ∧ w.2.2.2.2 < 2147483648 ∧ w.2.2.2.2 % 3 = w.2.2.2.1 ∧ spI G w.2.1 w.2.2.1 w.2.2.2.1
section WRI
variable {G : Gr} {M M' : List Nat} {W : List Wsp} {w : Wsp}
theorem Wok.mono (h : Wok G M w) (hM : ∃ X, M' = M ++ X) : Wok G M' w := by
  obtain ⟨X, rfl⟩ := hM
  refine ⟨?_, h.2⟩
  rw [List.getElem?_append_left (List.getElem?_eq_some_iff.1 h.1).1]
  exact h.1
theorem madd_pre (M : List Nat) (a : Nat) : ∃ X, madd M a = M ++ X := by
  unfold madd
  split
  · exact ⟨[], (List.append_nil _).symm⟩
  · exact ⟨[a], rfl⟩
theorem wpM_pre (G : Gr) (M pr : List Nat) : ∀ j, ∃ X, wpM G M pr j = M ++ X
  | 0 => ⟨[], (List.append_nil _).symm⟩
  | j + 1 => by
    obtain ⟨X, x1⟩ := wpM_pre G M pr j
    obtain ⟨Y, y1⟩ := madd_pre (wpM G M pr j) (agI G (pr.getD j 0))
    exact ⟨X ++ Y, by rw [wpM, y1, x1, List.append_assoc]⟩
theorem wprM_pre (G : Gr) (M : List Nat) (f : Nat) (sb : Option Nat) : ∃ X, wprM G M f sb = M ++ X := by
  unfold wprM
  split
  · exact ⟨[], (List.append_nil _).symm⟩
  · exact wpM_pre G M _ _
theorem madd_ix (M : List Nat) (a : Nat) : (madd M a)[M.idxOf a]? = some a := by
  unfold madd
  by_cases c : a ∈ M
  · rw [if_pos c, List.getElem?_eq_getElem (List.idxOf_lt_length_of_mem c), List.getElem_idxOf]
  · rw [if_neg c, List.idxOf_eq_length c, List.getElem?_append_right (Nat.le_refl _), Nat.sub_self]; rfl
theorem op_k {a x kd : Nat} (ha : a ≤ 10000) (hx : x ≤ 20000) (hk : kd < 3) : ∃ n, n ≤ 400000 ∧ opI (nI a - exI x) kd = nI n ∧ n % 3 = kd := by
  obtain ⟨n, n1, n2, n3⟩ := zz_ex ha hx
  refine ⟨3 * n + kd, by omega, ?_, by omega⟩
  unfold opI
  by_cases c : 0 ≤ nI a - exI x
  · rw [if_neg (n2 c).2, (n2 c).1, nI_three, nI_add]
  · rw [if_pos (n3 c).2, (n3 c).1, nI_three, nI_add]
/-- what is written so far -/
def WrI (G : Gr) (s : Wt) (W : List Wsp) : Prop := s.1 0 = [] ∧ vB (s.1 1) = spB G W ∧ vB (s.1 3) = opB W ∧ (∀ w, w ∈ W → Wok G s.2.1 w) ∧ s.2.1.Nodup ∧ (∀ x ∈ s.2.1, x < 256) ∧ (∃ x, x ≤ 10000 ∧ s.2.2.2.2 = exI x) ∧ ∀ f l z kd, s.2.2.1 = some (f, l, z, kd) → f < G.n ∧ l < G.n ∧ 1 ≤ z ∧ z ≤ 8192 ∧ kd < 3 ∧ (G.ev l).sl = (G.ev f).sl ∧ (G.ev l).nu + 1 = (G.ev f).nu + z ∧ ((G.ev l).ch = none ↔ kd ≠ 0) ∧ spI G f z kd
theorem WrI.cl (hG : G.ok) (hix : ∀ k, k < G.n → (G.ev k).ix ≤ 8192) {s : Wt} (h : WrI G s W) : ∃ W', WrI G (clW G s) W' := by
  obtain ⟨h0, h1, h2, h3, h4, h5, ⟨x, x1, x2⟩, h6⟩ := h
  obtain ⟨V, M, cu, sb, ex⟩ := s
  have x2 : ex = exI x := x2
  subst x2
  cases cu with
  | none => exact ⟨W, h0, h1, h2, h3, h4, h5, ⟨x, x1, rfl⟩, fun f l z kd e => by cases e⟩
  | some q =>
    obtain ⟨f, l, z, kd⟩ := q
    obtain ⟨c1, c2, c3, c4, c5, c6, c7, c8, c9⟩ := h6 f l z kd rfl
    have ha : agI G f < 256 := hG.ag1 _ (hG.sl1 f c1)
    obtain ⟨m1, m2⟩ := madd_ok (a := agI G f) h4 h5 ha
    have hpr : ∀ i, i < (G.ev f).pr.length → agI G ((G.ev f).pr.getD i 0) < 256 := fun i hi => by
      rw [List.getD_eq_getElem?_getD, List.getElem?_eq_getElem hi]
      have := (hG.pr1 f c1 _ (List.getElem_mem hi)).1
      exact hG.ag1 _ (hG.sl1 _ (by show (G.ev f).pr[i] < G.n; omega))
    have hM' : (wprM G (madd M (agI G f)) f sb).Nodup ∧ ∀ x ∈ wprM G (madd M (agI G f)) f sb, x < 256 := by
      unfold wprM
      split
      · exact ⟨m1, m2⟩
      · exact wpM_ok m1 m2 hpr
    obtain ⟨X1, p1⟩ := madd_pre M (agI G f)
    obtain ⟨X2, p2⟩ := wprM_pre G (madd M (agI G f)) f sb
    obtain ⟨n, n1, n2, n3⟩ := op_k (a := (G.ev f).ix) (x := x) (kd := kd) (by have := hix f c1; omega) (by omega) c5
    have hi : M.idxOf (agI G f) < 256 := by
      have e := madd_ix M (agI G f)
      have := (List.getElem?_eq_some_iff.1 e).1
      have l2 : (madd M (agI G f)).length ≤ 256 := len_256 m1 m2
      omega
    have hnu : (G.ev f).nu < 2147483648 := by
      have := hG.nu1 f c1
      have := Gr.nu_cn hG c1
      have := cn_le hG (G.ev f).sl
      omega
    obtain ⟨x', x3, x4⟩ := csE_ex (G := G) (f := f) (l := l) (m := z) (x := x) (hix l c2) c5
    refine ⟨W ++ [(M.idxOf (agI G f), f, z, kd, n)], h0, ?_, ?_, ?_, hM'.1, hM'.2, ⟨x', x3, x4⟩, fun f l z kd e => by cases e⟩
    · show vB (V 1 ++ (vbs 4 (nI (M.idxOf (agI G f))) ++ (vbs 4 (nI (G.ev f).nu) ++ vbs 4 (nI z)))) = _
      rw [vB_app, vB_app, vB_app, vbs_5 (by omega), vbs_5 hnu, vbs_5 (by omega), spB_snoc]
      have h1 : vB (V 1) = spB G W := h1
      rw [h1]
    · show vB (V 3 ++ vbs 4 (opI (nI (G.ev f).ix - exI x) kd)) = _
      rw [vB_app, n2, vbs_5 (by omega), opB_snoc]
      have h2 : vB (V 3) = opB W := h2
      rw [h2]
    · intro w hw
      rcases List.mem_append.1 hw with w1 | w1
      · exact (h3 w w1).mono ⟨X1 ++ X2, by show wprM G (madd M (agI G f)) f sb = M ++ (X1 ++ X2); rw [p2, p1, List.append_assoc]⟩
      · have w1 := List.mem_singleton.1 w1
        subst w1
        have : Wok G (madd M (agI G f)) (M.idxOf (agI G f), f, z, kd, n) := ⟨madd_ix M _, hi, c1, c4, by show n < 2147483648; omega, n3, c9⟩
        exact this.mono ⟨X2, p2⟩
theorem WrI.new (hG : G.ok) (hix : ∀ k, k < G.n → (G.ev k).ix ≤ 8192) {s : Wt} {e : Nat} (h : WrI G s W) (he : e < G.n) (hc : gsC G s.2.2.1 e = false) : ∃ W', WrI G (aeS G s e) W' := by
  obtain ⟨W', h0, h1, h2, h3, h4, h5, h7, -⟩ := h.cl hG hix
  refine ⟨W', ?_⟩
  rw [aeS_new hc]
  have wu : ∀ k, k ≠ 5 → wU (clW G s).1 (G.ev e).ch k = (clW G s).1 k := fun k hk => by
    cases (G.ev e).ch with
    | none => rfl
    | some c => exact updI_o hk
  refine ⟨(wu 0 (by decide)).trans h0, (congrArg vB (wu 1 (by decide))).trans h1, (congrArg vB (wu 3 (by decide))).trans h2, h3, h4, h5, h7, fun f l z kd q => ?_⟩
  have q : some (e, e, 1, if (G.ev e).ch = none then 1 else 0) = some (f, l, z, kd) := q
  injection q with q
  injection q with q1 q
  injection q with q2 q
  injection q with q3 q4
  subst q1 q2 q3 q4
  have hk : ((G.ev e).ch = none ↔ (if (G.ev e).ch = none then 1 else 0) ≠ 0) := by
    by_cases c : (G.ev e).ch = none
    · rw [if_pos c]; exact ⟨fun _ => by decide, fun _ => c⟩
    · rw [if_neg c]; exact ⟨fun w => absurd w c, fun w => absurd rfl w⟩
  refine ⟨he, he, Nat.le_refl _, by decide, by split <;> decide, rfl, rfl, hk, fun k hk9 => ⟨e, he, rfl, by omega, hk⟩⟩
theorem WrI.on (hG : G.ok) {s : Wt} {e f l m kd : Nat} (h : WrI G s W) (he : e < G.n) (hs : s.2.2.1 = some (f, l, m, kd)) (hm : m < 8192) (hc : gsB G l m kd e = true) : WrI G (aeS G s e) W := by
  obtain ⟨h0, h1, h2, h3, h4, h5, h7, h6⟩ := h
  obtain ⟨c1, c2, c3, c4, c5, c6, c7, c8, c9⟩ := h6 f l m kd hs
  rw [aeS_on hs hc]
  have wu : ∀ k, k ≠ 5 → wU s.1 (G.ev e).ch k = s.1 k := fun k hk => by
    cases (G.ev e).ch with
    | none => rfl
    | some c => exact updI_o hk
  refine ⟨(wu 0 (by decide)).trans h0, (congrArg vB (wu 1 (by decide))).trans h1, (congrArg vB (wu 3 (by decide))).trans h2, h3, h4, h5, h7, fun f' l' z' kd' q => ?_⟩
  have q : some (f, e, m + 1, if (G.ev e).ch = none ∧ (G.ev e).ix < (G.ev l).ix then 2 else kd) = some (f', l', z', kd') := q
  injection q with q
  injection q with q1 q
  injection q with q2 q
  injection q with q3 q4
  subst q1 q2 q3 q4
  obtain ⟨g1, g2, g3, g4, -⟩ := gsB_on.1 hc
  have hp : (G.ev e).pr = [l] := by
    cases hpr : (G.ev e).pr with
    | nil => rw [hpr] at g1; cases g1
    | cons a P =>
      rw [hpr] at g1 g2
      cases P with
      | nil => rw [show a = l from g2]
      | cons b P => simp at g1
  have hn := nu_next hG he hp g3
  have hk : ((G.ev e).ch = none ↔ (if (G.ev e).ch = none ∧ (G.ev e).ix < (G.ev l).ix then 2 else kd) ≠ 0) := by
    by_cases c : (G.ev e).ch = none ∧ (G.ev e).ix < (G.ev l).ix
    · rw [if_pos c]; exact ⟨fun _ => by decide, fun _ => c.1⟩
    · rw [if_neg c]; exact g4.trans c8
  have hk2 : (kd ≠ 0 ↔ (if (G.ev e).ch = none ∧ (G.ev e).ix < (G.ev l).ix then 2 else kd) ≠ 0) := c8.symm.trans (g4.symm.trans hk)
  refine ⟨c1, he, Nat.succ_pos _, by omega, ?_, g3.trans c6, by omega, hk, fun k hk9 => ?_⟩
  · split
    · decide
    · exact c5
  · by_cases e1 : k = m
    · subst e1
      exact ⟨e, he, g3.trans c6, by omega, hk⟩
    · obtain ⟨j, j1, j2, j3, j4⟩ := c9 k (by omega)
      exact ⟨j, j1, j2, j3, j4.trans hk2⟩
theorem WrI.ga (hG : G.ok) (hix : ∀ k, k < G.n → (G.ev k).ix ≤ 8192) (Kn : Nat → Nat → Nat) (o : Option Nat) : ∀ n, n ≤ G.n → ∃ W, WrI G (gaS G Kn o V0 n) W
  | 0, _ => ⟨[], rfl, rfl, rfl, fun w hw => (by cases hw), List.nodup_nil, fun x hx => (by cases hx), ⟨1, by decide, rfl⟩, fun f l z kd e => by cases e⟩
  | n + 1, hn => by
    obtain ⟨W, h⟩ := WrI.ga hG hix Kn o n (by omega)
    rw [gaS]
    split
    · by_cases c : gsC G (gaS G Kn o V0 n).2.2.1 n = true
      · cases hc : (gaS G Kn o V0 n).2.2.1 with
        | none => rw [hc] at c; cases c
        | some q =>
          obtain ⟨f, l, m, kd⟩ := q
          rw [hc] at c
          have := gaS_cu n _ hc
          have this : m ≤ n := this
          have hn8 := hG.hn
          exact ⟨W, h.on hG (by omega) hc (by omega) c⟩
      · exact h.new hG hix (by omega) (Bool.eq_false_iff.2 c)
    · exact ⟨W, h⟩
end WRI
theorem sp_rt {G : Gr} {B L : List Nat} {q p2 : Nat} (hp2 : q ≤ p2) : ∀ {W : List Wsp} {A : List SpR} {p : Nat}, (∀ w, w ∈ W → w.1 < 256 ∧ (G.ev w.2.1).nu < 2147483648 ∧ w.2.2.1 ≤ 8192) → SpC B L q p A p2 → atB B p (spB G W) → q = p + (spB G W).length → A = W.map (fun w => (L.getD w.1 0, (G.ev w.2.1).nu, w.2.2.1))
  | [], [], p, hW, h, hB, hq => rfl
  | [], s :: A, p, hW, h, hB, hq => by
    obtain ⟨p1, k1, -⟩ := h
    have := (rd1_gt k1).1
    have hq : q = p := hq
    omega
  | w :: W, [], p, hW, h, hB, hq => by
    have h : p2 = p := h
    rw [spB, List.length_append, List.length_append] at hq
    have : 0 < (vbN 5 w.1).length := by
      rw [vbN]
      split <;> exact Nat.succ_pos _
    omega
  | w :: W, s :: A, p, hW, h, hB, hq => by
    obtain ⟨p1, k1, k2⟩ := h
    obtain ⟨a, nu, z, v1, v2, v3, v4, v5, rfl, rfl⟩ := rd1_in k1
    obtain ⟨w1, w2, w3⟩ := hW w List.mem_cons_self
    rw [spB] at hB hq
    obtain ⟨b1, b2⟩ := atB_app hB
    obtain ⟨b3, b4⟩ := atB_app b1
    obtain ⟨b5, b6⟩ := atB_app b4
    rw [List.length_append, List.length_append, List.length_append] at hq
    rw [List.length_append, List.length_append] at b2
    have e1 := vint_rg (q := q) (n := w.1) (by omega) b3 (by omega)
    have e2 := vint_rg (q := q) (n := (G.ev w.2.1).nu) w2 b5 (by omega)
    have e3 := vint_rg (q := q) (n := w.2.2.1) (by omega) b6 (by omega)
    rw [e1] at v1 v2 v3 k2
    have v2 : (vint B q (p + (vbN 5 w.1).length)).1 = some nu := v2
    have v3 : (vint B q (vint B q (p + (vbN 5 w.1).length)).2).1 = some z := v3
    have k2 : SpC B L q (vint B q (vint B q (p + (vbN 5 w.1).length)).2).2 A p2 := k2
    rw [e2] at v2 v3 k2
    have v3 : (vint B q (p + (vbN 5 w.1).length + (vbN 5 (G.ev w.2.1).nu).length)).1 = some z := v3
    have k2 : SpC B L q (vint B q (p + (vbN 5 w.1).length + (vbN 5 (G.ev w.2.1).nu).length)).2 A p2 := k2
    rw [e3] at v3 k2
    injection v1 with v1
    injection v2 with v2
    injection v3 with v3
    subst v1 v2 v3
    have k2 : SpC B L q (p + (vbN 5 w.1).length + (vbN 5 (G.ev w.2.1).nu).length + (vbN 5 w.2.2.1).length) A p2 := k2
    rw [show p + ((vbN 5 w.1).length + ((vbN 5 (G.ev w.2.1).nu).length + (vbN 5 w.2.2.1).length)) = p + (vbN 5 w.1).length + (vbN 5 (G.ev w.2.1).nu).length + (vbN 5 w.2.2.1).length by omega] at b2
    rw [List.map_cons, ← sp_rt hp2 (fun w' hw' => hW w' (List.mem_cons_of_mem _ hw')) k2 b2 (by omega)]
theorem rdO_c {B : List Nat} {q p z : Nat} {e : Int} {x : Nat × Int × Int × Nat} (h : rdO B q p z e = some x) : ∃ c, (vint B q p).1 = some c ∧ x.1 = c % 3 ∧ x.2.2.2 = (vint B q p).2 := by
  cases ev : (vint B q p).1 with
  | none => rw [rdO_1 ev] at h; cases h
  | some c =>
    by_cases hn : 0 ≤ e + zz c ∧ 0 ≤ e + zz c + opS (c % 3) * ((z : Int) - 1)
    · rw [rdO_3 ev hn] at h
      injection h with h
      subst h
      exact ⟨c, rfl, rfl, rfl⟩
    · rw [rdO_2 ev hn] at h; cases h
theorem op_rt {B : List Nat} {q : Nat} {AA : List SpR} {x : List (Nat × Int) × Nat × Nat} : ∀ {W : List Wsp} {p : Nat} {e : Int} {I : Nat} {D : List (Nat × Int)}, (∀ w, w ∈ W → w.2.2.2.2 < 2147483648 ∧ w.2.2.2.2 % 3 = w.2.2.2.1) → rdOq B q AA W.length p e I D = some x → atB B p (opB W) → p + (opB W).length ≤ q → x.1.map (fun o => o.1) = D.map (fun o => o.1) ++ W.map (fun w => w.2.2.2.1)
  | [], p, e, I, D, hW, h, hB, hq => by
    have h : some (D, I, p) = some x := h
    injection h with h
    rw [← h, List.map_nil, List.append_nil]
  | w :: W, p, e, I, D, hW, h, hB, hq => by
    rw [opB] at hB hq
    obtain ⟨b1, b2⟩ := atB_app hB
    rw [List.length_append] at hq
    obtain ⟨w1, w2⟩ := hW w List.mem_cons_self
    have e1 := vint_rg (q := q) (n := w.2.2.2.2) w1 b1 (by omega)
    have h : rdOq B q AA (W.length + 1) p e I D = some x := h
    cases hO : rdO B q p (AA.getD D.length (0, 0, 0)).2.2 e with
    | none => rw [rdOq_1 hO] at h; cases h
    | some o =>
      rw [rdOq_2 hO] at h
      obtain ⟨c, c1, c2, c3⟩ := rdO_c hO
      rw [e1] at c1 c3
      injection c1 with c1
      rw [c3] at h
      rw [op_rt (fun w' hw' => hW w' (List.mem_cons_of_mem _ hw')) h b2 (by omega), List.map_append, List.map_cons, List.append_assoc]
      show _ ++ (o.1 :: W.map _) = _
      rw [c2, ← c1, w2]
      rfl
theorem evOf_mem {s : SpT} {x : Ev3} : ∀ {m k : Nat} {sy : List Int32}, x ∈ evOf s m k sy → x.1 = s ∧ x.2.1 < k + m ∧ (x.2.2 = none ↔ s.2.2.2.2.2.2.1 ≠ 0)
  | 0, k, sy, h => by cases h
  | m + 1, k, sy, h => by
    rw [evOf] at h
    rcases List.mem_cons.1 h with w | w
    · subst w
      refine ⟨rfl, by show k < k + (m + 1); omega, ?_⟩
      show (if s.2.2.2.2.2.2.1 = 0 then some (sy.headD 0).toNatClampNeg else none) = none ↔ _
      by_cases c : s.2.2.2.2.2.2.1 = 0
      · rw [if_pos c]; exact ⟨(fun q => by cases q), (fun q => absurd c q)⟩
      · rw [if_neg c]; exact ⟨fun _ => c, fun _ => rfl⟩
    · obtain ⟨a1, a2, a3⟩ := evOf_mem w
      exact ⟨a1, by omega, a3⟩
theorem evAll_mem {x : Ev3} : ∀ {A : List SpT} {sy : List Int32}, x ∈ evAll A sy → x.1 ∈ A ∧ x.2.1 < x.1.2.2.1 ∧ (x.2.2 = none ↔ x.1.2.2.2.2.2.2.1 ≠ 0)
  | [], sy, h => by cases h
  | s :: A, sy, h => by
    rw [evAll] at h
    rcases List.mem_append.1 h with w | w
    · obtain ⟨a1, a2, a3⟩ := evOf_mem w
      rw [a1]
      exact ⟨List.mem_cons_self, by omega, a3⟩
    · obtain ⟨a1, a2⟩ := evAll_mem w
      exact ⟨List.mem_cons_of_mem _ a1, a2⟩
/-- the events that a written patch tells of are the writer's, and of their kinds -/
theorem rt_ev {G : Gr} {T : Tr} (hg : GT G T) {n : Nat} {Kn : Nat → Nat → Nat} {o : Option Nat} (hl : paT G Kn o ≤ 32768) (hB : ∀ b ∈ rmA (paF G Kn o) n, b < 256) {L : List Nat} {E : List Ev3} (h : rdM (rmA (paF G Kn o) n) L E) : ∀ x, x ∈ E → ∃ j, j < G.n ∧ agI G j = x.1.1 ∧ (G.ev j).nu = x.1.2.1 + x.2.1 ∧ ((G.ev j).ch = none ↔ x.2.2 = none) := by
  have hG := hg.1
  have hl' := (pa_iff (paF G Kn o) n).1 hl
  obtain ⟨x, y, sy, AA, h1, h2, h3, h4, h5, rfl⟩ := h
  have h7 : 7 ≤ (rmA (paF G Kn o) n).length := by
    unfold rmA
    rw [List.length_append, List.length_map, List.length_range, rmB_l5]
    omega
  have le := h1.le h7
  obtain ⟨w1, w2, w3, w4, w5⟩ := rd_fw hB (le 2 (by decide)).1 (le 3 (by decide)).1 h5
  obtain ⟨W0, hW0⟩ := WrI.ga hG hg.2.2.2.2.2 Kn o G.n (Nat.le_refl _)
  obtain ⟨W, v0, v1, v2, v3, v4, v5, -, -⟩ := hW0.cl hG hg.2.2.2.2.2
  have eM : (clW G (gaS G Kn o V0 G.n)).2.1 = gaM G Kn o V0 := rfl
  rw [eM] at v3 v4 v5
  have e0 : paF G Kn o 0 = mtV (gaM G Kn o V0) (gaM G Kn o V0).length := by
    show (clW G (gaS G Kn o V0 G.n)).1 0 ++ mtV (gaM G Kn o V0) (gaM G Kn o V0).length = _
    rw [v0, List.nil_append]
  have e1 : vB (paF G Kn o 1) = spB G W := v1
  have e3 : vB (paF G Kn o 3) = opB W := v2
  obtain ⟨-, y0, a0, -⟩ := col_at hl' h1 0 (by decide)
  obtain ⟨-, y1, a1, -⟩ := col_at hl' h1 1 (by decide)
  obtain ⟨-, y3, a3, -⟩ := col_at hl' h1 3 (by decide)
  rw [e0] at y0 a0
  have eL := rdA_rt v5 (len_256 v4 v5) a0 y0 h2
  subst eL
  rw [← vB_len, e1] at y1
  rw [e1] at a1
  rw [← vB_len, e3] at y3
  rw [e3] at a3
  obtain ⟨A1, p2, s1, s2, s3, -, -⟩ := sp_ch (B := rmA (paF G Kn o) n) (A2 := AA.map sp3) (A := []) (Nat.zero_le _) w1
  have s1 : AA.map sp3 = A1 := s1
  subst s1
  have nu8 : ∀ f, f < G.n → (G.ev f).nu < 2147483648 := fun f hf => by
    have := Gr.nu_cn hG hf
    have := cn_le hG (G.ev f).sl
    omega
  have eS := sp_rt s3 (fun w hw => ⟨(v3 w hw).2.1, nu8 _ (v3 w hw).2.2.1, (v3 w hw).2.2.2.1⟩) s2 a1 y1
  have lW : (AA.map sp3).length = W.length := by rw [eS, List.length_map]
  unfold nop at w3
  rw [lW] at w3
  have eO := op_rt (fun w hw => ⟨(v3 w hw).2.2.2.2.1, (v3 w hw).2.2.2.2.2.1⟩) w3 a3 (by omega)
  have eO : (AA.map op2).map (fun o => o.1) = W.map (fun w => w.2.2.2.1) := eO
  intro z hz
  obtain ⟨m1, m2, m3⟩ := evAll_mem hz
  obtain ⟨i, hi⟩ := List.getElem?_of_mem m1
  have c1 := congrArg (fun l => l[i]?) eS
  have c2 := congrArg (fun l => l[i]?) eO
  simp only [List.getElem?_map, hi, Option.map_some] at c1 c2
  cases hw : W[i]? with
  | none => rw [hw] at c1; cases c1
  | some w =>
    rw [hw] at c1 c2
    simp only [Option.map_some, Option.some.injEq] at c1 c2
    obtain ⟨k1, k2, k3, k4, k5, k6, k7⟩ := v3 w (List.mem_of_getElem? hw)
    injection c1 with d1 d2
    injection d2 with d2 d3
    have d1 : z.1.1 = (gaM G Kn o V0).getD w.1 0 := d1
    have d2 : z.1.2.1 = (G.ev w.2.1).nu := d2
    have d3 : z.1.2.2.1 = w.2.2.1 := d3
    have c2 : z.1.2.2.2.2.2.2.1 = w.2.2.2.1 := c2
    obtain ⟨j, j1, j2, j3, j4⟩ := k7 z.2.1 (by omega)
    refine ⟨j, j1, ?_, by rw [d2]; exact j3, ?_⟩
    · rw [d1, List.getD_eq_getElem?_getD, k1]
      show G.ag (G.ev j).sl = G.ag (G.ev w.2.1).sl
      rw [j2]
    · rw [j4, m3, c2]
