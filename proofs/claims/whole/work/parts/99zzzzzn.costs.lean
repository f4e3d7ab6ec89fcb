/-! ===== Costs as differences of sizes ===== -/
theorem addNS_eq {cap len : Nat} : ∀ n, addNS n cap len + 2 * cap = 2 * capN n cap len
  | 0 => Nat.zero_add _
  | n + 1 => by
    have := addNS_eq (cap := cap) (len := len) n
    rw [addNS, capN]
    split <;> omega
theorem addNC_pw {cap len : Nat} : ∀ n, cap * 2 ^ addNC n cap len = capN n cap len
  | 0 => by show cap * 2 ^ 0 = cap; rw [Nat.pow_zero, Nat.mul_one]
  | n + 1 => by
    have := addNC_pw (cap := cap) (len := len) n
    rw [addNC, capN]
    split
    · rw [Nat.pow_add, ← Nat.mul_assoc, this]
      omega
    · exact this
theorem addNC_9 {n cap len : Nat} (h : 64 ≤ cap) (h2 : capN n cap len ≤ 32768) : addNC n cap len ≤ 9 := by
  have e := addNC_pw (cap := cap) (len := len) n
  refine Nat.le_of_not_lt (fun w => ?_)
  have h3 : 2 ^ 10 ≤ 2 ^ addNC n cap len := Nat.pow_le_pow_right (by decide) w
  have h4 : 64 * 2 ^ 10 ≤ cap * 2 ^ addNC n cap len := Nat.mul_le_mul h h3
  rw [e] at h4
  have h5 : 64 * 2 ^ 10 = 65536 := by decide
  omega
theorem vgZ_eq {n : Nat} : ∀ m, vgZ n m + 2 * n = 2 * vgN n m
  | 0 => Nat.zero_add _
  | m + 1 => by
    have := vgZ_eq (n := n) m
    rw [vgZ, vgN, vgS]
    split <;> omega
theorem vgC_le {n : Nat} (h : 1 ≤ n) : ∀ m, vgC n m + n ≤ vgN n m
  | 0 => Nat.le_of_eq (Nat.zero_add _)
  | m + 1 => by
    have := vgC_le h m
    rw [vgC, vgN, vgS]
    split <;> omega
theorem vgN_le {n b : Nat} (h : n ≤ 2 * b) : ∀ m, m ≤ b → vgN n m ≤ 2 * b
  | 0, _ => h
  | m + 1, hm => by
    have := vgN_le h m (by omega)
    rw [vgN, vgS]
    split <;> omega
theorem hcl_z (x : HS) : hcZ x.1 x.2.1.length (x.2.2.2.2.1 + x.2.2.2.2.2) + 2 * x.1 = 2 * (hcl x).1 ∧ (1 ≤ x.1 → hcC x.1 x.2.1.length (x.2.2.2.2.1 + x.2.2.2.2.2) + x.1 ≤ (hcl x).1) := by
  show hcZ x.1 x.2.1.length (x.2.2.2.2.1 + x.2.2.2.2.2) + 2 * x.1 = 2 * (if x.2.2.2.2.1 + x.2.2.2.2.2 = 0 then x.1 else hcN x.1 x.2.1.length) ∧ (1 ≤ x.1 → hcC x.1 x.2.1.length (x.2.2.2.2.1 + x.2.2.2.2.2) + x.1 ≤ (if x.2.2.2.2.1 + x.2.2.2.2.2 = 0 then x.1 else hcN x.1 x.2.1.length))
  unfold hcZ hcC hcN
  split
  · omega
  · split <;> omega
theorem hst_1 (x : HS) (p : Nat × Nat) : (hst x p).1 = if p.1 = 1 ∧ p.2 = 1 then (hcl x).1 else x.1 := by
  unfold hst
  split <;> rfl
theorem hrZ_eq : ∀ (P : List (Nat × Nat)) (x : HS), hrZ P x + 2 * x.1 = 2 * (hrun P x).1
  | [], x => (hcl_z x).1
  | p :: P, x => by
    have ih := hrZ_eq P (hst x p)
    have h1 := hst_1 x p
    have h2 := (hcl_z x).1
    rw [hrZ, hrun]
    by_cases c : p.1 = 1 ∧ p.2 = 1
    · rw [if_pos c] at h1 ⊢
      omega
    · rw [if_neg c] at h1 ⊢
      omega
theorem hrC_le : ∀ (P : List (Nat × Nat)) (x : HS), 1 ≤ x.1 → hrC P x + x.1 ≤ (hrun P x).1
  | [], x, h => (hcl_z x).2 h
  | p :: P, x, h => by
    have h1 := hst_1 x p
    have h2 := (hcl_z x).2 h
    rw [hrC, hrun]
    by_cases c : p.1 = 1 ∧ p.2 = 1
    · rw [if_pos c] at h1 ⊢
      have ih := hrC_le P (hst x p) (by omega)
      omega
    · rw [if_neg c] at h1 ⊢
      have ih := hrC_le P (hst x p) (by omega)
      omega
theorem alK_z {c l : Nat} (h : c = 0 ∨ 10 ≤ c) : alZ c l + 4 * c ≤ 4 * alK c l ∧ (alK c l = 0 ∨ 10 ≤ alK c l) ∧ alC c l + c ≤ alK c l := by
  unfold alZ alK alC gcap
  by_cases e : l = c
  · rw [if_pos e, if_pos e, if_pos e]
    split <;> omega
  · rw [if_neg e, if_neg e, if_neg e]
    omega
theorem alK_le {c l : Nat} (h : c ≤ 12288) (hl : l ≤ 8192) : alK c l ≤ 12288 := by
  unfold alK gcap
  split
  · split <;> omega
  · exact h
def pO (n : Nat) : Nat := 2 * n + if 32768 ≤ n then 32768 else 0
theorem od_z {n l : Nat} (hn : n ≤ 32768) (hl : l ≤ 32768) : odS n l + pO n ≤ pO (odN n l) ∧ odC n l ≤ 1 ∧ odN n l ≤ 32768 := by
  unfold odS odN odC pO
  by_cases c : n < l
  · rw [if_pos c, if_pos c, if_pos c]
    have h1 : l ≤ max l (min 32768 (2 * n)) := Nat.le_max_left _ _
    have h2 : min 32768 (2 * n) ≤ max l (min 32768 (2 * n)) := Nat.le_max_right _ _
    have h3 : max l (min 32768 (2 * n)) ≤ 32768 := Nat.max_le.2 ⟨hl, Nat.min_le_left _ _⟩
    generalize max l (min 32768 (2 * n)) = m at *
    rw [if_neg (by omega)]
    by_cases d : 2 * n ≤ 32768
    · rw [Nat.min_eq_right d] at h2
      split <;> omega
    · rw [Nat.min_eq_left (by omega)] at h2
      rw [if_pos (by omega)]
      omega
  · rw [if_neg c, if_neg c, if_neg c]
    omega
theorem gwZ_eq {k : Nat} : ∀ n, gwZ k n + 14 * k = 14 * gw k n
  | 0 => Nat.zero_add _
  | n + 1 => by
    have := gwZ_eq (k := k) n
    rw [gwZ, gw]
    split <;> omega
theorem gqZ_eq {k : Nat} : ∀ n, gqZ k n + 4 * k = 4 * gw k n
  | 0 => Nat.zero_add _
  | n + 1 => by
    have := gqZ_eq (k := k) n
    rw [gqZ, gw]
    split <;> omega
theorem gwC_le {k : Nat} (h : 7 ≤ k) : ∀ n, gwC k n + k ≤ gw k n
  | 0 => Nat.le_of_eq (Nat.zero_add _)
  | n + 1 => by
    have := gwC_le h n
    rw [gwC, gw]
    split <;> omega
theorem gqC_le {k : Nat} (h : 2 ≤ k) : ∀ n, gqC k n + k ≤ gw k n
  | 0 => Nat.le_of_eq (Nat.zero_add _)
  | n + 1 => by
    have := gqC_le h n
    rw [gqC, gw]
    split <;> omega
theorem gw_le {k b : Nat} (h : k ≤ 2 * b) : ∀ n, n ≤ b → gw k n ≤ 2 * b
  | 0, _ => h
  | n + 1, hn => by
    have := gw_le h n (by omega)
    rw [gw]
    split <;> omega
/-! ===== Own events, what they cost ===== -/
theorem rA_hd (c : Nat) : ∀ k, rA1 c (k + 1) = (if rcp c = c then 1 else 0) + rA1 (c + 1) k ∧ rA2 c (k + 1) = (if rcp c = c then 2 * c else 0) + rA2 (c + 1) k
  | 0 => by
    constructor
    · show rA1 c 0 + (if rcp (c + 0) = c + 0 then 1 else 0) = _
      rw [Nat.add_zero]; exact Nat.add_comm _ _
    · show rA2 c 0 + (if rcp (c + 0) = c + 0 then 2 * (c + 0) else 0) = _
      rw [Nat.add_zero]; exact Nat.add_comm _ _
  | k + 1 => by
    obtain ⟨h1, h2⟩ := rA_hd c k
    have e : c + (k + 1) = c + 1 + k := by omega
    constructor
    · rw [rA1, h1, rA1, e, Nat.add_assoc]
    · rw [rA2, h2, rA2, e, Nat.add_assoc]
section RPO
variable {G' : Gr} {T' : Tr} {p s : Nat}
theorem run_c (G G1 : Gr) (s j : Nat) (hn : G1.n = G.n + 1) (hc : G1.cn s = G.cn s + 1) (hm : s < G1.m) : runC G s (j + 1) = enC G s + runC G1 s j ∧ runZ G s (j + 1) = enZ G s + runZ G1 s j := by
  have a1 := capC_mono (G.n + 1) j
  have a2 := capC_mono (G.cn s + 1) j
  have b1 := capZ_mono (G.n + 1) j
  have b2 := capZ_mono (G.cn s + 1) j
  have q1 : capC (G.n + 1) = capC G.n + alC (capF G.n) G.n := rfl
  have q2 : capC (G.cn s + 1) = capC (G.cn s) + alC (capF (G.cn s)) (G.cn s) := rfl
  have q3 : capZ (G.n + 1) = capZ G.n + alZ (capF G.n) G.n := rfl
  have q4 : capZ (G.cn s + 1) = capZ (G.cn s) + alZ (capF (G.cn s)) (G.cn s) := rfl
  have e1 : G.n + (j + 1) = G.n + 1 + j := by omega
  have e2 : G.cn s + (j + 1) = G.cn s + 1 + j := by omega
  unfold runC runZ enC enZ
  rw [hn, hc, if_pos hm, if_pos hm, e1, e2, if_neg (Nat.succ_ne_zero j), if_neg (Nat.succ_ne_zero j)]
  constructor
  · split <;> omega
  · split <;> omega
theorem Run.pot : ∀ {L : List (Option Nat × Nat)} {G : Gr} {T : Tr}, Run p s L G T G' T' → (L ≠ [] → OwSl G p s) → GT G T → gcC G' = gcC G + runC G s L.length ∧ gcZ G' = gcZ G + runZ G s L.length ∧ grC G' = grC G + rA1 (G.cn s) L.length ∧ grZ G' = grZ G + rA2 (G.cn s) L.length
  | [], G, T, h, _, _ => by
    obtain ⟨rfl, rfl⟩ := h
    have z1 : runC G' s 0 = 0 := by
      unfold runC
      rw [if_pos rfl, Nat.add_zero, Nat.add_zero, Nat.sub_self, Nat.sub_self]
      split <;> rfl
    have z2 : runZ G' s 0 = 0 := by
      unfold runZ
      rw [if_pos rfl, Nat.add_zero, Nat.add_zero, Nat.sub_self, Nat.sub_self]
      split <;> rfl
    exact ⟨by show _ = _ + runC G' s 0; rw [z1]; rfl, by show _ = _ + runZ G' s 0; rw [z2]; rfl, rfl, rfl⟩
  | (oc, ix) :: L, G, T, h, hs, hg => by
    obtain ⟨G3, T3, a1, a2⟩ := h
    have hs := hs (by intro q; cases q)
    obtain ⟨n1, n2, n3, n4⟩ := a1.nx hs
    obtain ⟨H, -, hst⟩ := a1
    obtain ⟨p1, p2, p3, p4⟩ := hst.pot hs hg.1
    obtain ⟨r1, r2, r3, r4⟩ := Run.pot a2 (fun _ => n3) n4
    have hm : s < G3.m := (hst.nx hs.eg).2.2.1
    obtain ⟨c1, c2⟩ := run_c G G3 s L.length n1 n2 hm
    obtain ⟨d1, d2⟩ := rA_hd (G.cn s) L.length
    rw [n2] at r3 r4
    have e1 : ad1 G s = if rcp (G.cn s) = G.cn s then 1 else 0 := rfl
    have e2 : ad2 G s = if rcp (G.cn s) = G.cn s then 2 * G.cn s else 0 := rfl
    rw [List.length_cons]
    refine ⟨by omega, by omega, ?_, ?_⟩
    · rw [d1, r3, p3, e1]; omega
    · rw [d2, r4, p4, e2]; omega
end RPO
/-! ===== How large the potentials are ===== -/
theorem capC_n : ∀ n, capC n ≤ n
  | 0 => Nat.le_refl _
  | n + 1 => by
    have := capC_n n
    rw [capC]
    have : alC (capF n) n ≤ 1 := by unfold alC; split <;> omega
    omega
theorem capZ_n : ∀ n, capZ n ≤ 4 * capF n
  | 0 => Nat.le_refl _
  | n + 1 => by
    have ih := capZ_n n
    have h := capF_10 n
    have := (alK_z (c := capF n) (l := n) (by omega)).1
    rw [capZ, capF]
    omega
theorem capZ_8 (n : Nat) : capZ n ≤ 8 * n + 40 := by
  have h := capF_10 n
  have := capZ_n n
  omega
theorem rA_n : ∀ c, rA1 0 c ≤ c ∧ rA2 0 c + 16 = 2 * rcp c ∧ rcp c ≤ 2 * c + 8
  | 0 => ⟨Nat.le_refl _, rfl, Nat.le_refl _⟩
  | c + 1 => by
    obtain ⟨h1, h2, h3⟩ := rA_n c
    rw [rA1, rA2, rcp, Nat.zero_add]
    split <;> omega
theorem cn_sum (G : Gr) : ∀ N, smN (fun t => G.cnt N t) 16 ≤ N
  | 0 => by
    have : smN (fun t => G.cnt 0 t) 16 = smN (fun _ => 0) 16 := smN_cg (fun _ _ => rfl)
    rw [this]; decide
  | N + 1 => by
    have ih := cn_sum G N
    by_cases c : (G.ev N).sl < 16
    · have := smN_up (f := fun t => G.cnt N t) (g := fun t => G.cnt (N + 1) t) (s := (G.ev N).sl) (d := 1) (by show G.cnt (N + 1) _ = _; rw [Gr.cnt, if_pos rfl]) (fun t ht => by show G.cnt (N + 1) t = _; rw [Gr.cnt, if_neg (fun w => ht w.symm)]; rfl) c
      omega
    · have : smN (fun t => G.cnt (N + 1) t) 16 = smN (fun t => G.cnt N t) 16 := smN_cg (fun t ht => by show G.cnt (N + 1) t = _; rw [Gr.cnt, if_neg (fun w => c (by rw [w]; exact ht))]; rfl)
      omega
theorem smN_lin {f g : Nat → Nat} {a b : Nat} : ∀ {k : Nat}, (∀ t, t < k → f t ≤ a * g t + b) → smN f k ≤ a * smN g k + b * k
  | 0, _ => Nat.zero_le _
  | k + 1, h => by
    have ih := smN_lin (k := k) (fun t ht => h t (by omega))
    have := h k (by omega)
    rw [smN, smN, Nat.mul_add, Nat.mul_succ]
    omega
theorem gc_le {G : Gr} (hG : G.ok) : gcC G ≤ 49184 ∧ gcZ G ≤ 705288 ∧ grC G ≤ 8192 ∧ grZ G ≤ 32768 := by
  have hn := hG.hn
  have hm := hG.hm
  have hs : smN (fun t => G.cn t) 16 ≤ G.n := cn_sum G G.n
  have h1 : smN (fun t => capC (G.cn t)) 16 ≤ 1 * smN (fun t => G.cn t) 16 + 0 * 16 := smN_lin (fun t _ => by have := capC_n (G.cn t); omega)
  have h2 : smN (fun t => capZ (G.cn t)) 16 ≤ 8 * smN (fun t => G.cn t) 16 + 40 * 16 := smN_lin (fun t _ => capZ_8 (G.cn t))
  have h3 : smN (fun t => rA1 0 (G.cn t)) 16 ≤ 1 * smN (fun t => G.cn t) 16 + 0 * 16 := smN_lin (fun t _ => by have := (rA_n (G.cn t)).1; omega)
  have h4 : smN (fun t => rA2 0 (G.cn t)) 16 ≤ 4 * smN (fun t => G.cn t) 16 + 0 * 16 := smN_lin (fun t _ => by have := (rA_n (G.cn t)).2; omega)
  have h5 := capC_n G.n
  have h6 := capZ_8 G.n
  unfold gcC gcZ grC grZ
  omega
