/-! ===== An event that may come in does: steps are total ===== -/
theorem flt_ix {f : Nat → Bool} : ∀ {O : List Nat} {i : Nat}, i < (O.filter f).length → ∃ U x V, O = U ++ x :: V ∧ f x = true ∧ (U.filter f).length = i
  | [], i, h => absurd h (Nat.not_lt_zero i)
  | a :: O, i, h => by
    by_cases c : f a = true
    · rw [List.filter_cons_of_pos c] at h
      cases i with
      | zero => exact ⟨[], a, O, rfl, c, rfl⟩
      | succ i =>
        obtain ⟨U, x, V, u1, u2, u3⟩ := flt_ix (O := O) (i := i) (Nat.lt_of_succ_lt_succ h)
        exact ⟨a :: U, x, V, by rw [u1]; rfl, u2, by rw [List.filter_cons_of_pos c, List.length_cons, u3]⟩
    · rw [List.filter_cons_of_neg c] at h
      obtain ⟨U, x, V, u1, u2, u3⟩ := flt_ix (O := O) (i := i) h
      exact ⟨a :: U, x, V, by rw [u1]; rfl, u2, by rw [List.filter_cons_of_neg c, u3]⟩
theorem flt_pre {f : Nat → Bool} {O : List Nat} {i : Nat} (h : i ≤ (O.filter f).length) : ∃ A B, O = A ++ B ∧ (A = [] ∨ f (A.getLastD 0) = true) ∧ (A.filter f).length = i := by
  cases i with
  | zero => exact ⟨[], O, rfl, Or.inl rfl, rfl⟩
  | succ i =>
    obtain ⟨U, x, V, u1, u2, u3⟩ := flt_ix h
    refine ⟨U ++ [x], V, by rw [u1]; simp, Or.inr (by rw [List.getLastD_concat]; exact u2), ?_⟩
    rw [List.filter_append, List.length_append, u3, List.filter_cons_of_pos u2]; rfl
theorem put_pr {T : Tr} {lt : Nat → Bool} {lf e : Nat} {rg : Option Nat} {O : List Nat} {k : Nat} (hk : k ≠ e) : (T.put lt lf rg e O).pr k = T.pr k := by
  unfold Tr.put
  split
  · exact updN_o hk
  · split
    · exact updN_o hk
    · exact updN_o hk
section TOT
variable {G : Gr} {T : Tr} {a ix s : Nat} {P : List Nat} {oc : Option Nat}
theorem EnP.tot (hg : GT G T) (h : EnP G a P oc ix s) : ∃ G' T', StpE G T a P oc ix s G' T' := by
  obtain ⟨L, hL⟩ := srt_exE hg.1 h.2.2.2.1 h.2.2.2.2.1 s a
  have hs : OwSl G a s := h.2.2.2.2.2.2.1
  have hge : GT (eGr G s a) T := hs.gt hg h.2.1
  have en := eGr_n G s a
  have ec : c1 (eGr G s a) (G.jn P) (eGr G s a).n = (T.od.filter (snW (eGr G s a) (G.jn P))).length := hge.c1
  rw [eGr_c1, en.1] at ec
  cases oc with
  | none =>
    have hx := h.2.2.2.2.2.2.2.2.2 rfl
    rw [ec] at hx
    obtain ⟨U, x, V, u1, u2, u3⟩ := flt_ix hx
    have hxo : x ∈ T.od := by rw [u1]; simp
    obtain ⟨k, rfl, k1, k2⟩ := (hge.2.2.2.1 x).1 hxo
    have ein := h.ein (tg := k) hL
    refine ⟨_, T, (s, G.cn s, G.jn P, L, none, ix, k), rfl, rfl, rfl, hL, rfl, rfl, ein, rfl, hge.del ein rfl hxo, Or.inr ⟨rfl, rfl, U, V, u1, u2, u3⟩⟩
  | some c =>
    have hx := (h.2.2.2.2.2.2.2.2.1 c rfl).2
    rw [ec] at hx
    obtain ⟨A, B, a1, a2, a3⟩ := flt_pre hx
    have ein := h.ein (tg := 0) hL
    have hrg : ∃ rg, T.rgt (ivW (eGr G s a) (G.jn P)) (A.getLastD 0) B rg := by
      by_cases c : ∃ y ∈ sibW T.sb T.od.length (T.fr (A.getLastD 0)), ivW (eGr G s a) (G.jn P) y = true
      · exact ⟨_, Or.inl ⟨c, rfl⟩⟩
      · exact ⟨_, Or.inr ⟨c, rfl⟩⟩
    obtain ⟨rg, hrg⟩ := hrg
    have hV : (eGr G s a).Ver (G.jn P) := by
      rw [← eGr_jn G s a]
      exact Gr.jn_ver hge.1 (fun p hp => by rw [en.1]; exact h.2.2.2.2.1 p hp)
    have nin : (eGr G s a).n + 1 ∉ T.od := fun q => by
      obtain ⟨k, k1, k2, -⟩ := (hge.2.2.2.1 _).1 q
      omega
    have hv : ∀ c, c ∈ T.od → ivW (eGr G s a) (G.jn P) c = true → T.pr c ≠ 0 → ivW (eGr G s a) (G.jn P) (T.pr c) = true := fun c hc w hp => by
      obtain ⟨k, rfl, k1, -⟩ := (hge.2.2.2.1 c).1 hc
      have hb := (hge.2.2.2.2.1 k hc hp).2
      rw [ivW_has] at w ⊢
      have hver := hV.2 k k1 w ((eGr G s a).ev (T.pr (k + 1) - 1)).sl
      simp only [Gr.bef, Gr.has, decide_eq_true_eq] at hb ⊢
      omega
    have hsn : ∀ y, snW (eGr G s a) (G.jn P) y = true → ivW (eGr G s a) (G.jn P) y = true := fun y q => by
      simp only [snW, ivW, decide_eq_true_eq] at q ⊢
      omega
    obtain ⟨T', P1, Q1, Q2, R, t1, t2, t3, t4, -⟩ := Tr.ins_ex (lt := lessK ((eGr G s a).push (s, G.cn s, G.jn P, L, some c, ix, 0) (eGr G s a).m (eGr G s a).ag) (eGr G s a).n) hge.2.2.1 nin (by omega) hv hsn a1 a2 hrg
    rw [a3] at t1
    have gt' : GT ((eGr G s a).push (s, G.cn s, G.jn P, L, some c, ix, 0) (eGr G s a).m (eGr G s a).ag) T' := hge.ins ein (fun q => by cases q) t1 (fun k hk => by rw [t2]; exact put_pr hk) t3 t4
    refine ⟨_, T', (s, G.cn s, G.jn P, L, some c, ix, 0), rfl, rfl, rfl, hL, rfl, rfl, ein, rfl, gt', Or.inl ⟨(fun q => by cases q), rfl, ?_⟩⟩
    have t1 := t1
    rw [en.1] at t1
    exact t1
end TOT
/-! ===== What the events of a graph cost, as a potential ===== -/
def smN (f : Nat → Nat) : Nat → Nat
  | 0 => 0
  | k + 1 => smN f k + f k
theorem smN_cg {f g : Nat → Nat} : ∀ {k : Nat}, (∀ t, t < k → f t = g t) → smN f k = smN g k
  | 0, _ => rfl
  | k + 1, h => by rw [smN, smN, smN_cg (fun t ht => h t (by omega)), h k (by omega)]
theorem smN_up {f g : Nat → Nat} {s d : Nat} (h1 : g s = f s + d) (h2 : ∀ t, t ≠ s → g t = f t) : ∀ {k : Nat}, s < k → smN g k = smN f k + d
  | 0, h => absurd h (Nat.not_lt_zero s)
  | k + 1, h => by
    rw [smN, smN]
    by_cases e : s = k
    · subst e
      rw [smN_cg (fun t ht => h2 t (by omega)), h1]; omega
    · rw [smN_up h1 h2 (k := k) (by omega), h2 k (fun w => e w.symm)]; omega
theorem smN_le {f g : Nat → Nat} : ∀ {k : Nat}, (∀ t, t < k → f t ≤ g t) → smN f k ≤ smN g k
  | 0, _ => Nat.le_refl _
  | k + 1, h => by
    rw [smN, smN]
    have := smN_le (k := k) (fun t ht => h t (by omega))
    have := h k (by omega)
    omega
def gcC (G : Gr) : Nat := 4 * G.n + 2 * G.m + capC G.n + smN (fun t => capC (G.cn t)) 16
def gcZ (G : Gr) : Nat := 70 * G.n + 6 * G.m + capZ G.n + smN (fun t => capZ (G.cn t)) 16
def grC (G : Gr) : Nat := smN (fun t => rA1 0 (G.cn t)) 16
def grZ (G : Gr) : Nat := smN (fun t => rA2 0 (G.cn t)) 16
section POT
variable {G G' : Gr} {T T' : Tr} {a ix s : Nat} {P : List Nat} {oc : Option Nat}
theorem StpE.pot (h : StpE G T a P oc ix s G' T') (hs : OwSl G a s) (hG : G.ok) : gcC G' = gcC G + enC G s ∧ gcZ G' = gcZ G + enZ G s ∧ grC G' = grC G + ad1 G s ∧ grZ G' = grZ G + ad2 G s := by
  have n1 := h.cnt1
  obtain ⟨m1, -⟩ := h.m'
  have hm : (eGr G s a).m = G.m + if s < G.m then 0 else 1 := by
    unfold eGr
    split
    · rfl
    · rfl
  rw [hm] at m1
  have s16 : s < 16 := by
    have := hG.hm
    rcases hs with q | q
    · omega
    · omega
  have cs : ∀ t, G'.cn t = G.cn t + if s = t then 1 else 0 := fun t => by
    obtain ⟨e, e1, e2, e3, e4, e5, e6, e7, rfl, e8, -⟩ := h
    rw [Gr.push_cn, eGr_cn, e1]
  have c1 : G'.cn s = G.cn s + 1 := by rw [cs, if_pos rfl]
  have c2 : ∀ t, t ≠ s → G'.cn t = G.cn t := fun t ht => by rw [cs, if_neg (fun w => ht w.symm)]; rfl
  have k1 : smN (fun t => capC (G'.cn t)) 16 = smN (fun t => capC (G.cn t)) 16 + alC (capF (G.cn s)) (G.cn s) := smN_up (by show capC (G'.cn s) = _; rw [c1]; rfl) (fun t ht => by show capC (G'.cn t) = _; rw [c2 t ht]) s16
  have k2 : smN (fun t => capZ (G'.cn t)) 16 = smN (fun t => capZ (G.cn t)) 16 + alZ (capF (G.cn s)) (G.cn s) := smN_up (by show capZ (G'.cn s) = _; rw [c1]; rfl) (fun t ht => by show capZ (G'.cn t) = _; rw [c2 t ht]) s16
  have k3 : smN (fun t => rA1 0 (G'.cn t)) 16 = smN (fun t => rA1 0 (G.cn t)) 16 + ad1 G s := smN_up (by show rA1 0 (G'.cn s) = _; rw [c1, rA1, Nat.zero_add]; rfl) (fun t ht => by show rA1 0 (G'.cn t) = _; rw [c2 t ht]) s16
  have k4 : smN (fun t => rA2 0 (G'.cn t)) 16 = smN (fun t => rA2 0 (G.cn t)) 16 + ad2 G s := smN_up (by show rA2 0 (G'.cn s) = _; rw [c1, rA2, Nat.zero_add]; rfl) (fun t ht => by show rA2 0 (G'.cn t) = _; rw [c2 t ht]) s16
  have q1 : capC (G.n + 1) = capC G.n + alC (capF G.n) G.n := rfl
  have q2 : capZ (G.n + 1) = capZ G.n + alZ (capF G.n) G.n := rfl
  unfold gcC gcZ grC grZ enC enZ
  rw [k1, k2, k3, k4, n1, m1, q1, q2]
  refine ⟨?_, ?_, rfl, rfl⟩
  · split <;> omega
  · split <;> omega
end POT
