/-! ===== An event that comes in leaves one graph and one tree ===== -/
theorem sn_mid {sn : Nat → Bool} {U1 V1 U2 V2 : List Nat} {x1 x2 : Nat} (h : U1 ++ x1 :: V1 = U2 ++ x2 :: V2) (h1 : sn x1 = true) (h2 : sn x2 = true) (hc : (U1.filter sn).length = (U2.filter sn).length) : x1 = x2 := by
  have key : ∀ {U1 V1 U2 V2 a : List Nat} {x1 x2 : Nat}, sn x1 = true → (U1.filter sn).length = (U2.filter sn).length → U2 = U1 ++ a → x1 :: V1 = a ++ x2 :: V2 → x1 = x2 := by
    intro U1 V1 U2 V2 a x1 x2 h1 hc q1 q2
    cases a with
    | nil => injection q2
    | cons y a =>
      rw [List.cons_append] at q2
      injection q2 with q3 q4
      subst q3
      rw [q1, List.filter_append, List.filter_cons, if_pos h1] at hc
      simp at hc
  rcases List.append_eq_append_iff.1 h with ⟨a, q1, q2⟩ | ⟨a, q1, q2⟩
  · exact key h1 hc q1 q2
  · exact (key h2 hc.symm q1 q2).symm
theorem SrtK.uniq {G : Gr} {P L M : List Nat} {n : Nat} (h1 : SrtK G P L n) (h2 : SrtK G P M n) : L = M := srt_uniq h1.2.2 h2.2.2 (fun x => (h1.2.1 x).trans (h2.2.1 x).symm)
theorem StpE.uniq {G G1 G2 : Gr} {T T1 T2 : Tr} {a : Nat} {P : List Nat} {oc : Option Nat} {ix s : Nat} (h1 : StpE G T a P oc ix s G1 T1) (h2 : StpE G T a P oc ix s G2 T2) : G1 = G2 ∧ T1 = T2 := by
  obtain ⟨⟨s1, n1, p1, r1, c1, x1, t1⟩, e1, e2, e3, e4, e5, e6, e7, rfl, e8, e9⟩ := h1
  obtain ⟨⟨s2, n2, p2, r2, c2, x2, t2⟩, f1, f2, f3, f4, f5, f6, f7, rfl, f8, f9⟩ := h2
  have q1 : s1 = s2 := Eq.trans e1 (Eq.symm f1)
  have q2 : n1 = n2 := Eq.trans e2 (Eq.symm f2)
  have q3 : p1 = p2 := Eq.trans e3 (Eq.symm f3)
  have q4 : r1 = r2 := SrtK.uniq e4 f4
  have q5 : c1 = c2 := Eq.trans e5 (Eq.symm f5)
  have q6 : x1 = x2 := Eq.trans e6 (Eq.symm f6)
  subst q1
  subst q2
  subst q3
  subst q4
  subst q5
  subst q6
  rcases e9 with ⟨a1, a2, a3⟩ | ⟨a1, rfl, U, V, u1, u2, u3⟩ <;> rcases f9 with ⟨b1, b2, b3⟩ | ⟨b1, b0, U', V', v1, v2, v3⟩
  · have q7 : t1 = t2 := Eq.trans a2 (Eq.symm b2)
    subst q7
    exact ⟨rfl, Tr.ins_uniq a3 b3⟩
  · exact absurd b1 a1
  · exact absurd a1 b1
  · have hx := sn_mid (u1.symm.trans v1) u2 v2 (u3.trans v3.symm)
    have q7 : t1 = t2 := by
      have : t1 + 1 = t2 + 1 := hx
      omega
    subst q7
    exact ⟨rfl, b0.symm⟩
