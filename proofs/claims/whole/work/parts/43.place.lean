/-! ===== Where a new node goes ===== -/
theorem Tr.site {T : Tr} {lf : Nat} {rg : Option Nat} (h : T.ok) (hl : lf = 0 ∨ lf ∈ T.od) (hr : ∀ r, rg = some r → r ∈ T.od) :
    ∃ P F R, T.od = P ++ F ++ R ∧ Rp T.fl T.fr T.sb T.od.length (T.row lf rg) F ∧ (rg = none → P.getLastD 0 = lf) ∧ (∀ r, rg = some r → R.head? = some r) ∧ rg.getD lf ∉ F ∧ ∀ (T' : Tr) (F' : List Nat) (k : Nat), Rp T'.fl T'.fr T'.sb k (T'.row lf rg) F' → (∀ y, y ∈ T.od → y ∉ F → T'.sb y = T.sb y) → (∀ y, y ∈ T.od → y ∉ F → (rg = none ∨ y ≠ rg.getD lf) → T'.fl y = T.fl y) → (∀ y, y ∈ T.od ∨ y = 0 → y ∉ F → (rg ≠ none ∨ y ≠ lf) → T'.fr y = T.fr y) → ∃ m, Rp T'.fl T'.fr T'.sb m (T'.fr 0) (P ++ F' ++ R) := by
  obtain ⟨h1, h2, h3, -⟩ := h
  cases rg with
  | none =>
    by_cases z : lf = 0
    · subst z
      exact ⟨[], T.od, [], by simp, h1, fun _ => rfl, (fun r q => by cases q), h3, fun T' F' k r1 r2 r3 r4 => ⟨k, by rw [List.append_nil]; exact r1⟩⟩
    · have hm := hl.resolve_left z
      obtain ⟨X, A, B, Y, g1, g2, g3, g4⟩ := h1.at h2 hm
      have nd := h2
      rw [g3] at nd
      simp only [List.nodup_append, List.nodup_cons, List.mem_append, List.mem_cons] at nd
      obtain ⟨⟨n1, n2, n3⟩, ⟨n4, n5, n6, n7⟩, n8⟩ := nd
      refine ⟨X ++ A ++ [lf], B, Y, by rw [g3]; simp, g2, fun _ => List.getLastD_concat .., (fun r q => by cases q), fun w => n4 (Or.inl w), fun T' F' k r1 r2 r3 r4 => ⟨T.od.length + (T.od.length + k), ?_⟩⟩
      have f0 : T'.fr 0 = T.fr 0 := r4 0 (Or.inr rfl) (fun w => h3 (by rw [g3]; simp [w])) (Or.inr (fun w => z w.symm))
      have hA : Rp T'.fl T'.fr T'.sb (T.od.length + k) (T'.fl lf) A := by
        rw [r3 lf hm (fun w => n4 (Or.inl w)) (Or.inl rfl)]
        refine (g1.congr (fun y hy => ?_)).mono (by omega)
        have yO : y ∈ T.od := by rw [g3]; simp [hy]
        have yB : y ∉ B := fun w => n8 y (Or.inr hy) y (Or.inr (Or.inl w)) rfl
        have yl : y ≠ lf := fun w => n8 y (Or.inr hy) lf (Or.inl rfl) w
        exact ⟨r3 y yO yB (Or.inl rfl), r4 y (Or.inl yO) yB (Or.inr yl), r2 y yO yB⟩
      have := g4 T'.fl T'.fr T'.sb A F' (T.od.length + k) hA (r1.mono (by omega)) (r2 lf hm (fun w => n4 (Or.inl w))) (fun y hy q1 q2 q3 => ⟨r3 y hy q3 (Or.inl rfl), r4 y (Or.inl hy) q3 (Or.inr q1), r2 y hy q3⟩)
      rw [f0]
      simpa using this
  | some r =>
    have hm := hr r rfl
    have r0 : r ≠ 0 := fun w => h3 (w ▸ hm)
    obtain ⟨X, A, B, Y, g1, g2, g3, g4⟩ := h1.at h2 hm
    have nd := h2
    rw [g3] at nd
    simp only [List.nodup_append, List.nodup_cons, List.mem_append, List.mem_cons] at nd
    obtain ⟨⟨n1, n2, n3⟩, ⟨n4, n5, n6, n7⟩, n8⟩ := nd
    have rA : r ∉ A := fun w => n8 r (Or.inr w) r (Or.inl rfl) rfl
    refine ⟨X, A, r :: (B ++ Y), by rw [g3], g1, (fun q => by cases q), (fun r q => by cases q; rfl), rA, fun T' F' k r1 r2 r3 r4 => ⟨T.od.length + (T.od.length + k), ?_⟩⟩
    have f0 : T'.fr 0 = T.fr 0 := r4 0 (Or.inr rfl) (fun w => h3 (by rw [g3]; simp [w])) (Or.inl (fun w => by cases w))
    have hB : Rp T'.fl T'.fr T'.sb (T.od.length + k) (T'.fr r) B := by
      rw [r4 r (Or.inl hm) rA (Or.inl (fun w => by cases w))]
      refine (g2.congr (fun y hy => ?_)).mono (by omega)
      have yO : y ∈ T.od := by rw [g3]; simp [hy]
      have yA : y ∉ A := fun w => n8 y (Or.inr w) y (Or.inr (Or.inl hy)) rfl
      have yl : y ≠ r := fun w => n4 (Or.inl (w ▸ hy))
      exact ⟨r3 y yO yA (Or.inr yl), r4 y (Or.inl yO) yA (Or.inl (fun w => by cases w)), r2 y yO yA⟩
    have := g4 T'.fl T'.fr T'.sb F' B (T.od.length + k) (r1.mono (by omega)) hB (r2 r hm rA) (fun y hy q1 q2 q3 => ⟨r3 y hy q2 (Or.inr q1), r4 y (Or.inl hy) q2 (Or.inl (fun w => by cases w)), r2 y hy q2⟩)
    rw [f0]
    exact this
theorem Tr.mk_ok {T T' : Tr} {U V : List Nat} {e : Nat} (h : T.ok) (h1 : T.od = U ++ V) (h2 : T'.od = U ++ e :: V) (he : e ∉ T.od) (he0 : e ≠ 0) (h3 : ∃ m, Rp T'.fl T'.fr T'.sb m (T'.fr 0) T'.od) (h4 : ∀ k, k ∉ T'.od → T'.fl k = T.fl k) (h5 : ∀ k, k ∉ T'.od → k ≠ 0 → T'.fr k = T.fr k) (h6 : ∀ x, Rw T'.sb T'.pr T'.od (T'.fr x) x) (h7 : ∀ x, Rw T'.sb T'.pr T'.od (T'.fl x) x) : T'.ok := by
  obtain ⟨m, hm⟩ := h3
  have sub : ∀ k, k ∉ T'.od → k ∉ T.od := fun k hk w => hk (by rw [h2]; rw [h1] at w; simp at w ⊢; rcases w with w | w <;> simp [w])
  refine ⟨hm.fuel, ?_, ?_, fun k hk => by rw [h4 k hk]; exact h.2.2.2.1 k (sub k hk), fun k hk k0 => by rw [h5 k hk k0]; exact h.2.2.2.2.1 k (sub k hk) k0, h6, h7⟩
  · have nd := h.2.1
    rw [h1] at nd he
    rw [h2]
    simp only [List.nodup_append, List.nodup_cons, List.mem_append, List.mem_cons, not_or] at nd he ⊢
    refine ⟨nd.1, ⟨he.2, nd.2.1⟩, fun a ha b hb => ?_⟩
    rcases hb with hb | hb
    · exact fun w => he.1 (hb ▸ w ▸ ha)
    · exact nd.2.2 a ha b hb
  · have nz := h.2.2.1
    rw [h1] at nz
    rw [h2]
    simp only [List.mem_append, List.mem_cons, not_or] at nz ⊢
    exact ⟨nz.1, fun w => he0 w.symm, nz.2⟩
/-- the new node has its place, and the tree stays one -/
theorem Tr.put_ok {T : Tr} {lt : Nat → Bool} {lf e : Nat} {rg : Option Nat} (h : T.ok) (he : e ∉ T.od) (he0 : e ≠ 0) (hl : lf = 0 ∨ lf ∈ T.od) (hr : ∀ r, rg = some r → r ∈ T.od) :
    ∃ P Q1 Q2 R, T.od = (P ++ Q1) ++ (Q2 ++ R) ∧ (T.put lt lf rg e ((P ++ Q1) ++ e :: (Q2 ++ R))).ok ∧ Rp T.fl T.fr T.sb T.od.length (T.row lf rg) (Q1 ++ Q2) ∧ (rg = none → P.getLastD 0 = lf) ∧ (∀ r, rg = some r → R.head? = some r) ∧ (lstW lt T.sb T.od.length none (T.row lf rg) = none → Q1 = []) ∧ ∀ x, lstW lt T.sb T.od.length none (T.row lf rg) = some x → ∃ D, Rp T.fl T.fr T.sb T.od.length (T.fr x) D ∧ Q1 ≠ [] ∧ Q1.getLastD 0 = D.getLastD x := by
  obtain ⟨P, F, R, s1, s2, s3, s4, s5, s6⟩ := Tr.site h hl hr
  have eF : e ∉ F := fun w => he (by rw [s1]; simp [w])
  have nF : F.Nodup := by
    have := h.2.1
    rw [s1, List.nodup_append, List.nodup_append] at this
    exact this.1.2.1
  have sF : ∀ y, y ∈ F → y ∈ T.od := fun y hy => by rw [s1]; simp [hy]
  have e1 : T.fl e = none := h.2.2.2.1 e he
  have e2 : T.fr e = none := h.2.2.2.2.1 e he he0
  have el : e ≠ rg.getD lf := by
    cases rg with
    | none => exact fun w => hl.elim (fun z => he0 (w.trans z)) (fun z => he (w ▸ z))
    | some r => exact fun w => he (w ▸ hr r rfl)
  have hrow : Rw T.sb T.pr T.od (T.row lf rg) (rg.getD lf) := by
    cases rg with
    | none => exact h.2.2.2.2.2.1 lf
    | some r => exact h.2.2.2.2.2.2 r
  have sub : ∀ {U V : List Nat}, T.od = U ++ V → ∀ c, c ∈ T.od → c ∈ U ++ e :: V := fun q c hc => by
    rw [q] at hc; simp at hc ⊢; rcases hc with w | w <;> simp [w]
  cases hx : lstW lt T.sb T.od.length none (T.row lf rg) with
  | some x =>
    obtain ⟨A, B, C, z, m, g1, g2, g3, g4, g5, g6⟩ := Rp.put1 (sb' := updO (updO T.sb e (T.sb x)) x (some e)) s2 nF eF e1 e2 hx updO_s (by
      rw [updO_o (fun w => ?_), updO_s]
      exact eF (w ▸ lstW_mem s2 hx)) (fun y q1 q2 => by rw [updO_o q1, updO_o q2])
    have xO := sF x g1
    have hO : T.od = (P ++ (A ++ [z])) ++ (C ++ R) := by rw [s1, g5]; simp
    refine ⟨P, A ++ [z], C, R, hO, ?_, by rw [List.append_assoc]; exact g5 ▸ s2, s3, s4, (fun w => by cases w), fun x' q => ?_⟩
    · have hT : T.put lt lf rg e ((P ++ (A ++ [z])) ++ e :: (C ++ R)) = (T.fl, T.fr, updO (updO T.sb e (T.sb x)) x (some e), updN T.pr e (rg.getD lf), (P ++ (A ++ [z])) ++ e :: (C ++ R)) := by
        unfold Tr.put
        rw [hx]
      rw [hT]
      have px : T.pr x = rg.getD lf := (hrow _ x (lstW_sib hx)).2
      have eI : e ∈ (P ++ (A ++ [z])) ++ e :: (C ++ R) := by simp
      refine Tr.mk_ok h hO rfl he he0 ?_ (fun _ _ => rfl) (fun _ _ _ => rfl) (fun w => Rw.mid (h.2.2.2.2.2.1 w) he xO px (sub hO) eI) (fun w => Rw.mid (h.2.2.2.2.2.2 w) he xO px (sub hO) eI)
      obtain ⟨m2, hm2⟩ := s6 (T.fl, T.fr, updO (updO T.sb e (T.sb x)) x (some e), updN T.pr e (rg.getD lf), (P ++ (A ++ [z])) ++ e :: (C ++ R)) (A ++ z :: e :: C) (T.od.length + 1) (by
        have hrw : Tr.row (T.fl, T.fr, updO (updO T.sb e (T.sb x)) x (some e), updN T.pr e (rg.getD lf), (P ++ (A ++ [z])) ++ e :: (C ++ R)) lf rg = T.row lf rg := by cases rg <;> rfl
        rw [hrw]
        exact g6) (fun y q1 q2 => by
          show updO (updO T.sb e (T.sb x)) x (some e) y = T.sb y
          rw [updO_o (fun w : y = x => q2 (w ▸ g1)), updO_o (fun w : y = e => he (w ▸ q1))]) (fun _ _ _ _ => rfl) (fun _ _ _ _ => rfl)
      refine ⟨m2, ?_⟩
      have e9 : P ++ (A ++ z :: e :: C) ++ R = (P ++ (A ++ [z])) ++ e :: (C ++ R) := by simp
      rw [e9] at hm2
      exact hm2
    · cases q
      obtain ⟨X, A1, D, Y, q1, q2, -⟩ := h.1.at h.2.1 xO
      refine ⟨D, q2, by simp, ?_⟩
      rw [List.getLastD_concat, g4, g2.uniq q2]
  | none =>
    have hO : T.od = (P ++ []) ++ (F ++ R) := by rw [s1]; simp
    refine ⟨P, [], F, R, hO, ?_, s2, s3, s4, fun _ => rfl, (fun x q => by cases q)⟩
    have eI : e ∈ (P ++ []) ++ e :: (F ++ R) := by simp
    have e9 : P ++ (e :: F) ++ R = (P ++ []) ++ e :: (F ++ R) := by simp
    cases rg with
    | none =>
      have hT : T.put lt lf none e ((P ++ []) ++ e :: (F ++ R)) = (T.fl, updO T.fr lf (some e), updO T.sb e (T.fr lf), updN T.pr e lf, (P ++ []) ++ e :: (F ++ R)) := by
        unfold Tr.put
        rw [hx]
      rw [hT]
      have lF : lf ∉ F := s5
      have el : e ≠ lf := el
      have lO : lf ∈ (P ++ []) ++ e :: (F ++ R) ∨ lf = 0 := hl.elim Or.inr (fun w => Or.inl (sub hO lf w))
      refine Tr.mk_ok h hO rfl he he0 ?_ (fun _ _ => rfl) (fun k q1 q2 => updO_o (fun w => lO.elim (fun u => q1 (w ▸ u)) (fun u => q2 (w.trans u)))) (fun w => ?_) (fun w => Rw.out (h.2.2.2.2.2.2 w) he (sub hO))
      · obtain ⟨m2, hm2⟩ := s6 (T.fl, updO T.fr lf (some e), updO T.sb e (T.fr lf), updN T.pr e lf, (P ++ []) ++ e :: (F ++ R)) (e :: F) (T.od.length + 1) (by
          show Rp T.fl (updO T.fr lf (some e)) (updO T.sb e (T.fr lf)) (T.od.length + 1) (updO T.fr lf (some e) lf) (e :: F)
          rw [updO_s]
          exact Rp.put0 s2 e1 (by rw [updO_o el]; exact e2) updO_s (fun y hy => ⟨rfl, updO_o (fun w => lF (w ▸ hy)), updO_o (fun w => eF (w ▸ hy))⟩)) (fun y q1 q2 => updO_o (fun w => he (w ▸ q1))) (fun _ _ _ _ => rfl) (fun y q1 q2 q3 => updO_o (q3.resolve_left (fun w => w rfl)))
        rw [e9] at hm2
        exact ⟨m2, hm2⟩
      · show Rw (updO T.sb e (T.fr lf)) (updN T.pr e lf) _ (updO T.fr lf (some e) w) w
        by_cases q : w = lf
        · rw [q, updO_s]; exact Rw.fst (h.2.2.2.2.2.1 lf) he (sub hO) eI
        · rw [updO_o q]; exact Rw.out (h.2.2.2.2.2.1 w) he (sub hO)
    | some r =>
      have hT : T.put lt lf (some r) e ((P ++ []) ++ e :: (F ++ R)) = (updO T.fl r (some e), T.fr, updO T.sb e (T.fl r), updN T.pr e r, (P ++ []) ++ e :: (F ++ R)) := by
        unfold Tr.put
        rw [hx]
      rw [hT]
      have rF : r ∉ F := s5
      have el : e ≠ r := el
      have rO := sub hO r (hr r rfl)
      refine Tr.mk_ok h hO rfl he he0 ?_ (fun k q1 => updO_o (fun w => q1 (w ▸ rO))) (fun _ _ _ => rfl) (fun w => Rw.out (h.2.2.2.2.2.1 w) he (sub hO)) (fun w => ?_)
      · obtain ⟨m2, hm2⟩ := s6 (updO T.fl r (some e), T.fr, updO T.sb e (T.fl r), updN T.pr e r, (P ++ []) ++ e :: (F ++ R)) (e :: F) (T.od.length + 1) (by
          show Rp (updO T.fl r (some e)) T.fr (updO T.sb e (T.fl r)) (T.od.length + 1) (updO T.fl r (some e) r) (e :: F)
          rw [updO_s]
          exact Rp.put0 s2 (by rw [updO_o el]; exact e1) e2 updO_s (fun y hy => ⟨updO_o (fun w => rF (w ▸ hy)), rfl, updO_o (fun w => eF (w ▸ hy))⟩)) (fun y q1 q2 => updO_o (fun w => he (w ▸ q1))) (fun y q1 q2 q3 => updO_o (q3.resolve_left (fun w => by cases w))) (fun _ _ _ _ => rfl)
        rw [e9] at hm2
        exact ⟨m2, hm2⟩
      · show Rw (updO T.sb e (T.fl r)) (updN T.pr e r) _ (updO T.fl r (some e) w) w
        by_cases q : w = r
        · rw [q, updO_s]; exact Rw.fst (h.2.2.2.2.2.2 r) he (sub hO) eI
        · rw [updO_o q]; exact Rw.out (h.2.2.2.2.2.2 w) he (sub hO)
