/-! ===== Agreement: what reading a message does ===== -/
section JPA
variable {B L : List Nat} {x y x' y' : Nat → Nat}
theorem Cols.cu (h : Cols B x y) (h' : Cols B x' y') : ∀ k, k < 5 → x' k = x k ∧ y' k = y k := fun k hk => ClK.uniq h'.1 h.1 k hk
theorem Cols.le (h : Cols B x y) (h7 : 7 ≤ B.length) : ∀ k, k < 5 → x k ≤ y k ∧ y k ≤ B.length - 4
  | 0, hk => by
    have := spl_le (by show 3 ≤ _; omega) (h.1 0 hk)
    omega
  | k + 1, hk => by
    have h1 := Cols.le h h7 k (by omega)
    have := spl_le (show clS y (k + 1) ≤ B.length - 4 from h1.2) (h.1 (k + 1) hk)
    omega
theorem nsp_cg (h : ∀ k, k < 5 → x' k = x k ∧ y' k = y k) : nsp B L x' y' = nsp B L x y := by
  unfold nsp
  rw [(h 1 (by decide)).1, (h 1 (by decide)).2]
theorem npa_cg (h : ∀ k, k < 5 → x' k = x k ∧ y' k = y k) (A : List SpR) : npa B L x' y' A = npa B L x y A := by
  unfold npa
  rw [(h 2 (by decide)).1, (h 2 (by decide)).2]
theorem nop_cg (h : ∀ k, k < 5 → x' k = x k ∧ y' k = y k) (A : List SpR) : nop B x' y' A = nop B x y A := by
  unfold nop
  rw [(h 3 (by decide)).1, (h 3 (by decide)).2]
theorem jpS_cg (h : ∀ k, k < 5 → x' k = x k ∧ y' k = y k) {SY : List Int32} {Ox : List (Nat × Int) × Nat × Nat} (hs : jpS B x' y' L SY Ox) : jpS B x y L SY Ox := by
  unfold jpS jpA at hs ⊢
  rw [nsp_cg h, npa_cg h, nop_cg h, (h 2 (by decide)).2, (h 3 (by decide)).2] at hs
  exact hs
theorem raw_upk (hB : ∀ b ∈ B, b < 256) (q p : Nat) : rawT (upk B q p) = (upk B q p).2.1 := bPuts_map (upk_ok hB q p).1 (upk_ok hB q p).2
/-- columns, agents, text: one way only -/
theorem jpT_cg (hC : Cols B x y) (hA : rdA B (x 0) (y 0) = some L) {L' : List Nat} {SY : List Int32} (hs : jpT B x' y' L' SY) : L' = L ∧ jpT B x y L SY ∧ ∀ k, k < 5 → x' k = x k ∧ y' k = y k := by
  obtain ⟨h1, h2, h3, h4⟩ := hs
  have e := hC.cu h1
  rw [(e 0 (by decide)).1, (e 0 (by decide)).2, hA] at h2
  injection h2 with h2
  rw [(e 4 (by decide)).1, (e 4 (by decide)).2] at h3 h4
  exact ⟨h2.symm, ⟨hC, hA, h3, h4⟩, e⟩
theorem jp_ins (hB : ∀ b ∈ B, b < 256) (h7 : 7 ≤ B.length) {f f' : Nat} {kz kz' : Nat → Nat} {G G' : Gr} {T T' : Tr} (h : insF B f) (hx : jpX B kz G T G' T' kz' f') : f' = f ∧ G' = G ∧ T' = T := by
  rcases hx with ⟨hF, rfl, rfl⟩ | ⟨x', y', L', SY, Ox, hT, hS, hr⟩
  · refine ⟨?_, rfl, rfl⟩
    rcases h with ⟨rfl, h⟩ | ⟨rfl, x, y, L, h1, h2, h3⟩ | ⟨rfl, x, y, L, sy, h1, h2, h3, h4, h5⟩ <;> rcases hF with ⟨rfl, g, -⟩ | ⟨rfl, ⟨x', y', L', g1, g2, g3⟩, -⟩ | ⟨rfl, x', y', L', SY, g1, g2, -⟩
    · rfl
    · rw [h x' y' g1] at g2; cases g2
    · have w := g1.2.1
      rw [h x' y' g1.1] at w; cases w
    · rw [g x y h1] at h2; cases h2
    · rfl
    · obtain ⟨-, ⟨-, -, k3, k4⟩, -⟩ := jpT_cg h1 h2 g1
      rw [raw_upk hB] at h3
      rcases h3 with w | w
      · rw [k3] at w; cases w
      · rw [k4] at w; cases w
    · rw [g x y h1] at h2; cases h2
    · have e := h1.cu g1
      rw [(e 4 (by decide)).1, (e 4 (by decide)).2] at g3
      rw [raw_upk hB] at h4
      rcases g3 with w | w
      · rw [h3] at w; cases w
      · rw [h4] at w; cases w
    · rfl
  · exfalso
    rcases h with ⟨rfl, h⟩ | ⟨rfl, x, y, L, h1, h2, h3⟩ | ⟨rfl, x, y, L, sy, h1, h2, h3, h4, h5⟩
    · have := hT.2.1
      rw [h x' y' hT.1] at this; cases this
    · obtain ⟨-, ⟨-, -, k3, k4⟩, -⟩ := jpT_cg h1 h2 hT
      rw [raw_upk hB] at h3
      rcases h3 with w | w
      · rw [k3] at w; cases w
      · rw [k4] at w; cases w
    · obtain ⟨rfl, ⟨-, -, k3, k4⟩, e⟩ := jpT_cg h1 h2 hT
      rw [raw_upk hB, k4] at h4
      injection h4 with h4
      subst h4
      obtain ⟨s1, s2, s3, s4, s5⟩ := jpS_cg e hS
      obtain ⟨AA, hAA⟩ := rd_bw s1 s2 s3 s4 s5
      rw [hAA] at h5; cases h5
theorem jp_run (hB : ∀ b ∈ B, b < 256) (h7 : 7 ≤ B.length) {E : List Ev3} {f f' : Nat} {kz kz' : Nat → Nat} {G G' G1 : Gr} {T T' T1 : Tr} (hG : GT G T) (h : rdM B L E) (hb : brR L E G T none G1 T1 f) (hx : jpX B kz G T G' T' kz' f') : f' = f ∧ G' = G1 ∧ T' = T1 := by
  obtain ⟨x, y, sy, AA, h1, h2, h3, h4, h5, rfl⟩ := h
  rw [raw_upk hB] at h4
  have le := h1.le h7
  obtain ⟨w1, w2, w3, w4, w5⟩ := rd_fw hB (le 2 (by decide)).1 (le 3 (by decide)).1 h5
  rcases hx with ⟨hF, -, -⟩ | ⟨x', y', L', SY, Ox, hT, hS, hr⟩
  · exfalso
    rcases hF with ⟨-, g, -⟩ | ⟨-, ⟨x', y', L', g1, g2, g3⟩, -⟩ | ⟨-, x', y', L', SY, g1, g2, -⟩
    · rw [g x y h1] at h2; cases h2
    · have e := h1.cu g1
      rw [(e 4 (by decide)).1, (e 4 (by decide)).2] at g3
      rcases g3 with w | w
      · rw [h3] at w; cases w
      · rw [h4] at w; cases w
    · obtain ⟨rfl, ⟨-, -, k3, k4⟩, e⟩ := jpT_cg h1 h2 g1
      rw [h4] at k4
      injection k4 with k4
      subst k4
      refine g2 (AA.map op2, sy.length, y 3) (jpS_cg (x' := x) (y' := y) (fun k hk => ⟨(e k hk).1.symm, (e k hk).2.symm⟩) ?_)
      unfold jpS jpA
      rw [w1]
      exact ⟨rfl, by rw [w2]; exact ⟨rfl, rfl⟩, w3, rfl, rfl⟩
  · obtain ⟨rfl, ⟨-, -, k3, k4⟩, e⟩ := jpT_cg h1 h2 hT
    rw [h4] at k4
    injection k4 with k4
    subst k4
    obtain ⟨s1, s2, s3, s4, s5⟩ := jpS_cg e hS
    unfold jpA at s3
    rw [w1] at s3
    have s3 : nop B x y (AA.map sp3) = some Ox := s3
    rw [w3] at s3
    injection s3 with s3
    have ee : jpE B L' x' y' sy Ox = rvAll (AA.map sp3) (pas L' (AA.map sp3) 0 AA) (AA.map op2) AA.length 0 sy := by
      unfold jpE jpD jpA
      rw [nsp_cg e, npa_cg e, w1, ← s3]
      show rvAll (AA.map sp3) (npa B L' x y (AA.map sp3)).2.1 (AA.map op2) (AA.map sp3).length 0 sy = _
      rw [w2, List.length_map]
    rw [ee] at hr
    have ev := evR_all (L := L') w4 w5 (R := AA) (M := []) (sy := sy) (pv := none) rfl (fun q => absurd rfl q)
    obtain ⟨a1, a2, a3⟩ := br_rv ev hG (fun u hu => by cases hu) hb hr
    exact ⟨a3.symm, a1.symm, a2.symm⟩
end JPA
section AGR
variable {Q Q1 : Ab} {R R' : Rb} {n : Nat} {B : List Nat} {c c' f : Nat} {kz kz' : Nat → Nat}
theorem Rel.g (hR : Rel Q R) (n : Nat) (G : Gr) (T : Tr) (E : List (Nat × Nat)) : Rel (Q.sPe n G T E) (R.sG n G T) := by
  obtain ⟨h1, h2, h3, h4, h5, h6, h7, h8, h9, h10, h11, h12⟩ := hR
  refine ⟨?_, ?_, h3, h4, h5, h6, h7, h8, h9, h10, h11, h12⟩
  · show upF R.Q.G n G = upF Q.G n G
    rw [h1]
  · show upF R.Q.T n T = upF Q.T n T
    rw [h2]
/-- both read alike -/
theorem ag_rd (hR : Rel Q R) (hG : GT (Q.G n) (Q.T n)) (hB : ∀ b ∈ B, b < 256) (hc : dlv Q n B c Q1) (hr : rdX R n B kz R' kz' f c') : Q1.ft = f ∧ c' = c ∧ Rel Q1 (R'.sQ (R'.Q.sFt f)) := by
  have eG : R.Q.G = Q.G := hR.1
  have eT : R.Q.T = Q.T := hR.2.1
  have eK : R.Q.Kn = Q.Kn := hR.2.2.1
  rcases hc with ⟨a1, rfl, rfl⟩ | ⟨a1, a2, rfl, rfl⟩ | ⟨a1, a2, f1, a3, rfl, rfl⟩ | ⟨a1, a2, L, E, G1, T1, f1, a3, a4, a5, a6, rfl, rfl⟩ <;> rcases hr with ⟨b1, rfl, rfl, -, rfl⟩ | ⟨b1, b2, rfl, rfl, -, rfl⟩ | ⟨b1, b2, G', T', b3, rfl, rfl, b4, b5⟩
  · exact ⟨rfl, rfl, hR.ft 1⟩
  · exact absurd b1 a1
  · exact absurd b1 a1
  · exact absurd a1 b1
  · refine ⟨rfl, rfl, ?_⟩
    have := (hR.kn n (lrnK (Q.Kn n) B)).ft (lrF B)
    unfold jsR
    rw [eK]
    exact this
  · exact absurd a2 b2
  · exact absurd a1 b1
  · exact absurd b2 a2
  · obtain ⟨rfl, rfl, rfl⟩ := jp_ins hB a1.1 a3 b3
    refine ⟨rfl, Nat.sub_self _, ?_⟩
    rw [sG_id]
    exact hR.ft f
  · exact absurd a1 b1
  · exact absurd b2 a2
  · rw [eG, eT] at b3
    rw [eG] at b4
    obtain ⟨rfl, rfl, rfl⟩ := jp_run hB a1.1 hG a3 a4 b3
    refine ⟨rfl, by rw [eG], (hR.g n G' T' (Q.E n)).ft f⟩
end AGR
