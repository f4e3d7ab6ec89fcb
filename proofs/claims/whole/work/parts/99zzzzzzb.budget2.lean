/-! ===== The law: what reading a message costs, on both sides ===== -/
section RDC
variable {B L L' : List Nat} {x y x' y' : Nat → Nat}
theorem agR_256 {q : Nat} {r : List Nat × Nat} : ∀ {n : Nat} {M : List Nat} {p : Nat}, agR B q n M p = some r → (∀ a ∈ M, a < 256) → ∀ a ∈ r.1, a < 256
  | 0, M, p, h, hM => by
    rw [agR] at h
    injection h with h
    rw [← h]; exact hM
  | n + 1, M, p, h, hM => by
    cases hv : (vint B q p).1 with
    | none => rw [agR_1 hv] at h; cases h
    | some a =>
      by_cases hn : a < 256 ∧ a ∉ M
      · rw [agR_3 hv hn] at h
        refine agR_256 h (fun b hb => ?_)
        rcases List.mem_append.1 hb with w | w
        · exact hM b w
        · rw [List.mem_singleton.1 w]; exact hn.1
      · rw [agR_2 hv hn] at h; cases h
theorem rdA_256 {u v : Nat} (h : rdA B u v = some L) : ∀ a ∈ L, a < 256 := by
  cases hv : (vint B v u).1 with
  | none => rw [rdA_1 hv] at h; cases h
  | some n =>
    by_cases hn : n ≤ 256
    · cases hr : agR B v n [] (vint B v u).2 with
      | none => rw [rdA_3 hv hn hr] at h; cases h
      | some r =>
        rw [rdA_4 (L := r.1) (p := r.2) hv hn hr] at h
        split at h
        · injection h with h
          rw [← h]
          exact agR_256 hr (fun a ha => by cases ha)
        · cases h
    · rw [rdA_2 hv hn] at h; cases h
theorem hd_c {l : List Int32} (h : ∀ c, c ∈ l → ∃ u, c = nI u ∧ u < 2000000) : (l.headD 0).toNatClampNeg < 2000000 := by
  cases l with
  | nil => show (0 : Int32).toNatClampNeg < 2000000; decide
  | cons a t =>
    obtain ⟨u, e, hu⟩ := h a List.mem_cons_self
    show a.toNatClampNeg < 2000000
    rw [e, nI_clamp (by omega)]; exact hu
theorem evOf_c {s : SpT} : ∀ {m k : Nat} {sy : List Int32}, (∀ c, c ∈ sy → ∃ u, c = nI u ∧ u < 2000000) → ∀ z, z ∈ evOf s m k sy → ∀ c, z.2.2 = some c → c < 2000000
  | 0, k, sy, h, z, hz, c, hc => by cases hz
  | m + 1, k, sy, h, z, hz, c, hc => by
    rcases List.mem_cons.1 hz with w | w
    · rw [w] at hc
      have hc : (if s.2.2.2.2.2.2.1 = 0 then some (sy.headD 0).toNatClampNeg else none) = some c := hc
      split at hc
      · injection hc with hc
        rw [← hc]; exact hd_c h
      · cases hc
    · refine evOf_c (m := m) (fun d hd => ?_) z w c hc
      split at hd
      · exact h d (List.mem_of_mem_tail hd)
      · exact h d hd
theorem evAll_c : ∀ {A : List SpT} {sy : List Int32}, (∀ c, c ∈ sy → ∃ u, c = nI u ∧ u < 2000000) → ∀ z, z ∈ evAll A sy → ∀ c, z.2.2 = some c → c < 2000000
  | [], sy, h, z, hz, c, hc => by cases hz
  | s :: A, sy, h, z, hz, c, hc => by
    rcases List.mem_append.1 hz with w | w
    · exact evOf_c h z w c hc
    · refine evAll_c (A := A) (fun d hd => ?_) z w c hc
      split at hd
      · exact h d (List.mem_of_mem_drop hd)
      · exact h d hd
theorem sy_c (hB : ∀ b ∈ B, b < 256) {q p : Nat} {SY : List Int32} (h : syms (upk B q p).2.1 = some SY) : ∀ c, c ∈ SY → ∃ u, c = nI u ∧ u < 2000000 := fun c hc => by
  obtain ⟨NL, hNL, hNL2, -⟩ := syms_nat (upk_ok hB _ _).1 (upk_ok hB _ _).2 h
  rw [hNL] at hc
  obtain ⟨u, u1, rfl⟩ := List.mem_map.1 hc
  exact ⟨u, rfl, by have := hNL2 u u1; omega⟩
theorem rdM.uq {E E' : List Ev3} (h : rdM B L E) (g : rdM B L' E') : L' = L ∧ E' = E := by
  obtain ⟨x, y, sy, AA, h1, h2, h3, h4, h5, rfl⟩ := h
  obtain ⟨x', y', sy', AA', g1, g2, g3, g4, g5, rfl⟩ := g
  have e := h1.cu g1
  rw [(e 0 (by decide)).1, (e 0 (by decide)).2, h2] at g2
  injection g2 with g2
  subst g2
  rw [(e 4 (by decide)).1, (e 4 (by decide)).2, h4] at g4
  injection g4 with g4
  subst g4
  rw [(e 1 (by decide)).1, (e 1 (by decide)).2, (e 2 (by decide)).1, (e 2 (by decide)).2, (e 3 (by decide)).1, (e 3 (by decide)).2, h5] at g5
  injection g5 with g5
  subst g5
  exact ⟨rfl, rfl⟩
theorem rdM.no {E : List Ev3} {f : Nat} (h : rdM B L E) (g : insF B f) : False := by
  obtain ⟨x, y, sy, AA, h1, h2, h3, h4, h5, rfl⟩ := h
  rcases g with ⟨-, g⟩ | ⟨-, x', y', L', g1, g2, g3⟩ | ⟨-, x', y', L', sy', g1, g2, g3, g4, g5⟩
  · rw [g x y h1] at h2; cases h2
  · have e := h1.cu g1
    rw [(e 4 (by decide)).1, (e 4 (by decide)).2] at g3
    rcases g3 with w | w
    · rw [h3] at w; cases w
    · rw [h4] at w; cases w
  · have e := h1.cu g1
    rw [(e 0 (by decide)).1, (e 0 (by decide)).2, h2] at g2
    injection g2 with g2
    subst g2
    rw [(e 4 (by decide)).1, (e 4 (by decide)).2, h4] at g4
    injection g4 with g4
    subst g4
    rw [(e 1 (by decide)).1, (e 1 (by decide)).2, (e 2 (by decide)).1, (e 2 (by decide)).2, (e 3 (by decide)).1, (e 3 (by decide)).2, h5] at g5
    cases g5
theorem rdM.b {E : List Ev3} (hB : ∀ b ∈ B, b < 256) (h7 : 7 ≤ B.length) (h : rdM B L E) : ∀ z, z ∈ E → z.1.1 < 256 ∧ ∀ c, z.2.2 = some c → c < 2000000 := by
  obtain ⟨x, y, sy, AA, h1, h2, h3, h4, h5, rfl⟩ := h
  rw [raw_upk hB] at h4
  have le := h1.le h7
  obtain ⟨w1, -⟩ := rd_fw hB (le 2 (by decide)).1 (le 3 (by decide)).1 h5
  have ok := (nsp_ok (cA := x) (cE := y) hB (rdA_256 h2)).1
  rw [w1] at ok
  intro z hz
  refine ⟨?_, evAll_c (sy_c hB h4) z hz⟩
  exact (ok (sp3 z.1) (List.mem_map.2 ⟨z.1, (evAll_mem hz).1, rfl⟩)).1
/-- the class: the budget of a message, and the graph that it leaves -/
theorem dlv_pot {Q : Ab} {n : Nat} (gt : GT (Q.G n) (Q.T n)) (hB : ∀ b ∈ B, b < 256) : ∃ (kC kZ : Nat) (Gf : Gr), (framed B → bAt B 1 ≠ 2 → ∀ L E, rdM B L E → brK L E (Q.G n) (Q.T n) none kC kZ) ∧ Gf.ok ∧ gcC Gf = gcC (Q.G n) + kC ∧ gcZ Gf = gcZ (Q.G n) + kZ ∧ ∀ c Q1, dlv Q n B c Q1 → Q1.G = upF Q.G n Gf := by
  by_cases w : framed B ∧ bAt B 1 ≠ 2 ∧ ∃ L E, rdM B L E
  · obtain ⟨w1, w2, L, E, w3⟩ := w
    obtain ⟨G', T', f, r1, r2, r3, r4⟩ := br_tot (L := L) (E := E) (la := none) gt (w3.b hB w1.1) (fun e he => by cases he)
    obtain ⟨m, gw⟩ := r1.gw gt
    refine ⟨gcC G' - gcC (Q.G n), gcZ G' - gcZ (Q.G n), G', fun _ _ L2 E2 q => ?_, (gw.keep gt).1.1, by omega, by omega, fun c Q1 hd => ?_⟩
    · obtain ⟨rfl, rfl⟩ := w3.uq q
      exact r2
    · rcases hd with ⟨a1, -⟩ | ⟨-, a2, -⟩ | ⟨-, -, f1, a3, -⟩ | ⟨-, -, L2, E2, G2, T2, f1, a3, a4, -, -, -, rfl⟩
      · exact absurd w1 a1
      · exact absurd a2 w2
      · exact (w3.no a3).elim
      · obtain ⟨rfl, rfl⟩ := w3.uq a3
        obtain ⟨rfl, -⟩ := r1.uq a4
        rfl
  · refine ⟨0, 0, Q.G n, fun w1 w2 L E q => absurd ⟨w1, w2, L, E, q⟩ w, gt.1, rfl, rfl, fun c Q1 hd => ?_⟩
    rcases hd with ⟨-, -, rfl⟩ | ⟨-, -, -, rfl⟩ | ⟨-, -, f1, -, -, rfl⟩ | ⟨a1, a2, L2, E2, G2, T2, f1, a3, -⟩
    · exact (upF_id _ _).symm
    · exact (upF_id _ _).symm
    · exact (upF_id _ _).symm
    · exact absurd ⟨a1, a2, L2, E2, a3⟩ w
theorem rvX.uq {G1 G2 : Gr} {T1 T2 : Tr} {k1 k2 : Nat → Nat} {f1 f2 : Nat} : ∀ {E : List Rv} {G : Gr} {T : Tr} {kz : Nat → Nat}, rvX E G T kz G1 T1 k1 f1 → rvX E G T kz G2 T2 k2 f2 → G2 = G1 ∧ k2 = k1
  | [], G, T, kz, h, g => ⟨g.1.trans h.1.symm, g.2.2.1.trans h.2.2.1.symm⟩
  | x :: E, G, T, kz, h, g => by
    rcases h with ⟨h1, h2⟩ | ⟨h1, Ga, Ta, fa, h2, h3⟩ <;> rcases g with ⟨g1, g2⟩ | ⟨g1, Gb, Tb, fb, g2, g3⟩
    · exact rvX.uq h2 g2
    · exact absurd h1 g1
    · exact absurd g1 h1
    · obtain ⟨rfl, rfl, rfl⟩ := h2.uq g2
      rcases h3 with ⟨h3, -, rfl, -, rfl⟩ | ⟨h3, h4⟩ <;> rcases g3 with ⟨g3, -, rfl, -, rfl⟩ | ⟨g3, g4⟩
      · exact ⟨rfl, rfl⟩
      · exact absurd g3 h3
      · exact absurd h3 g3
      · exact rvX.uq h4 g4
theorem rvX.gt {G' : Gr} {T' : Tr} {k' : Nat → Nat} {f : Nat} : ∀ {E : List Rv} {G : Gr} {T : Tr} {kz : Nat → Nat}, rvX E G T kz G' T' k' f → GT G T → GT G' T'
  | [], G, T, kz, h, hg => by rw [h.1, h.2.1]; exact hg
  | x :: E, G, T, kz, h, hg => by
    rcases h with ⟨-, h2⟩ | ⟨-, Ga, Ta, fa, h2, h3⟩
    · exact rvX.gt h2 hg
    · have ga : GT Ga Ta := by
        rcases h2.2 with ⟨-, rfl, rfl⟩ | ⟨-, P, -, -, st⟩
        · exact hg
        · exact st.gt
      rcases h3 with ⟨-, -, rfl, rfl, -⟩ | ⟨-, h4⟩
      · exact ga
      · exact rvX.gt h4 ga
theorem rvX.kz {G' : Gr} {T' : Tr} {k' : Nat → Nat} {f : Nat} : ∀ {E : List Rv} {G : Gr} {T : Tr} {kz : Nat → Nat}, rvX E G T kz G' T' k' f → (∀ z, z ∈ E → z.2.2.2.1.length ≤ 32768) → kz 24 ≤ 65536 → (∀ j, j ≠ 24 → k' j = kz j) ∧ k' 24 ≤ 65536
  | [], G, T, kz, h, hE, hk => by rw [h.2.2.1]; exact ⟨fun _ _ => rfl, hk⟩
  | x :: E, G, T, kz, h, hE, hk => by
    have ez : (∀ j, j ≠ 24 → evZ kz G x.1 x.2.1 x.2.2.2.1.length j = kz j) ∧ evZ kz G x.1 x.2.1 x.2.2.2.1.length 24 ≤ 65536 := by
      have := hE x List.mem_cons_self
      unfold evZ
      split
      · exact ⟨fun j hj => upF_o hj, by rw [upF_s]; omega⟩
      · exact ⟨fun _ _ => rfl, hk⟩
    have hE' : ∀ z, z ∈ E → z.2.2.2.1.length ≤ 32768 := fun z hz => hE z (List.mem_cons_of_mem _ hz)
    rcases h with ⟨-, h2⟩ | ⟨-, Ga, Ta, fa, h2, h3⟩
    · exact rvX.kz h2 hE' hk
    · rcases h3 with ⟨-, -, -, -, rfl⟩ | ⟨-, h4⟩
      · exact ez
      · obtain ⟨a, b⟩ := rvX.kz h4 hE' ez.2
        exact ⟨fun j hj => (a j hj).trans (ez.1 j hj), b⟩
def rvB (z : Rv) : Prop := z.1 < 256 ∧ (∀ c, z.2.2.2.2 = some c → c < 2000000) ∧ z.2.2.2.1.length ≤ 32768
section RVB
variable {A : List SpR} {D : List (List (Nat × Nat))} {O : List (Nat × Int)}
theorem rvOf_b (hA : ∀ s, (A.getD s (0, 0, 0)).1 < 256) (hD : ∀ s, (D.getD s []).length ≤ 32768) {s : Nat} : ∀ {m k : Nat} {sy : List Int32}, (∀ c, c ∈ sy → ∃ u, c = nI u ∧ u < 2000000) → ∀ z, z ∈ rvOf A D O s m k sy → rvB z
  | 0, k, sy, h, z, hz => by cases hz
  | m + 1, k, sy, h, z, hz => by
    rcases List.mem_cons.1 hz with w | w
    · rw [w]
      refine ⟨hA s, fun c hc => ?_, ?_⟩
      · have hc : (if (O.getD s (0, 0)).1 = 0 then some (sy.headD 0).toNatClampNeg else none) = some c := hc
        split at hc
        · injection hc with hc
          rw [← hc]; exact hd_c h
        · cases hc
      · show (if 0 < k then [((A.getD s (0, 0, 0)).1, (A.getD s (0, 0, 0)).2.1 + k - 1)] else D.getD s []).length ≤ 32768
        split
        · show 1 ≤ 32768; decide
        · exact hD s
    · refine rvOf_b hA hD (m := m) (fun d hd => ?_) z w
      split at hd
      · exact h d (List.mem_of_mem_tail hd)
      · exact h d hd
theorem rvAll_b (hA : ∀ s, (A.getD s (0, 0, 0)).1 < 256) (hD : ∀ s, (D.getD s []).length ≤ 32768) : ∀ {r s : Nat} {sy : List Int32}, (∀ c, c ∈ sy → ∃ u, c = nI u ∧ u < 2000000) → ∀ z, z ∈ rvAll A D O r s sy → rvB z
  | 0, s, sy, h, z, hz => by cases hz
  | r + 1, s, sy, h, z, hz => by
    rcases List.mem_append.1 hz with w | w
    · exact rvOf_b hA hD h z w
    · refine rvAll_b hA hD (r := r) (fun d hd => ?_) z w
      split at hd
      · exact h d (List.mem_of_mem_drop hd)
      · exact h d hd
theorem dtB.rv {SY : List Int32} (h : dtB A D O SY) {r s : Nat} : ∀ z, z ∈ rvAll A D O r s SY → rvB z := by
  obtain ⟨-, -, h3, -, h5, -, h7, -⟩ := h
  refine rvAll_b (fun s => ?_) (fun s => ?_) h7
  · rw [List.getD_eq_getElem?_getD]
    cases e : A[s]? with
    | none => show 0 < 256; decide
    | some u => exact (h3 u (List.mem_of_getElem? e)).1
  · by_cases hs : s < D.length
    · by_cases h0 : 0 < (D.getD s []).length
      · have := (fl_get (d := (0, 0)) hs h0).2
        omega
      · omega
    · rw [List.getD_eq_getElem?_getD, List.getElem?_eq_none (by omega)]
      show 0 ≤ 32768
      decide
end RVB
theorem jp_cg (h : ∀ k, k < 5 → x' k = x k ∧ y' k = y k) : jpA B L x' y' = jpA B L x y ∧ jpD B L x' y' = jpD B L x y ∧ (∀ kz, jpK kz B L x' y' = jpK kz B L x y) ∧ ∀ SY Ox, jpE B L x' y' SY Ox = jpE B L x y SY Ox := by
  have a : jpA B L x' y' = jpA B L x y := by unfold jpA; rw [nsp_cg h]
  have d : jpD B L x' y' = jpD B L x y := by unfold jpD; rw [a, npa_cg h]
  exact ⟨a, d, fun kz => by unfold jpK; rw [a, d], fun SY Ox => by unfold jpE; rw [a, d]⟩
theorem jpT_uq {SY SY' : List Int32} (h : jpT B x y L SY) (g : jpT B x' y' L' SY') : L' = L ∧ SY' = SY ∧ ∀ k, k < 5 → x' k = x k ∧ y' k = y k := by
  obtain ⟨e1, e2, e3⟩ := jpT_cg h.1 h.2.1 g
  have := e2.2.2.2
  rw [h.2.2.2] at this
  injection this with this
  exact ⟨e1, this.symm, e3⟩
def kfB (k2 kf : Nat → Nat) : Prop := kf 40 ≤ 16384 ∧ kf 47 ≤ 65536 ∧ kf 24 ≤ 65536 ∧ k2 40 ≤ kf 40 ∧ k2 47 ≤ kf 47 ∧ k2 24 ≤ kf 24 ∧ ∀ j, j ≠ 40 → j ≠ 47 → j ≠ 24 → kf j = k2 j
/-- the reference: the budget of a message, the graph and the sizes that it leaves -/
theorem rdx_pot {R : Rb} {n : Nat} {k2 : Nat → Nat} (gt : GT (R.Q.G n) (R.Q.T n)) (hB : ∀ b ∈ B, b < 256) (hl : B.length ≤ 32768) (h1 : 16 ≤ k2 40) (h2 : k2 40 ≤ 16384) (h3 : 16 ≤ k2 47) (h4 : k2 47 ≤ 65536) (h5 : k2 24 ≤ 65536) : ∃ (aC aZ bC bZ kC kZ : Nat) (Gf : Gr) (kf : Nat → Nat), rdB R k2 n B aC aZ bC bZ kC kZ ∧ Gf.ok ∧ kfB k2 kf ∧ (aC + bC + kC + (grC (R.Q.G n) + k2 40 + k2 47 + k2 24) ≤ grC Gf + kf 40 + kf 47 + kf 24 ∧ aZ + bZ + kZ + (grZ (R.Q.G n) + 14 * k2 40 + 4 * k2 47 + 2 * k2 24) ≤ grZ Gf + 14 * kf 40 + 4 * kf 47 + 2 * kf 24) ∧ (grC (R.Q.G n) ≤ grC Gf ∧ grZ (R.Q.G n) ≤ grZ Gf) ∧ ∀ R1 k21 f c, rdX R n B k2 R1 k21 f c → R1.Q.G = upF R.Q.G n Gf ∧ R1.Q.sl = R.Q.sl ∧ k21 = kf := by
  by_cases w : framed B ∧ bAt B 1 ≠ 2 ∧ ∃ x y L SY, jpT B x y L SY
  · obtain ⟨w1, w2, x, y, L, SY, hT⟩ := w
    have le := hT.1.le w1.1
    have hL := rdA_256 hT.2.1
    obtain ⟨ok1, ok2⟩ := nsp_ok (cA := x) (cE := y) hB hL
    have ok3 := (npa_ok (cA := x) (cE := y) hB hL ok1 (le 2 (by decide)).1 (by have := (le 2 (by decide)).2; omega)).2.1
    have lA : (jpA B L x y).length ≤ 8192 := ok2
    have lD : (jpD B L x y).flatten.length ≤ 32768 := ok3
    have z40 := gwZ_eq (k := k2 40) (jpA B L x y).length
    have c40 := gwC_le (k := k2 40) (by omega) (jpA B L x y).length
    have b40 := gw_le (k := k2 40) (b := 8192) (by omega) (jpA B L x y).length lA
    have z47 := gqZ_eq (k := k2 47) (jpD B L x y).flatten.length
    have c47 := gqC_le (k := k2 47) (by omega) (jpD B L x y).flatten.length
    have b47 := gw_le (k := k2 47) (b := 32768) (by omega) (jpD B L x y).flatten.length lD
    have v1 : gz k2 (jpA B L x y).length 40 = gw (k2 40) (jpA B L x y).length := upF_s
    have v2 : ∀ j, j ≠ 40 → gz k2 (jpA B L x y).length j = k2 j := fun j hj => upF_o hj
    have u1 : jpK k2 B L x y 40 = gw (k2 40) (jpA B L x y).length := by
      show upF (gz k2 (jpA B L x y).length) 47 (gw (gz k2 (jpA B L x y).length 47) (jpD B L x y).flatten.length) 40 = _
      rw [upF_o (by decide)]; exact v1
    have u2 : jpK k2 B L x y 47 = gw (k2 47) (jpD B L x y).flatten.length := by
      show upF (gz k2 (jpA B L x y).length) 47 (gw (gz k2 (jpA B L x y).length 47) (jpD B L x y).flatten.length) 47 = _
      rw [upF_s, v2 47 (by decide)]
    have u3 : ∀ j, j ≠ 40 → j ≠ 47 → jpK k2 B L x y j = k2 j := fun j hj hj2 => by
      show upF (gz k2 (jpA B L x y).length) 47 (gw (gz k2 (jpA B L x y).length 47) (jpD B L x y).flatten.length) j = _
      rw [upF_o hj2]; exact v2 j hj
    have noF : ∀ {k' : Nat → Nat} {f : Nat}, jpF B k2 k' f → (∀ Ox, ¬ jpS B x y L SY Ox) ∧ k' = if (nsp B L x y).1 = true then jpK k2 B L x y else gz k2 (jpA B L x y).length := fun {k' f} hF => by
      rcases hF with ⟨-, g, -⟩ | ⟨-, ⟨x', y', L', g1, g2, g3⟩, -⟩ | ⟨-, x', y', L', SY', g1, g2, g3⟩
      · have := hT.2.1
        rw [g x y hT.1] at this; cases this
      · have e := hT.1.cu g1
        rw [(e 4 (by decide)).1, (e 4 (by decide)).2] at g3
        rcases g3 with w | w
        · rw [hT.2.2.1] at w; cases w
        · rw [hT.2.2.2] at w; cases w
      · obtain ⟨rfl, rfl, e⟩ := jpT_uq hT g1
        obtain ⟨e1, e2, e3, e4⟩ := jp_cg (B := B) (L := L') e
        rw [nsp_cg e, e1, e3] at g3
        exact ⟨fun Ox hS => g2 Ox (jpS_cg (x' := x) (y' := y) (fun k hk => ⟨(e k hk).1.symm, (e k hk).2.symm⟩) hS), g3⟩
    have bud : ∀ bC bZ kC kZ, ((nsp B L x y).1 = true → gqC (k2 47) (jpD B L x y).flatten.length ≤ bC ∧ gqZ (k2 47) (jpD B L x y).flatten.length ≤ bZ) → (∀ Ox, jpS B x y L SY Ox → rvK (jpE B L x y SY Ox) (R.Q.G n) (R.Q.T n) (jpK k2 B L x y) kC kZ) → rdB R k2 n B (gwC (k2 40) (jpA B L x y).length) (gwZ (k2 40) (jpA B L x y).length) bC bZ kC kZ := fun bC bZ kC kZ q1 q2 _ _ x' y' L' SY' g => by
      obtain ⟨rfl, rfl, e⟩ := jpT_uq hT g
      obtain ⟨e1, e2, e3, e4⟩ := jp_cg (B := B) (L := L') e
      rw [e1, e2, nsp_cg e]
      refine ⟨Nat.le_refl _, Nat.le_refl _, q1, fun Ox hS => ?_⟩
      rw [e4, e3]
      exact q2 Ox (jpS_cg e hS)
    by_cases wS : ∃ Ox, jpS B x y L SY Ox
    · obtain ⟨Ox, hS⟩ := wS
      have hdB : dtB (jpA B L x y) (jpD B L x y) Ox.1 SY := dtB_of hB hL (le 2 (by decide)).1 (by have := (le 2 (by decide)).2; omega) hS.2.1.1 hS.2.2.1 (sy_c hB hT.2.2.2) hS.2.2.2.2
      have rb : ∀ z, z ∈ jpE B L x y SY Ox → rvB z := hdB.rv
      obtain ⟨G', T', kf, f, r1, r2, r3, r4, r5⟩ := rv_tot (E := jpE B L x y SY Ox) (kz := jpK k2 B L x y) gt (fun z hz => ⟨(rb z hz).1, (rb z hz).2.1⟩)
      have uO : ∀ Ox', jpS B x y L SY Ox' → Ox' = Ox := fun Ox' hS' => by
        have e1 := hS.2.2.1
        rw [hS'.2.2.1] at e1
        injection e1
      obtain ⟨k3, k4⟩ := r1.kz (fun z hz => (rb z hz).2.2) (by rw [u3 24 (by decide) (by decide)]; exact h5)
      have y40 := k3 40 (by decide)
      have y47 := k3 47 (by decide)
      have y24 := u3 24 (by decide) (by decide)
      refine ⟨_, _, gqC (k2 47) (jpD B L x y).flatten.length, gqZ (k2 47) (jpD B L x y).flatten.length, _, _, G', kf, bud _ _ (grC G' - grC (R.Q.G n) + (kf 24 - jpK k2 B L x y 24)) (grZ G' - grZ (R.Q.G n) + 2 * (kf 24 - jpK k2 B L x y 24)) (fun _ => ⟨Nat.le_refl _, Nat.le_refl _⟩) (fun Ox' hS' => by rw [uO Ox' hS']; exact r2), (r1.gt gt).1, ⟨by omega, by omega, k4, by omega, by omega, by omega, fun j j1 j2 j3 => (k3 j j3).trans (u3 j j1 j2)⟩, ⟨by omega, by omega⟩, ⟨r3, r4⟩, fun R1 k21 f1 c hx => ?_⟩
      rcases hx with ⟨b1, -⟩ | ⟨-, b2, -⟩ | ⟨-, -, G2, T2, b3, rfl, -⟩
      · exact absurd w1 b1
      · exact absurd b2 w2
      · rcases b3 with ⟨hF, -⟩ | ⟨x', y', L', SY', Ox', hT', hS', hr⟩
        · exact absurd hS ((noF hF).1 Ox)
        · obtain ⟨rfl, rfl, e⟩ := jpT_uq hT hT'
          have hS2 := jpS_cg e hS'
          rw [(jp_cg (B := B) (L := L') e).2.2.1, (jp_cg (B := B) (L := L') e).2.2.2, uO Ox' hS2] at hr
          obtain ⟨rfl, rfl⟩ := r1.uq hr
          exact ⟨rfl, rfl, rfl⟩
    · by_cases wn : (nsp B L x y).1 = true
      · have y24 := u3 24 (by decide) (by decide)
        refine ⟨_, _, gqC (k2 47) (jpD B L x y).flatten.length, gqZ (k2 47) (jpD B L x y).flatten.length, _, _, R.Q.G n, jpK k2 B L x y, bud _ _ 0 0 (fun _ => ⟨Nat.le_refl _, Nat.le_refl _⟩) (fun Ox' hS' => absurd ⟨Ox', hS'⟩ wS), gt.1, ⟨by omega, by omega, by omega, by omega, by omega, by omega, fun j j1 j2 j3 => u3 j j1 j2⟩, ⟨by omega, by omega⟩, ⟨Nat.le_refl _, Nat.le_refl _⟩, fun R1 k21 f1 c hx => ?_⟩
        rcases hx with ⟨b1, -⟩ | ⟨-, b2, -⟩ | ⟨-, -, G2, T2, b3, rfl, -⟩
        · exact absurd w1 b1
        · exact absurd b2 w2
        · rcases b3 with ⟨hF, rfl, rfl⟩ | ⟨x', y', L', SY', Ox', hT', hS', hr⟩
          · have := (noF hF).2
            rw [if_pos wn] at this
            exact ⟨rfl, rfl, this⟩
          · obtain ⟨rfl, rfl, e⟩ := jpT_uq hT hT'
            exact absurd ⟨Ox', jpS_cg e hS'⟩ wS
      · have y40 := v2 47 (by decide)
        have y24 := v2 24 (by decide)
        refine ⟨_, _, 0, 0, _, _, R.Q.G n, gz k2 (jpA B L x y).length, bud _ _ 0 0 (fun q => absurd q wn) (fun Ox' hS' => absurd ⟨Ox', hS'⟩ wS), gt.1, ⟨by omega, by omega, by omega, by omega, by omega, by omega, fun j j1 j2 j3 => v2 j j1⟩, ⟨by omega, by omega⟩, ⟨Nat.le_refl _, Nat.le_refl _⟩, fun R1 k21 f1 c hx => ?_⟩
        rcases hx with ⟨b1, -⟩ | ⟨-, b2, -⟩ | ⟨-, -, G2, T2, b3, rfl, -⟩
        · exact absurd w1 b1
        · exact absurd b2 w2
        · rcases b3 with ⟨hF, rfl, rfl⟩ | ⟨x', y', L', SY', Ox', hT', hS', hr⟩
          · have := (noF hF).2
            rw [if_neg wn] at this
            exact ⟨rfl, rfl, this⟩
          · obtain ⟨rfl, rfl, e⟩ := jpT_uq hT hT'
            exact absurd ⟨Ox', jpS_cg e hS'⟩ wS
  · refine ⟨0, 0, 0, 0, 0, 0, R.Q.G n, k2, fun w1 w2 x y L SY q => absurd ⟨w1, w2, x, y, L, SY, q⟩ w, gt.1, ⟨h2, h4, h5, Nat.le_refl _, Nat.le_refl _, Nat.le_refl _, fun _ _ _ _ => rfl⟩, ⟨by omega, by omega⟩, ⟨Nat.le_refl _, Nat.le_refl _⟩, fun R1 k21 f c hx => ?_⟩
    rcases hx with ⟨-, -, rfl, rfl, -⟩ | ⟨-, -, -, rfl, rfl, -⟩ | ⟨b1, b2, G2, T2, b3, rfl, -⟩
    · exact ⟨(upF_id _ _).symm, rfl, rfl⟩
    · exact ⟨rfl, rfl, rfl⟩
    · rcases b3 with ⟨hF, rfl, rfl⟩ | ⟨x', y', L', SY', Ox', hT', hS', hr⟩
      · rcases hF with ⟨-, -, rfl⟩ | ⟨-, -, rfl⟩ | ⟨-, x', y', L', SY', g1, -⟩
        · exact ⟨rfl, rfl, rfl⟩
        · exact ⟨rfl, rfl, rfl⟩
        · exact absurd ⟨b1, b2, x', y', L', SY', g1⟩ w
      · exact absurd ⟨b1, b2, x', y', L', SY', hT'⟩ w
end RDC
section RDP
variable {Q Q1 : Ab} {R R1 : Rb} {kz k2 kf : Nat → Nat} {n : Nat} {B : List Nat}
theorem pc_g {G' : Gr} {d dz : Nat} (hn : n < 4) (hG : Q1.G = upF Q.G n G') (h1 : gcC G' = gcC (Q.G n) + d) (h2 : gcZ G' = gcZ (Q.G n) + dz) : pCc Q1 kz = pCc Q kz + d ∧ pZc Q1 kz = pZc Q kz + dz := by
  have s1 : smN (fun p => gcC (Q1.G p)) 4 = smN (fun p => gcC (Q.G p)) 4 + d := smN_up (s := n) (by show gcC (Q1.G n) = _; rw [hG, upF_s]; exact h1) (fun t ht => by show gcC (Q1.G t) = _; rw [hG, upF_o ht]) hn
  have s2 : smN (fun p => gcZ (Q1.G p)) 4 = smN (fun p => gcZ (Q.G p)) 4 + dz := smN_up (s := n) (by show gcZ (Q1.G n) = _; rw [hG, upF_s]; exact h2) (fun t ht => by show gcZ (Q1.G t) = _; rw [hG, upF_o ht]) hn
  unfold pCc pZc
  rw [s1, s2]
  omega
theorem pc_40 (Q : Ab) (kz : Nat → Nat) {i v : Nat} (hi : i < 6) (hv : kz (40 + i) ≤ v) : pCc Q (upF kz (40 + i) v) = pCc Q kz ∧ pZc Q (upF kz (40 + i) v) + 2 * kz (40 + i) = pZc Q kz + 2 * v := by
  have a1 : smN (fun k => upF kz (40 + i) v (40 + k)) 6 = smN (fun k => kz (40 + k)) 6 + (v - kz (40 + i)) := smN_up (s := i) (by show upF kz (40 + i) v (40 + i) = _; rw [upF_s]; omega) (fun u hu => upF_o (by omega)) hi
  have a2 : smN (fun k => upF kz (40 + i) v (30 + k)) 4 = smN (fun k => kz (30 + k)) 4 := smN_cg (fun u hu => upF_o (by omega))
  have a3 : smN (fun k => upF kz (40 + i) v (20 + k)) 8 = smN (fun k => kz (20 + k)) 8 := smN_cg (fun u hu => upF_o (by omega))
  unfold pCc pZc
  rw [a1, a2, a3, upF_o (show 10 ≠ 40 + i by omega), upF_o (show 12 ≠ 40 + i by omega), upF_o (show 0 ≠ 40 + i by omega), upF_o (show 1 ≠ 40 + i by omega), upF_o (show 50 ≠ 40 + i by omega)]
  omega
theorem kzB.v40 (h : kzB kz) {i v : Nat} (hi : i < 6) (hv : v ≤ 32768) : kzB (upF kz (40 + i) v) := by
  obtain ⟨h0, h1, h2, h3, h4, h5, h6, h7⟩ := h
  refine ⟨by rw [upF_o (by omega)]; exact h0, by rw [upF_o (by omega)]; exact h1, fun k hk => by rw [upF_o (by omega)]; exact h2 k hk, fun k hk => ?_, by rw [upF_o (by omega)]; exact h4, by rw [upF_o (by omega)]; exact h5, fun k hk => by rw [upF_o (by omega)]; exact h6 k hk, by rw [upF_o (by omega)]; exact h7⟩
  by_cases e : k = i
  · rw [e, upF_s]; exact hv
  · rw [upF_o (by omega)]; exact h3 k hk
/-- the class reads a message: its ghosts, its cost against the potentials -/
theorem tk_c (hg : ∀ p, p < 4 → (Q.G p).ok) (hn : n < 4) (gt : GT (Q.G n) (Q.T n)) (hB : ∀ b ∈ B, b < 256) (hb : kzB kz) (h45 : ∃ k, k ≤ 9 ∧ kz 45 = 64 * 2 ^ k) : ∃ kC kZ, (framed B → bAt B 1 ≠ 2 → ∀ L E, rdM B L E → brK L E (Q.G n) (Q.T n) none kC kZ) ∧ (nc_kC kz B + kC + pCc Q kz ≤ 295049 ∧ nc_kZ kz B + kZ + pZc Q kz ≤ 4262944) ∧ ∀ c Q1, dlv Q n B c Q1 → nc_kC kz B + kC + pCc Q kz ≤ pCc Q1 (nc_tK kz B) + 9 ∧ nc_kZ kz B + kZ + pZc Q kz ≤ pZc Q1 (nc_tK kz B) := by
  obtain ⟨kC, kZ, Gf, d1, d2, d3, d4, d5⟩ := dlv_pot gt hB
  obtain ⟨u1, u2, u3⟩ := pw_le (capN_b (len := 0) h45 (nc_dU B))
  obtain ⟨u4, u5, u6⟩ := pw_le h45
  have n9 := addNC_9 (n := nc_dU B) (len := 0) u4 u2
  have ns := addNS_eq (cap := kz 45) (len := 0) (nc_dU B)
  have key : ∀ Q1 : Ab, Q1.G = upF Q.G n Gf → nc_kC kz B + kC + pCc Q kz ≤ pCc Q1 (nc_tK kz B) + 9 ∧ nc_kZ kz B + kZ + pZc Q kz ≤ pZc Q1 (nc_tK kz B) := fun Q1 hG => by
    obtain ⟨e1, e2⟩ := pc_40 Q1 kz (i := 5) (v := capN (nc_dU B) (kz 45) 0) (by decide) (by show kz 45 ≤ _; omega)
    have e1 : pCc Q1 (nc_tK kz B) = pCc Q1 kz := e1
    have e2 : pZc Q1 (nc_tK kz B) + 2 * kz 45 = pZc Q1 kz + 2 * capN (nc_dU B) (kz 45) 0 := e2
    obtain ⟨g1, g2⟩ := pc_g (kz := kz) hn hG d3 d4
    unfold nc_kC nc_kZ
    omega
  refine ⟨kC, kZ, d1, ?_, fun c Q1 hd => key Q1 (d5 c Q1 hd)⟩
  obtain ⟨k1, k3⟩ := key (Q.sPe n Gf (Q.T n) (Q.E n)) rfl
  have hb2 : kzB (nc_tK kz B) := hb.v40 (i := 5) (by decide) u2
  obtain ⟨p1, p2⟩ := pc_b (Q := Q.sPe n Gf (Q.T n) (Q.E n)) (fun p hp => by
    show (upF Q.G n Gf p).ok
    by_cases e : p = n
    · rw [e, upF_s]; exact d2
    · rw [upF_o e]; exact hg p hp) hb2
  omega
/-- the reference reads a message -/
theorem rd_c (hn : n < 4) (hg : ∀ p, p < 4 → (R.Q.G p).ok) (gt : GT (R.Q.G n) (R.Q.T n)) (hB : ∀ b ∈ B, b < 256) (hl : B.length ≤ 32768) (hK : LIk kz k2) : ∃ aC aZ bC bZ kC kZ, rdB R k2 n B aC aZ bC bZ kC kZ ∧ (aC + bC + kC + pCr R k2 ≤ 212992 ∧ aZ + bZ + kZ + pZr R k2 ≤ 1081344) ∧ ∀ R1 k21 f c, rdX R n B k2 R1 k21 f c → aC + bC + kC + pCr R k2 ≤ pCr R1 k21 ∧ aZ + bZ + kZ + pZr R k2 ≤ pZr R1 k21 ∧ ∀ kz', LIk kz' k2 → LIk kz' k21 := by
  obtain ⟨-, -, -, h1, h2, h3, h4, h5, h6, h7⟩ := hK
  obtain ⟨aC, aZ, bC, bZ, kC, kZ, Gf, kf, r1, r2, ⟨f1, f2, f3, f4, f5, f6, f7⟩, ⟨r3, r4⟩, ⟨r5, r6⟩, r7⟩ := rdx_pot gt hB hl h1 h2 h3 h4 h5
  have e9 := f7 9 (by decide) (by decide) (by decide)
  have key : ∀ R1 : Rb, R1.Q.G = upF R.Q.G n Gf → R1.Q.sl = R.Q.sl → aC + bC + kC + pCr R k2 ≤ pCr R1 kf ∧ aZ + bZ + kZ + pZr R k2 ≤ pZr R1 kf := fun R1 hG hs => by
    have s1 : smN (fun p => grC (R1.Q.G p)) 4 = smN (fun p => grC (R.Q.G p)) 4 + (grC Gf - grC (R.Q.G n)) := smN_up (s := n) (by show grC (R1.Q.G n) = _; rw [hG, upF_s]; omega) (fun t ht => by show grC (R1.Q.G t) = _; rw [hG, upF_o ht]) hn
    have s2 : smN (fun p => grZ (R1.Q.G p)) 4 = smN (fun p => grZ (R.Q.G p)) 4 + (grZ Gf - grZ (R.Q.G n)) := smN_up (s := n) (by show grZ (R1.Q.G n) = _; rw [hG, upF_s]; omega) (fun t ht => by show grZ (R1.Q.G t) = _; rw [hG, upF_o ht]) hn
    have s3 : fuS R1 = fuS R := by unfold fuS; rw [hs]
    unfold pCr pZr
    rw [s1, s2, s3, e9]
    omega
  refine ⟨aC, aZ, bC, bZ, kC, kZ, r1, ?_, fun R1 k21 f c hx => ?_⟩
  · obtain ⟨k1, k3⟩ := key (R.sG n Gf (R.Q.T n)) rfl rfl
    obtain ⟨p1, p2⟩ := pr_b (R := R.sG n Gf (R.Q.T n)) (k2 := kf) (fun p hp => by
      show (upF R.Q.G n Gf p).ok
      by_cases e : p = n
      · rw [e, upF_s]; exact r2
      · rw [upF_o e]; exact hg p hp) f1 f2 f3 (by rw [e9]; exact h6.1)
    omega
  · obtain ⟨q1, q2, rfl⟩ := r7 R1 k21 f c hx
    obtain ⟨k1, k3⟩ := key R1 q1 q2
    refine ⟨k1, k3, fun kz' hk' => ?_⟩
    obtain ⟨a1, a2, a3, -⟩ := hk'
    refine ⟨a1, a2, a3, by omega, f1, by omega, f2, f3, ?_, by rw [e9]; exact h7⟩
    unfold hkD
    rw [e9]
    exact h6
end RDP
