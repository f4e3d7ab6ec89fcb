/-! ===== The reference: differ0 ===== -/
theorem MD.hun {S S' : MM} {F : Nat → Nat × Nat} {t : Nat} {z : Nat → Nat} {Y : Nat → Nat → Nat} {R : Rb} {kz : Nat → Nat} (h : MD S F t z Y R kz) {H : List (Nat × Nat × Nat × Nat)} (hk : Keep (fun c => c = t ∨ ∃ k, k ∈ [9] ∧ c = z k) S S') (h1 : mI S' 1510 t = nI H.length) (h2 : 4 * H.length ≤ kz 9) (h3 : ∀ k, k < H.length → eI S' (z 9) (4 * k) = nI (H.getD k (0, 0, 0, 0)).1 ∧ eI S' (z 9) (4 * k + 1) = nI (H.getD k (0, 0, 0, 0)).2.1 ∧ eI S' (z 9) (4 * k + 2) = nI (H.getD k (0, 0, 0, 0)).2.2.1 ∧ eI S' (z 9) (4 * k + 3) = nI (H.getD k (0, 0, 0, 0)).2.2.2) (hI : ∀ f, f ≠ 1510 → mI S' f t = mI S f t) (hR : ∀ f, mR S' f t = mR S f t) : MD S' F t z Y (R.sQ (R.Q.sHu H)) kz := by
  have q := h.wr1 (S' := S') [9] 7 (by decide) (by decide) hk (fun f _ hf => hI f (fun e => hf (by rw [e]; rfl))) hR
  intro i
  match i with
  | 7 => exact ⟨h1, h2, (h 7).2.2.1, (h 7).2.2.2.1, h3⟩
  | 0 => exact q 0 (by decide)
  | 1 => exact q 1 (by decide)
  | 2 => exact q 2 (by decide)
  | 3 => exact q 3 (by decide)
  | 4 => exact q 4 (by decide)
  | 5 => exact q 5 (by decide)
  | 6 => exact q 6 (by decide)
  | 8 => exact q 8 (by decide)
  | 9 => exact q 9 (by decide)
  | 10 => exact q 10 (by decide)
  | 11 => exact q 11 (by decide)
  | 12 => exact q 12 (by decide)
  | n + 13 => trivial
/-- the row of the hunks is replaced by a larger copy -/
theorem MD.hgr {S S1 : MM} {F F1 : Nat → Nat × Nat} {t : Nat} {z z1 : Nat → Nat} {Y : Nat → Nat → Nat} {R : Rb} {kz : Nat → Nat} {n : Nat} (h : MD S F t z Y R kz) (hg : grX [9] S S1 F F1 t z z1 n) (hn : kz 9 ≤ n) (hn2 : n ≤ 131072) : MD S1 F1 t z1 Y R (upF kz 9 n) := by
  obtain ⟨hk, g2, g3, hF, hFO, hz, g7⟩ := hg
  have nt : ∀ {x v}, F x = (100, v) → v ≠ 1 → ¬ x = t := fun {x v} e h1 q => by
    rw [q, (h 0).2] at e
    injection e with _ e
    omega
  have no : ∀ {x o v}, F x = (o, v) → o ≠ 100 → ¬ x = t := fun {x o v} e h1 q => by
    rw [q, (h 0).2] at e
    injection e with e _
    omega
  have kr : ∀ k, k ∈ mdL → eI S1 (z k) = eI S (z k) ∧ eR S1 (z k) = eR S (z k) := fun k hk9 => by
    have r := h 1 k hk9
    have := hk.2.1 _ r.2.2.1.1 (nt r.2.1 (by omega))
    exact ⟨this.2.2.2.1, this.2.2.2.2.2⟩
  have zk : ∀ k, k ≠ 9 → z1 k = z k := fun k hk9 => hz k (fun w => hk9 (List.mem_singleton.1 w))
  have mr : ∀ k, k ≠ 9 → mR S1 (1500 + k) t = mR S (1500 + k) t := fun k hk9 => g3 _ (fun j hj e => hk9 (by rw [List.mem_singleton.1 hj] at e; omega))
  obtain ⟨n1, n2, n3, n4, n5, -⟩ := g7 9 (List.mem_singleton.2 rfl)
  have e9 : upF kz 9 n 9 = n := upF_s
  have eo : ∀ k, k ≠ 9 → upF kz 9 n k = kz k := fun k hk => upF_o hk
  have emd : ∀ k, k ≠ 9 → mdN (upF kz 9 n) k = mdN kz k := fun k hk9 => by
    unfold mdN
    rw [if_neg hk9, if_neg hk9, eo 24 (by decide), eo 47 (by decide), eo 40 (by decide)]
  have r9 := h 1 9 (by decide)
  intro q
  match q with
  | 0 => exact ⟨hk.isO (h 0).1, (hF _ (h 0).1.1).trans (h 0).2⟩
  | 1 =>
    intro k hk9
    by_cases c : k = 9
    · subst c
      exact ⟨n1, n2, n3, n4.trans e9.symm⟩
    · obtain ⟨a1, a2, a3, a4⟩ := h 1 k hk9
      rw [zk k c, mr k c, emd k c]
      exact ⟨a1, (hF _ a3.1).trans a2, hk.isO a3, (hk.1 _ a3.1).2.2.trans a4⟩
  | 2 =>
    intro p hp
    obtain ⟨a1, a2⟩ := h 2 p hp
    rw [zk 0 (by decide), (kr 0 (by decide)).2]
    refine ⟨a1, a2.keep hk (fun b hb w => ?_) hF⟩
    rw [w, (h 0).2] at hb
    have hb : 100 = 101 + p := hb
    omega
  | 3 =>
    obtain ⟨a1, a2, a3⟩ := h 3
    refine ⟨(g2 _).trans a1, a2, ?_⟩
    unfold byR
    rw [zk 1 (by decide), (kr 1 (by decide)).1]; exact a3
  | 4 =>
    intro k hk9
    unfold mdS
    rw [zk 3 (by decide), zk 4 (by decide), (kr 3 (by decide)).2, (kr 4 (by decide)).1, zk (60 + k) (by omega)]
    rcases h 4 k hk9 with ⟨a1, a2⟩ | ⟨a1, a2, a3, a4, a5, a6, a7, a8⟩
    · exact Or.inl ⟨a1, a2⟩
    · refine Or.inr ⟨a1, a2, hk.isO a3, (hk.1 _ a3.1).2.2.trans a4, (hF _ a3.1).trans a5, a6, a7, ?_⟩
      unfold byR
      rw [(hk.2.1 _ a3.1 (no a5 (by omega))).2.2.2.1]
      exact a8
  | 5 =>
    intro b hb
    rw [zk 5 (by decide), zk 6 (by decide), (kr 5 (by decide)).1, (kr 6 (by decide)).1]; exact h 5 b hb
  | 6 =>
    obtain ⟨a1, a2, a3⟩ := h 6
    rw [MDf, zk 7 (by decide), (kr 7 (by decide)).1]
    exact ⟨(g2 1508).trans a1, a2, a3⟩
  | 7 =>
    obtain ⟨a1, a2, a3, a4, a5⟩ := h 7
    have rd : ∀ j, j < kz 9 → eI S1 (z1 9) j = eI S (z 9) j := fun j hj => n5 rfl j (by rw [r9.2.2.2]; exact hj)
    rw [MDf, e9]
    refine ⟨(g2 1510).trans a1, by omega, by omega, hn2, fun k hk9 => ?_⟩
    rw [rd _ (by omega), rd _ (by omega), rd _ (by omega), rd _ (by omega)]
    exact a5 k hk9
  | 8 =>
    intro a ha
    rw [zk 11 (by decide), zk 12 (by decide), (kr 11 (by decide)).1, (kr 12 (by decide)).1]; exact h 8 a ha
  | 9 =>
    obtain ⟨a1, a2, a3, a4⟩ := h 9
    exact ⟨(g2 _).trans a1, a2, (g2 _).trans a3, a4⟩
  | 10 =>
    intro k hk9
    obtain ⟨a1, a2, a3, B', a4⟩ := h 10 k hk9
    unfold mdO
    rw [zk k (by omega), zk (70 + k) (by omega), mr k (by omega)]
    exact ⟨a1, (hF _ a4.1.1).trans a2, (hF _ a4.2.2.1.1).trans a3, B', a4.kp hk (no a2 (by decide)) (no a3 (by decide))⟩
  | 11 =>
    obtain ⟨a1, a2, a3, a4, a5, a6⟩ := h 11
    show 64 ≤ upF kz 9 n 24 ∧ upF kz 9 n 24 ≤ 131072 ∧ 16 ≤ upF kz 9 n 40 ∧ upF kz 9 n 40 ≤ 131072 ∧ 16 ≤ upF kz 9 n 47 ∧ upF kz 9 n 47 ≤ 131072
    rw [eo 24 (by decide), eo 47 (by decide), eo 40 (by decide)]
    exact ⟨a1, a2, a3, a4, a5, a6⟩
  | 12 => exact hFO
  | n + 13 => trivial
/-- what two marks see of the nodes -/
def rfN (G : Gr) (W1 W2 : Nat → Nat) (x : Nat) : Nat × Nat := (if snW G W1 x = true then 1 else 0, if snW G W2 x = true then 1 else 0)
def rfP (R : Rb) (i j : Nat) : List (Nat × Nat) := match R.Q.mp i with
  | none => []
  | some p => (R.Q.T p).od.map (rfN (R.Q.G p) (R.M i) (R.M j))
def dfO (kz : Nat → Nat) : HS := (kz 9, [], 0, 0, 0, 0)
def dfR (R : Rb) (kz : Nat → Nat) (i j : Nat) : HS := hrun (rfP R i j) (dfO kz)
def dfC (R : Rb) (kz : Nat → Nat) (b c : Int32) : Nat := hrC (rfP R b.toNatClampNeg c.toNatClampNeg) (dfO kz)
def dfZ (R : Rb) (kz : Nat → Nat) (b c : Int32) : Nat := hrZ (rfP R b.toNatClampNeg c.toNatClampNeg) (dfO kz)
def hkD (kz : Nat → Nat) : Prop := kz 9 ≤ 32768 ∧ kz 9 % 4 = 0
def dfW (R : Rb) (b c : Int32) (i j n : Nat) : Prop := i < 8 ∧ b = nI i ∧ j < 8 ∧ c = nI j ∧ R.Q.mp i = some n ∧ R.Q.mp j = some n
def dfQ (S S' : MM) (F : Nat → Nat × Nat) (t : Nat) (R : Rb) (kz : Nat → Nat) (b c v : Int32) : Prop := ∃ i j n, dfW R b c i j n ∧ v = nI (dfR R kz i j).2.1.length ∧ mdQ S S' F t (R.sQ (R.Q.sHu (dfR R kz i j).2.1)) (upF kz 9 (dfR R kz i j).1)
/-- q nodes are passed: the run goes on from x -/
def dfT (R : Rb) (kz : Nat → Nat) (i j q : Nat) (x : HS) (c0 s0 : Nat) : Prop := q ≤ (rfP R i j).length ∧ dfR R kz i j = hrun ((rfP R i j).drop q) x ∧ c0 + hrC ((rfP R i j).drop q) x = hrC (rfP R i j) (dfO kz) ∧ s0 + hrZ ((rfP R i j).drop q) x = hrZ (rfP R i j) (dfO kz) ∧ hok q x ∧ x.1 % 4 = 0
def dfE (R : Rb) (kz : Nat → Nat) (i j q : Nat) (x : HS) (c0 s0 : Nat) : Prop := q = (rfP R i j).length + 1 ∧ (dfR R kz i j).1 = x.1 ∧ (dfR R kz i j).2.1 = x.2.1 ∧ c0 = hrC (rfP R i j) (dfO kz) ∧ s0 = hrZ (rfP R i j) (dfO kz)
def dfG (R : Rb) (kz : Nat → Nat) (i j q N : Nat) (Q : List (Nat × Nat × Nat × Nat)) (fi si de ie c0 s0 : Nat) : Prop := dfT R kz i j (q + 1) (N, Q, fi + (de + 1), si + (ie + 1), 0, 0) c0 s0 ∨ dfE R kz i j (q + 1) (N, Q, fi + (de + 1), si + (ie + 1), 0, 0) c0 s0
theorem rfP_01 {R : Rb} {i j q : Nat} : (((rfP R i j).getD q (0, 0)).1 = 0 ∨ ((rfP R i j).getD q (0, 0)).1 = 1) ∧ (((rfP R i j).getD q (0, 0)).2 = 0 ∨ ((rfP R i j).getD q (0, 0)).2 = 1) := by
  rw [List.getD_eq_getElem?_getD]
  cases h : (rfP R i j)[q]? with
  | none => exact ⟨Or.inl rfl, Or.inl rfl⟩
  | some p =>
    have hm := List.mem_of_getElem? h
    unfold rfP at hm
    cases hp : R.Q.mp i with
    | none => rw [hp] at hm; cases hm
    | some n =>
      rw [hp] at hm
      obtain ⟨x, -, rfl⟩ := List.mem_map.1 hm
      show ((if _ then 1 else 0) = 0 ∨ (if _ then 1 else 0) = 1) ∧ ((if _ then 1 else 0) = 0 ∨ (if _ then 1 else 0) = 1)
      constructor <;> split <;> simp
theorem dfT.cons {R : Rb} {kz : Nat → Nat} {i j q : Nat} {x : HS} {c0 s0 : Nat} (h : dfT R kz i j q x c0 s0) (hq : q < (rfP R i j).length) : (rfP R i j).drop q = (rfP R i j).getD q (0, 0) :: (rfP R i j).drop (q + 1) := by
  rw [List.drop_eq_getElem_cons hq, List.getD_eq_getElem?_getD, List.getElem?_eq_getElem hq]; rfl
theorem dfT.step {R : Rb} {kz : Nat → Nat} {i j q : Nat} {x : HS} {c0 s0 : Nat} (h : dfT R kz i j q x c0 s0) (h8 : (rfP R i j).length ≤ 8192) (hq : q < (rfP R i j).length) (hp : ¬ (((rfP R i j).getD q (0, 0)).1 = 1 ∧ ((rfP R i j).getD q (0, 0)).2 = 1)) : dfT R kz i j (q + 1) (x.1, x.2.1, x.2.2.1, x.2.2.2.1, x.2.2.2.2.1 + ((rfP R i j).getD q (0, 0)).1, x.2.2.2.2.2 + ((rfP R i j).getD q (0, 0)).2) c0 s0 := by
  have e := h.cons hq
  obtain ⟨h1, h2, h3, h4, h5, h6⟩ := h
  obtain ⟨p1, p2⟩ := rfP_01 (R := R) (i := i) (j := j) (q := q)
  have es : hst x ((rfP R i j).getD q (0, 0)) = (x.1, x.2.1, x.2.2.1, x.2.2.2.1, x.2.2.2.2.1 + ((rfP R i j).getD q (0, 0)).1, x.2.2.2.2.2 + ((rfP R i j).getD q (0, 0)).2) := if_neg hp
  have h9 := hok_st h5 (by omega) p1 p2
  rw [e] at h2 h3 h4
  rw [hrun] at h2
  rw [hrC, if_neg hp, Nat.zero_add] at h3
  rw [hrZ, if_neg hp, Nat.zero_add] at h4
  rw [es] at h2 h3 h4 h9
  exact ⟨hq, h2, h3, h4, h9, h6⟩
theorem hcl_md {x : HS} (h : x.1 % 4 = 0) : (hcl x).1 % 4 = 0 := by
  show (if x.2.2.2.2.1 + x.2.2.2.2.2 = 0 then x.1 else hcN x.1 x.2.1.length) % 4 = 0
  unfold hcN
  split
  · exact h
  · split <;> omega
theorem dfT.close {R : Rb} {kz : Nat → Nat} {i j q N : Nat} {Q : List (Nat × Nat × Nat × Nat)} {fi si de ie c0 s0 : Nat} (h : dfT R kz i j q (N, Q, fi, si, de, ie) c0 s0) (h8 : (rfP R i j).length ≤ 8192) (hq : q = (rfP R i j).length ∨ (((rfP R i j).getD q (0, 0)).1 = 1 ∧ ((rfP R i j).getD q (0, 0)).2 = 1)) : dfG R kz i j q (hcl (N, Q, fi, si, de, ie)).1 (hcl (N, Q, fi, si, de, ie)).2.1 fi si de ie (c0 + hcC N Q.length (de + ie)) (s0 + hcZ N Q.length (de + ie)) := by
  have hc := fun hq => h.cons hq
  obtain ⟨h1, h2, h3, h4, h5, h6⟩ := h
  by_cases e : q = (rfP R i j).length
  · subst e
    rw [List.drop_length] at h2 h3 h4
    exact Or.inr ⟨rfl, by rw [h2]; rfl, by rw [h2]; rfl, h3, h4⟩
  · have hp := hq.resolve_left e
    have hq : q < (rfP R i j).length := by omega
    obtain ⟨p1, p2⟩ := rfP_01 (R := R) (i := i) (j := j) (q := q)
    have es : hst (N, Q, fi, si, de, ie) ((rfP R i j).getD q (0, 0)) = ((hcl (N, Q, fi, si, de, ie)).1, (hcl (N, Q, fi, si, de, ie)).2.1, fi + (de + 1), si + (ie + 1), 0, 0) := if_pos hp
    have h9 := hok_st h5 (by omega) p1 p2
    rw [hc hq] at h2 h3 h4
    rw [hrun] at h2
    rw [hrC, if_pos hp] at h3
    rw [hrZ, if_pos hp] at h4
    rw [es] at h2 h3 h4 h9
    refine Or.inl ⟨hq, h2, ?_, ?_, h9, hcl_md h6⟩
    · rw [Nat.add_assoc]; exact h3
    · rw [Nat.add_assoc]; exact h4
def dfm (R : Rb) (n q : Nat) : Nat := ((R.Q.T n).od.length + 2 - q) * 20
theorem dfm_s {R : Rb} {n q a b : Nat} (hq : q ≤ (R.Q.T n).od.length) (ha : a < 20) : dfm R n (q + 1) + a < dfm R n q + b := by
  unfold dfm; omega
def dfA (t : Nat) (b c : Int32) (F : Nat → Nat × Nat) (Y : Nat → Nat → Nat) (R : Rb) (kz : Nat → Nat) (S S1 : MM) (i j n N : Nat) (Q : List (Nat × Nat × Nat × Nat)) : Prop := dfW R b c i j n ∧ n < 4 ∧ ∃ F1 z1, MD S1 F1 t z1 Y (R.sQ (R.Q.sHu Q)) (upF kz 9 N) ∧ mdN9 S S1 F F1 t
theorem dfW.len {R : Rb} {b c : Int32} {i j n : Nat} (h : dfW R b c i j n) : (rfP R i j).length = (R.Q.T n).od.length := by
  unfold rfP
  rw [h.2.2.2.2.1]
  exact List.length_map _
theorem dfW.get {R : Rb} {b c : Int32} {i j n q : Nat} (h : dfW R b c i j n) (hq : q < (R.Q.T n).od.length) : (rfP R i j).getD q (0, 0) = rfN (R.Q.G n) (R.M i) (R.M j) ((R.Q.T n).od.getD q 0) := by
  unfold rfP
  rw [h.2.2.2.2.1]
  show ((R.Q.T n).od.map (rfN (R.Q.G n) (R.M i) (R.M j))).getD q (0, 0) = _
  rw [List.getD_eq_getElem?_getD, List.getD_eq_getElem?_getD, List.getElem?_map, List.getElem?_eq_getElem hq]
  rfl
theorem MD.st6 {S : MM} {F : Nat → Nat × Nat} {t : Nat} {z : Nat → Nat} {Y : Nat → Nat → Nat} {R : Rb} {kz : Nat → Nat} (hM : MD S F t z Y R kz) {i n : Nat} (hi : i < 8) (ha : R.Q.mp i = some n) (hn : n < 4) : StR S (z 6) (16 * i) (R.M i) := by
  have r6 := hM 1 6 (by decide)
  have g := (hM 2 n hn).2.1
  exact ⟨r6.2.2.1, by rw [r6.2.2.2]; show 16 * i + 16 ≤ 128; omega, by rw [r6.2.2.2]; show 128 ≤ 131072; decide, fun s hs => by
    obtain ⟨q1, q2⟩ := ((hM 5 i hi).2 n ha).2 s hs
    have := cn_le g.ok s
    exact ⟨q1, by omega⟩⟩
def I_d0 (t : Nat) (b c : Int32) (S : MM) (k : Nat) : KT := fun lo st S1 cs sl => ∃ i j, k = 400000 ∧ i < 8 ∧ b = nI i ∧ j < 8 ∧ c = nI j ∧ lo = [(0, .inr (.inr (some t))), (1, .inl (nI i)), (2, .inl (nI j))] ∧ st = [] ∧ S = S1 ∧ cs = 1 ∧ sl = 6
def I_d1 (t : Nat) (b c : Int32) (R : Rb) (S : MM) (k : Nat) : KT := fun lo st S1 cs sl => ∃ i j p1 p2, k = 300000 ∧ i < 8 ∧ b = nI i ∧ j < 8 ∧ c = nI j ∧ R.Q.mp i = some p1 ∧ R.Q.mp j = some p2 ∧ lo = [(0, .inr (.inr (some t))), (1, .inl (nI i)), (2, .inl (nI j))] ∧ st = [] ∧ S = S1 ∧ cs = 2 ∧ sl = 12
def I_d2 (t : Nat) (b c : Int32) (F : Nat → Nat × Nat) (Y : Nat → Nat → Nat) (R : Rb) (kz : Nat → Nat) (S : MM) (k : Nat) : KT := fun lo st S1 cs sl => ∃ i j n q N Q fi si de ie c0 s0, k = dfm R n q + 19 ∧ dfA t b c F Y R kz S S1 i j n N Q ∧ (dfT R kz i j q (N, Q, fi, si, de, ie) c0 s0 ∨ dfE R kz i j q (N, Q, fi, si, de, ie) c0 s0) ∧ lo = [(0, .inr (.inr (some t))), (1, .inl (nI i)), (2, .inl (nI j)), (3, .inr (.inr (some (Y n 0)))), (4, .inl (nI fi)), (5, .inl (nI si)), (6, .inl (nI de)), (7, .inl (nI ie)), (8, .inl (nI q))] ∧ st = [] ∧ cs = 2 + c0 ∧ sl = 12 + s0
def I_d7 (t : Nat) (b c : Int32) (F : Nat → Nat × Nat) (Y : Nat → Nat → Nat) (R : Rb) (kz : Nat → Nat) (S : MM) (k : Nat) : KT := fun lo st S1 cs sl => ∃ i j n q N Q fi si de ie c0 s0 l9, k = dfm R n q + 18 ∧ dfA t b c F Y R kz S S1 i j n N Q ∧ dfT R kz i j q (N, Q, fi, si, de, ie) c0 s0 ∧ l9 = (if q = (R.Q.T n).od.length then 1 else 0) ∧ lo = [(0, .inr (.inr (some t))), (1, .inl (nI i)), (2, .inl (nI j)), (3, .inr (.inr (some (Y n 0)))), (4, .inl (nI fi)), (5, .inl (nI si)), (6, .inl (nI de)), (7, .inl (nI ie)), (8, .inl (nI q)), (9, .inl (nI l9))] ∧ st = [] ∧ cs = 2 + c0 ∧ sl = 12 + s0
def I_d8 (t : Nat) (b c : Int32) (F : Nat → Nat × Nat) (Y : Nat → Nat → Nat) (R : Rb) (kz : Nat → Nat) (S : MM) (k : Nat) : KT := fun lo st S1 cs sl => ∃ i j n q N Q fi si de ie c0 s0 l9 b1, k = dfm R n q + 17 ∧ dfA t b c F Y R kz S S1 i j n N Q ∧ dfT R kz i j q (N, Q, fi, si, de, ie) c0 s0 ∧ l9 = (if q = (R.Q.T n).od.length then 1 else 0) ∧ b1 = ((rfP R i j).getD q (0, 0)).1 ∧ lo = [(0, .inr (.inr (some t))), (1, .inl (nI i)), (2, .inl (nI j)), (3, .inr (.inr (some (Y n 0)))), (4, .inl (nI fi)), (5, .inl (nI si)), (6, .inl (nI de)), (7, .inl (nI ie)), (8, .inl (nI q)), (9, .inl (nI l9)), (10, .inl (nI b1))] ∧ st = [] ∧ cs = 2 + c0 ∧ sl = 12 + s0
def I_d9 (t : Nat) (b c : Int32) (F : Nat → Nat × Nat) (Y : Nat → Nat → Nat) (R : Rb) (kz : Nat → Nat) (S : MM) (k : Nat) : KT := fun lo st S1 cs sl => ∃ i j n q N Q fi si de ie c0 s0 l9 b1 b2, k = dfm R n q + 16 ∧ dfA t b c F Y R kz S S1 i j n N Q ∧ dfT R kz i j q (N, Q, fi, si, de, ie) c0 s0 ∧ l9 = (if q = (R.Q.T n).od.length then 1 else 0) ∧ b1 = ((rfP R i j).getD q (0, 0)).1 ∧ b2 = ((rfP R i j).getD q (0, 0)).2 ∧ lo = [(0, .inr (.inr (some t))), (1, .inl (nI i)), (2, .inl (nI j)), (3, .inr (.inr (some (Y n 0)))), (4, .inl (nI fi)), (5, .inl (nI si)), (6, .inl (nI de)), (7, .inl (nI ie)), (8, .inl (nI q)), (9, .inl (nI l9)), (10, .inl (nI b1)), (11, .inl (nI b2))] ∧ st = [] ∧ cs = 2 + c0 ∧ sl = 12 + s0
def I_dz1 (t : Nat) (b c : Int32) (F : Nat → Nat × Nat) (Y : Nat → Nat → Nat) (R : Rb) (kz : Nat → Nat) (S : MM) (k : Nat) : KT := fun lo st S1 cs sl => ∃ i j n q N Q fi si de ie c0 s0 l9 b1 b2 de', k = dfm R n q + 15 ∧ dfA t b c F Y R kz S S1 i j n N Q ∧ dfT R kz i j q (N, Q, fi, si, de, ie) c0 s0 ∧ l9 = (if q = (R.Q.T n).od.length then 1 else 0) ∧ b1 = ((rfP R i j).getD q (0, 0)).1 ∧ b2 = ((rfP R i j).getD q (0, 0)).2 ∧ de' = de + (if b1 = 1 ∧ b2 = 0 then 1 else 0) ∧ lo = [(0, .inr (.inr (some t))), (1, .inl (nI i)), (2, .inl (nI j)), (3, .inr (.inr (some (Y n 0)))), (4, .inl (nI fi)), (5, .inl (nI si)), (6, .inl (nI de')), (7, .inl (nI ie)), (8, .inl (nI q)), (9, .inl (nI l9)), (10, .inl (nI b1)), (11, .inl (nI b2))] ∧ st = [] ∧ cs = 2 + c0 ∧ sl = 12 + s0
def I_db (t : Nat) (b c : Int32) (F : Nat → Nat × Nat) (Y : Nat → Nat → Nat) (R : Rb) (kz : Nat → Nat) (S : MM) (k : Nat) : KT := fun lo st S1 cs sl => ∃ i j n q N Q fi si de ie c0 s0 l9 b1 b2 de' ie', k = dfm R n q + 14 ∧ dfA t b c F Y R kz S S1 i j n N Q ∧ dfT R kz i j q (N, Q, fi, si, de, ie) c0 s0 ∧ l9 = (if q = (R.Q.T n).od.length then 1 else 0) ∧ b1 = ((rfP R i j).getD q (0, 0)).1 ∧ b2 = ((rfP R i j).getD q (0, 0)).2 ∧ de' = de + (if b1 = 1 ∧ b2 = 0 then 1 else 0) ∧ ie' = ie + (if b2 = 1 ∧ b1 = 0 then 1 else 0) ∧ lo = [(0, .inr (.inr (some t))), (1, .inl (nI i)), (2, .inl (nI j)), (3, .inr (.inr (some (Y n 0)))), (4, .inl (nI fi)), (5, .inl (nI si)), (6, .inl (nI de')), (7, .inl (nI ie')), (8, .inl (nI q)), (9, .inl (nI l9)), (10, .inl (nI b1)), (11, .inl (nI b2))] ∧ st = [] ∧ cs = 2 + c0 ∧ sl = 12 + s0
def I_d3 (t : Nat) (b c : Int32) (F : Nat → Nat × Nat) (Y : Nat → Nat → Nat) (R : Rb) (kz : Nat → Nat) (S : MM) (k : Nat) : KT := fun lo st S1 cs sl => ∃ i j n q N Q fi si de ie c0 s0, k = dfm R n q + 13 ∧ dfA t b c F Y R kz S S1 i j n N Q ∧ dfT R kz i j q (N, Q, fi, si, de, ie) c0 s0 ∧ (q = (rfP R i j).length ∨ (((rfP R i j).getD q (0, 0)).1 = 1 ∧ ((rfP R i j).getD q (0, 0)).2 = 1)) ∧ lo = [(0, .inr (.inr (some t))), (1, .inl (nI i)), (2, .inl (nI j)), (3, .inr (.inr (some (Y n 0)))), (4, .inl (nI fi)), (5, .inl (nI si)), (6, .inl (nI de)), (7, .inl (nI ie)), (8, .inl (nI q))] ∧ st = [] ∧ cs = 2 + c0 ∧ sl = 12 + s0
def I_dw (m : Nat) (t : Nat) (b c : Int32) (F : Nat → Nat × Nat) (Y : Nat → Nat → Nat) (R : Rb) (kz : Nat → Nat) (S : MM) (k : Nat) : KT := fun lo st S1 cs sl => ∃ i j n q N Q fi si de ie c0 s0, k = dfm R n q + (12 - m) ∧ (dfW R b c i j n ∧ n < 4 ∧ ∃ F1 z1, (MD S1 F1 t z1 Y (R.sQ (R.Q.sHu Q)) (upF kz 9 N) ∧ ∀ l, l < m → eI S1 (z1 9) (4 * Q.length + l) = nI (hcv fi si de ie l)) ∧ mdN9 S S1 F F1 t) ∧ 4 * Q.length + 4 ≤ N ∧ q ≤ (R.Q.T n).od.length ∧ dfG R kz i j q N (Q ++ [(fi, de, si, ie)]) fi si de ie c0 s0 ∧ lo = [(0, .inr (.inr (some t))), (1, .inl (nI i)), (2, .inl (nI j)), (3, .inr (.inr (some (Y n 0)))), (4, .inl (nI fi)), (5, .inl (nI si)), (6, .inl (nI de)), (7, .inl (nI ie)), (8, .inl (nI q))] ∧ st = [] ∧ cs = 2 + c0 ∧ sl = 12 + s0
def I_d5 (t : Nat) (b c : Int32) (F : Nat → Nat × Nat) (Y : Nat → Nat → Nat) (R : Rb) (kz : Nat → Nat) (S : MM) (k : Nat) : KT := fun lo st S1 cs sl => ∃ i j n q N Q fi si de ie c0 s0, k = dfm R n q + 7 ∧ dfA t b c F Y R kz S S1 i j n N Q ∧ q ≤ (R.Q.T n).od.length ∧ dfG R kz i j q N Q fi si de ie c0 s0 ∧ lo = [(0, .inr (.inr (some t))), (1, .inl (nI i)), (2, .inl (nI j)), (3, .inr (.inr (some (Y n 0)))), (4, .inl (nI fi)), (5, .inl (nI si)), (6, .inl (nI de)), (7, .inl (nI ie)), (8, .inl (nI q))] ∧ st = [] ∧ cs = 2 + c0 ∧ sl = 12 + s0
def I_d6 (t : Nat) (b c : Int32) (F : Nat → Nat × Nat) (Y : Nat → Nat → Nat) (R : Rb) (kz : Nat → Nat) (S : MM) (k : Nat) : KT := fun lo st S1 cs sl => ∃ i j n q N Q fi si de ie c0 s0, k = dfm R n q + 6 ∧ dfA t b c F Y R kz S S1 i j n N Q ∧ q ≤ (R.Q.T n).od.length ∧ (dfT R kz i j (q + 1) (N, Q, fi, si, de, ie) c0 s0 ∨ dfE R kz i j (q + 1) (N, Q, fi, si, de, ie) c0 s0) ∧ lo = [(0, .inr (.inr (some t))), (1, .inl (nI i)), (2, .inl (nI j)), (3, .inr (.inr (some (Y n 0)))), (4, .inl (nI fi)), (5, .inl (nI si)), (6, .inl (nI de)), (7, .inl (nI ie)), (8, .inl (nI q))] ∧ st = [] ∧ cs = 2 + c0 ∧ sl = 12 + s0
def T_rdf0 : TR := fun Rc Rs av S cs sl K Kx => match av with
  | [.inr (.inr t_o), .inl b, .inl c] => pa t_o fun t => (∃ (F : Nat → Nat × Nat) (z : Nat → Nat) (Y : Nat → Nat → Nat) (R : Rb) (kz : Nat → Nat), (MD S F t z Y R kz ∧ hkD kz) ∧ cs + (3 + dfC R kz b c) ≤ Rc ∧ sl + (18 + dfZ R kz b c) ≤ Rs ∧ ((∀ (v : Int32) (S' : MM), (dfQ S S' F t R kz b c v) → K (some (.inl v)) S' (cs + (3 + dfC R kz b c)) (sl + (18 + dfZ R kz b c))) ∧ ((np 8 b ∨ np 8 c) → Kx 1 S (cs + (3 + dfC R kz b c)) (sl + (18 + dfZ R kz b c))) ∧ ((∃ i j, i < 8 ∧ b = nI i ∧ j < 8 ∧ c = nI j ∧ (R.Q.mp i = none ∨ R.Q.mp j = none)) → Kx 2 S (cs + (3 + dfC R kz b c)) (sl + (18 + dfZ R kz b c))) ∧ ((∃ i j p q, i < 8 ∧ b = nI i ∧ j < 8 ∧ c = nI j ∧ R.Q.mp i = some p ∧ R.Q.mp j = some q ∧ p ≠ q) → Kx 3 S (cs + (3 + dfC R kz b c)) (sl + (18 + dfZ R kz b c)))))
  | _ => False
def sp_rdf0 (t : Nat) (b : Int32) (c : Int32) (F : Nat → Nat × Nat) (z : Nat → Nat) (Y : Nat → Nat → Nat) (R : Rb) (kz : Nat → Nat) : Sp := (fun av S => av = [.inr (.inr (some t)), .inl b, .inl c] ∧ (MD S F t z Y R kz ∧ hkD kz), fun _ S => 3 + dfC R kz b c, fun _ S => 18 + dfZ R kz b c, fun _ S rv S' => ∃ v, rv = (some (.inl v)) ∧ (dfQ S S' F t R kz b c v), fun _ S E S' => (E = 1 ∧ (np 8 b ∨ np 8 c) ∧ S' = S) ∨ (E = 2 ∧ (∃ i j, i < 8 ∧ b = nI i ∧ j < 8 ∧ c = nI j ∧ (R.Q.mp i = none ∨ R.Q.mp j = none)) ∧ S' = S) ∨ (E = 3 ∧ (∃ i j p q, i < 8 ∧ b = nI i ∧ j < 8 ∧ c = nI j ∧ R.Q.mp i = some p ∧ R.Q.mp j = some q ∧ p ≠ q) ∧ S' = S))
def tX14_differ0 : CD := [(0, .iload_n 1), (1, .iconst 0), (2, .bipush 7), (4, .invokestatic 144), (7, .ifCond .eq 17), (10, .iload_n 2), (11, .iconst 0), (12, .bipush 7), (14, .invokestatic 144), (17, .ifCond .eq 7), (20, .iconst 1), (21, .goto 4), (24, .iconst 0), (25, .invokestatic 148), (28, .aload_n 0), (29, .getfield 29), (32, .iload_n 1), (33, .iaload), (34, .ifCond .lt 16), (37, .aload_n 0), (38, .getfield 29), (41, .iload_n 2), (42, .iaload), (43, .ifCond .lt 7), (46, .iconst 1), (47, .goto 4), (50, .iconst 0), (51, .invokestatic 236), (54, .aload_n 0), (55, .getfield 29), (58, .iload_n 1), (59, .iaload), (60, .aload_n 0), (61, .getfield 29), (64, .iload_n 2), (65, .iaload), (66, .if_icmp .eq 11), (69, .new 170), (72, .dup), (73, .invokespecial 172), (76, .athrow), (77, .aload_n 0), (78, .getfield 11), (81, .aload_n 0), (82, .getfield 29), (85, .iload_n 1), (86, .iaload), (87, .aaload), (88, .astore_n 3), (89, .iconst 0), (90, .istore 4), (92, .iconst 0), (93, .istore 5), (95, .iconst 0), (96, .istore 6), (98, .iconst 0), (99, .istore 7), (101, .aload_n 0), (102, .iconst 0), (103, .putfield 301), (106, .iconst 0), (107, .istore 8), (109, .iload 8), (111, .aload_n 3), (112, .getfield 239), (115, .if_icmp .gt 269), (118, .iload 8), (120, .aload_n 3), (121, .getfield 239), (124, .if_icmp .ne 7), (127, .iconst 1), (128, .goto 4), (131, .iconst 0), (132, .istore 9), (134, .iload 9), (136, .ifCond .ne 29), (139, .aload_n 3), (140, .aload_n 0), (141, .getfield 32), (144, .bipush 16), (146, .iload_n 1), (147, .imul), (148, .aload_n 3), (149, .getfield 246), (152, .iload 8), (154, .iaload), (155, .invokevirtual 297), (158, .ifCond .eq 7), (161, .iconst 1), (162, .goto 4), (165, .iconst 0), (166, .istore 10), (168, .iload 9), (170, .ifCond .ne 29), (173, .aload_n 3), (174, .aload_n 0), (175, .getfield 32), (178, .bipush 16), (180, .iload_n 2), (181, .imul), (182, .aload_n 3), (183, .getfield 246), (186, .iload 8), (188, .iaload), (189, .invokevirtual 297), (192, .ifCond .eq 7), (195, .iconst 1), (196, .goto 4), (199, .iconst 0), (200, .istore 11), (202, .iload 10), (204, .ifCond .eq 11), (207, .iload 11), (209, .ifCond .ne 6), (212, .iinc 6 1), (215, .iload 11), (217, .ifCond .eq 11), (220, .iload 10), (222, .ifCond .ne 6), (225, .iinc 7 1), (228, .iload 9), (230, .ifCond .ne 16), (233, .iload 10), (235, .ifCond .eq 143), (238, .iload 11), (240, .ifCond .ne 6), (243, .goto 135), (246, .iload 6), (248, .iload 7), (250, .iadd), (251, .ifCond .le 103), (254, .iconst 4), (255, .aload_n 0), (256, .getfield 301), (259, .imul), (260, .aload_n 0), (261, .getfield 39), (264, .arraylength), (265, .if_icmp .ne 21), (268, .aload_n 0), (269, .aload_n 0), (270, .getfield 39), (273, .bipush 8), (275, .aload_n 0), (276, .getfield 301), (279, .imul), (280, .invokestatic 304), (283, .putfield 39), (286, .aload_n 0), (287, .getfield 39), (290, .iconst 4), (291, .aload_n 0), (292, .getfield 301), (295, .imul), (296, .iload 4), (298, .iastore), (299, .aload_n 0), (300, .getfield 39), (303, .iconst 4), (304, .aload_n 0), (305, .getfield 301), (308, .imul), (309, .iconst 1), (310, .iadd), (311, .iload 6), (313, .iastore), (314, .aload_n 0), (315, .getfield 39), (318, .iconst 4), (319, .aload_n 0), (320, .getfield 301), (323, .imul), (324, .iconst 2), (325, .iadd), (326, .iload 5), (328, .iastore), (329, .aload_n 0), (330, .getfield 39), (333, .iconst 4), (334, .aload_n 0), (335, .getfield 301), (338, .imul), (339, .iconst 3), (340, .iadd), (341, .iload 7), (343, .iastore), (344, .aload_n 0), (345, .dup), (346, .getfield 301), (349, .iconst 1), (350, .iadd), (351, .putfield 301), (354, .iload 4), (356, .iload 6), (358, .iconst 1), (359, .iadd), (360, .iadd), (361, .istore 4), (363, .iload 5), (365, .iload 7), (367, .iconst 1), (368, .iadd), (369, .iadd), (370, .istore 5), (372, .iconst 0), (373, .istore 6), (375, .iconst 0), (376, .istore 7), (378, .iinc 8 1), (381, .goto (-272)), (384, .aload_n 0), (385, .getfield 301), (388, .ireturn)]
set_option maxRecDepth 100000 in
theorem kX14_differ0 : chk cX14_differ0 tX14_differ0 = true := by decide +kernel
theorem vX14_differ0_144 : ∀ w ∈ ([.methodLink RX14 144 yX14_in, .static yX14_in, .initialized yX14_in.cls, .code yX14_in cX14_in 3 (some .boolean)] : List Cond), w ∈ lw_good := List.forall_mem_cons.mpr ⟨mgd 1930 (by decide +kernel) (by decide +kernel), List.forall_mem_cons.mpr ⟨mgd 1931 (by decide +kernel) (by decide +kernel), List.forall_mem_cons.mpr ⟨mgd 136 (by decide +kernel) (by decide +kernel), List.forall_mem_cons.mpr ⟨mgd 1932 (by decide +kernel) (by decide +kernel), fun _ h => absurd h List.not_mem_nil⟩⟩⟩⟩
theorem vX14_differ0_148 : ∀ w ∈ ([.methodLink RX14 148 yX14_check, .static yX14_check, .initialized yX14_check.cls, .code yX14_check cX14_check 1 none] : List Cond), w ∈ lw_good := List.forall_mem_cons.mpr ⟨mgd 1933 (by decide +kernel) (by decide +kernel), List.forall_mem_cons.mpr ⟨mgd 1934 (by decide +kernel) (by decide +kernel), List.forall_mem_cons.mpr ⟨mgd 136 (by decide +kernel) (by decide +kernel), List.forall_mem_cons.mpr ⟨mgd 1935 (by decide +kernel) (by decide +kernel), fun _ h => absurd h List.not_mem_nil⟩⟩⟩⟩
theorem vX14_differ0_236 : ∀ w ∈ ([.methodLink RX14 236 yX14_there, .static yX14_there, .initialized yX14_there.cls, .code yX14_there cX14_there 1 none] : List Cond), w ∈ lw_good := List.forall_mem_cons.mpr ⟨mgd 2066 (by decide +kernel) (by decide +kernel), List.forall_mem_cons.mpr ⟨mgd 2067 (by decide +kernel) (by decide +kernel), List.forall_mem_cons.mpr ⟨mgd 136 (by decide +kernel) (by decide +kernel), List.forall_mem_cons.mpr ⟨mgd 2068 (by decide +kernel) (by decide +kernel), fun _ h => absurd h List.not_mem_nil⟩⟩⟩⟩
theorem vX14_differ0_297 : ∀ w ∈ ([.methodLink RX14 297 yX12_isSeen, .instanceMethod yX12_isSeen, .selects yX12_isSeen.cls yX12_isSeen yX12_isSeen, .initialized yX12_isSeen.cls, .code yX12_isSeen cX12_isSeen 5 (some .boolean)] : List Cond), w ∈ lw_good := List.forall_mem_cons.mpr ⟨mgd 2192 (by decide +kernel) (by decide +kernel), List.forall_mem_cons.mpr ⟨mgd 2006 (by decide +kernel) (by decide +kernel), List.forall_mem_cons.mpr ⟨mgd 2007 (by decide +kernel) (by decide +kernel), List.forall_mem_cons.mpr ⟨mgd 138 (by decide +kernel) (by decide +kernel), List.forall_mem_cons.mpr ⟨mgd 2008 (by decide +kernel) (by decide +kernel), fun _ h => absurd h List.not_mem_nil⟩⟩⟩⟩⟩
theorem vX14_differ0_304 : ∀ w ∈ ([.methodLink RX14 304 yJ7_copyOf_59c91, .static yJ7_copyOf_59c91, .initialized yJ7_copyOf_59c91.cls, .code yJ7_copyOf_59c91 cJ7_copyOf_59c91 3 (some (.array .int))] : List Cond), w ∈ lw_good := List.forall_mem_cons.mpr ⟨mgd 2209 (by decide +kernel) (by decide +kernel), List.forall_mem_cons.mpr ⟨mgd 1267 (by decide +kernel) (by decide +kernel), List.forall_mem_cons.mpr ⟨mgd 135 (by decide +kernel) (by decide +kernel), List.forall_mem_cons.mpr ⟨mgd 1268 (by decide +kernel) (by decide +kernel), fun _ h => absurd h List.not_mem_nil⟩⟩⟩⟩
set_option maxRecDepth 100000 in
set_option maxHeartbeats 2000000 in
theorem c_rdf0 (l : Launch) (hlt : l.stackTraces = false) : ∀ (t : Nat) (b : Int32) (c : Int32) (F : Nat → Nat × Nat) (z : Nat → Nat) (Y : Nat → Nat → Nat) (R : Rb) (kz : Nat → Nat), CtX l yX14_differ0 (Cond.code yX14_differ0 cX14_differ0 12 (some .int)) (some .int) 7 109 (sp_rdf0 t b c F z Y R kz) := by
  intro t b c F z Y R kz
  refine CtX.of hlt (fX14, nX14, aX14, iX14, lX14, [(144, 2, 3, 1, T_rin), (148, 2, 1, 0, T_rck), (236, 2, 1, 0, T_rth), (297, 0, 4, 1, T_rsn), (304, 2, 2, 3, T_cpi)], qX14, gX14, thX14) false tX14_differ0 (fun _ S => look [(28, ([0,1,2], I_d0 t b c S)), (54, ([0,1,2], I_d1 t b c R S)), (109, ([0,1,2,3,4,5,6,7,8], I_d2 t b c F Y R kz S)), (134, ([0,1,2,3,4,5,6,7,8,9], I_d7 t b c F Y R kz S)), (168, ([0,1,2,3,4,5,6,7,8,9,10], I_d8 t b c F Y R kz S)), (202, ([0,1,2,3,4,5,6,7,8,9,10,11], I_d9 t b c F Y R kz S)), (215, ([0,1,2,3,4,5,6,7,8,9,10,11], I_dz1 t b c F Y R kz S)), (228, ([0,1,2,3,4,5,6,7,8,9,10,11], I_db t b c F Y R kz S)), (246, ([0,1,2,3,4,5,6,7,8], I_d3 t b c F Y R kz S)), (286, ([0,1,2,3,4,5,6,7,8], I_dw 0 t b c F Y R kz S)), (299, ([0,1,2,3,4,5,6,7,8], I_dw 1 t b c F Y R kz S)), (314, ([0,1,2,3,4,5,6,7,8], I_dw 2 t b c F Y R kz S)), (329, ([0,1,2,3,4,5,6,7,8], I_dw 3 t b c F Y R kz S)), (344, ([0,1,2,3,4,5,6,7,8], I_dw 4 t b c F Y R kz S)), (354, ([0,1,2,3,4,5,6,7,8], I_d5 t b c F Y R kz S)), (378, ([0,1,2,3,4,5,6,7,8], I_d6 t b c F Y R kz S))]) (by decide) (by decide) kX14_differ0 ⟨_, _, rfl⟩ fX14_ok nX14_ok aX14_ok iX14_ok lX14_ok (fun p e R s m args below meth c Q D cy z r A C hR1 hR2 => List.forall_mem_cons.mpr ⟨cOK_use (fun _ _ _ _ _ _ _ _ h => let ⟨sp, h1, _, h3⟩ := u_rin l _ _ _ _ _ _ _ _ h; ⟨sp, cOK_S C h1 vX14_differ0_144 ⟨by decide, by decide, by decide +kernel⟩ ⟨by rw [hR1]; decide, by rw [hR2]; decide⟩, h3⟩), List.forall_mem_cons.mpr ⟨cOK_use (fun _ _ _ _ _ _ _ _ h => let ⟨sp, h1, _, h3⟩ := u_rck l hlt _ _ _ _ _ _ _ _ h; ⟨sp, cOKx_S C h1 vX14_differ0_148 ⟨by decide, by decide, by decide +kernel⟩ ⟨by rw [hR1]; decide, by rw [hR2]; decide⟩, h3⟩), List.forall_mem_cons.mpr ⟨cOK_use (fun _ _ _ _ _ _ _ _ h => let ⟨sp, h1, _, h3⟩ := u_rth l hlt _ _ _ _ _ _ _ _ h; ⟨sp, cOKx_S C h1 vX14_differ0_236 ⟨by decide, by decide, by decide +kernel⟩ ⟨by rw [hR1]; decide, by rw [hR2]; decide⟩, h3⟩), List.forall_mem_cons.mpr ⟨cOK_use (fun _ _ _ _ _ _ _ _ h => let ⟨sp, h1, h2, h3⟩ := u_rsn l _ _ _ _ _ _ _ _ h; ⟨sp, cOK_V C h1 vX14_differ0_297 ⟨by decide, by decide, by decide +kernel⟩ ⟨by rw [hR1]; decide, by rw [hR2]; decide⟩ (k := 13) (T := TX12) (N := 27) rfl (by decide) h2, h3⟩), List.forall_mem_cons.mpr ⟨cOK_use (fun _ _ _ _ _ _ _ _ h => let ⟨sp, h1, _, h3⟩ := u_cpi l _ _ _ _ _ _ _ _ h; ⟨sp, cOK_S C h1 vX14_differ0_304 ⟨by decide, by decide, by decide +kernel⟩ ⟨by rw [hR1]; decide, by rw [hR2]; decide⟩, h3⟩), fun _ h => absurd h List.not_mem_nil⟩⟩⟩⟩⟩) qX14_ok gX14_ok (fun q hq => ⟨thX14_ok q hq, by decide, by decide⟩) ?_ ?_
  · rintro _ S ⟨rfl, hp⟩
    refine ⟨Nat.le_of_ble_eq_true rfl, 300, ?_⟩
    show (2 = 2 ∧ (True ∧ 0 ≤ 3 + dfC R kz b c ∧ 0 ≤ 18 + dfZ R kz b c ∧ ((((tf ((0 : Int32) ≤ b ∧ b ≤ (7 : Int32))) = 0 → (2 = 2 ∧ (((0 : Int32) = 0 ∨ (0 : Int32) = 1) ∧ 0 + 1 ≤ 3 + dfC R kz b c ∧ 0 + 6 ≤ 18 + dfZ R kz b c ∧ ((∀ (S_2 : MM), (S_2 = S ∧ (0 : Int32) = 1) → (∃ k1, I_d0 t b c S k1 [(0, .inr (.inr (some t))), (1, .inl b), (2, .inl c)] [] S_2 (0 + 1) (0 + 6))) ∧ (((0 : Int32) = 0) → mthr (sp_rdf0 t b c F z Y R kz) [.inr (.inr (some t)), .inl b, .inl c] S 1 S (0 + 1) (0 + 6)))))) ∧ (¬ (tf ((0 : Int32) ≤ b ∧ b ≤ (7 : Int32))) = 0 → (2 = 2 ∧ (True ∧ 0 ≤ 3 + dfC R kz b c ∧ 0 ≤ 18 + dfZ R kz b c ∧ ((((tf ((0 : Int32) ≤ c ∧ c ≤ (7 : Int32))) = 0 → (2 = 2 ∧ (((0 : Int32) = 0 ∨ (0 : Int32) = 1) ∧ 0 + 1 ≤ 3 + dfC R kz b c ∧ 0 + 6 ≤ 18 + dfZ R kz b c ∧ ((∀ (S_5 : MM), (S_5 = S ∧ (0 : Int32) = 1) → (∃ k1, I_d0 t b c S k1 [(0, .inr (.inr (some t))), (1, .inl b), (2, .inl c)] [] S_5 (0 + 1) (0 + 6))) ∧ (((0 : Int32) = 0) → mthr (sp_rdf0 t b c F z Y R kz) [.inr (.inr (some t)), .inl b, .inl c] S 1 S (0 + 1) (0 + 6)))))) ∧ (¬ (tf ((0 : Int32) ≤ c ∧ c ≤ (7 : Int32))) = 0 → (2 = 2 ∧ (((1 : Int32) = 0 ∨ (1 : Int32) = 1) ∧ 0 + 1 ≤ 3 + dfC R kz b c ∧ 0 + 6 ≤ 18 + dfZ R kz b c ∧ ((∀ (S_7 : MM), (S_7 = S ∧ (1 : Int32) = 1) → (∃ k1, I_d0 t b c S k1 [(0, .inr (.inr (some t))), (1, .inl b), (2, .inl c)] [] S_7 (0 + 1) (0 + 6))) ∧ (((1 : Int32) = 0) → mthr (sp_rdf0 t b c F z Y R kz) [.inr (.inr (some t)), .inl b, .inl c] S 1 S (0 + 1) (0 + 6)))))))))))))))
    obtain ⟨hM, hK⟩ := hp
    have fail : ∀ {a9 b9 : Nat}, (np 8 b ∨ np 8 c) → a9 ≤ 3 → b9 ≤ 18 → mthr (sp_rdf0 t b c F z Y R kz) [.inr (.inr (some t)), .inl b, .inl c] S 1 S a9 b9 := fun h ha hb => ⟨Or.inl ⟨rfl, h, rfl⟩, Nat.le_trans ha (Nat.le_add_right _ _), Nat.le_trans hb (Nat.le_add_right _ _)⟩
    refine ⟨rfl, trivial, by omega, by omega, fun h => ⟨rfl, Or.inl rfl, by omega, by omega, fun S9 h => absurd h.2 (by decide), fun _ => fail (Or.inl (in_0k (k := 7) (by decide) h)) (by decide) (by decide)⟩, fun h => ?_⟩
    obtain ⟨i, hi, rfl⟩ := in_1k (k := 7) (by decide) ((tf_b _).resolve_left h)
    refine ⟨rfl, trivial, by omega, by omega, fun h => ⟨rfl, Or.inl rfl, by omega, by omega, fun S9 h => absurd h.2 (by decide), fun _ => fail (Or.inr (in_0k (k := 7) (by decide) h)) (by decide) (by decide)⟩, fun h => ⟨rfl, Or.inr rfl, by omega, by omega, fun S9 h9 => ?_, fun h => absurd h (by decide)⟩⟩
    obtain ⟨j, hj, rfl⟩ := in_1k (k := 7) (by decide) ((tf_b _).resolve_left h)
    obtain ⟨rfl, -⟩ := h9
    exact ⟨400000, i, j, rfl, hi, rfl, hj, rfl, rfl, rfl, rfl, rfl, rfl⟩
  · intro av S hpre pc I hI k lo st S1 cs sl h
    obtain ⟨rfl, hp⟩ := hpre
    have hm := look_in hI
    simp only [List.mem_cons, List.not_mem_nil, or_false] at hm
    rcases hm with hm | hm | hm | hm | hm | hm | hm | hm | hm | hm | hm | hm | hm | hm | hm | hm
    · cases hm
      obtain ⟨i, j, rfl, hi, hbi, hj, hcj, rfl, rfl, rfl, rfl, rfl⟩ := h
      refine ⟨300, ?_⟩
      show (isO S 15 t ∧ (pa (mR S 1505 t) fun a_1 => ∃ v_2 : Int32, (isO S 17 a_1 ∧ inR S a_1 (nI i) ∧ v_2 = eI S a_1 (nI i).toNatClampNeg ∨ a_1 = (mQ S).1 ∧ vp_in (nI i) 16 ∧ v_2 = mRem (nI i).toNatClampNeg) ∧ ((v_2 < 0 → (2 = 2 ∧ (((0 : Int32) = 0 ∨ (0 : Int32) = 1) ∧ 1 + 1 ≤ 3 + dfC R kz b c ∧ 6 + 6 ≤ 18 + dfZ R kz b c ∧ ((∀ (S_3 : MM), (S_3 = S ∧ (0 : Int32) = 1) → (∃ k1, k1 < 400000 ∧ I_d1 t b c R S k1 [(0, .inr (.inr (some t))), (1, .inl (nI i)), (2, .inl (nI j))] [] S_3 (1 + 1) (6 + 6))) ∧ (((0 : Int32) = 0) → mthr (sp_rdf0 t b c F z Y R kz) [.inr (.inr (some t)), .inl b, .inl c] S 2 S (1 + 1) (6 + 6)))))) ∧ (¬ v_2 < 0 → (isO S 15 t ∧ (pa (mR S 1505 t) fun a_5 => ∃ v_6 : Int32, (isO S 17 a_5 ∧ inR S a_5 (nI j) ∧ v_6 = eI S a_5 (nI j).toNatClampNeg ∨ a_5 = (mQ S).1 ∧ vp_in (nI j) 16 ∧ v_6 = mRem (nI j).toNatClampNeg) ∧ ((v_6 < 0 → (2 = 2 ∧ (((0 : Int32) = 0 ∨ (0 : Int32) = 1) ∧ 1 + 1 ≤ 3 + dfC R kz b c ∧ 6 + 6 ≤ 18 + dfZ R kz b c ∧ ((∀ (S_7 : MM), (S_7 = S ∧ (0 : Int32) = 1) → (∃ k1, k1 < 400000 ∧ I_d1 t b c R S k1 [(0, .inr (.inr (some t))), (1, .inl (nI i)), (2, .inl (nI j))] [] S_7 (1 + 1) (6 + 6))) ∧ (((0 : Int32) = 0) → mthr (sp_rdf0 t b c F z Y R kz) [.inr (.inr (some t)), .inl b, .inl c] S 2 S (1 + 1) (6 + 6)))))) ∧ (¬ v_6 < 0 → (2 = 2 ∧ (((1 : Int32) = 0 ∨ (1 : Int32) = 1) ∧ 1 + 1 ≤ 3 + dfC R kz b c ∧ 6 + 6 ≤ 18 + dfZ R kz b c ∧ ((∀ (S_9 : MM), (S_9 = S ∧ (1 : Int32) = 1) → (∃ k1, k1 < 400000 ∧ I_d1 t b c R S k1 [(0, .inr (.inr (some t))), (1, .inl (nI i)), (2, .inl (nI j))] [] S_9 (1 + 1) (6 + 6))) ∧ (((1 : Int32) = 0) → mthr (sp_rdf0 t b c F z Y R kz) [.inr (.inr (some t)), .inl b, .inl c] S 2 S (1 + 1) (6 + 6)))))))))))))
      obtain ⟨hM, hK⟩ := hp
      have r5 := hM 1 5 (by decide)
      have ci : (nI i).toNatClampNeg = i := nI_clamp (by omega)
      have cj : (nI j).toNatClampNeg = j := nI_clamp (by omega)
      have fail : (R.Q.mp i = none ∨ R.Q.mp j = none) → mthr (sp_rdf0 t b c F z Y R kz) [.inr (.inr (some t)), .inl b, .inl c] S 2 S (1 + 1) (6 + 6) := fun h => ⟨Or.inr (Or.inl ⟨rfl, ⟨i, j, hi, hbi, hj, hcj, h⟩, rfl⟩), by show 2 ≤ 3 + dfC R kz b c; omega, by show 12 ≤ 18 + dfZ R kz b c; omega⟩
      refine ⟨(hM 0).1, rdI (v := stI (R.Q.mp i)) r5.1 r5.2.2.1 (inRn (N := 8) r5.2.2.2 hi (by decide)) (by rw [ci]; exact (hM 5 i hi).1) ?_⟩
      cases hpi : R.Q.mp i with
      | none => exact ⟨fun _ => ⟨rfl, Or.inl rfl, by omega, by omega, fun S9 h => absurd h.2 (by decide), fun _ => fail (Or.inl hpi)⟩, fun w => absurd (by decide : (-1 : Int32) < 0) w⟩
      | some p1 =>
        have hp1 := ((hM 5 i hi).2 p1 hpi).1
        refine ⟨fun w => absurd w (nI_pos (show p1 < 2147483648 by omega)), fun _ => ⟨(hM 0).1, rdI (v := stI (R.Q.mp j)) r5.1 r5.2.2.1 (inRn (N := 8) r5.2.2.2 hj (by decide)) (by rw [cj]; exact (hM 5 j hj).1) ?_⟩⟩
        cases hpj : R.Q.mp j with
        | none => exact ⟨fun _ => ⟨rfl, Or.inl rfl, by omega, by omega, fun S9 h => absurd h.2 (by decide), fun _ => fail (Or.inr hpj)⟩, fun w => absurd (by decide : (-1 : Int32) < 0) w⟩
        | some p2 =>
          have hp2 := ((hM 5 j hj).2 p2 hpj).1
          refine ⟨fun w => absurd w (nI_pos (show p2 < 2147483648 by omega)), fun _ => ⟨rfl, Or.inr rfl, by omega, by omega, fun S9 h9 => ?_, fun h => absurd h (by decide)⟩⟩
          obtain ⟨rfl, -⟩ := h9
          exact ⟨300000, by decide, i, j, p1, p2, rfl, hi, hbi, hj, hcj, hpi, hpj, rfl, rfl, rfl, rfl, rfl⟩
    · cases hm
      obtain ⟨i, j, p1, p2, rfl, hi, hbi, hj, hcj, hpi, hpj, rfl, rfl, rfl, rfl, rfl⟩ := h
      refine ⟨300, ?_⟩
      show (isO S 15 t ∧ (pa (mR S 1505 t) fun a_1 => ∃ v_2 : Int32, (isO S 17 a_1 ∧ inR S a_1 (nI i) ∧ v_2 = eI S a_1 (nI i).toNatClampNeg ∨ a_1 = (mQ S).1 ∧ vp_in (nI i) 16 ∧ v_2 = mRem (nI i).toNatClampNeg) ∧ (isO S 15 t ∧ (pa (mR S 1505 t) fun a_3 => ∃ v_4 : Int32, (isO S 17 a_3 ∧ inR S a_3 (nI j) ∧ v_4 = eI S a_3 (nI j).toNatClampNeg ∨ a_3 = (mQ S).1 ∧ vp_in (nI j) 16 ∧ v_4 = mRem (nI j).toNatClampNeg) ∧ ((v_2 = v_4 → (isO S 15 t ∧ (isO S 15 t ∧ (pa (mR S 1505 t) fun a_5 => ∃ v_6 : Int32, (isO S 17 a_5 ∧ inR S a_5 (nI i) ∧ v_6 = eI S a_5 (nI i).toNatClampNeg ∨ a_5 = (mQ S).1 ∧ vp_in (nI i) 16 ∧ v_6 = mRem (nI i).toNatClampNeg) ∧ (pa (mR S 1500 t) fun a_7 => a_7 ∈ mL S ∧ ¬ mK S a_7 < 21 ∧ mK S a_7 < 29 ∧ inR S a_7 v_6 ∧ (True ∧ (isO S 15 t ∧ (∃ k1, k1 < 300000 ∧ I_d2 t b c F Y R kz S k1 [(0, .inr (.inr (some t))), (1, .inl (nI i)), (2, .inl (nI j)), (3, .inr (.inr (eR S a_7 v_6.toNatClampNeg))), (4, .inl (0 : Int32)), (5, .inl (0 : Int32)), (6, .inl (0 : Int32)), (7, .inl (0 : Int32)), (8, .inl (0 : Int32))] [] (sI S 1510 t (0 : Int32)) 2 12)))))))) ∧ (¬ v_2 = v_4 → (mthr (sp_rdf0 t b c F z Y R kz) [.inr (.inr (some t)), .inl b, .inl c] S 3 S (2 + 1) (12 + 6))))))))
      obtain ⟨hM, hK⟩ := hp
      have r5 := hM 1 5 (by decide)
      have r0 := hM 1 0 (by decide)
      have ci : (nI i).toNatClampNeg = i := nI_clamp (by omega)
      have cj : (nI j).toNatClampNeg = j := nI_clamp (by omega)
      have e5 : eI S (z 5) (nI i).toNatClampNeg = nI p1 := by rw [ci, (hM 5 i hi).1, hpi]; rfl
      have e6 : eI S (z 5) (nI j).toNatClampNeg = nI p2 := by rw [cj, (hM 5 j hj).1, hpj]; rfl
      have hp1 := ((hM 5 i hi).2 p1 hpi).1
      have hp2 := ((hM 5 j hj).2 p2 hpj).1
      have er : eR S (z 0) (nI p1).toNatClampNeg = some (Y p1 0) := by rw [nI_clamp (by omega)]; exact (hM 2 p1 hp1).1
      refine ⟨(hM 0).1, rdI r5.1 r5.2.2.1 (inRn (N := 8) r5.2.2.2 hi (by decide)) e5 ⟨(hM 0).1, rdI r5.1 r5.2.2.1 (inRn (N := 8) r5.2.2.2 hj (by decide)) e6 ?_⟩⟩
      refine if_eq (by omega) (by omega) (fun e => ⟨(hM 0).1, (hM 0).1, rdI r5.1 r5.2.2.1 (inRn (N := 8) r5.2.2.2 hi (by decide)) e5 (pa_i r0.1 ⟨r0.2.2.1.1, by rw [r0.2.2.1.2]; decide, by rw [r0.2.2.1.2]; decide, inRn (N := 4) r0.2.2.2 hp1 (by decide), trivial, (hM 0).1, ?_⟩)⟩) (fun e => ⟨Or.inr (Or.inr ⟨rfl, ⟨i, j, p1, p2, hi, hbi, hj, hcj, hpi, hpj, e⟩, rfl⟩), by show 3 ≤ 3 + dfC R kz b c; omega, by show 18 ≤ 18 + dfZ R kz b c; omega⟩)
      rw [er]
      subst e
      have hW : dfW R b c i j p1 := ⟨hi, hbi, hj, hcj, hpi, hpj⟩
      have g := (hM 2 p1 hp1).2.1
      have hnm := g.nm
      have hol := g.odl
      have M1 : MD (sI S 1510 t 0) F t z Y (R.sQ (R.Q.sHu [])) kz := hM.hun (Keep.sI (P := fun c => c = t ∨ ∃ k, k ∈ [9] ∧ c = z k) Keep.rf (Or.inl rfl)) (by rw [mI_sI, if_pos ⟨rfl, rfl⟩]; rfl) (Nat.zero_le _) (fun k hk => absurd hk (Nat.not_lt_zero k)) (fun f hf => by rw [mI_sI, if_neg (fun e => hf e.1)]) (fun f => rfl)
      refine ⟨dfm R p1 0 + 19, by unfold dfm; omega, i, j, p1, 0, kz 9, [], 0, 0, 0, 0, 0, 0, rfl, ⟨hW, hp1, F, z, by rw [upF_id]; exact M1, fun _ _ => rfl, Keep.sI (P := fun c => 100 ≤ (F c).1) Keep.rf hM.own, by rw [mI_sI, if_neg (fun e => absurd e.1 (by decide))]⟩, Or.inl ⟨Nat.zero_le _, rfl, Nat.zero_add _, Nat.zero_add _, ⟨hK.1, Nat.le_refl 0, Nat.le_refl 0, Nat.le_refl 0⟩, hK.2⟩, rfl, rfl, rfl, rfl⟩
    · cases hm
      obtain ⟨i, j, n, q, N, Q, fi, si, de, ie, c0, s0, rfl, hA, hT, rfl, rfl, rfl, rfl⟩ := h
      refine ⟨300, ?_⟩
      show (isO S1 13 (Y n 0) ∧ (((mI S1 1302 (Y n 0)) < (nI q) → (isO S1 15 t ∧ (([] : List MV) = [] ∧ mret (some .int) (sp_rdf0 t b c F z Y R kz) [.inr (.inr (some t)), .inl b, .inl c] S (some (.inl (mI S1 1510 t))) S1 (2 + c0) (12 + s0)))) ∧ (¬ (mI S1 1302 (Y n 0)) < (nI q) → (isO S1 13 (Y n 0) ∧ ((¬ (nI q) = (mI S1 1302 (Y n 0)) → (∃ k1, k1 < (dfm R n q + 19) ∧ I_d7 t b c F Y R kz S k1 [(0, .inr (.inr (some t))), (1, .inl (nI i)), (2, .inl (nI j)), (3, .inr (.inr (some (Y n 0)))), (4, .inl (nI fi)), (5, .inl (nI si)), (6, .inl (nI de)), (7, .inl (nI ie)), (8, .inl (nI q)), (9, .inl (0 : Int32))] [] S1 (2 + c0) (12 + s0))) ∧ ((nI q) = (mI S1 1302 (Y n 0)) → (∃ k1, k1 < (dfm R n q + 19) ∧ I_d7 t b c F Y R kz S k1 [(0, .inr (.inr (some t))), (1, .inl (nI i)), (2, .inl (nI j)), (3, .inr (.inr (some (Y n 0)))), (4, .inl (nI fi)), (5, .inl (nI si)), (6, .inl (nI de)), (7, .inl (nI ie)), (8, .inl (nI q)), (9, .inl (1 : Int32))] [] S1 (2 + c0) (12 + s0))))))))
      obtain ⟨hM0, hK⟩ := hp
      obtain ⟨hW, hn, F1, z1, hM, hF⟩ := id hA
      have g : RG S1 F1 (101 + n) (Y n) (R.Q.G n) (R.Q.T n) := (hM 2 n hn).2.1
      have hnm := g.nm
      have hol := g.odl
      have hl := hW.len
      have e1 : mI S1 1302 (Y n 0) = nI (R.Q.T n).od.length := (g 2).2.2
      have cb : b.toNatClampNeg = i := by rw [hW.2.1]; exact nI_clamp (by have := hW.1; omega)
      have cc : c.toNatClampNeg = j := by rw [hW.2.2.2.1]; exact nI_clamp (by have := hW.2.2.1; omega)
      have hq2 : q ≤ (R.Q.T n).od.length + 1 := by rcases hT with h | h <;> have := h.1 <;> omega
      rw [e1]
      refine ⟨(g 0).1, if_lt (by omega) (by omega) (fun w => ⟨(hM 0).1, ?_⟩) (fun w => ⟨(g 0).1, ?_⟩)⟩
      · obtain ⟨t1, t2, t3, t4, t5⟩ : dfE R kz i j q (N, Q, fi, si, de, ie) c0 s0 := hT.resolve_left (fun h => by have := h.1; omega)
        have t2 : (dfR R kz i j).1 = N := t2
        have t3 : (dfR R kz i j).2.1 = Q := t3
        have m10 : mI S1 1510 t = nI Q.length := (hM 7).1
        rw [m10]
        exact ⟨rfl, trivial, ⟨_, rfl, i, j, n, hW, by rw [t3], F1, z1, Y, by rw [t2, t3]; exact hM, hF⟩, by show 2 + c0 ≤ 3 + dfC R kz b c; unfold dfC; rw [cb, cc, ← t4]; omega, by show 12 + s0 ≤ 18 + dfZ R kz b c; unfold dfZ; rw [cb, cc, ← t5]; omega⟩
      · have hT : dfT R kz i j q (N, Q, fi, si, de, ie) c0 s0 := hT.resolve_right (fun h => by have := h.1; omega)
        exact if_ne (by omega) (by omega) (fun w2 => ⟨dfm R n q + 18, by omega, i, j, n, q, N, Q, fi, si, de, ie, c0, s0, 0, rfl, hA, hT, by rw [if_neg w2], rfl, rfl, rfl, rfl⟩) (fun w2 => ⟨dfm R n q + 18, by omega, i, j, n, q, N, Q, fi, si, de, ie, c0, s0, 1, rfl, hA, hT, by rw [if_pos w2], rfl, rfl, rfl, rfl⟩)
    · cases hm
      obtain ⟨i, j, n, q, N, Q, fi, si, de, ie, c0, s0, l9, rfl, hA, hT, hl9, rfl, rfl, rfl, rfl⟩ := h
      refine ⟨300, ?_⟩
      show ((¬ (nI l9) = 0 → (∃ k1, k1 < (dfm R n q + 18) ∧ I_d8 t b c F Y R kz S k1 [(0, .inr (.inr (some t))), (1, .inl (nI i)), (2, .inl (nI j)), (3, .inr (.inr (some (Y n 0)))), (4, .inl (nI fi)), (5, .inl (nI si)), (6, .inl (nI de)), (7, .inl (nI ie)), (8, .inl (nI q)), (9, .inl (nI l9)), (10, .inl (0 : Int32))] [] S1 (2 + c0) (12 + s0))) ∧ ((nI l9) = 0 → (isO S1 15 t ∧ (isO S1 13 (Y n 0) ∧ (pa (mR S1 1321 (Y n 0)) fun a_1 => ∃ v_2 : Int32, (isO S1 17 a_1 ∧ inR S1 a_1 (nI q) ∧ v_2 = eI S1 a_1 (nI q).toNatClampNeg ∨ a_1 = (mQ S1).1 ∧ vp_in (nI q) 16 ∧ v_2 = mRem (nI q).toNatClampNeg) ∧ (0 = 0 ∧ ((pa (mR S1 1506 t) fun a_3 => (∃ (o_4 : Nat), (16 : Int32) * (nI i) = nI o_4 ∧ (∃ (nd_5 : Nat), v_2 = nI nd_5 ∧ (∃ (F_6 : Nat → Nat × Nat) (i_7 : Nat) (y_8 : Nat → Nat) (G_9 : Gr) (T_10 : Tr) (W_11 : Nat → Nat), ((Y n 0) = y_8 0 ∧ RG S1 F_6 i_7 y_8 G_9 T_10 ∧ StR S1 a_3 o_4 W_11 ∧ nd_5 < G_9.n) ∧ (2 + c0) ≤ 3 + dfC R kz b c ∧ (12 + s0) ≤ 18 + dfZ R kz b c ∧ ((((bI (snW G_9 W_11 (nd_5 + 1))) = 0 → (∃ k1, k1 < (dfm R n q + 18) ∧ I_d8 t b c F Y R kz S k1 [(0, .inr (.inr (some t))), (1, .inl (nI i)), (2, .inl (nI j)), (3, .inr (.inr (some (Y n 0)))), (4, .inl (nI fi)), (5, .inl (nI si)), (6, .inl (nI de)), (7, .inl (nI ie)), (8, .inl (nI q)), (9, .inl (nI l9)), (10, .inl (0 : Int32))] [] S1 (2 + c0) (12 + s0))) ∧ (¬ (bI (snW G_9 W_11 (nd_5 + 1))) = 0 → (∃ k1, k1 < (dfm R n q + 18) ∧ I_d8 t b c F Y R kz S k1 [(0, .inr (.inr (some t))), (1, .inl (nI i)), (2, .inl (nI j)), (3, .inr (.inr (some (Y n 0)))), (4, .inl (nI fi)), (5, .inl (nI si)), (6, .inl (nI de)), (7, .inl (nI ie)), (8, .inl (nI q)), (9, .inl (nI l9)), (10, .inl (1 : Int32))] [] S1 (2 + c0) (12 + s0))))))))))))))))
      obtain ⟨hW, hn, F1, z1, hM, hF⟩ := id hA
      have g : RG S1 F1 (101 + n) (Y n) (R.Q.G n) (R.Q.T n) := (hM 2 n hn).2.1
      have hnm := g.nm
      have hol := g.odl
      have hl := hW.len
      have r6 := hM 1 6 (by decide)
      have cb : b.toNatClampNeg = i := by rw [hW.2.1]; exact nI_clamp (by have := hW.1; omega)
      have cc : c.toNatClampNeg = j := by rw [hW.2.2.2.1]; exact nI_clamp (by have := hW.2.2.1; omega)
      have k1 : 2 + c0 ≤ 3 + dfC R kz b c := by unfold dfC; rw [cb, cc, ← hT.2.2.1]; omega
      have k2 : 12 + s0 ≤ 18 + dfZ R kz b c := by unfold dfZ; rw [cb, cc, ← hT.2.2.2.1]; omega
      have l2 : l9 = 0 ∨ l9 = 1 := by rw [hl9]; split; exact Or.inr rfl; exact Or.inl rfl
      have go : ∀ b9 : Nat, b9 = ((rfP R i j).getD q (0, 0)).1 → ∃ k1, k1 < dfm R n q + 18 ∧ I_d8 t b c F Y R kz S k1 ([(0, .inr (.inr (some t))), (1, .inl (nI i)), (2, .inl (nI j)), (3, .inr (.inr (some (Y n 0)))), (4, .inl (nI fi)), (5, .inl (nI si)), (6, .inl (nI de)), (7, .inl (nI ie)), (8, .inl (nI q)), (9, .inl (nI l9))] ++ [(10, .inl (nI b9))]) [] S1 (2 + c0) (12 + s0) := fun b9 h9 => ⟨dfm R n q + 17, by omega, i, j, n, q, N, Q, fi, si, de, ie, c0, s0, l9, b9, rfl, hA, hT, hl9, h9, rfl, rfl, rfl, rfl⟩
      refine if_ne (b := 0) (by omega) (by decide) (fun w => go 0 ?_) (fun w => ?_)
      · have e : q = (R.Q.T n).od.length := Classical.byContradiction (fun c9 => w (by rw [hl9, if_neg c9]))
        rw [List.getD_eq_getElem?_getD, List.getElem?_eq_none (by omega)]; rfl
      · have c9 : ¬ q = (R.Q.T n).od.length := fun c9 => absurd (hl9.symm.trans w) (by rw [if_pos c9]; decide)
        have hq : q < (R.Q.T n).od.length := by have := hT.1; omega
        obtain ⟨x9, hx, hxn, hxc, hxo⟩ := g.odn hq
        have eg := hW.get hq
        rw [hx] at eg
        have hSt : StR S1 (z1 6) (16 * i) (R.M i) := hM.st6 hW.1 hW.2.2.2.2.1 hn
        refine ⟨(hM 0).1, (g 0).1, g.g21 hq ⟨rfl, pa_i r6.1 ⟨16 * i, nI_mul16, x9, by rw [hx]; rfl, F1, 101 + n, Y n, R.Q.G n, R.Q.T n, R.M i, ⟨rfl, g, hSt, hxn⟩, k1, k2, fun w2 => go 0 ?_, fun w2 => go 1 ?_⟩⟩⟩
        · rw [bI_0] at w2
          rw [eg]
          exact (if_neg (by rw [w2]; decide)).symm
        · rw [bI_0, Bool.not_eq_false] at w2
          rw [eg]
          exact (if_pos w2).symm
    · cases hm
      obtain ⟨i, j, n, q, N, Q, fi, si, de, ie, c0, s0, l9, b1, rfl, hA, hT, hl9, hb1, rfl, rfl, rfl, rfl⟩ := h
      refine ⟨300, ?_⟩
      show ((¬ (nI l9) = 0 → (∃ k1, k1 < (dfm R n q + 17) ∧ I_d9 t b c F Y R kz S k1 [(0, .inr (.inr (some t))), (1, .inl (nI i)), (2, .inl (nI j)), (3, .inr (.inr (some (Y n 0)))), (4, .inl (nI fi)), (5, .inl (nI si)), (6, .inl (nI de)), (7, .inl (nI ie)), (8, .inl (nI q)), (9, .inl (nI l9)), (10, .inl (nI b1)), (11, .inl (0 : Int32))] [] S1 (2 + c0) (12 + s0))) ∧ ((nI l9) = 0 → (isO S1 15 t ∧ (isO S1 13 (Y n 0) ∧ (pa (mR S1 1321 (Y n 0)) fun a_1 => ∃ v_2 : Int32, (isO S1 17 a_1 ∧ inR S1 a_1 (nI q) ∧ v_2 = eI S1 a_1 (nI q).toNatClampNeg ∨ a_1 = (mQ S1).1 ∧ vp_in (nI q) 16 ∧ v_2 = mRem (nI q).toNatClampNeg) ∧ (0 = 0 ∧ ((pa (mR S1 1506 t) fun a_3 => (∃ (o_4 : Nat), (16 : Int32) * (nI j) = nI o_4 ∧ (∃ (nd_5 : Nat), v_2 = nI nd_5 ∧ (∃ (F_6 : Nat → Nat × Nat) (i_7 : Nat) (y_8 : Nat → Nat) (G_9 : Gr) (T_10 : Tr) (W_11 : Nat → Nat), ((Y n 0) = y_8 0 ∧ RG S1 F_6 i_7 y_8 G_9 T_10 ∧ StR S1 a_3 o_4 W_11 ∧ nd_5 < G_9.n) ∧ (2 + c0) ≤ 3 + dfC R kz b c ∧ (12 + s0) ≤ 18 + dfZ R kz b c ∧ ((((bI (snW G_9 W_11 (nd_5 + 1))) = 0 → (∃ k1, k1 < (dfm R n q + 17) ∧ I_d9 t b c F Y R kz S k1 [(0, .inr (.inr (some t))), (1, .inl (nI i)), (2, .inl (nI j)), (3, .inr (.inr (some (Y n 0)))), (4, .inl (nI fi)), (5, .inl (nI si)), (6, .inl (nI de)), (7, .inl (nI ie)), (8, .inl (nI q)), (9, .inl (nI l9)), (10, .inl (nI b1)), (11, .inl (0 : Int32))] [] S1 (2 + c0) (12 + s0))) ∧ (¬ (bI (snW G_9 W_11 (nd_5 + 1))) = 0 → (∃ k1, k1 < (dfm R n q + 17) ∧ I_d9 t b c F Y R kz S k1 [(0, .inr (.inr (some t))), (1, .inl (nI i)), (2, .inl (nI j)), (3, .inr (.inr (some (Y n 0)))), (4, .inl (nI fi)), (5, .inl (nI si)), (6, .inl (nI de)), (7, .inl (nI ie)), (8, .inl (nI q)), (9, .inl (nI l9)), (10, .inl (nI b1)), (11, .inl (1 : Int32))] [] S1 (2 + c0) (12 + s0))))))))))))))))
      obtain ⟨hW, hn, F1, z1, hM, hF⟩ := id hA
      have g : RG S1 F1 (101 + n) (Y n) (R.Q.G n) (R.Q.T n) := (hM 2 n hn).2.1
      have hnm := g.nm
      have hol := g.odl
      have hl := hW.len
      have r6 := hM 1 6 (by decide)
      have cb : b.toNatClampNeg = i := by rw [hW.2.1]; exact nI_clamp (by have := hW.1; omega)
      have cc : c.toNatClampNeg = j := by rw [hW.2.2.2.1]; exact nI_clamp (by have := hW.2.2.1; omega)
      have k1 : 2 + c0 ≤ 3 + dfC R kz b c := by unfold dfC; rw [cb, cc, ← hT.2.2.1]; omega
      have k2 : 12 + s0 ≤ 18 + dfZ R kz b c := by unfold dfZ; rw [cb, cc, ← hT.2.2.2.1]; omega
      have l2 : l9 = 0 ∨ l9 = 1 := by rw [hl9]; split; exact Or.inr rfl; exact Or.inl rfl
      have go : ∀ b9 : Nat, b9 = ((rfP R i j).getD q (0, 0)).2 → ∃ k1, k1 < dfm R n q + 17 ∧ I_d9 t b c F Y R kz S k1 ([(0, .inr (.inr (some t))), (1, .inl (nI i)), (2, .inl (nI j)), (3, .inr (.inr (some (Y n 0)))), (4, .inl (nI fi)), (5, .inl (nI si)), (6, .inl (nI de)), (7, .inl (nI ie)), (8, .inl (nI q)), (9, .inl (nI l9)), (10, .inl (nI b1))] ++ [(11, .inl (nI b9))]) [] S1 (2 + c0) (12 + s0) := fun b9 h9 => ⟨dfm R n q + 16, by omega, i, j, n, q, N, Q, fi, si, de, ie, c0, s0, l9, b1, b9, rfl, hA, hT, hl9, hb1, h9, rfl, rfl, rfl, rfl⟩
      refine if_ne (b := 0) (by omega) (by decide) (fun w => go 0 ?_) (fun w => ?_)
      · have e : q = (R.Q.T n).od.length := Classical.byContradiction (fun c9 => w (by rw [hl9, if_neg c9]))
        rw [List.getD_eq_getElem?_getD, List.getElem?_eq_none (by omega)]; rfl
      · have c9 : ¬ q = (R.Q.T n).od.length := fun c9 => absurd (hl9.symm.trans w) (by rw [if_pos c9]; decide)
        have hq : q < (R.Q.T n).od.length := by have := hT.1; omega
        obtain ⟨x9, hx, hxn, hxc, hxo⟩ := g.odn hq
        have eg := hW.get hq
        rw [hx] at eg
        have hSt : StR S1 (z1 6) (16 * j) (R.M j) := hM.st6 hW.2.2.1 hW.2.2.2.2.2 hn
        refine ⟨(hM 0).1, (g 0).1, g.g21 hq ⟨rfl, pa_i r6.1 ⟨16 * j, nI_mul16, x9, by rw [hx]; rfl, F1, 101 + n, Y n, R.Q.G n, R.Q.T n, R.M j, ⟨rfl, g, hSt, hxn⟩, k1, k2, fun w2 => go 0 ?_, fun w2 => go 1 ?_⟩⟩⟩
        · rw [bI_0] at w2
          rw [eg]
          exact (if_neg (by rw [w2]; decide)).symm
        · rw [bI_0, Bool.not_eq_false] at w2
          rw [eg]
          exact (if_pos w2).symm
    · cases hm
      obtain ⟨i, j, n, q, N, Q, fi, si, de, ie, c0, s0, l9, b1, b2, rfl, hA, hT, hl9, hb1, hb2, rfl, rfl, rfl, rfl⟩ := h
      refine ⟨300, ?_⟩
      show (((nI b1) = 0 → (∃ k1, k1 < (dfm R n q + 16) ∧ I_dz1 t b c F Y R kz S k1 [(0, .inr (.inr (some t))), (1, .inl (nI i)), (2, .inl (nI j)), (3, .inr (.inr (some (Y n 0)))), (4, .inl (nI fi)), (5, .inl (nI si)), (6, .inl (nI de)), (7, .inl (nI ie)), (8, .inl (nI q)), (9, .inl (nI l9)), (10, .inl (nI b1)), (11, .inl (nI b2))] [] S1 (2 + c0) (12 + s0))) ∧ (¬ (nI b1) = 0 → ((¬ (nI b2) = 0 → (∃ k1, k1 < (dfm R n q + 16) ∧ I_dz1 t b c F Y R kz S k1 [(0, .inr (.inr (some t))), (1, .inl (nI i)), (2, .inl (nI j)), (3, .inr (.inr (some (Y n 0)))), (4, .inl (nI fi)), (5, .inl (nI si)), (6, .inl (nI de)), (7, .inl (nI ie)), (8, .inl (nI q)), (9, .inl (nI l9)), (10, .inl (nI b1)), (11, .inl (nI b2))] [] S1 (2 + c0) (12 + s0))) ∧ ((nI b2) = 0 → (∃ k1, k1 < (dfm R n q + 16) ∧ I_dz1 t b c F Y R kz S k1 [(0, .inr (.inr (some t))), (1, .inl (nI i)), (2, .inl (nI j)), (3, .inr (.inr (some (Y n 0)))), (4, .inl (nI fi)), (5, .inl (nI si)), (6, .inl ((nI de) + (1 : Int32))), (7, .inl (nI ie)), (8, .inl (nI q)), (9, .inl (nI l9)), (10, .inl (nI b1)), (11, .inl (nI b2))] [] S1 (2 + c0) (12 + s0))))))
      obtain ⟨p1, p2⟩ := rfP_01 (R := R) (i := i) (j := j) (q := q)
      have p1 : b1 = 0 ∨ b1 = 1 := by rw [hb1]; exact p1
      have p2 : b2 = 0 ∨ b2 = 1 := by rw [hb2]; exact p2
      have go : ∀ d9 : Nat, d9 = de + (if b1 = 1 ∧ b2 = 0 then 1 else 0) → ∃ k1, k1 < dfm R n q + 16 ∧ I_dz1 t b c F Y R kz S k1 [(0, .inr (.inr (some t))), (1, .inl (nI i)), (2, .inl (nI j)), (3, .inr (.inr (some (Y n 0)))), (4, .inl (nI fi)), (5, .inl (nI si)), (6, .inl (nI d9)), (7, .inl (nI ie)), (8, .inl (nI q)), (9, .inl (nI l9)), (10, .inl (nI b1)), (11, .inl (nI b2))] [] S1 (2 + c0) (12 + s0) := fun d9 h9 => ⟨dfm R n q + 15, by omega, i, j, n, q, N, Q, fi, si, de, ie, c0, s0, l9, b1, b2, d9, rfl, hA, hT, hl9, hb1, hb2, h9, rfl, rfl, rfl, rfl⟩
      refine if_eq (b := 0) (by omega) (by decide) (fun w => go de (by rw [if_neg (by omega)]; rfl)) (fun w => if_ne (b := 0) (by omega) (by decide) (fun w2 => go de (by rw [if_neg (by omega)]; rfl)) (fun w2 => ?_))
      rw [nI_1]
      exact go (de + 1) (by rw [if_pos (by omega)])
    · cases hm
      obtain ⟨i, j, n, q, N, Q, fi, si, de, ie, c0, s0, l9, b1, b2, de', rfl, hA, hT, hl9, hb1, hb2, hde, rfl, rfl, rfl, rfl⟩ := h
      refine ⟨300, ?_⟩
      show (((nI b2) = 0 → (∃ k1, k1 < (dfm R n q + 15) ∧ I_db t b c F Y R kz S k1 [(0, .inr (.inr (some t))), (1, .inl (nI i)), (2, .inl (nI j)), (3, .inr (.inr (some (Y n 0)))), (4, .inl (nI fi)), (5, .inl (nI si)), (6, .inl (nI de')), (7, .inl (nI ie)), (8, .inl (nI q)), (9, .inl (nI l9)), (10, .inl (nI b1)), (11, .inl (nI b2))] [] S1 (2 + c0) (12 + s0))) ∧ (¬ (nI b2) = 0 → ((¬ (nI b1) = 0 → (∃ k1, k1 < (dfm R n q + 15) ∧ I_db t b c F Y R kz S k1 [(0, .inr (.inr (some t))), (1, .inl (nI i)), (2, .inl (nI j)), (3, .inr (.inr (some (Y n 0)))), (4, .inl (nI fi)), (5, .inl (nI si)), (6, .inl (nI de')), (7, .inl (nI ie)), (8, .inl (nI q)), (9, .inl (nI l9)), (10, .inl (nI b1)), (11, .inl (nI b2))] [] S1 (2 + c0) (12 + s0))) ∧ ((nI b1) = 0 → (∃ k1, k1 < (dfm R n q + 15) ∧ I_db t b c F Y R kz S k1 [(0, .inr (.inr (some t))), (1, .inl (nI i)), (2, .inl (nI j)), (3, .inr (.inr (some (Y n 0)))), (4, .inl (nI fi)), (5, .inl (nI si)), (6, .inl (nI de')), (7, .inl ((nI ie) + (1 : Int32))), (8, .inl (nI q)), (9, .inl (nI l9)), (10, .inl (nI b1)), (11, .inl (nI b2))] [] S1 (2 + c0) (12 + s0))))))
      obtain ⟨p1, p2⟩ := rfP_01 (R := R) (i := i) (j := j) (q := q)
      have p1 : b1 = 0 ∨ b1 = 1 := by rw [hb1]; exact p1
      have p2 : b2 = 0 ∨ b2 = 1 := by rw [hb2]; exact p2
      have go : ∀ d9 : Nat, d9 = ie + (if b2 = 1 ∧ b1 = 0 then 1 else 0) → ∃ k1, k1 < dfm R n q + 15 ∧ I_db t b c F Y R kz S k1 [(0, .inr (.inr (some t))), (1, .inl (nI i)), (2, .inl (nI j)), (3, .inr (.inr (some (Y n 0)))), (4, .inl (nI fi)), (5, .inl (nI si)), (6, .inl (nI de')), (7, .inl (nI d9)), (8, .inl (nI q)), (9, .inl (nI l9)), (10, .inl (nI b1)), (11, .inl (nI b2))] [] S1 (2 + c0) (12 + s0) := fun d9 h9 => ⟨dfm R n q + 14, by omega, i, j, n, q, N, Q, fi, si, de, ie, c0, s0, l9, b1, b2, de', d9, rfl, hA, hT, hl9, hb1, hb2, hde, h9, rfl, rfl, rfl, rfl⟩
      refine if_eq (b := 0) (by omega) (by decide) (fun w => go ie (by rw [if_neg (by omega)]; rfl)) (fun w => if_ne (b := 0) (by omega) (by decide) (fun w2 => go ie (by rw [if_neg (by omega)]; rfl)) (fun w2 => ?_))
      rw [nI_1]
      exact go (ie + 1) (by rw [if_pos (by omega)])
    · cases hm
      obtain ⟨i, j, n, q, N, Q, fi, si, de, ie, c0, s0, l9, b1, b2, de', ie', rfl, hA, hT, hl9, hb1, hb2, hde, hie, rfl, rfl, rfl, rfl⟩ := h
      refine ⟨300, ?_⟩
      show ((¬ (nI l9) = 0 → (∃ k1, k1 < (dfm R n q + 14) ∧ I_d3 t b c F Y R kz S k1 [(0, .inr (.inr (some t))), (1, .inl (nI i)), (2, .inl (nI j)), (3, .inr (.inr (some (Y n 0)))), (4, .inl (nI fi)), (5, .inl (nI si)), (6, .inl (nI de')), (7, .inl (nI ie')), (8, .inl (nI q))] [] S1 (2 + c0) (12 + s0))) ∧ ((nI l9) = 0 → (((nI b1) = 0 → (∃ k1, k1 < (dfm R n q + 14) ∧ I_d6 t b c F Y R kz S k1 [(0, .inr (.inr (some t))), (1, .inl (nI i)), (2, .inl (nI j)), (3, .inr (.inr (some (Y n 0)))), (4, .inl (nI fi)), (5, .inl (nI si)), (6, .inl (nI de')), (7, .inl (nI ie')), (8, .inl (nI q))] [] S1 (2 + c0) (12 + s0))) ∧ (¬ (nI b1) = 0 → ((¬ (nI b2) = 0 → (∃ k1, k1 < (dfm R n q + 14) ∧ I_d3 t b c F Y R kz S k1 [(0, .inr (.inr (some t))), (1, .inl (nI i)), (2, .inl (nI j)), (3, .inr (.inr (some (Y n 0)))), (4, .inl (nI fi)), (5, .inl (nI si)), (6, .inl (nI de')), (7, .inl (nI ie')), (8, .inl (nI q))] [] S1 (2 + c0) (12 + s0))) ∧ ((nI b2) = 0 → (∃ k1, k1 < (dfm R n q + 14) ∧ I_d6 t b c F Y R kz S k1 [(0, .inr (.inr (some t))), (1, .inl (nI i)), (2, .inl (nI j)), (3, .inr (.inr (some (Y n 0)))), (4, .inl (nI fi)), (5, .inl (nI si)), (6, .inl (nI de')), (7, .inl (nI ie')), (8, .inl (nI q))] [] S1 (2 + c0) (12 + s0))))))))
      obtain ⟨hW, hn, F1, z1, hM, hF⟩ := id hA
      have g : RG S1 F1 (101 + n) (Y n) (R.Q.G n) (R.Q.T n) := (hM 2 n hn).2.1
      have hnm := g.nm
      have hol := g.odl
      have hl := hW.len
      obtain ⟨p1, p2⟩ := rfP_01 (R := R) (i := i) (j := j) (q := q)
      have p1 : b1 = 0 ∨ b1 = 1 := by rw [hb1]; exact p1
      have p2 : b2 = 0 ∨ b2 = 1 := by rw [hb2]; exact p2
      have l2 : l9 = 0 ∨ l9 = 1 := by rw [hl9]; split; exact Or.inr rfl; exact Or.inl rfl
      have u1 : b1 = 0 → ¬ (b1 = 1 ∧ b2 = 1) := fun e => by omega
      have u2 : b2 = 0 → ¬ (b1 = 1 ∧ b2 = 1) := fun e => by omega
      have u3 : b1 ≠ 0 → b2 ≠ 0 → b1 = 1 ∧ b2 = 1 := fun e1 e2 => by omega
      have u4 : ¬ (b1 = 1 ∧ b2 = 1) → de' = de + b1 := fun e => by
        rw [hde]
        split <;> omega
      have u5 : ¬ (b1 = 1 ∧ b2 = 1) → ie' = ie + b2 := fun e => by
        rw [hie]
        split <;> omega
      have u6 : b1 < 2147483648 ∧ b2 < 2147483648 ∧ l9 < 2147483648 := by omega
      have u7 : l9 ≠ 0 → q = (rfP R i j).length := fun w => by
        have e : q = (R.Q.T n).od.length := Classical.byContradiction (fun c9 => w (by rw [hl9, if_neg c9]))
        omega
      have u8 : q ≤ (rfP R i j).length ∧ (rfP R i j).length ≤ 8192 := ⟨hT.1, by omega⟩
      have goC : (q = (rfP R i j).length ∨ (b1 = 1 ∧ b2 = 1)) → ∃ k1, k1 < dfm R n q + 14 ∧ I_d3 t b c F Y R kz S k1 [(0, .inr (.inr (some t))), (1, .inl (nI i)), (2, .inl (nI j)), (3, .inr (.inr (some (Y n 0)))), (4, .inl (nI fi)), (5, .inl (nI si)), (6, .inl (nI de')), (7, .inl (nI ie')), (8, .inl (nI q))] [] S1 (2 + c0) (12 + s0) := fun h9 => by
        have h0 : (b1 = 0 ∧ b2 = 0) ∨ (b1 = 1 ∧ b2 = 1) := by
          rcases h9 with e | e
          · have : (rfP R i j).getD q (0, 0) = (0, 0) := by rw [List.getD_eq_getElem?_getD, List.getElem?_eq_none (by omega)]; rfl
            rw [this] at hb1 hb2
            exact Or.inl ⟨hb1, hb2⟩
          · exact Or.inr e
        have d1 : de' = de := by rw [hde, if_neg (by omega)]; rfl
        have d2 : ie' = ie := by rw [hie, if_neg (by omega)]; rfl
        rw [d1, d2]
        exact ⟨dfm R n q + 13, by omega, i, j, n, q, N, Q, fi, si, de, ie, c0, s0, rfl, hA, hT, by rw [← hb1, ← hb2]; exact h9, rfl, rfl, rfl, rfl⟩
      have goN : l9 = 0 → ¬ (b1 = 1 ∧ b2 = 1) → ∃ k1, k1 < dfm R n q + 14 ∧ I_d6 t b c F Y R kz S k1 [(0, .inr (.inr (some t))), (1, .inl (nI i)), (2, .inl (nI j)), (3, .inr (.inr (some (Y n 0)))), (4, .inl (nI fi)), (5, .inl (nI si)), (6, .inl (nI de')), (7, .inl (nI ie')), (8, .inl (nI q))] [] S1 (2 + c0) (12 + s0) := fun w9 h9 => by
        have c9 : ¬ q = (R.Q.T n).od.length := fun c9 => absurd (hl9.symm.trans w9) (by rw [if_pos c9]; decide)
        have hq : q < (rfP R i j).length := Nat.lt_of_le_of_ne u8.1 (fun e => c9 (e.trans hl))
        have hs := hT.step u8.2 hq (by rw [← hb1, ← hb2]; exact h9)
        rw [← hb1, ← hb2] at hs
        rw [u4 h9, u5 h9]
        exact ⟨dfm R n q + 6, Nat.add_lt_add_left (by decide) _, i, j, n, q, N, Q, fi, si, de + b1, ie + b2, c0, s0, rfl, hA, by rw [← hl]; exact u8.1, Or.inl hs, rfl, rfl, rfl, rfl⟩
      exact if_ne (b := 0) u6.2.2 (by decide) (fun w => goC (Or.inl (u7 w))) (fun w => if_eq (b := 0) u6.1 (by decide) (fun w2 => goN w (u1 w2)) (fun w2 => if_ne (b := 0) u6.2.1 (by decide) (fun w3 => goC (Or.inr (u3 w2 w3))) (fun w3 => goN w (u2 w3))))
    · cases hm
      obtain ⟨i, j, n, q, N, Q, fi, si, de, ie, c0, s0, rfl, hA, hT, hq, rfl, rfl, rfl, rfl⟩ := h
      refine ⟨300, ?_⟩
      show ((((nI de) + (nI ie)) ≤ 0 → (∃ k1, k1 < (dfm R n q + 13) ∧ I_d5 t b c F Y R kz S k1 [(0, .inr (.inr (some t))), (1, .inl (nI i)), (2, .inl (nI j)), (3, .inr (.inr (some (Y n 0)))), (4, .inl (nI fi)), (5, .inl (nI si)), (6, .inl (nI de)), (7, .inl (nI ie)), (8, .inl (nI q))] [] S1 (2 + c0) (12 + s0))) ∧ (¬ ((nI de) + (nI ie)) ≤ 0 → (isO S1 15 t ∧ (isO S1 15 t ∧ (pa (mR S1 1509 t) fun a_1 => ∃ v_2 : Int32, (a_1 ∈ mL S1 ∧ ¬ mK S1 a_1 < 16 ∧ mK S1 a_1 < 29 ∧ v_2 = Int32.ofNat (mN S1 a_1) ∨ a_1 = mZ S1 ∧ v_2 = 0) ∧ ((¬ ((4 : Int32) * (mI S1 1510 t)) = v_2 → (∃ k1, k1 < (dfm R n q + 13) ∧ I_dw 0 t b c F Y R kz S k1 [(0, .inr (.inr (some t))), (1, .inl (nI i)), (2, .inl (nI j)), (3, .inr (.inr (some (Y n 0)))), (4, .inl (nI fi)), (5, .inl (nI si)), (6, .inl (nI de)), (7, .inl (nI ie)), (8, .inl (nI q))] [] S1 (2 + c0) (12 + s0))) ∧ (((4 : Int32) * (mI S1 1510 t)) = v_2 → (isO S1 15 t ∧ (isO S1 15 t ∧ (2 = 2 ∧ ((pa (mR S1 1509 t) fun a_3 => (∃ (n_4 : Nat), (8 : Int32) * (mI S1 1510 t) = nI n_4 ∧ ((isO S1 17 a_3 ∧ mN S1 a_3 < n_4 ∧ n_4 ≤ 60000000) ∧ (2 + c0) + 1 ≤ 3 + dfC R kz b c ∧ (12 + s0) + n_4 ≤ 18 + dfZ R kz b c ∧ (∀ (x_6 : Option Nat) (S_5 : MM), (∃ q, q ∉ mL S1 ∧ x_6 = some q ∧ S_5 = cpI S1 a_3 q n_4) → (True ∧ (isO S_5 15 t ∧ (∃ k1, k1 < (dfm R n q + 13) ∧ I_dw 0 t b c F Y R kz S k1 [(0, .inr (.inr (some t))), (1, .inl (nI i)), (2, .inl (nI j)), (3, .inr (.inr (some (Y n 0)))), (4, .inl (nI fi)), (5, .inl (nI si)), (6, .inl (nI de)), (7, .inl (nI ie)), (8, .inl (nI q))] [] (sR S_5 1509 t x_6) ((2 + c0) + 1) ((12 + s0) + n_4)))))))))))))))))))
      obtain ⟨hW, hn, F1, z1, hM, hF⟩ := id hA
      have g : RG S1 F1 (101 + n) (Y n) (R.Q.G n) (R.Q.T n) := (hM 2 n hn).2.1
      have hnm := g.nm
      have hol := g.odl
      have hl := hW.len
      have hql := hT.1
      have cb : b.toNatClampNeg = i := by rw [hW.2.1]; exact nI_clamp (by have := hW.1; omega)
      have cc : c.toNatClampNeg = j := by rw [hW.2.2.2.1]; exact nI_clamp (by have := hW.2.2.1; omega)
      obtain ⟨o1, o2, o3, o4⟩ : hok q (N, Q, fi, si, de, ie) := hT.2.2.2.2.1
      have o1 : N ≤ 32768 := o1
      have o2 : 2 * Q.length + (if de + ie = 0 then 0 else 1) ≤ q := o2
      have o3 : fi + de ≤ q := o3
      have o4 : si + ie ≤ q := o4
      have o5 : N % 4 = 0 := hT.2.2.2.2.2
      have hcl9 := hT.close (by omega) hq
      obtain ⟨m10, m4, m5, m6, m7⟩ := hM 7
      have m10 : mI S1 1510 t = nI Q.length := m10
      have m4 : 4 * Q.length ≤ upF kz 9 N 9 := m4
      rw [upF_s] at m4 m5
      have r9 := hM 1 9 (by decide)
      have n9 : mN S1 (z1 9) = N := (show mN S1 (z1 9) = upF kz 9 N 9 from r9.2.2.2).trans upF_s
      rw [nI_add, m10]
      refine if_le (b := 0) (by omega) (by decide) (fun w => ?_) (fun w => ⟨(hM 0).1, (hM 0).1, pa_i r9.1 ⟨nI N, Or.inl ⟨r9.2.2.1.1, by rw [r9.2.2.1.2]; decide, by rw [r9.2.2.1.2]; decide, by rw [n9]; rfl⟩, ?_⟩⟩)
      · have e0 : de + ie = 0 := by omega
        have e1 : (hcl (N, Q, fi, si, de, ie)).1 = N := if_pos e0
        have e2 : (hcl (N, Q, fi, si, de, ie)).2.1 = Q := if_pos e0
        have e3 : hcC N Q.length (de + ie) = 0 := if_pos e0
        have e4 : hcZ N Q.length (de + ie) = 0 := if_pos e0
        rw [e1, e2, e3, e4, Nat.add_zero, Nat.add_zero] at hcl9
        exact ⟨dfm R n q + 7, by omega, i, j, n, q, N, Q, fi, si, de, ie, c0, s0, rfl, hA, by omega, hcl9, rfl, rfl, rfl, rfl⟩
      · have e0 : ¬ de + ie = 0 := by omega
        have e1 : (hcl (N, Q, fi, si, de, ie)).1 = hcN N Q.length := if_neg e0
        have e2 : (hcl (N, Q, fi, si, de, ie)).2.1 = Q ++ [(fi, de, si, ie)] := if_neg e0
        have e3 : hcC N Q.length (de + ie) = if 4 * Q.length = N then 1 else 0 := if_neg e0
        have e4 : hcZ N Q.length (de + ie) = if 4 * Q.length = N then 2 * N else 0 := if_neg e0
        have e5 : hcN N Q.length = if 4 * Q.length = N then 2 * N else N := rfl
        rw [e1, e2, e3, e4, e5] at hcl9
        rw [nI_mul4 (by omega)]
        refine if_ne (by omega) (by omega) (fun w2 => ?_) (fun w2 => ⟨(hM 0).1, (hM 0).1, rfl, pa_i r9.1 ⟨2 * N, ?_, ⟨r9.2.2.1, by rw [n9]; omega, by omega⟩, ?_, ?_, fun x6 S5 h9 => ?_⟩⟩)
        · rw [if_neg w2, if_neg w2, if_neg w2, Nat.add_zero, Nat.add_zero] at hcl9
          exact ⟨dfm R n q + 12, by omega, i, j, n, q, N, Q, fi, si, de, ie, c0, s0, rfl, ⟨hW, hn, F1, z1, ⟨hM, fun l hl => absurd hl (Nat.not_lt_zero l)⟩, hF⟩, by omega, by omega, hcl9, rfl, rfl, rfl, rfl⟩
        · rw [← w2]
          show nI 8 * nI Q.length = nI (2 * (4 * Q.length))
          unfold nI
          rw [← Int32.ofNat_mul]
          congr 1
          omega
        · rw [if_pos w2, if_pos w2, if_pos w2] at hcl9
          have hx : c0 + 1 ≤ hrC (rfP R i j) (dfO kz) := by
            rcases hcl9 with h | h
            · have := h.2.2.1; omega
            · have := h.2.2.2.1; omega
          unfold dfC; rw [cb, cc]; omega
        · rw [if_pos w2, if_pos w2, if_pos w2] at hcl9
          have hx : s0 + 2 * N ≤ hrZ (rfP R i j) (dfO kz) := by
            rcases hcl9 with h | h
            · have := h.2.2.2.1; omega
            · have := h.2.2.2.2; omega
          unfold dfZ; rw [cb, cc]; omega
        · obtain ⟨q9, hq9, rfl, rfl⟩ := h9
          rw [if_pos w2, if_pos w2, if_pos w2] at hcl9
          have hzt : z1 9 ≠ t := fun e => rK.nt hM (k := 9) (by decide) e.symm
          have hg := (grX.rf (t := t) (z := z1) (n := 2 * N) (hM 12)).sI (k := 9) (q := q9) (hM 0).1.1 (by decide) r9.2.2.1 hzt hq9 rfl
          have M2 := hM.hgr hg (by rw [upF_s]; omega) (by omega)
          rw [upF_up] at M2
          refine ⟨trivial, (M2 0).1, dfm R n q + 12, by omega, i, j, n, q, 2 * N, Q, fi, si, de, ie, c0 + 1, s0 + 2 * N, rfl, ⟨hW, hn, _, _, ⟨M2, fun l hl => absurd hl (Nat.not_lt_zero l)⟩, hF.tr ⟨hg.2.2.2.1, hg.1.mono (fun b _ e => ?_), hg.2.1 _⟩⟩, by omega, by omega, hcl9, rfl, rfl, (Nat.add_assoc ..), (Nat.add_assoc ..)⟩
          have e : b = t := e
          show 100 ≤ (F1 b).1
          rw [e]; exact hM.own
    · cases hm
      obtain ⟨i, j, n, q, N, Q, fi, si, de, ie, c0, s0, rfl, ⟨hW, hn, F1, z1, ⟨hM, hC⟩, hF⟩, hN, hq, hG, rfl, rfl, rfl, rfl⟩ := h
      refine ⟨300, ?_⟩
      show (isO S1 15 t ∧ (isO S1 15 t ∧ (pa (mR S1 1509 t) fun a_1 => isO S1 17 a_1 ∧ inR S1 a_1 ((4 : Int32) * (mI S1 1510 t)) ∧ (∃ k1, k1 < (dfm R n q + (12 - 0)) ∧ I_dw 1 t b c F Y R kz S k1 [(0, .inr (.inr (some t))), (1, .inl (nI i)), (2, .inl (nI j)), (3, .inr (.inr (some (Y n 0)))), (4, .inl (nI fi)), (5, .inl (nI si)), (6, .inl (nI de)), (7, .inl (nI ie)), (8, .inl (nI q))] [] (rI S1 a_1 (upd (eI S1 a_1) ((4 : Int32) * (mI S1 1510 t)).toNatClampNeg (nI fi))) (2 + c0) (12 + s0)))))
      have m10 : mI S1 1510 t = nI Q.length := (hM 7).1
      have r9 := hM 1 9 (by decide)
      have n9 : mN S1 (z1 9) = N := (show mN S1 (z1 9) = upF kz 9 N 9 from r9.2.2.2).trans upF_s
      have n31 : N ≤ 131072 := by have := (hM 7).2.2.2.1; rw [upF_s] at this; exact this
      have kp : Keep (fun c => c = t ∨ ∃ k, k ∈ [9] ∧ c = z1 k) S1 (rI S1 (z1 9) (upd (eI S1 (z1 9)) (4 * Q.length) (nI fi))) := Keep.rI (P := fun c => c = t ∨ ∃ k, k ∈ [9] ∧ c = z1 k) Keep.rf (Or.inr ⟨9, by decide, rfl⟩)
      rw [m10, nI_mul4 (by omega), nI_clamp (by omega)]
      have M2 : MD (rI S1 (z1 9) (upd (eI S1 (z1 9)) (4 * Q.length) (nI fi))) F1 t z1 Y (R.sQ (R.Q.sHu Q)) (upF kz 9 N) := hM.hun kp m10 (by rw [upF_s]; omega) (fun k hk => by
        rw [eI_rI, if_pos rfl, upd, upd, upd, upd, if_neg (by omega), if_neg (by omega), if_neg (by omega), if_neg (by omega)]
        exact (hM 7).2.2.2.2 k hk) (fun f _ => rfl) (fun f => rfl)
      refine ⟨(hM 0).1, (hM 0).1, pa_i r9.1 ⟨r9.2.2.1, inRn n9 (by omega) (by omega), dfm R n q + (12 - 1), by omega, i, j, n, q, N, Q, fi, si, de, ie, c0, s0, rfl, ⟨hW, hn, F1, z1, ⟨M2, fun l hl => ?_⟩, hF.tr ⟨fun _ _ => rfl, hM.wrQ [9] (by decide) kp, rfl⟩⟩, hN, hq, hG, rfl, rfl, rfl, rfl⟩⟩
      rw [eI_rI, if_pos rfl, upd]
      by_cases e : l = 0
      · rw [if_pos (by omega), e]; rfl
      · rw [if_neg (by omega)]
        exact hC l (by omega)
    · cases hm
      obtain ⟨i, j, n, q, N, Q, fi, si, de, ie, c0, s0, rfl, ⟨hW, hn, F1, z1, ⟨hM, hC⟩, hF⟩, hN, hq, hG, rfl, rfl, rfl, rfl⟩ := h
      refine ⟨300, ?_⟩
      show (isO S1 15 t ∧ (isO S1 15 t ∧ (pa (mR S1 1509 t) fun a_1 => isO S1 17 a_1 ∧ inR S1 a_1 (((4 : Int32) * (mI S1 1510 t)) + (1 : Int32)) ∧ (∃ k1, k1 < (dfm R n q + 11) ∧ I_dw 2 t b c F Y R kz S k1 [(0, .inr (.inr (some t))), (1, .inl (nI i)), (2, .inl (nI j)), (3, .inr (.inr (some (Y n 0)))), (4, .inl (nI fi)), (5, .inl (nI si)), (6, .inl (nI de)), (7, .inl (nI ie)), (8, .inl (nI q))] [] (rI S1 a_1 (upd (eI S1 a_1) (((4 : Int32) * (mI S1 1510 t)) + (1 : Int32)).toNatClampNeg (nI de))) (2 + c0) (12 + s0)))))
      have m10 : mI S1 1510 t = nI Q.length := (hM 7).1
      have r9 := hM 1 9 (by decide)
      have n9 : mN S1 (z1 9) = N := (show mN S1 (z1 9) = upF kz 9 N 9 from r9.2.2.2).trans upF_s
      have n31 : N ≤ 131072 := by have := (hM 7).2.2.2.1; rw [upF_s] at this; exact this
      have kp : Keep (fun c => c = t ∨ ∃ k, k ∈ [9] ∧ c = z1 k) S1 (rI S1 (z1 9) (upd (eI S1 (z1 9)) (4 * Q.length + 1) (nI de))) := Keep.rI (P := fun c => c = t ∨ ∃ k, k ∈ [9] ∧ c = z1 k) Keep.rf (Or.inr ⟨9, by decide, rfl⟩)
      rw [m10, nI_mul4 (by omega), show (nI (4 * Q.length) + (1 : Int32)) = nI (4 * Q.length + 1) from nI_add (4 * Q.length) 1, nI_clamp (by omega)]
      have M2 : MD (rI S1 (z1 9) (upd (eI S1 (z1 9)) (4 * Q.length + 1) (nI de))) F1 t z1 Y (R.sQ (R.Q.sHu Q)) (upF kz 9 N) := hM.hun kp m10 (by rw [upF_s]; omega) (fun k hk => by
        rw [eI_rI, if_pos rfl, upd, upd, upd, upd, if_neg (by omega), if_neg (by omega), if_neg (by omega), if_neg (by omega)]
        exact (hM 7).2.2.2.2 k hk) (fun f _ => rfl) (fun f => rfl)
      refine ⟨(hM 0).1, (hM 0).1, pa_i r9.1 ⟨r9.2.2.1, inRn n9 (by omega) (by omega), dfm R n q + (12 - 2), by omega, i, j, n, q, N, Q, fi, si, de, ie, c0, s0, rfl, ⟨hW, hn, F1, z1, ⟨M2, fun l hl => ?_⟩, hF.tr ⟨fun _ _ => rfl, hM.wrQ [9] (by decide) kp, rfl⟩⟩, hN, hq, hG, rfl, rfl, rfl, rfl⟩⟩
      rw [eI_rI, if_pos rfl, upd]
      by_cases e : l = 1
      · rw [if_pos (by omega), e]; rfl
      · rw [if_neg (by omega)]
        exact hC l (by omega)
    · cases hm
      obtain ⟨i, j, n, q, N, Q, fi, si, de, ie, c0, s0, rfl, ⟨hW, hn, F1, z1, ⟨hM, hC⟩, hF⟩, hN, hq, hG, rfl, rfl, rfl, rfl⟩ := h
      refine ⟨300, ?_⟩
      show (isO S1 15 t ∧ (isO S1 15 t ∧ (pa (mR S1 1509 t) fun a_1 => isO S1 17 a_1 ∧ inR S1 a_1 (((4 : Int32) * (mI S1 1510 t)) + (2 : Int32)) ∧ (∃ k1, k1 < (dfm R n q + 10) ∧ I_dw 3 t b c F Y R kz S k1 [(0, .inr (.inr (some t))), (1, .inl (nI i)), (2, .inl (nI j)), (3, .inr (.inr (some (Y n 0)))), (4, .inl (nI fi)), (5, .inl (nI si)), (6, .inl (nI de)), (7, .inl (nI ie)), (8, .inl (nI q))] [] (rI S1 a_1 (upd (eI S1 a_1) (((4 : Int32) * (mI S1 1510 t)) + (2 : Int32)).toNatClampNeg (nI si))) (2 + c0) (12 + s0)))))
      have m10 : mI S1 1510 t = nI Q.length := (hM 7).1
      have r9 := hM 1 9 (by decide)
      have n9 : mN S1 (z1 9) = N := (show mN S1 (z1 9) = upF kz 9 N 9 from r9.2.2.2).trans upF_s
      have n31 : N ≤ 131072 := by have := (hM 7).2.2.2.1; rw [upF_s] at this; exact this
      have kp : Keep (fun c => c = t ∨ ∃ k, k ∈ [9] ∧ c = z1 k) S1 (rI S1 (z1 9) (upd (eI S1 (z1 9)) (4 * Q.length + 2) (nI si))) := Keep.rI (P := fun c => c = t ∨ ∃ k, k ∈ [9] ∧ c = z1 k) Keep.rf (Or.inr ⟨9, by decide, rfl⟩)
      rw [m10, nI_mul4 (by omega), show (nI (4 * Q.length) + (2 : Int32)) = nI (4 * Q.length + 2) from nI_add (4 * Q.length) 2, nI_clamp (by omega)]
      have M2 : MD (rI S1 (z1 9) (upd (eI S1 (z1 9)) (4 * Q.length + 2) (nI si))) F1 t z1 Y (R.sQ (R.Q.sHu Q)) (upF kz 9 N) := hM.hun kp m10 (by rw [upF_s]; omega) (fun k hk => by
        rw [eI_rI, if_pos rfl, upd, upd, upd, upd, if_neg (by omega), if_neg (by omega), if_neg (by omega), if_neg (by omega)]
        exact (hM 7).2.2.2.2 k hk) (fun f _ => rfl) (fun f => rfl)
      refine ⟨(hM 0).1, (hM 0).1, pa_i r9.1 ⟨r9.2.2.1, inRn n9 (by omega) (by omega), dfm R n q + (12 - 3), by omega, i, j, n, q, N, Q, fi, si, de, ie, c0, s0, rfl, ⟨hW, hn, F1, z1, ⟨M2, fun l hl => ?_⟩, hF.tr ⟨fun _ _ => rfl, hM.wrQ [9] (by decide) kp, rfl⟩⟩, hN, hq, hG, rfl, rfl, rfl, rfl⟩⟩
      rw [eI_rI, if_pos rfl, upd]
      by_cases e : l = 2
      · rw [if_pos (by omega), e]; rfl
      · rw [if_neg (by omega)]
        exact hC l (by omega)
    · cases hm
      obtain ⟨i, j, n, q, N, Q, fi, si, de, ie, c0, s0, rfl, ⟨hW, hn, F1, z1, ⟨hM, hC⟩, hF⟩, hN, hq, hG, rfl, rfl, rfl, rfl⟩ := h
      refine ⟨300, ?_⟩
      show (isO S1 15 t ∧ (isO S1 15 t ∧ (pa (mR S1 1509 t) fun a_1 => isO S1 17 a_1 ∧ inR S1 a_1 (((4 : Int32) * (mI S1 1510 t)) + (3 : Int32)) ∧ (∃ k1, k1 < (dfm R n q + 9) ∧ I_dw 4 t b c F Y R kz S k1 [(0, .inr (.inr (some t))), (1, .inl (nI i)), (2, .inl (nI j)), (3, .inr (.inr (some (Y n 0)))), (4, .inl (nI fi)), (5, .inl (nI si)), (6, .inl (nI de)), (7, .inl (nI ie)), (8, .inl (nI q))] [] (rI S1 a_1 (upd (eI S1 a_1) (((4 : Int32) * (mI S1 1510 t)) + (3 : Int32)).toNatClampNeg (nI ie))) (2 + c0) (12 + s0)))))
      have m10 : mI S1 1510 t = nI Q.length := (hM 7).1
      have r9 := hM 1 9 (by decide)
      have n9 : mN S1 (z1 9) = N := (show mN S1 (z1 9) = upF kz 9 N 9 from r9.2.2.2).trans upF_s
      have n31 : N ≤ 131072 := by have := (hM 7).2.2.2.1; rw [upF_s] at this; exact this
      have kp : Keep (fun c => c = t ∨ ∃ k, k ∈ [9] ∧ c = z1 k) S1 (rI S1 (z1 9) (upd (eI S1 (z1 9)) (4 * Q.length + 3) (nI ie))) := Keep.rI (P := fun c => c = t ∨ ∃ k, k ∈ [9] ∧ c = z1 k) Keep.rf (Or.inr ⟨9, by decide, rfl⟩)
      rw [m10, nI_mul4 (by omega), show (nI (4 * Q.length) + (3 : Int32)) = nI (4 * Q.length + 3) from nI_add (4 * Q.length) 3, nI_clamp (by omega)]
      have M2 : MD (rI S1 (z1 9) (upd (eI S1 (z1 9)) (4 * Q.length + 3) (nI ie))) F1 t z1 Y (R.sQ (R.Q.sHu Q)) (upF kz 9 N) := hM.hun kp m10 (by rw [upF_s]; omega) (fun k hk => by
        rw [eI_rI, if_pos rfl, upd, upd, upd, upd, if_neg (by omega), if_neg (by omega), if_neg (by omega), if_neg (by omega)]
        exact (hM 7).2.2.2.2 k hk) (fun f _ => rfl) (fun f => rfl)
      refine ⟨(hM 0).1, (hM 0).1, pa_i r9.1 ⟨r9.2.2.1, inRn n9 (by omega) (by omega), dfm R n q + (12 - 4), by omega, i, j, n, q, N, Q, fi, si, de, ie, c0, s0, rfl, ⟨hW, hn, F1, z1, ⟨M2, fun l hl => ?_⟩, hF.tr ⟨fun _ _ => rfl, hM.wrQ [9] (by decide) kp, rfl⟩⟩, hN, hq, hG, rfl, rfl, rfl, rfl⟩⟩
      rw [eI_rI, if_pos rfl, upd]
      by_cases e : l = 3
      · rw [if_pos (by omega), e]; rfl
      · rw [if_neg (by omega)]
        exact hC l (by omega)
    · cases hm
      obtain ⟨i, j, n, q, N, Q, fi, si, de, ie, c0, s0, rfl, ⟨hW, hn, F1, z1, ⟨hM, hC⟩, hF⟩, hN, hq, hG, rfl, rfl, rfl, rfl⟩ := h
      refine ⟨300, ?_⟩
      show (isO S1 15 t ∧ (True ∧ (isO S1 15 t ∧ (∃ k1, k1 < (dfm R n q + (12 - 4)) ∧ I_d5 t b c F Y R kz S k1 [(0, .inr (.inr (some t))), (1, .inl (nI i)), (2, .inl (nI j)), (3, .inr (.inr (some (Y n 0)))), (4, .inl (nI fi)), (5, .inl (nI si)), (6, .inl (nI de)), (7, .inl (nI ie)), (8, .inl (nI q))] [] (sI S1 1510 t ((mI S1 1510 t) + (1 : Int32))) (2 + c0) (12 + s0)))))
      have m10 : mI S1 1510 t = nI Q.length := (hM 7).1
      have kp : Keep (fun c => c = t ∨ ∃ k, k ∈ [9] ∧ c = z1 k) S1 (sI S1 1510 t (nI (Q.length + 1))) := Keep.sI (P := fun c => c = t ∨ ∃ k, k ∈ [9] ∧ c = z1 k) Keep.rf (Or.inl rfl)
      rw [m10, nI_1]
      have hl : (Q ++ [(fi, de, si, ie)]).length = Q.length + 1 := by rw [List.length_append, List.length_singleton]
      have M2 : MD (sI S1 1510 t (nI (Q.length + 1))) F1 t z1 Y (R.sQ (R.Q.sHu (Q ++ [(fi, de, si, ie)]))) (upF kz 9 N) := hM.hun kp (by rw [mI_sI, if_pos ⟨rfl, rfl⟩, hl]) (by rw [upF_s, hl]; omega) (fun k hk => by
        rw [hl] at hk
        show eI S1 (z1 9) (4 * k) = _ ∧ eI S1 (z1 9) (4 * k + 1) = _ ∧ eI S1 (z1 9) (4 * k + 2) = _ ∧ eI S1 (z1 9) (4 * k + 3) = _
        rcases Nat.lt_or_ge k Q.length with q | q
        · rw [show (Q ++ [(fi, de, si, ie)]).getD k (0, 0, 0, 0) = Q.getD k (0, 0, 0, 0) from by rw [List.getD_eq_getElem?_getD, List.getElem?_append_left q, ← List.getD_eq_getElem?_getD]]
          exact (hM 7).2.2.2.2 k q
        · have ek : k = Q.length := by omega
          subst ek
          rw [show (Q ++ [(fi, de, si, ie)]).getD Q.length (0, 0, 0, 0) = (fi, de, si, ie) from by rw [List.getD_eq_getElem?_getD, List.getElem?_append_right (Nat.le_refl _), Nat.sub_self]; rfl]
          exact ⟨hC 0 (by decide), hC 1 (by decide), hC 2 (by decide), hC 3 (by decide)⟩) (fun f hf => by rw [mI_sI, if_neg (fun e => hf e.1)]) (fun f => rfl)
      exact ⟨(hM 0).1, trivial, (hM 0).1, dfm R n q + 7, by omega, i, j, n, q, N, _, fi, si, de, ie, c0, s0, rfl, ⟨hW, hn, F1, z1, M2, hF.tr ⟨fun _ _ => rfl, hM.wrQ [9] (by decide) kp, by rw [mI_sI, if_neg (fun e => absurd e.1 (by decide))]⟩⟩, hq, hG, rfl, rfl, rfl, rfl⟩
    · cases hm
      obtain ⟨i, j, n, q, N, Q, fi, si, de, ie, c0, s0, rfl, hA, hq, hG, rfl, rfl, rfl, rfl⟩ := h
      refine ⟨300, ?_⟩
      show (∃ k1, k1 < (dfm R n q + 7) ∧ I_d6 t b c F Y R kz S k1 [(0, .inr (.inr (some t))), (1, .inl (nI i)), (2, .inl (nI j)), (3, .inr (.inr (some (Y n 0)))), (4, .inl ((nI fi) + ((nI de) + (1 : Int32)))), (5, .inl ((nI si) + ((nI ie) + (1 : Int32)))), (6, .inl (0 : Int32)), (7, .inl (0 : Int32)), (8, .inl (nI q))] [] S1 (2 + c0) (12 + s0))
      rw [nI_1, nI_1, nI_add, nI_add]
      exact ⟨dfm R n q + 6, by omega, i, j, n, q, N, Q, fi + (de + 1), si + (ie + 1), 0, 0, c0, s0, rfl, hA, hq, hG, rfl, rfl, rfl, rfl⟩
    · cases hm
      obtain ⟨i, j, n, q, N, Q, fi, si, de, ie, c0, s0, rfl, hA, hq, hG, rfl, rfl, rfl, rfl⟩ := h
      refine ⟨300, ?_⟩
      show (∃ k1, k1 < (dfm R n q + 6) ∧ I_d2 t b c F Y R kz S k1 [(0, .inr (.inr (some t))), (1, .inl (nI i)), (2, .inl (nI j)), (3, .inr (.inr (some (Y n 0)))), (4, .inl (nI fi)), (5, .inl (nI si)), (6, .inl (nI de)), (7, .inl (nI ie)), (8, .inl ((nI q) + (1 : Int32)))] [] S1 (2 + c0) (12 + s0))
      rw [nI_1]
      exact ⟨dfm R n (q + 1) + 19, dfm_s hq (by decide), i, j, n, q + 1, N, Q, fi, si, de, ie, c0, s0, rfl, hA, hG, rfl, rfl, rfl, rfl⟩
theorem u_rdf0 (l : Launch) (hlt : l.stackTraces = false) : UsX l yX14_differ0 (Cond.code yX14_differ0 cX14_differ0 12 (some .int)) (some .int) 7 109 15 T_rdf0 := by
  intro Rc Rs av S cs sl K Kx h
  unfold T_rdf0 at h
  split at h
  · rename_i t_o b c
    obtain ⟨t, rfl, h_1⟩ := pa_of h
    obtain ⟨F, z, Y, R, kz, hp, hc, hs, hk, hx0, hx1, hx2⟩ := h_1
    refine ⟨(sp_rdf0 t b c F z Y R kz), c_rdf0 l hlt t b c F z Y R kz, fun _ _ h9 => ⟨_, _, h9.1, (h9.2.1 0).1⟩, ⟨rfl, hp⟩, hc, hs, fun v9 S' h8 => by
      obtain ⟨v8, h7, h8⟩ := h8
      cases h7
      exact hk _ _ h8, fun _ _ q => by
      rcases q with ⟨rfl, q⟩ | ⟨rfl, q⟩ | ⟨rfl, q⟩
      · obtain ⟨q, rfl⟩ := q
        exact hx0 q
      · obtain ⟨q, rfl⟩ := q
        exact hx1 q
      · obtain ⟨q, rfl⟩ := q
        exact hx2 q⟩
  · exact h.elim
