/-! ===== THE REFERENCE'S OBJECT IN THE MEMORY ===== -/
/-- what a reference's object stands for: as the class, but calls (inserts, first number, many) and sets of marks are its own -/
abbrev Rb : Type := Ab × (Nat → List (Bool × Nat × Nat)) × (Nat → Nat → Nat)
def Rb.Q (R : Rb) : Ab := R.1
def Rb.C (R : Rb) : Nat → List (Bool × Nat × Nat) := R.2.1
def Rb.M (R : Rb) : Nat → Nat → Nat := R.2.2
/-- a peer's known counts, and its calls -/
def knP (S : MM) (F : Nat → Nat × Nat) (i : Nat) (y : Nat → Nat) (Kn : Nat → Nat → Nat) : Prop := ∀ o, o < 4 → eR S (y 22) o = some (y (120 + o)) ∧ isO S 17 (y (120 + o)) ∧ F (y (120 + o)) = (i, 120 + o) ∧ mN S (y (120 + o)) = 256 ∧ ∀ j, j < 256 → eI S (y (120 + o)) j = nI (Kn o j) ∧ Kn o j < 2147483648
def clP (S : MM) (y : Nat → Nat) (C : List (Bool × Nat × Nat)) : Prop := mI S 1326 (y 0) = nI C.length ∧ C.length ≤ 8192 ∧ ∀ k, k < C.length → eI S (y 23) k = bI (C.getD k (false, 0, 0)).1 ∧ eI S (y 24) k = nI (C.getD k (false, 0, 0)).2.1 ∧ eI S (y 25) k = nI (C.getD k (false, 0, 0)).2.2
def RP (S : MM) (F : Nat → Nat × Nat) (i : Nat) (y : Nat → Nat) (G : Gr) (T : Tr) (Kn : Nat → Nat → Nat) (C : List (Bool × Nat × Nat)) : Prop := RG S F i y G T ∧ knP S F i y Kn ∧ clP S y C
theorem RG.rk {S : MM} {F : Nat → Nat × Nat} {i : Nat} {y : Nat → Nat} {G : Gr} {T : Tr} (h : RG S F i y G T) {k : Nat} (h1 : 3 ≤ k) (h2 : k ≤ 25) (h3 : k ≠ 17) : mR S (1300 + k) (y 0) = some (y k) ∧ F (y k) = (i, k) ∧ isO S (rgK k) (y k) ∧ mN S (y k) = rgN k := h 1 k h1 h2 h3
theorem RP.keep {S S' : MM} {F F' : Nat → Nat × Nat} {i : Nat} {y : Nat → Nat} {G : Gr} {T : Tr} {Kn : Nat → Nat → Nat} {C : List (Bool × Nat × Nat)} {P : Nat → Prop} (h : RP S F i y G T Kn C) (hk : Keep P S S') (hP : ∀ b, (F b).1 = i → ¬ P b) (hf : ∀ b, b ∈ mL S → F' b = F b) : RP S' F' i y G T Kn C := by
  obtain ⟨hG, hn, hc⟩ := h
  have g1 : RG S' F i y G T := hG.keep hk hP
  have r22 := hG.rk (k := 22) (by decide) (by decide) (by decide)
  have rr : ∀ k, 3 ≤ k → k ≤ 25 → k ≠ 17 → eI S' (y k) = eI S (y k) ∧ eR S' (y k) = eR S (y k) := fun k a b c => by
    have r := hG.rk a b c
    have := hk.2.1 (y k) r.2.2.1.1 (hP _ (by rw [r.2.1]))
    exact ⟨this.2.2.2.1, this.2.2.2.2.2⟩
  refine ⟨?_, fun o ho => ?_, ?_, hc.2.1, fun k hk9 => ?_⟩
  · have o0 := (hG 0).1.1
    intro j
    match j with
    | 0 => exact ⟨(g1 0).1, (hf _ o0).trans (hG 0).2⟩
    | 1 => exact fun k a b c => ⟨(g1 1 k a b c).1, (hf _ (hG 1 k a b c).2.2.1.1).trans (hG 1 k a b c).2.1, (g1 1 k a b c).2.2.1, (g1 1 k a b c).2.2.2⟩
    | 2 => exact g1 2
    | 3 => exact g1 3
    | 4 => exact fun s hs => ⟨(g1 4 s hs).1, (g1 4 s hs).2.1, (hf _ (hG 4 s hs).2.1.1).trans (hG 4 s hs).2.2.1, (g1 4 s hs).2.2.2⟩
    | 5 => exact g1 5
    | 6 => exact g1 6
    | 7 => exact g1 7
    | 8 => exact g1 8
    | 9 => exact g1 9
    | 10 => exact g1 10
    | 11 => exact g1 11
    | 12 => exact g1 12
    | n + 13 => trivial
  · obtain ⟨a1, a2, a3, a4, a5⟩ := hn o ho
    rw [(rr 22 (by decide) (by decide) (by decide)).2, (hk.2.1 _ a2.1 (hP _ (by rw [a3]))).2.2.2.1]
    exact ⟨a1, hk.isO a2, (hf _ a2.1).trans a3, (hk.1 _ a2.1).2.2.trans a4, a5⟩
  · rw [(hk.2.1 (y 0) (hG 0).1.1 (hP _ (by rw [(hG 0).2]))).1 1326]; exact hc.1
  · rw [(rr 23 (by decide) (by decide) (by decide)).1, (rr 24 (by decide) (by decide) (by decide)).1, (rr 25 (by decide) (by decide) (by decide)).1]
    exact hc.2.2 k hk9
/-- rows: which fields, of which kind, how long -/
def mdL : List Nat := [0, 1, 3, 4, 5, 6, 7, 9, 11, 12, 15, 16, 17, 19, 22, 23, 24, 31, 38, 39, 40, 41, 42, 43, 44, 45, 46, 47, 48]
def mdK (k : Nat) : Nat := if k = 0 then 25 else if k = 3 then 27 else if k = 1 ∨ k = 19 then 16 else if k = 6 ∨ k = 15 then 19 else if k = 44 ∨ k = 45 ∨ k = 46 ∨ k = 48 then 18 else 17
def mdN (K : Nat → Nat) (k : Nat) : Nat := if k = 0 then 4 else if k = 1 ∨ k = 17 ∨ k = 19 then 32768 else if k = 3 ∨ k = 4 ∨ k = 5 ∨ k = 11 ∨ k = 12 then 8 else if k = 6 then 128 else if k = 7 ∨ k = 22 then 8192 else if k = 9 then K 9 else if k = 15 ∨ k = 16 then 16 else if k = 23 ∨ k = 31 then 256 else if k = 24 then K 24 else if k = 38 ∨ k = 39 then 5 else if k = 47 ∨ k = 48 then K 47 else K 40
/-- bytes in a row -/
def byR (S : MM) (r : Nat) (B : List Nat) : Prop := (∀ j, fits .byte (.int (eI S r j)) = true) ∧ (∀ x, x ∈ B → x < 256) ∧ ∀ j, j < B.length → eI S r j &&& 255 = nI (B.getD j 0)
def mdS (S : MM) (F : Nat → Nat × Nat) (z : Nat → Nat) (k : Nat) (B : List Nat) : Prop := (B = [] ∧ eR S (z 3) k = none) ∨ (B ≠ [] ∧ eR S (z 3) k = some (z (60 + k)) ∧ isO S 16 (z (60 + k)) ∧ mN S (z (60 + k)) = 32768 ∧ F (z (60 + k)) = (120 + k, 1) ∧ eI S (z 4) k = nI B.length ∧ B.length ≤ 32768 ∧ byR S (z (60 + k)) B)
def mdO (S : MM) (F : Nat → Nat × Nat) (t : Nat) (z : Nat → Nat) (k : Nat) : Prop := mR S (1500 + k) t = some (z k) ∧ F (z k) = (110, k) ∧ F (z (70 + k)) = (110, 100 + k) ∧ ∃ B, Ou S (z k) (z (70 + k)) B
def MDf (S : MM) (F : Nat → Nat × Nat) (t : Nat) (z : Nat → Nat) (Y : Nat → Nat → Nat) (R : Rb) (K : Nat → Nat) : Nat → Prop
  | 0 => isO S 15 t ∧ F t = (100, 1)
  | 1 => ∀ k, k ∈ mdL → mR S (1500 + k) t = some (z k) ∧ F (z k) = (100, 100 + k) ∧ isO S (mdK k) (z k) ∧ mN S (z k) = mdN K k
  | 2 => ∀ p, p < 4 → eR S (z 0) p = some (Y p 0) ∧ RP S F (101 + p) (Y p) (R.Q.G p) (R.Q.T p) (R.Q.Kn p) (R.C p)
  | 3 => mI S 1502 t = nI R.Q.tp.length ∧ R.Q.tp.length ≤ 32768 ∧ byR S (z 1) R.Q.tp
  | 4 => ∀ k, k < 8 → mdS S F z k (R.Q.sl k)
  | 5 => ∀ b, b < 8 → eI S (z 5) b = stI (R.Q.mp b) ∧ ∀ p, R.Q.mp b = some p → p < 4 ∧ ∀ s, s < 16 → eI S (z 6) (16 * b + s) = nI (R.M b s) ∧ R.M b s ≤ (R.Q.G p).cn s
  | 6 => mI S 1508 t = nI R.Q.vw.length ∧ R.Q.vw.length ≤ 8192 ∧ ∀ k, k < R.Q.vw.length → eI S (z 7) k = R.Q.vw.getD k 0
  | 7 => mI S 1510 t = nI R.Q.hu.length ∧ 4 * R.Q.hu.length ≤ K 9 ∧ 64 ≤ K 9 ∧ K 9 ≤ 131072 ∧ ∀ k, k < R.Q.hu.length → eI S (z 9) (4 * k) = nI (R.Q.hu.getD k (0, 0, 0, 0)).1 ∧ eI S (z 9) (4 * k + 1) = nI (R.Q.hu.getD k (0, 0, 0, 0)).2.1 ∧ eI S (z 9) (4 * k + 2) = nI (R.Q.hu.getD k (0, 0, 0, 0)).2.2.1 ∧ eI S (z 9) (4 * k + 3) = nI (R.Q.hu.getD k (0, 0, 0, 0)).2.2.2
  | 8 => ∀ a, a < 8 → eI S (z 11) a = stI (R.Q.ap a) ∧ ∀ p, R.Q.ap a = some p → p < 4 ∧ eI S (z 12) a = stI (R.Q.an a) ∧ ∀ k, R.Q.an a = some k → k + 1 ∈ (R.Q.T p).od
  | 9 => mI S 1513 t = nI R.Q.ft ∧ R.Q.ft < 8 ∧ mI S 1514 t = nI R.Q.fo ∧ R.Q.fo < 2
  | 10 => ∀ k, k = 21 ∨ (25 ≤ k ∧ k ≤ 30) → mdO S F t z k
  | 11 => 64 ≤ K 24 ∧ K 24 ≤ 131072 ∧ 16 ≤ K 40 ∧ K 40 ≤ 131072 ∧ 16 ≤ K 47 ∧ K 47 ≤ 131072
  | 12 => FO S F
  | _ => True
def MD (S : MM) (F : Nat → Nat × Nat) (t : Nat) (z : Nat → Nat) (Y : Nat → Nat → Nat) (R : Rb) (K : Nat → Nat) : Prop := ∀ j, MDf S F t z Y R K j
/-- the rows whose contents last -/
def mdP : List Nat := [0, 1, 3, 4, 5, 6, 7, 9, 11, 12]
theorem MD.keep {S S' : MM} {F F' : Nat → Nat × Nat} {t : Nat} {z : Nat → Nat} {Y : Nat → Nat → Nat} {R : Rb} {K : Nat → Nat} {P : Nat → Prop} (h : MD S F t z Y R K) (hk : Keep P S S') (hP : ∀ b, P b → (F b).1 = 100 ∨ (F b).1 = 110) (hrow : ∀ k, k ∈ mdP → eI S' (z k) = eI S (z k) ∧ eR S' (z k) = eR S (z k)) (hI : ∀ f, f ∈ [1502, 1508, 1510, 1513, 1514] → mI S' f t = mI S f t) (hR : ∀ f, mR S' f t = mR S f t) (hO : ∀ k, k = 21 ∨ (25 ≤ k ∧ k ≤ 30) → mdO S' F' t z k) (hf : ∀ b, b ∈ mL S → F' b = F b) (hFO : FO S' F') : MD S' F' t z Y R K := by
  have r := h 1
  intro j
  match j with
  | 0 => exact ⟨hk.isO (h 0).1, (hf _ (h 0).1.1).trans (h 0).2⟩
  | 1 =>
    intro k hk9
    obtain ⟨a1, a2, a3, a4⟩ := h 1 k hk9
    exact ⟨(hR _).trans a1, (hf _ a3.1).trans a2, hk.isO a3, (hk.1 _ a3.1).2.2.trans a4⟩
  | 2 =>
    intro p hp
    obtain ⟨a1, a2⟩ := h 2 p hp
    rw [(hrow 0 (by decide)).2]
    exact ⟨a1, a2.keep hk (fun b hb z => by have := hP b z; omega) hf⟩
  | 3 =>
    obtain ⟨a1, a2, a3⟩ := h 3
    refine ⟨(hI 1502 (by decide)).trans a1, a2, ?_⟩
    unfold byR
    rw [(hrow 1 (by decide)).1]; exact a3
  | 4 =>
    intro k hk9
    rcases h 4 k hk9 with ⟨a1, a2⟩ | ⟨a1, a2, a3, a4, a5, a6, a7, a8⟩
    · exact Or.inl ⟨a1, by rw [(hrow 3 (by decide)).2]; exact a2⟩
    · refine Or.inr ⟨a1, by rw [(hrow 3 (by decide)).2]; exact a2, hk.isO a3, (hk.1 _ a3.1).2.2.trans a4, (hf _ a3.1).trans a5, by rw [(hrow 4 (by decide)).1]; exact a6, a7, ?_⟩
      unfold byR
      rw [(hk.2.1 _ a3.1 (fun q => by have := hP _ q; rw [a5] at this; have : 120 + k = 100 ∨ 120 + k = 110 := this; omega)).2.2.2.1]
      exact a8
  | 5 =>
    intro b hb
    rw [(hrow 5 (by decide)).1, (hrow 6 (by decide)).1]; exact h 5 b hb
  | 6 =>
    obtain ⟨a1, a2, a3⟩ := h 6
    rw [MDf, (hrow 7 (by decide)).1]
    exact ⟨(hI 1508 (by decide)).trans a1, a2, a3⟩
  | 7 =>
    obtain ⟨a1, a2⟩ := h 7
    rw [MDf, (hrow 9 (by decide)).1]
    exact ⟨(hI 1510 (by decide)).trans a1, a2⟩
  | 8 =>
    intro a ha
    rw [(hrow 11 (by decide)).1, (hrow 12 (by decide)).1]; exact h 8 a ha
  | 9 =>
    obtain ⟨a1, a2, a3, a4⟩ := h 9
    exact ⟨(hI 1513 (by decide)).trans a1, a2, (hI 1514 (by decide)).trans a3, a4⟩
  | 10 => exact hO
  | 11 => exact h 11
  | 12 => exact hFO
  | n + 13 => trivial
theorem Ou.kp {S S' : MM} {P : Nat → Prop} {o cb : Nat} {B : List Nat} (h : Ou S o cb B) (hk : Keep P S S') (h1 : ¬ P o) (h2 : ¬ P cb) : Ou S' o cb B := by
  obtain ⟨a1, a2, a3, a4, a5, a6⟩ := h
  have ko := hk.2.1 o a1.1 h1
  have kc := hk.2.1 cb a3.1 h2
  refine ⟨hk.isO a1, (ko.2.1 _).trans a2, hk.isO a3, (hk.1 _ a3.1).2.2.trans a4, (ko.1 _).trans a5, ?_⟩
  rw [kc.2.2.2.1]; exact a6
/-- only scratch of the object itself was written -/
theorem MD.keep0 {S S' : MM} {F F' : Nat → Nat × Nat} {t : Nat} {z : Nat → Nat} {Y : Nat → Nat → Nat} {R : Rb} {K : Nat → Nat} {P : Nat → Prop} (h : MD S F t z Y R K) (hk : Keep P S S') (hP : ∀ b, P b → (F b).1 = 100 ∧ ∀ k, k ∈ mdP → F b ≠ (100, 100 + k)) (hI : ∀ f, f ∈ [1502, 1508, 1510, 1513, 1514] → mI S' f t = mI S f t) (hR : ∀ f, mR S' f t = mR S f t) (hf : ∀ b, b ∈ mL S → F' b = F b) (hFO : FO S' F') : MD S' F' t z Y R K := by
  refine h.keep hk (fun b hb => Or.inl (hP b hb).1) (fun k hk9 => ?_) hI hR (fun k hk9 => ?_) hf hFO
  · have hm : k ∈ mdL := by
      have : ∀ k, k ∈ mdP → k ∈ mdL := by decide
      exact this k hk9
    obtain ⟨-, a2, a3, -⟩ := h 1 k hm
    have := hk.2.1 _ a3.1 (fun q => (hP _ q).2 k hk9 a2)
    exact ⟨this.2.2.2.1, this.2.2.2.2.2⟩
  · obtain ⟨a1, a2, a3, B, a4⟩ := h 10 k hk9
    have n1 : ¬ P (z k) := fun q => by have := (hP _ q).1; rw [a2] at this; have : 110 = 100 := this; omega
    have n2 : ¬ P (z (70 + k)) := fun q => by have := (hP _ q).1; rw [a3] at this; have : 110 = 100 := this; omega
    exact ⟨(hR _).trans a1, (hf _ a4.1.1).trans a2, (hf _ a4.2.2.1.1).trans a3, B, a4.kp hk n1 n2⟩
theorem MD.th {S : MM} {F : Nat → Nat × Nat} {t : Nat} {z : Nat → Nat} {Y : Nat → Nat → Nat} {R : Rb} {K : Nat → Nat} (h : MD S F t z Y R K) (v : Int32) : MD (sI S 1551 t v) F t z Y R K := by
  refine h.keep0 (P := fun c => c = t) (Keep.sI Keep.rf rfl) (fun b hb => ?_) (fun f hf => ?_) (fun f => rfl) (fun _ _ => rfl) (h 12)
  · rw [hb, (h 0).2]
    refine ⟨rfl, fun k _ q => ?_⟩
    injection q with _ q
    omega
  · rw [mI_sI, if_neg (fun q => by
      have e := q.1
      subst e
      revert hf; decide)]
