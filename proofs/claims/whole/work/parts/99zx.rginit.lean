/-! ===== The reference's graph: its constructor ===== -/
/-- a graph being made: its fields up to k are there -/
def gXf (i g k : Nat) (S1 : MM) (F1 : Nat → Nat × Nat) (y : Nat → Nat) : Prop := (isO S1 13 g ∧ F1 g = (i, 1) ∧ y 0 = g) ∧ (∀ j, 3 ≤ j → j ≤ k → j ≠ 17 → mR S1 (1300 + j) g = some (y j) ∧ F1 (y j) = (i, j) ∧ isO S1 (rgK j) (y j) ∧ mN S1 (y j) = rgN j ∧ (rgK j ≠ 28 → eI S1 (y j) = fun _ => 0)) ∧ (5 ≤ k → ∀ s, s < 16 → eR S1 (y 5) s = some (y (100 + s)) ∧ isO S1 17 (y (100 + s)) ∧ F1 (y (100 + s)) = (i, 100 + s) ∧ mN S1 (y (100 + s)) = 8) ∧ (22 ≤ k → ∀ s, s < 4 → eR S1 (y 22) s = some (y (120 + s)) ∧ isO S1 17 (y (120 + s)) ∧ F1 (y (120 + s)) = (i, 120 + s) ∧ mN S1 (y (120 + s)) = 256 ∧ eI S1 (y (120 + s)) = fun _ => 0) ∧ (17 ≤ k → mI S1 1317 g = -1) ∧ ∀ f, (f = 1300 ∨ f = 1301 ∨ f = 1302 ∨ f = 1326) → mI S1 f g = 0
def gX (S : MM) (F : Nat → Nat × Nat) (i g k : Nat) (S1 : MM) (F1 : Nat → Nat × Nat) (y : Nat → Nat) : Prop := gXf i g k S1 F1 y ∧ FO S1 F1 ∧ (∀ c, c ∈ mL S → c ≠ g → F1 c = F c) ∧ Keep (fun c => c = g) S S1
def I_gx (k cs0 sl0 ms g i : Nat) (F : Nat → Nat × Nat) (S : MM) (kk : Nat) : KT := fun lo st S1 cs sl => ∃ F1 y, kk = ms ∧ gX S F i g k S1 F1 y ∧ lo = [(0, .inr (.inr (some g)))] ∧ st = [] ∧ cs = cs0 ∧ sl = sl0
def giQ2 (S S' : MM) (F : Nat → Nat × Nat) (i g : Nat) : Prop := ∃ F' y, gX S F i g 25 S' F' y
section GXI
variable {S S1 S2 : MM} {F F1 F2 : Nat → Nat × Nat} {i g k : Nat} {y y2 : Nat → Nat}
theorem gXf.mv (h : gXf i g k S1 F1 y) (hk : Keep (fun x => x = g) S1 S2) (hc : ∀ j, j ≤ k → j ≠ 17 → mR S2 (1300 + j) g = mR S1 (1300 + j) g) (hI : ∀ f, (f = 1300 ∨ f = 1301 ∨ f = 1302 ∨ f = 1326 ∨ (f = 1317 ∧ 17 ≤ k)) → mI S2 f g = mI S1 f g) (hf : ∀ x, x ∈ mL S1 → F2 x = F1 x) (hy0 : y2 0 = y 0) (hy : ∀ j, 3 ≤ j → j ≤ k → y2 j = y j) (hy5 : 5 ≤ k → ∀ s, s < 16 → y2 (100 + s) = y (100 + s)) (hy22 : 22 ≤ k → ∀ s, s < 4 → y2 (120 + s) = y (120 + s)) : gXf i g k S2 F2 y2 := by
  obtain ⟨⟨a1, a2, a3⟩, b, c, d, e, f⟩ := h
  have ng : ∀ {x v}, F1 x = (i, v) → v ≠ 1 → ¬ x = g := fun {x v} q hv z => by rw [z, a2] at q; injection q with _ q; exact hv q.symm
  refine ⟨⟨hk.isO a1, (hf g a1.1).trans a2, hy0.trans a3⟩, fun j j1 j2 j3 => ?_, fun q s hs => ?_, fun q s hs => ?_, fun q => ?_, fun f9 hf9 => ?_⟩
  · obtain ⟨r1, r2, r3, r4, r5⟩ := b j j1 j2 j3
    rw [hy j j1 j2]
    exact ⟨(hc j j2 j3).trans r1, (hf _ r3.1).trans r2, hk.isO r3, (hk.1 _ r3.1).2.2.trans r4, fun z => (hk.2.1 _ r3.1 (ng r2 (by omega))).2.2.2.1.trans (r5 z)⟩
  · obtain ⟨r1, r2, r3, r4⟩ := c q s hs
    have b5 := b 5 (by decide) q (by decide)
    rw [hy 5 (by decide) q, hy5 q s hs, (hk.2.1 _ b5.2.2.1.1 (ng b5.2.1 (by decide))).2.2.2.2.2]
    exact ⟨r1, hk.isO r2, (hf _ r2.1).trans r3, (hk.1 _ r2.1).2.2.trans r4⟩
  · obtain ⟨r1, r2, r3, r4, r5⟩ := d q s hs
    have b5 := b 22 (by decide) q (by decide)
    rw [hy 22 (by decide) q, hy22 q s hs, (hk.2.1 _ b5.2.2.1.1 (ng b5.2.1 (by decide))).2.2.2.2.2]
    exact ⟨r1, hk.isO r2, (hf _ r2.1).trans r3, (hk.1 _ r2.1).2.2.trans r4, (hk.2.1 _ r2.1 (ng r3 (by omega))).2.2.2.1.trans r5⟩
  · rw [hI 1317 (by omega)]; exact e q
  · rw [hI f9 (by omega)]; exact f f9 hf9
theorem gXf.up (h : gXf i g k S1 F1 y) (hk : 2 ≤ k) (n1 : k + 1 ≠ 17 → mR S1 (1300 + (k + 1)) g = some (y (k + 1)) ∧ F1 (y (k + 1)) = (i, k + 1) ∧ isO S1 (rgK (k + 1)) (y (k + 1)) ∧ mN S1 (y (k + 1)) = rgN (k + 1) ∧ (rgK (k + 1) ≠ 28 → eI S1 (y (k + 1)) = fun _ => 0)) (n5 : k + 1 = 5 → ∀ s, s < 16 → eR S1 (y 5) s = some (y (100 + s)) ∧ isO S1 17 (y (100 + s)) ∧ F1 (y (100 + s)) = (i, 100 + s) ∧ mN S1 (y (100 + s)) = 8) (n22 : k + 1 = 22 → ∀ s, s < 4 → eR S1 (y 22) s = some (y (120 + s)) ∧ isO S1 17 (y (120 + s)) ∧ F1 (y (120 + s)) = (i, 120 + s) ∧ mN S1 (y (120 + s)) = 256 ∧ eI S1 (y (120 + s)) = fun _ => 0) (n17 : k + 1 = 17 → mI S1 1317 g = -1) : gXf i g (k + 1) S1 F1 y := by
  obtain ⟨a, b, c, d, e, f⟩ := h
  refine ⟨a, fun j j1 j2 j3 => ?_, fun q => ?_, fun q => ?_, fun q => ?_, f⟩
  · by_cases w : j = k + 1
    · subst w; exact n1 j3
    · exact b j j1 (by omega) j3
  · by_cases w : k + 1 = 5
    · exact n5 w
    · exact c (by omega)
  · by_cases w : k + 1 = 22
    · exact n22 w
    · exact d (by omega)
  · by_cases w : k + 1 = 17
    · exact n17 w
    · exact e (by omega)
def fgX1 (F1 : Nat → Nat × Nat) (i k q : Nat) : Nat → Nat × Nat := fun b => if b = q then (i, k + 1) else F1 b
def ygX1 (y : Nat → Nat) (k q : Nat) : Nat → Nat := fun j => if j = k + 1 then q else y j
theorem gX.row (h : gX S F i g k S1 F1 y) {q K N : Nat} (hq : q ∉ mL S1) (h2 : 2 ≤ k) (h25 : k < 25) (h17 : k + 1 ≠ 17) (h5 : k + 1 ≠ 5) (h22 : k + 1 ≠ 22) (eK : rgK (k + 1) = K) (eN : rgN (k + 1) = N) : ∃ F2 y2, gX S F i g (k + 1) (sR (nA S1 q K N) (1300 + (k + 1)) g (some q)) F2 y2 := by
  obtain ⟨hX, hFO, hFb, hK⟩ := h
  have hg := hX.1.1
  have ngq : g ≠ q := fun z => hq (z ▸ hg.1)
  have kp : Keep (fun x => x = g) S1 (sR (nA S1 q K N) (1300 + (k + 1)) g (some q)) := Keep.sR (P := fun x => x = g) (Keep.nA Keep.rf hq) rfl
  have e1 : ∀ x, x ∈ mL S1 → fgX1 F1 i k q x = F1 x := fun x hx => if_neg (fun z : x = q => hq (z ▸ hx))
  have oq : isO (sR (nA S1 q K N) (1300 + (k + 1)) g (some q)) K q := isO_nA_self (S := S1) (n := N)
  have yk : ygX1 y k q (k + 1) = q := if_pos rfl
  refine ⟨fgX1 F1 i k q, ygX1 y k q, ?_, fun b hb => ?_, fun c hc hcg => (e1 c (hK.1 c hc).1).trans (hFb c hc hcg), hK.tr kp⟩
  · refine gXf.up (gXf.mv hX kp (fun j hj _ => ?_) (fun f _ => rfl) e1 (if_neg (by omega)) (fun j a b => if_neg (by omega)) (fun _ s hs => if_neg (by omega)) (fun _ s hs => if_neg (by omega))) h2 (fun _ => ?_) (fun z => absurd z h5) (fun z => absurd z h22) (fun z => absurd z h17)
    · rw [mR_sR, if_neg (fun z => by omega)]; rfl
    · rw [yk]
      refine ⟨by rw [mR_sR, if_pos ⟨rfl, rfl⟩], if_pos rfl, eK ▸ oq, ?_, fun _ => ?_⟩
      · show mN (nA S1 q K N) q = _
        rw [mN_nA, if_pos rfl, eN]
      · show eI (nA S1 q K N) q = _
        rw [eI_nA, if_pos rfl]
  · rw [fgX1] at hb
    by_cases c : b = q
    · rw [c]; exact oq.1
    · rw [if_neg c] at hb
      exact (kp.1 b (hFO b hb)).1
theorem gX.i17 (h : gX S F i g 16 S1 F1 y) : gX S F i g 17 (sI S1 1317 g (-1)) F1 y := by
  obtain ⟨hX, hFO, hFb, hK⟩ := h
  have kp : Keep (fun x => x = g) S1 (sI S1 1317 g (-1)) := Keep.sI (P := fun x => x = g) Keep.rf rfl
  refine ⟨gXf.up (gXf.mv hX kp (fun j hj _ => rfl) (fun f hf => ?_) (fun _ _ => rfl) rfl (fun _ _ _ => rfl) (fun _ _ _ => rfl) (fun _ _ _ => rfl)) (by decide) (fun z => absurd rfl z) (fun z => absurd z (by decide)) (fun z => absurd z (by decide)) (fun _ => ?_), hFO, hFb, hK.tr kp⟩
  · rw [mI_sI, if_neg (fun z => by omega)]
  · rw [mI_sI, if_pos ⟨rfl, rfl⟩]
def fgX2 (F1 : Nat → Nat × Nat) (i k bs q n : Nat) (r : Nat → Nat) : Nat → Nat × Nat := fun b => if b = q then (i, k + 1) else match (List.range n).find? (fun s => decide (r s = b)) with
  | some s => (i, bs + s)
  | none => F1 b
def ygX2 (y : Nat → Nat) (k bs q n : Nat) (r : Nat → Nat) : Nat → Nat := fun j => if j = k + 1 then q else if bs ≤ j ∧ j < bs + n then r (j - bs) else y j
theorem fgX2_r {F1 : Nat → Nat × Nat} {i k bs q n : Nat} {r : Nat → Nat} (h1 : ∀ s, s < n → r s ≠ q) (h2 : ∀ s t, s < n → t < n → r s = r t → s = t) {s : Nat} (hs : s < n) : fgX2 F1 i k bs q n r (r s) = (i, bs + s) := by
  unfold fgX2
  rw [if_neg (h1 s hs)]
  cases h : (List.range n).find? (fun t => decide (r t = r s)) with
  | none =>
    have := List.find?_eq_none.1 h s (List.mem_range.2 hs)
    exact absurd (decide_eq_true rfl) this
  | some t =>
    have e1 := List.find?_some h
    have e2 := List.mem_range.1 (List.mem_of_find?_eq_some h)
    rw [decide_eq_true_eq] at e1
    rw [h2 t s e2 hs e1]
theorem fgX2_o {F1 : Nat → Nat × Nat} {i k bs q n : Nat} {r : Nat → Nat} {b : Nat} (h0 : b ≠ q) (h1 : ∀ s, s < n → r s ≠ b) : fgX2 F1 i k bs q n r b = F1 b := by
  unfold fgX2
  rw [if_neg h0]
  cases h : (List.range n).find? (fun t => decide (r t = b)) with
  | none => rfl
  | some t =>
    have e1 := List.find?_some h
    have e2 := List.mem_range.1 (List.mem_of_find?_eq_some h)
    rw [decide_eq_true_eq] at e1
    exact absurd e1 (h1 t e2)
theorem gX.grid (h : gX S F i g k S1 F1 y) {q bs n m : Nat} {r : Nat → Nat} (hq : q ∉ mL S1) (hr : ∀ s, s < n → r s ∉ mL S1 ∧ r s ≠ q) (hr2 : ∀ s t, s < n → t < n → r s = r t → s = t) (h2 : 2 ≤ k) (h25 : k < 25) (h17 : k + 1 ≠ 17) (eK : rgK (k + 1) = 28) (eN : rgN (k + 1) = n) (hb : (k + 1 = 5 ∧ bs = 100 ∧ n = 16 ∧ m = 8) ∨ (k + 1 = 22 ∧ bs = 120 ∧ n = 4 ∧ m = 256)) : ∃ F2 y2, gX S F i g (k + 1) (sR (nG S1 q r n m) (1300 + (k + 1)) g (some q)) F2 y2 := by
  obtain ⟨hX, hFO, hFb, hK⟩ := h
  have hg := hX.1.1
  have ngq : g ≠ q := fun z => hq (z ▸ hg.1)
  have kp : Keep (fun x => x = g) S1 (sR (nG S1 q r n m) (1300 + (k + 1)) g (some q)) := Keep.sR (P := fun x => x = g) (Keep.nG Keep.rf hq (fun s hs => (hr s hs).1)) rfl
  have e1 : ∀ x, x ∈ mL S1 → fgX2 F1 i k bs q n r x = F1 x := fun x hx => fgX2_o (fun z => hq (z ▸ hx)) (fun s hs z => (hr s hs).1 (z ▸ hx))
  obtain ⟨g1, g2, g3⟩ := nG_a (S := S1) (a := q) (r := r) (n := n) (k := m)
  have gr := fun s (hs : s < n) => nG_r (S := S1) (a := q) (r := r) (n := n) (k := m) (fun s hs => (hr s hs).2) hs
  have yk : ygX2 y k bs q n r (k + 1) = q := if_pos rfl
  have yo : ∀ j, j < 100 → j ≠ k + 1 → ygX2 y k bs q n r j = y j := fun j a b => by
    unfold ygX2
    rw [if_neg b, if_neg (by omega)]
  have yr : ∀ s, s < n → ygX2 y k bs q n r (bs + s) = r s := fun s hs => by
    unfold ygX2
    rw [if_neg (by omega), if_pos (by omega), Nat.add_sub_cancel_left]
  have fr := fun s (hs : s < n) => fgX2_r (F1 := F1) (i := i) (k := k) (bs := bs) (fun s hs => (hr s hs).2) hr2 hs
  refine ⟨fgX2 F1 i k bs q n r, ygX2 y k bs q n r, ?_, fun b hb => ?_, fun c hc hcg => (e1 c (hK.1 c hc).1).trans (hFb c hc hcg), hK.tr kp⟩
  · refine gXf.up (gXf.mv hX kp (fun j hj _ => ?_) (fun f _ => rfl) e1 (yo 0 (by omega) (by omega)) (fun j a b => yo j (by omega) (by omega)) (fun a s hs => ?_) (fun a s hs => ?_)) h2 (fun _ => ?_) (fun z s hs => ?_) (fun z s hs => ?_) (fun z => absurd z h17)
    · rw [mR_sR, if_neg (fun z => by omega)]; rfl
    · unfold ygX2
      rw [if_neg (by omega), if_neg (by omega)]
    · exact absurd a (by omega)
    · rw [yk]
      refine ⟨by rw [mR_sR, if_pos ⟨rfl, rfl⟩], if_pos rfl, eK ▸ g1, g2.trans eN.symm, fun w => absurd eK w⟩
    · obtain ⟨-, rfl, rfl, rfl⟩ : k + 1 = 5 ∧ bs = 100 ∧ n = 16 ∧ m = 8 := by omega
      rw [← z, yk, yr s hs]
      exact ⟨g3 s hs, (gr s hs).1, fr s hs, (gr s hs).2.1⟩
    · obtain ⟨-, rfl, rfl, rfl⟩ : k + 1 = 22 ∧ bs = 120 ∧ n = 4 ∧ m = 256 := by omega
      rw [← z, yk, yr s hs]
      exact ⟨g3 s hs, (gr s hs).1, fr s hs, (gr s hs).2.1, funext (gr s hs).2.2⟩
  · by_cases c : b = q
    · rw [c]; exact g1.1
    · by_cases d : ∃ s, s < n ∧ r s = b
      · obtain ⟨s, hs, rfl⟩ := d
        exact (gr s hs).1.1
      · rw [fgX2_o c (fun s hs z => d ⟨s, hs, z⟩)] at hb
        exact (kp.1 b (hFO b hb)).1
theorem gX.rg (h : gX S F i g 25 S1 F1 y) : RG S1 F1 i y e0 T0 := by
  obtain ⟨⟨⟨a1, a2, rfl⟩, b, c, d, e, f⟩, -⟩ := h
  intro j
  match j with
  | 0 => exact ⟨a1, a2⟩
  | 1 => exact fun k k1 k2 k3 => ⟨(b k k1 k2 k3).1, (b k k1 k2 k3).2.1, (b k k1 k2 k3).2.2.1, (b k k1 k2 k3).2.2.2.1⟩
  | 2 => exact ⟨f 1300 (by decide), f 1301 (by decide), f 1302 (by decide)⟩
  | 3 => exact fun s hs => absurd hs (Nat.not_lt_zero s)
  | 4 =>
    intro s hs
    obtain ⟨c1, c2, c3, c4⟩ := c (by decide) s hs
    exact ⟨c1, c2, c3, Nat.zero_le _, by rw [c4]; decide, fun j hj => absurd hj (Nat.not_lt_zero j)⟩
  | 5 => exact fun k hk => absurd hk (Nat.not_lt_zero k)
  | 6 => exact fun k hk => absurd hk (Nat.not_lt_zero k)
  | 7 => exact fun k hk => absurd hk (Nat.not_lt_zero k)
  | 8 => exact ⟨fun x hx => (by cases hx), fun k hk => absurd hk (Nat.not_lt_zero k)⟩
  | 9 => exact e (by decide)
  | 10 => exact fun k hk => absurd hk (Nat.not_lt_zero k)
  | 11 => exact ⟨e0_ok, List.nodup_nil, fun x hx => (by cases hx)⟩
  | 12 =>
    intro s hs
    refine ⟨?_, (c (by decide) s hs).2.2.2⟩
    rw [(b 4 (by decide) (by decide) (by decide)).2.2.2.2 (by decide)]; rfl
  | n + 13 => trivial
end GXI
def T_rgi : TR := fun Rc Rs av S cs sl K _Kx => match av with
  | [.inr (.inr g_o)] => pa g_o fun g => (∃ (F : Nat → Nat × Nat) (i : Nat), (isO S 13 g ∧ FO S F ∧ i ≠ 0 ∧ (∀ b, (F b).1 ≠ i) ∧ (∀ f, (f = 1300 ∨ f = 1301 ∨ f = 1302 ∨ f = 1326) → mI S f g = 0)) ∧ cs + 42 ≤ Rc ∧ sl + 271540 ≤ Rs ∧ (∀ (S' : MM), (giQ2 S S' F i g) → K none S' (cs + 42) (sl + 271540)))
  | _ => False
def sp_rgi (g : Nat) (F : Nat → Nat × Nat) (i : Nat) : Sp := (fun av S => av = [.inr (.inr (some g))] ∧ (isO S 13 g ∧ FO S F ∧ i ≠ 0 ∧ (∀ b, (F b).1 ≠ i) ∧ (∀ f, (f = 1300 ∨ f = 1301 ∨ f = 1302 ∨ f = 1326) → mI S f g = 0)), fun _ S => 42, fun _ S => 271540, fun _ S rv S' => rv = none ∧ (giQ2 S S' F i g), fun _ _ _ _ => False)
def tX12_init : CD := [(0, .aload_n 0), (1, .invokespecial 3), (4, .aload_n 0), (5, .bipush 16), (7, .newarray .int), (9, .putfield 9), (12, .aload_n 0), (13, .bipush 16), (15, .newarray .int), (17, .putfield 15), (20, .aload_n 0), (21, .bipush 16), (23, .bipush 8), (25, .multianewarray 18 2), (29, .putfield 20), (32, .aload_n 0), (33, .sipush 8192), (36, .newarray .int), (38, .putfield 23), (41, .aload_n 0), (42, .sipush 8192), (45, .newarray .int), (47, .putfield 26), (50, .aload_n 0), (51, .ldc 29), (53, .newarray .short), (55, .putfield 30), (58, .aload_n 0), (59, .sipush 8192), (62, .newarray .boolean), (64, .putfield 34), (67, .aload_n 0), (68, .sipush 8192), (71, .newarray .int), (73, .putfield 38), (76, .aload_n 0), (77, .sipush 8192), (80, .newarray .int), (82, .putfield 41), (85, .aload_n 0), (86, .sipush 8192), (89, .newarray .int), (91, .putfield 44), (94, .aload_n 0), (95, .sipush 8192), (98, .newarray .int), (100, .putfield 47), (103, .aload_n 0), (104, .sipush 8192), (107, .newarray .int), (109, .putfield 50), (112, .aload_n 0), (113, .sipush 8192), (116, .newarray .int), (118, .putfield 53), (121, .aload_n 0), (122, .sipush 8192), (125, .newarray .boolean), (127, .putfield 56), (130, .aload_n 0), (131, .iconst (-1)), (132, .putfield 59), (135, .aload_n 0), (136, .sipush 8192), (139, .newarray .int), (141, .putfield 63), (144, .aload_n 0), (145, .sipush 8192), (148, .newarray .int), (150, .putfield 66), (153, .aload_n 0), (154, .sipush 8192), (157, .newarray .int), (159, .putfield 69), (162, .aload_n 0), (163, .sipush 8192), (166, .newarray .int), (168, .putfield 72), (171, .aload_n 0), (172, .iconst 4), (173, .sipush 256), (176, .multianewarray 18 2), (180, .putfield 75), (183, .aload_n 0), (184, .sipush 8192), (187, .newarray .boolean), (189, .putfield 78), (192, .aload_n 0), (193, .sipush 8192), (196, .newarray .int), (198, .putfield 81), (201, .aload_n 0), (202, .sipush 8192), (205, .newarray .int), (207, .putfield 84), (210, .return_)]
set_option maxRecDepth 100000 in
theorem kX12_init : chk cX12_init tX12_init = true := by decide +kernel
theorem vX12_init_3 : ∀ w ∈ ([.methodLink RX12 3 Lib.objectInit, .instanceMethod Lib.objectInit, .code Lib.objectInit ⟨#[0xb1]⟩ 1 none] : List Cond), w ∈ lw_good := List.forall_mem_cons.mpr ⟨mgd 1646 (by decide +kernel) (by decide +kernel), List.forall_mem_cons.mpr ⟨mgd 158 (by decide +kernel) (by decide +kernel), List.forall_mem_cons.mpr ⟨mgd 159 (by decide +kernel) (by decide +kernel), fun _ h => absurd h List.not_mem_nil⟩⟩⟩
set_option maxRecDepth 100000 in
set_option maxHeartbeats 2000000 in
theorem c_rgi (l : Launch) : ∀ (g : Nat) (F : Nat → Nat × Nat) (i : Nat), Ct l yX12_init cX12_init 1 none 1 20 (sp_rgi g F i) := by
  intro g F i
  refine Ct.of (fX12, nX12, aX12, iX12, lX12, [(3, 1, 1, 0, T_obj)], qX12, gX12, []) true tX12_init (fun _ S => look [(12, ([0], I_gx 3 1 16 97 g i F S)), (20, ([0], I_gx 4 2 32 96 g i F S)), (32, ([0], I_gx 5 19 176 95 g i F S)), (41, ([0], I_gx 6 20 8368 94 g i F S)), (50, ([0], I_gx 7 21 16560 93 g i F S)), (58, ([0], I_gx 8 22 147632 92 g i F S)), (67, ([0], I_gx 9 23 155824 91 g i F S)), (76, ([0], I_gx 10 24 164016 90 g i F S)), (85, ([0], I_gx 11 25 172208 89 g i F S)), (94, ([0], I_gx 12 26 180400 88 g i F S)), (103, ([0], I_gx 13 27 188592 87 g i F S)), (112, ([0], I_gx 14 28 196784 86 g i F S)), (121, ([0], I_gx 15 29 204976 85 g i F S)), (130, ([0], I_gx 16 30 213168 84 g i F S)), (135, ([0], I_gx 17 30 213168 83 g i F S)), (144, ([0], I_gx 18 31 221360 82 g i F S)), (153, ([0], I_gx 19 32 229552 81 g i F S)), (162, ([0], I_gx 20 33 237744 80 g i F S)), (171, ([0], I_gx 21 34 245936 79 g i F S)), (183, ([0], I_gx 22 39 246964 78 g i F S)), (192, ([0], I_gx 23 40 255156 77 g i F S)), (201, ([0], I_gx 24 41 263348 76 g i F S))]) (by decide) (by decide) kX12_init ⟨_, _, rfl⟩ fX12_ok nX12_ok aX12_ok iX12_ok lX12_ok (fun p e R s m args below meth c Q D cy z r A C hR1 hR2 => List.forall_mem_cons.mpr ⟨cOK_use (fun _ _ _ _ _ _ _ _ h => ⟨spObj, cOK_obj C vX12_init_3 ⟨by rw [hR1]; decide, by rw [hR2]; decide⟩, T_obj_ok h⟩), fun _ h => absurd h List.not_mem_nil⟩) qX12_ok gX12_ok rfl ?_ ?_
  · rintro _ S ⟨rfl, hp⟩
    refine ⟨Nat.le_of_ble_eq_true rfl, 300, ?_⟩
    show (1 = 1 ∧ (True ∧ 0 ≤ 42 ∧ 0 ≤ 271540 ∧ ((¬ (16 : Int32) < 0 ∧ (16 : Int32).toNatClampNeg * 8 ≤ 536870912 ∧ 0 + 1 ≤ 42 ∧ 0 + (16 : Int32).toNatClampNeg ≤ 271540 ∧ ∀ q_2, q_2 ∉ mL S → (true = true ∧ (isO (nA S q_2 17 (16 : Int32).toNatClampNeg) 13 g ∧ (∃ k1, I_gx 3 1 16 97 g i F S k1 [(0, .inr (.inr (some g)))] [] (sR (nA S q_2 17 (16 : Int32).toNatClampNeg) 1303 g (some q_2)) (0 + 1) (0 + (16 : Int32).toNatClampNeg))))))))
    obtain ⟨h1, h2, h3, h4, h5⟩ := hp
    have h0 : gX S F i g 2 S (fun b => if b = g then (i, 1) else F b) (fun _ => g) := ⟨⟨⟨h1, if_pos rfl, rfl⟩, fun j a b _ => absurd a (by omega), fun a => absurd a (by decide), fun a => absurd a (by decide), fun a => absurd a (by decide), h5⟩, fun b hb => ?_, fun c _ hc => if_neg hc, Keep.rf⟩
    · refine ⟨rfl, trivial, by decide, by decide, by decide, by decide, by decide, by decide, fun q hq => ?_⟩
      obtain ⟨F2, y2, h6⟩ := h0.row (k := 2) (K := 17) (N := Int32.toNatClampNeg 16) hq (by decide) (by decide) (by decide) (by decide) (by decide) (by decide) (by decide)
      exact ⟨by trivial, isO_nA h1 hq, 97, F2, y2, rfl, h6, rfl, rfl, rfl, rfl⟩
    · by_cases c : b = g
      · rw [c]; exact h1.1
      · have hb : (if b = g then (i, 1) else F b) ≠ (0, 0) := hb
        rw [if_neg c] at hb
        exact h2 b hb
  · intro av S hpre pc I hI k lo st S1 cs sl h
    obtain ⟨rfl, hp⟩ := hpre
    have hm := look_in hI
    simp only [List.mem_cons, List.not_mem_nil, or_false] at hm
    rcases hm with hm | hm | hm | hm | hm | hm | hm | hm | hm | hm | hm | hm | hm | hm | hm | hm | hm | hm | hm | hm | hm | hm
    · cases hm
      obtain ⟨F1, y, rfl, hX, rfl, rfl, rfl, rfl⟩ := h
      refine ⟨300, ?_⟩
      show (¬ (16 : Int32) < 0 ∧ (16 : Int32).toNatClampNeg * 8 ≤ 536870912 ∧ 1 + 1 ≤ 42 ∧ 16 + (16 : Int32).toNatClampNeg ≤ 271540 ∧ ∀ q_1, q_1 ∉ mL S1 → (true = true ∧ (isO (nA S1 q_1 17 (16 : Int32).toNatClampNeg) 13 g ∧ (∃ k1, k1 < 97 ∧ I_gx 4 2 32 96 g i F S k1 [(0, .inr (.inr (some g)))] [] (sR (nA S1 q_1 17 (16 : Int32).toNatClampNeg) 1304 g (some q_1)) (1 + 1) (16 + (16 : Int32).toNatClampNeg)))))
      refine ⟨by decide, by decide, by decide, by decide, fun q hq => ?_⟩
      obtain ⟨F2, y2, h6⟩ := hX.row (k := 3) (K := 17) (N := Int32.toNatClampNeg 16) hq (by decide) (by decide) (by decide) (by decide) (by decide) (by decide) (by decide)
      exact ⟨by trivial, isO_nA hX.1.1.1 hq, 96, by decide, F2, y2, rfl, h6, rfl, rfl, rfl, rfl⟩
    · cases hm
      obtain ⟨F1, y, rfl, hX, rfl, rfl, rfl, rfl⟩ := h
      refine ⟨300, ?_⟩
      show (¬ (16 : Int32) < 0 ∧ ¬ (8 : Int32) < 0 ∧ (16 : Int32).toNatClampNeg * 8 ≤ 536870912 ∧ (8 : Int32).toNatClampNeg * 8 ≤ 536870912 ∧ 2 + (1 + (16 : Int32).toNatClampNeg) ≤ 42 ∧ 32 + ((16 : Int32).toNatClampNeg + (16 : Int32).toNatClampNeg * (8 : Int32).toNatClampNeg) ≤ 271540 ∧ ∀ q_1 (r_2 : Nat → Nat), (q_1 ∉ mL S1 ∧ (∀ i, i < (16 : Int32).toNatClampNeg → r_2 i ∉ mL S1 ∧ r_2 i ≠ q_1) ∧ ∀ i j, i < (16 : Int32).toNatClampNeg → j < (16 : Int32).toNatClampNeg → r_2 i = r_2 j → i = j) → (true = true ∧ (isO (nG S1 q_1 r_2 (16 : Int32).toNatClampNeg (8 : Int32).toNatClampNeg) 13 g ∧ (∃ k1, k1 < 96 ∧ I_gx 5 19 176 95 g i F S k1 [(0, .inr (.inr (some g)))] [] (sR (nG S1 q_1 r_2 (16 : Int32).toNatClampNeg (8 : Int32).toNatClampNeg) 1305 g (some q_1)) (2 + 1 + (16 : Int32).toNatClampNeg) (32 + (16 : Int32).toNatClampNeg + (16 : Int32).toNatClampNeg * (8 : Int32).toNatClampNeg)))))
      refine ⟨by decide, by decide, by decide, by decide, by decide, by decide, fun q r hq => ?_⟩
      obtain ⟨F2, y2, h6⟩ := hX.grid (k := 4) (bs := 100) (n := Int32.toNatClampNeg 16) (m := Int32.toNatClampNeg 8) hq.1 hq.2.1 hq.2.2 (by decide) (by decide) (by decide) (by decide) (by decide) (by decide)
      exact ⟨by trivial, (Keep.nG (P := fun _ => False) Keep.rf hq.1 (fun s hs => (hq.2.1 s hs).1)).isO hX.1.1.1, 95, by decide, F2, y2, rfl, h6, rfl, rfl, rfl, rfl⟩
    · cases hm
      obtain ⟨F1, y, rfl, hX, rfl, rfl, rfl, rfl⟩ := h
      refine ⟨300, ?_⟩
      show (¬ (8192 : Int32) < 0 ∧ (8192 : Int32).toNatClampNeg * 8 ≤ 536870912 ∧ 19 + 1 ≤ 42 ∧ 176 + (8192 : Int32).toNatClampNeg ≤ 271540 ∧ ∀ q_1, q_1 ∉ mL S1 → (True ∧ (isO (nA S1 q_1 17 (8192 : Int32).toNatClampNeg) 13 g ∧ (∃ k1, k1 < 95 ∧ I_gx 6 20 8368 94 g i F S k1 [(0, .inr (.inr (some g)))] [] (sR (nA S1 q_1 17 (8192 : Int32).toNatClampNeg) 1306 g (some q_1)) (19 + 1) (176 + (8192 : Int32).toNatClampNeg)))))
      refine ⟨by decide, by decide, by decide, by decide, fun q hq => ?_⟩
      obtain ⟨F2, y2, h6⟩ := hX.row (k := 5) (K := 17) (N := Int32.toNatClampNeg 8192) hq (by decide) (by decide) (by decide) (by decide) (by decide) (by decide) (by decide)
      exact ⟨by trivial, isO_nA hX.1.1.1 hq, 94, by decide, F2, y2, rfl, h6, rfl, rfl, rfl, rfl⟩
    · cases hm
      obtain ⟨F1, y, rfl, hX, rfl, rfl, rfl, rfl⟩ := h
      refine ⟨300, ?_⟩
      show (¬ (8192 : Int32) < 0 ∧ (8192 : Int32).toNatClampNeg * 8 ≤ 536870912 ∧ 20 + 1 ≤ 42 ∧ 8368 + (8192 : Int32).toNatClampNeg ≤ 271540 ∧ ∀ q_1, q_1 ∉ mL S1 → (True ∧ (isO (nA S1 q_1 17 (8192 : Int32).toNatClampNeg) 13 g ∧ (∃ k1, k1 < 94 ∧ I_gx 7 21 16560 93 g i F S k1 [(0, .inr (.inr (some g)))] [] (sR (nA S1 q_1 17 (8192 : Int32).toNatClampNeg) 1307 g (some q_1)) (20 + 1) (8368 + (8192 : Int32).toNatClampNeg)))))
      refine ⟨by decide, by decide, by decide, by decide, fun q hq => ?_⟩
      obtain ⟨F2, y2, h6⟩ := hX.row (k := 6) (K := 17) (N := Int32.toNatClampNeg 8192) hq (by decide) (by decide) (by decide) (by decide) (by decide) (by decide) (by decide)
      exact ⟨by trivial, isO_nA hX.1.1.1 hq, 93, by decide, F2, y2, rfl, h6, rfl, rfl, rfl, rfl⟩
    · cases hm
      obtain ⟨F1, y, rfl, hX, rfl, rfl, rfl, rfl⟩ := h
      refine ⟨300, ?_⟩
      show (¬ (131072 : Int32) < 0 ∧ (131072 : Int32).toNatClampNeg * 8 ≤ 536870912 ∧ 21 + 1 ≤ 42 ∧ 16560 + (131072 : Int32).toNatClampNeg ≤ 271540 ∧ ∀ q_1, q_1 ∉ mL S1 → (True ∧ (isO (nA S1 q_1 19 (131072 : Int32).toNatClampNeg) 13 g ∧ (∃ k1, k1 < 93 ∧ I_gx 8 22 147632 92 g i F S k1 [(0, .inr (.inr (some g)))] [] (sR (nA S1 q_1 19 (131072 : Int32).toNatClampNeg) 1308 g (some q_1)) (21 + 1) (16560 + (131072 : Int32).toNatClampNeg)))))
      refine ⟨by decide, by decide, by decide, by decide, fun q hq => ?_⟩
      obtain ⟨F2, y2, h6⟩ := hX.row (k := 7) (K := 19) (N := Int32.toNatClampNeg 131072) hq (by decide) (by decide) (by decide) (by decide) (by decide) (by decide) (by decide)
      exact ⟨by trivial, isO_nA hX.1.1.1 hq, 92, by decide, F2, y2, rfl, h6, rfl, rfl, rfl, rfl⟩
    · cases hm
      obtain ⟨F1, y, rfl, hX, rfl, rfl, rfl, rfl⟩ := h
      refine ⟨300, ?_⟩
      show (¬ (8192 : Int32) < 0 ∧ (8192 : Int32).toNatClampNeg * 8 ≤ 536870912 ∧ 22 + 1 ≤ 42 ∧ 147632 + (8192 : Int32).toNatClampNeg ≤ 271540 ∧ ∀ q_1, q_1 ∉ mL S1 → (True ∧ (isO (nA S1 q_1 20 (8192 : Int32).toNatClampNeg) 13 g ∧ (∃ k1, k1 < 92 ∧ I_gx 9 23 155824 91 g i F S k1 [(0, .inr (.inr (some g)))] [] (sR (nA S1 q_1 20 (8192 : Int32).toNatClampNeg) 1309 g (some q_1)) (22 + 1) (147632 + (8192 : Int32).toNatClampNeg)))))
      refine ⟨by decide, by decide, by decide, by decide, fun q hq => ?_⟩
      obtain ⟨F2, y2, h6⟩ := hX.row (k := 8) (K := 20) (N := Int32.toNatClampNeg 8192) hq (by decide) (by decide) (by decide) (by decide) (by decide) (by decide) (by decide)
      exact ⟨by trivial, isO_nA hX.1.1.1 hq, 91, by decide, F2, y2, rfl, h6, rfl, rfl, rfl, rfl⟩
    · cases hm
      obtain ⟨F1, y, rfl, hX, rfl, rfl, rfl, rfl⟩ := h
      refine ⟨300, ?_⟩
      show (¬ (8192 : Int32) < 0 ∧ (8192 : Int32).toNatClampNeg * 8 ≤ 536870912 ∧ 23 + 1 ≤ 42 ∧ 155824 + (8192 : Int32).toNatClampNeg ≤ 271540 ∧ ∀ q_1, q_1 ∉ mL S1 → (True ∧ (isO (nA S1 q_1 17 (8192 : Int32).toNatClampNeg) 13 g ∧ (∃ k1, k1 < 91 ∧ I_gx 10 24 164016 90 g i F S k1 [(0, .inr (.inr (some g)))] [] (sR (nA S1 q_1 17 (8192 : Int32).toNatClampNeg) 1310 g (some q_1)) (23 + 1) (155824 + (8192 : Int32).toNatClampNeg)))))
      refine ⟨by decide, by decide, by decide, by decide, fun q hq => ?_⟩
      obtain ⟨F2, y2, h6⟩ := hX.row (k := 9) (K := 17) (N := Int32.toNatClampNeg 8192) hq (by decide) (by decide) (by decide) (by decide) (by decide) (by decide) (by decide)
      exact ⟨by trivial, isO_nA hX.1.1.1 hq, 90, by decide, F2, y2, rfl, h6, rfl, rfl, rfl, rfl⟩
    · cases hm
      obtain ⟨F1, y, rfl, hX, rfl, rfl, rfl, rfl⟩ := h
      refine ⟨300, ?_⟩
      show (¬ (8192 : Int32) < 0 ∧ (8192 : Int32).toNatClampNeg * 8 ≤ 536870912 ∧ 24 + 1 ≤ 42 ∧ 164016 + (8192 : Int32).toNatClampNeg ≤ 271540 ∧ ∀ q_1, q_1 ∉ mL S1 → (True ∧ (isO (nA S1 q_1 17 (8192 : Int32).toNatClampNeg) 13 g ∧ (∃ k1, k1 < 90 ∧ I_gx 11 25 172208 89 g i F S k1 [(0, .inr (.inr (some g)))] [] (sR (nA S1 q_1 17 (8192 : Int32).toNatClampNeg) 1311 g (some q_1)) (24 + 1) (164016 + (8192 : Int32).toNatClampNeg)))))
      refine ⟨by decide, by decide, by decide, by decide, fun q hq => ?_⟩
      obtain ⟨F2, y2, h6⟩ := hX.row (k := 10) (K := 17) (N := Int32.toNatClampNeg 8192) hq (by decide) (by decide) (by decide) (by decide) (by decide) (by decide) (by decide)
      exact ⟨by trivial, isO_nA hX.1.1.1 hq, 89, by decide, F2, y2, rfl, h6, rfl, rfl, rfl, rfl⟩
    · cases hm
      obtain ⟨F1, y, rfl, hX, rfl, rfl, rfl, rfl⟩ := h
      refine ⟨300, ?_⟩
      show (¬ (8192 : Int32) < 0 ∧ (8192 : Int32).toNatClampNeg * 8 ≤ 536870912 ∧ 25 + 1 ≤ 42 ∧ 172208 + (8192 : Int32).toNatClampNeg ≤ 271540 ∧ ∀ q_1, q_1 ∉ mL S1 → (True ∧ (isO (nA S1 q_1 17 (8192 : Int32).toNatClampNeg) 13 g ∧ (∃ k1, k1 < 89 ∧ I_gx 12 26 180400 88 g i F S k1 [(0, .inr (.inr (some g)))] [] (sR (nA S1 q_1 17 (8192 : Int32).toNatClampNeg) 1312 g (some q_1)) (25 + 1) (172208 + (8192 : Int32).toNatClampNeg)))))
      refine ⟨by decide, by decide, by decide, by decide, fun q hq => ?_⟩
      obtain ⟨F2, y2, h6⟩ := hX.row (k := 11) (K := 17) (N := Int32.toNatClampNeg 8192) hq (by decide) (by decide) (by decide) (by decide) (by decide) (by decide) (by decide)
      exact ⟨by trivial, isO_nA hX.1.1.1 hq, 88, by decide, F2, y2, rfl, h6, rfl, rfl, rfl, rfl⟩
    · cases hm
      obtain ⟨F1, y, rfl, hX, rfl, rfl, rfl, rfl⟩ := h
      refine ⟨300, ?_⟩
      show (¬ (8192 : Int32) < 0 ∧ (8192 : Int32).toNatClampNeg * 8 ≤ 536870912 ∧ 26 + 1 ≤ 42 ∧ 180400 + (8192 : Int32).toNatClampNeg ≤ 271540 ∧ ∀ q_1, q_1 ∉ mL S1 → (True ∧ (isO (nA S1 q_1 17 (8192 : Int32).toNatClampNeg) 13 g ∧ (∃ k1, k1 < 88 ∧ I_gx 13 27 188592 87 g i F S k1 [(0, .inr (.inr (some g)))] [] (sR (nA S1 q_1 17 (8192 : Int32).toNatClampNeg) 1313 g (some q_1)) (26 + 1) (180400 + (8192 : Int32).toNatClampNeg)))))
      refine ⟨by decide, by decide, by decide, by decide, fun q hq => ?_⟩
      obtain ⟨F2, y2, h6⟩ := hX.row (k := 12) (K := 17) (N := Int32.toNatClampNeg 8192) hq (by decide) (by decide) (by decide) (by decide) (by decide) (by decide) (by decide)
      exact ⟨by trivial, isO_nA hX.1.1.1 hq, 87, by decide, F2, y2, rfl, h6, rfl, rfl, rfl, rfl⟩
    · cases hm
      obtain ⟨F1, y, rfl, hX, rfl, rfl, rfl, rfl⟩ := h
      refine ⟨300, ?_⟩
      show (¬ (8192 : Int32) < 0 ∧ (8192 : Int32).toNatClampNeg * 8 ≤ 536870912 ∧ 27 + 1 ≤ 42 ∧ 188592 + (8192 : Int32).toNatClampNeg ≤ 271540 ∧ ∀ q_1, q_1 ∉ mL S1 → (True ∧ (isO (nA S1 q_1 17 (8192 : Int32).toNatClampNeg) 13 g ∧ (∃ k1, k1 < 87 ∧ I_gx 14 28 196784 86 g i F S k1 [(0, .inr (.inr (some g)))] [] (sR (nA S1 q_1 17 (8192 : Int32).toNatClampNeg) 1314 g (some q_1)) (27 + 1) (188592 + (8192 : Int32).toNatClampNeg)))))
      refine ⟨by decide, by decide, by decide, by decide, fun q hq => ?_⟩
      obtain ⟨F2, y2, h6⟩ := hX.row (k := 13) (K := 17) (N := Int32.toNatClampNeg 8192) hq (by decide) (by decide) (by decide) (by decide) (by decide) (by decide) (by decide)
      exact ⟨by trivial, isO_nA hX.1.1.1 hq, 86, by decide, F2, y2, rfl, h6, rfl, rfl, rfl, rfl⟩
    · cases hm
      obtain ⟨F1, y, rfl, hX, rfl, rfl, rfl, rfl⟩ := h
      refine ⟨300, ?_⟩
      show (¬ (8192 : Int32) < 0 ∧ (8192 : Int32).toNatClampNeg * 8 ≤ 536870912 ∧ 28 + 1 ≤ 42 ∧ 196784 + (8192 : Int32).toNatClampNeg ≤ 271540 ∧ ∀ q_1, q_1 ∉ mL S1 → (True ∧ (isO (nA S1 q_1 17 (8192 : Int32).toNatClampNeg) 13 g ∧ (∃ k1, k1 < 86 ∧ I_gx 15 29 204976 85 g i F S k1 [(0, .inr (.inr (some g)))] [] (sR (nA S1 q_1 17 (8192 : Int32).toNatClampNeg) 1315 g (some q_1)) (28 + 1) (196784 + (8192 : Int32).toNatClampNeg)))))
      refine ⟨by decide, by decide, by decide, by decide, fun q hq => ?_⟩
      obtain ⟨F2, y2, h6⟩ := hX.row (k := 14) (K := 17) (N := Int32.toNatClampNeg 8192) hq (by decide) (by decide) (by decide) (by decide) (by decide) (by decide) (by decide)
      exact ⟨by trivial, isO_nA hX.1.1.1 hq, 85, by decide, F2, y2, rfl, h6, rfl, rfl, rfl, rfl⟩
    · cases hm
      obtain ⟨F1, y, rfl, hX, rfl, rfl, rfl, rfl⟩ := h
      refine ⟨300, ?_⟩
      show (¬ (8192 : Int32) < 0 ∧ (8192 : Int32).toNatClampNeg * 8 ≤ 536870912 ∧ 29 + 1 ≤ 42 ∧ 204976 + (8192 : Int32).toNatClampNeg ≤ 271540 ∧ ∀ q_1, q_1 ∉ mL S1 → (True ∧ (isO (nA S1 q_1 20 (8192 : Int32).toNatClampNeg) 13 g ∧ (∃ k1, k1 < 85 ∧ I_gx 16 30 213168 84 g i F S k1 [(0, .inr (.inr (some g)))] [] (sR (nA S1 q_1 20 (8192 : Int32).toNatClampNeg) 1316 g (some q_1)) (29 + 1) (204976 + (8192 : Int32).toNatClampNeg)))))
      refine ⟨by decide, by decide, by decide, by decide, fun q hq => ?_⟩
      obtain ⟨F2, y2, h6⟩ := hX.row (k := 15) (K := 20) (N := Int32.toNatClampNeg 8192) hq (by decide) (by decide) (by decide) (by decide) (by decide) (by decide) (by decide)
      exact ⟨by trivial, isO_nA hX.1.1.1 hq, 84, by decide, F2, y2, rfl, h6, rfl, rfl, rfl, rfl⟩
    · cases hm
      obtain ⟨F1, y, rfl, hX, rfl, rfl, rfl, rfl⟩ := h
      refine ⟨300, ?_⟩
      show (True ∧ (isO S1 13 g ∧ (∃ k1, k1 < 84 ∧ I_gx 17 30 213168 83 g i F S k1 [(0, .inr (.inr (some g)))] [] (sI S1 1317 g (-1 : Int32)) 30 213168)))
      exact ⟨trivial, hX.1.1.1, 83, by decide, F1, y, rfl, hX.i17, rfl, rfl, rfl, rfl⟩
    · cases hm
      obtain ⟨F1, y, rfl, hX, rfl, rfl, rfl, rfl⟩ := h
      refine ⟨300, ?_⟩
      show (¬ (8192 : Int32) < 0 ∧ (8192 : Int32).toNatClampNeg * 8 ≤ 536870912 ∧ 30 + 1 ≤ 42 ∧ 213168 + (8192 : Int32).toNatClampNeg ≤ 271540 ∧ ∀ q_1, q_1 ∉ mL S1 → (True ∧ (isO (nA S1 q_1 17 (8192 : Int32).toNatClampNeg) 13 g ∧ (∃ k1, k1 < 83 ∧ I_gx 18 31 221360 82 g i F S k1 [(0, .inr (.inr (some g)))] [] (sR (nA S1 q_1 17 (8192 : Int32).toNatClampNeg) 1318 g (some q_1)) (30 + 1) (213168 + (8192 : Int32).toNatClampNeg)))))
      refine ⟨by decide, by decide, by decide, by decide, fun q hq => ?_⟩
      obtain ⟨F2, y2, h6⟩ := hX.row (k := 17) (K := 17) (N := Int32.toNatClampNeg 8192) hq (by decide) (by decide) (by decide) (by decide) (by decide) (by decide) (by decide)
      exact ⟨by trivial, isO_nA hX.1.1.1 hq, 82, by decide, F2, y2, rfl, h6, rfl, rfl, rfl, rfl⟩
    · cases hm
      obtain ⟨F1, y, rfl, hX, rfl, rfl, rfl, rfl⟩ := h
      refine ⟨300, ?_⟩
      show (¬ (8192 : Int32) < 0 ∧ (8192 : Int32).toNatClampNeg * 8 ≤ 536870912 ∧ 31 + 1 ≤ 42 ∧ 221360 + (8192 : Int32).toNatClampNeg ≤ 271540 ∧ ∀ q_1, q_1 ∉ mL S1 → (True ∧ (isO (nA S1 q_1 17 (8192 : Int32).toNatClampNeg) 13 g ∧ (∃ k1, k1 < 82 ∧ I_gx 19 32 229552 81 g i F S k1 [(0, .inr (.inr (some g)))] [] (sR (nA S1 q_1 17 (8192 : Int32).toNatClampNeg) 1319 g (some q_1)) (31 + 1) (221360 + (8192 : Int32).toNatClampNeg)))))
      refine ⟨by decide, by decide, by decide, by decide, fun q hq => ?_⟩
      obtain ⟨F2, y2, h6⟩ := hX.row (k := 18) (K := 17) (N := Int32.toNatClampNeg 8192) hq (by decide) (by decide) (by decide) (by decide) (by decide) (by decide) (by decide)
      exact ⟨by trivial, isO_nA hX.1.1.1 hq, 81, by decide, F2, y2, rfl, h6, rfl, rfl, rfl, rfl⟩
    · cases hm
      obtain ⟨F1, y, rfl, hX, rfl, rfl, rfl, rfl⟩ := h
      refine ⟨300, ?_⟩
      show (¬ (8192 : Int32) < 0 ∧ (8192 : Int32).toNatClampNeg * 8 ≤ 536870912 ∧ 32 + 1 ≤ 42 ∧ 229552 + (8192 : Int32).toNatClampNeg ≤ 271540 ∧ ∀ q_1, q_1 ∉ mL S1 → (True ∧ (isO (nA S1 q_1 17 (8192 : Int32).toNatClampNeg) 13 g ∧ (∃ k1, k1 < 81 ∧ I_gx 20 33 237744 80 g i F S k1 [(0, .inr (.inr (some g)))] [] (sR (nA S1 q_1 17 (8192 : Int32).toNatClampNeg) 1320 g (some q_1)) (32 + 1) (229552 + (8192 : Int32).toNatClampNeg)))))
      refine ⟨by decide, by decide, by decide, by decide, fun q hq => ?_⟩
      obtain ⟨F2, y2, h6⟩ := hX.row (k := 19) (K := 17) (N := Int32.toNatClampNeg 8192) hq (by decide) (by decide) (by decide) (by decide) (by decide) (by decide) (by decide)
      exact ⟨by trivial, isO_nA hX.1.1.1 hq, 80, by decide, F2, y2, rfl, h6, rfl, rfl, rfl, rfl⟩
    · cases hm
      obtain ⟨F1, y, rfl, hX, rfl, rfl, rfl, rfl⟩ := h
      refine ⟨300, ?_⟩
      show (¬ (8192 : Int32) < 0 ∧ (8192 : Int32).toNatClampNeg * 8 ≤ 536870912 ∧ 33 + 1 ≤ 42 ∧ 237744 + (8192 : Int32).toNatClampNeg ≤ 271540 ∧ ∀ q_1, q_1 ∉ mL S1 → (True ∧ (isO (nA S1 q_1 17 (8192 : Int32).toNatClampNeg) 13 g ∧ (∃ k1, k1 < 80 ∧ I_gx 21 34 245936 79 g i F S k1 [(0, .inr (.inr (some g)))] [] (sR (nA S1 q_1 17 (8192 : Int32).toNatClampNeg) 1321 g (some q_1)) (33 + 1) (237744 + (8192 : Int32).toNatClampNeg)))))
      refine ⟨by decide, by decide, by decide, by decide, fun q hq => ?_⟩
      obtain ⟨F2, y2, h6⟩ := hX.row (k := 20) (K := 17) (N := Int32.toNatClampNeg 8192) hq (by decide) (by decide) (by decide) (by decide) (by decide) (by decide) (by decide)
      exact ⟨by trivial, isO_nA hX.1.1.1 hq, 79, by decide, F2, y2, rfl, h6, rfl, rfl, rfl, rfl⟩
    · cases hm
      obtain ⟨F1, y, rfl, hX, rfl, rfl, rfl, rfl⟩ := h
      refine ⟨300, ?_⟩
      show (¬ (4 : Int32) < 0 ∧ ¬ (256 : Int32) < 0 ∧ (4 : Int32).toNatClampNeg * 8 ≤ 536870912 ∧ (256 : Int32).toNatClampNeg * 8 ≤ 536870912 ∧ 34 + (1 + (4 : Int32).toNatClampNeg) ≤ 42 ∧ 245936 + ((4 : Int32).toNatClampNeg + (4 : Int32).toNatClampNeg * (256 : Int32).toNatClampNeg) ≤ 271540 ∧ ∀ q_1 (r_2 : Nat → Nat), (q_1 ∉ mL S1 ∧ (∀ i, i < (4 : Int32).toNatClampNeg → r_2 i ∉ mL S1 ∧ r_2 i ≠ q_1) ∧ ∀ i j, i < (4 : Int32).toNatClampNeg → j < (4 : Int32).toNatClampNeg → r_2 i = r_2 j → i = j) → (true = true ∧ (isO (nG S1 q_1 r_2 (4 : Int32).toNatClampNeg (256 : Int32).toNatClampNeg) 13 g ∧ (∃ k1, k1 < 79 ∧ I_gx 22 39 246964 78 g i F S k1 [(0, .inr (.inr (some g)))] [] (sR (nG S1 q_1 r_2 (4 : Int32).toNatClampNeg (256 : Int32).toNatClampNeg) 1322 g (some q_1)) (34 + 1 + (4 : Int32).toNatClampNeg) (245936 + (4 : Int32).toNatClampNeg + (4 : Int32).toNatClampNeg * (256 : Int32).toNatClampNeg)))))
      refine ⟨by decide, by decide, by decide, by decide, by decide, by decide, fun q r hq => ?_⟩
      obtain ⟨F2, y2, h6⟩ := hX.grid (k := 21) (bs := 120) (n := Int32.toNatClampNeg 4) (m := Int32.toNatClampNeg 256) hq.1 hq.2.1 hq.2.2 (by decide) (by decide) (by decide) (by decide) (by decide) (by decide)
      exact ⟨by trivial, (Keep.nG (P := fun _ => False) Keep.rf hq.1 (fun s hs => (hq.2.1 s hs).1)).isO hX.1.1.1, 78, by decide, F2, y2, rfl, h6, rfl, rfl, rfl, rfl⟩
    · cases hm
      obtain ⟨F1, y, rfl, hX, rfl, rfl, rfl, rfl⟩ := h
      refine ⟨300, ?_⟩
      show (¬ (8192 : Int32) < 0 ∧ (8192 : Int32).toNatClampNeg * 8 ≤ 536870912 ∧ 39 + 1 ≤ 42 ∧ 246964 + (8192 : Int32).toNatClampNeg ≤ 271540 ∧ ∀ q_1, q_1 ∉ mL S1 → (true = true ∧ (isO (nA S1 q_1 20 (8192 : Int32).toNatClampNeg) 13 g ∧ (∃ k1, k1 < 78 ∧ I_gx 23 40 255156 77 g i F S k1 [(0, .inr (.inr (some g)))] [] (sR (nA S1 q_1 20 (8192 : Int32).toNatClampNeg) 1323 g (some q_1)) (39 + 1) (246964 + (8192 : Int32).toNatClampNeg)))))
      refine ⟨by decide, by decide, by decide, by decide, fun q hq => ?_⟩
      obtain ⟨F2, y2, h6⟩ := hX.row (k := 22) (K := 20) (N := Int32.toNatClampNeg 8192) hq (by decide) (by decide) (by decide) (by decide) (by decide) (by decide) (by decide)
      exact ⟨by trivial, isO_nA hX.1.1.1 hq, 77, by decide, F2, y2, rfl, h6, rfl, rfl, rfl, rfl⟩
    · cases hm
      obtain ⟨F1, y, rfl, hX, rfl, rfl, rfl, rfl⟩ := h
      refine ⟨300, ?_⟩
      show (¬ (8192 : Int32) < 0 ∧ (8192 : Int32).toNatClampNeg * 8 ≤ 536870912 ∧ 40 + 1 ≤ 42 ∧ 255156 + (8192 : Int32).toNatClampNeg ≤ 271540 ∧ ∀ q_1, q_1 ∉ mL S1 → (true = true ∧ (isO (nA S1 q_1 17 (8192 : Int32).toNatClampNeg) 13 g ∧ (∃ k1, k1 < 77 ∧ I_gx 24 41 263348 76 g i F S k1 [(0, .inr (.inr (some g)))] [] (sR (nA S1 q_1 17 (8192 : Int32).toNatClampNeg) 1324 g (some q_1)) (40 + 1) (255156 + (8192 : Int32).toNatClampNeg)))))
      refine ⟨by decide, by decide, by decide, by decide, fun q hq => ?_⟩
      obtain ⟨F2, y2, h6⟩ := hX.row (k := 23) (K := 17) (N := Int32.toNatClampNeg 8192) hq (by decide) (by decide) (by decide) (by decide) (by decide) (by decide) (by decide)
      exact ⟨by trivial, isO_nA hX.1.1.1 hq, 76, by decide, F2, y2, rfl, h6, rfl, rfl, rfl, rfl⟩
    · cases hm
      obtain ⟨F1, y, rfl, hX, rfl, rfl, rfl, rfl⟩ := h
      refine ⟨300, ?_⟩
      show (¬ (8192 : Int32) < 0 ∧ (8192 : Int32).toNatClampNeg * 8 ≤ 536870912 ∧ 41 + 1 ≤ 42 ∧ 263348 + (8192 : Int32).toNatClampNeg ≤ 271540 ∧ ∀ q_1, q_1 ∉ mL S1 → (true = true ∧ (isO (nA S1 q_1 17 (8192 : Int32).toNatClampNeg) 13 g ∧ (([] : List MV) = [] ∧ mret none (sp_rgi g F i) [.inr (.inr (some g))] S none (sR (nA S1 q_1 17 (8192 : Int32).toNatClampNeg) 1325 g (some q_1)) (41 + 1) (263348 + (8192 : Int32).toNatClampNeg)))))
      refine ⟨by decide, by decide, by decide, by decide, fun q hq => ?_⟩
      obtain ⟨F2, y2, h6⟩ := hX.row (k := 24) (K := 17) (N := Int32.toNatClampNeg 8192) hq (by decide) (by decide) (by decide) (by decide) (by decide) (by decide) (by decide)
      exact ⟨by trivial, isO_nA hX.1.1.1 hq, rfl, trivial, ⟨rfl, F2, y2, h6⟩, Nat.le_refl _, Nat.le_refl _⟩
theorem u_rgi (l : Launch) : Us l yX12_init cX12_init 1 none 1 20 98 T_rgi := by
  intro Rc Rs av S cs sl K Kx h
  unfold T_rgi at h
  split at h
  · rename_i g_o
    obtain ⟨g, rfl, h_1⟩ := pa_of h
    obtain ⟨F, i, hp, hc, hs, hk⟩ := h_1
    refine ⟨(sp_rgi g F i), c_rgi l g F i, fun _ _ h9 => ⟨_, _, h9.1⟩, ⟨rfl, hp⟩, hc, hs, fun S' h8 => by
      obtain ⟨-, h8⟩ := h8
      exact hk _ h8, fun _ _ q => q.elim⟩
  · exact h.elim
