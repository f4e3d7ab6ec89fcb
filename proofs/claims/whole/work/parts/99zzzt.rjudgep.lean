/-! ===== The reference: judgePatch ===== -/
def JD : List Nat := [38, 39, 31, 19, 17, 46, 45, 44, 43, 42, 41, 40, 47, 48, 24, 15]
def JF : List Nat := [1535, 1536, 1532, 1520, 1518, 1549, 1550, 1537]
/-- columns, agents and text of a patch, if they are sound -/
def jpT (B : List Nat) (x y : Nat → Nat) (L : List Nat) (SY : List Int32) : Prop := Cols B x y ∧ rdA B (x 0) (y 0) = some L ∧ (upk B (y 4) (x 4)).1 = true ∧ syms (upk B (y 4) (x 4)).2.1 = some SY
def jpA (B L : List Nat) (x y : Nat → Nat) : List SpR := (nsp B L x y).2
def jpD (B L : List Nat) (x y : Nat → Nat) : List (List (Nat × Nat)) := (npa B L x y (jpA B L x y)).2.1
/-- spans, parents, operations, if they are sound -/
def jpS (B : List Nat) (x y : Nat → Nat) (L : List Nat) (SY : List Int32) (Ox : List (Nat × Int) × Nat × Nat) : Prop := (nsp B L x y).1 = true ∧ ((npa B L x y (jpA B L x y)).1 = true ∧ (npa B L x y (jpA B L x y)).2.2 = y 2) ∧ nop B x y (jpA B L x y) = some Ox ∧ Ox.2.2 = y 3 ∧ Ox.2.1 = SY.length
def jpK (kz : Nat → Nat) (B L : List Nat) (x y : Nat → Nat) : Nat → Nat := hz (gz kz (jpA B L x y).length) (jpD B L x y).flatten.length
def jpE (B L : List Nat) (x y : Nat → Nat) (SY : List Int32) (Ox : List (Nat × Int) × Nat × Nat) : List Rv := rvAll (jpA B L x y) (jpD B L x y) Ox.1 (jpA B L x y).length 0 SY
/-- faults before any event comes -/
def jpF (B : List Nat) (kz kz1 : Nat → Nat) (f : Nat) : Prop := (f = 2 ∧ (∀ x y, Cols B x y → rdA B (x 0) (y 0) = none) ∧ kz1 = kz) ∨ (f = 3 ∧ (∃ x y L, Cols B x y ∧ rdA B (x 0) (y 0) = some L ∧ ((upk B (y 4) (x 4)).1 = false ∨ syms (upk B (y 4) (x 4)).2.1 = none)) ∧ kz1 = kz) ∨ (f = 4 ∧ ∃ x y L SY, jpT B x y L SY ∧ (∀ Ox, ¬ jpS B x y L SY Ox) ∧ kz1 = if (nsp B L x y).1 = true then jpK kz B L x y else gz kz (jpA B L x y).length)
/-- what it may cost -/
def jpB (B : List Nat) (G : Gr) (T : Tr) (kz : Nat → Nat) (aC aZ bC bZ kC kZ : Nat) : Prop := ∀ x y L SY, jpT B x y L SY → gwC (kz 40) (jpA B L x y).length ≤ aC ∧ gwZ (kz 40) (jpA B L x y).length ≤ aZ ∧ ((nsp B L x y).1 = true → gqC (kz 47) (jpD B L x y).flatten.length ≤ bC ∧ gqZ (kz 47) (jpD B L x y).flatten.length ≤ bZ) ∧ ∀ Ox, jpS B x y L SY Ox → rvK (jpE B L x y SY Ox) G T (jpK kz B L x y) kC kZ
def jpR (S S' : MM) (F F' : Nat → Nat × Nat) (t : Nat) (z z' : Nat → Nat) (Y Y' : Nat → Nat → Nat) (R : Rb) (kz' : Nat → Nat) (n : Nat) (G' : Gr) (T' : Tr) : Prop := MD S' F' t z' Y' (R.sG n G' T') kz' ∧ rH n JD JF S S' F F' t z z' ∧ (∀ q, Y' q 0 = Y q 0) ∧ GT G' T' ∧ (R.Q.G n).n ≤ G'.n ∧ mI S' 1537 t = nI (G'.n - (R.Q.G n).n)
/-- what a patch does to a peer -/
def jpX (B : List Nat) (kz : Nat → Nat) (G : Gr) (T : Tr) (G' : Gr) (T' : Tr) (kz' : Nat → Nat) (f : Nat) : Prop := (jpF B kz kz' f ∧ G' = G ∧ T' = T) ∨ ∃ x y L SY Ox, jpT B x y L SY ∧ jpS B x y L SY Ox ∧ rvX (jpE B L x y SY Ox) G T (jpK kz B L x y) G' T' kz' f
def jpQ (S S' : MM) (F : Nat → Nat × Nat) (t : Nat) (z : Nat → Nat) (Y : Nat → Nat → Nat) (R : Rb) (kz : Nat → Nat) (n : Nat) (B : List Nat) (v : Int32) : Prop := ∃ f F' z' Y' G' T' kz', v = nI f ∧ f < 8 ∧ jpX B kz (R.Q.G n) (R.Q.T n) G' T' kz' f ∧ jpR S S' F F' t z z' Y Y' R kz' n G' T'
def jpI (S S1 : MM) (F F1 : Nat → Nat × Nat) (t r : Nat) (z z1 : Nat → Nat) (Y : Nat → Nat → Nat) (R : Rb) (kz1 : Nat → Nat) (B : List Nat) (x y : Nat → Nat) (L : List Nat) : Prop := MD S1 F1 t z1 Y R kz1 ∧ rG JD JF S S1 F F1 t z z1 ∧ rdC S1 t r z1 B x y ∧ lsP S1 t z1 L ∧ mI S1 1537 t = 0 ∧ (∀ j, fits .byte (.int (eI S1 r j)) = true) ∧ r ≠ z1 19
theorem jpI.st {S S1 S2 : MM} {F F1 F2 : Nat → Nat × Nat} {t r : Nat} {z z1 z2 : Nat → Nat} {Y : Nat → Nat → Nat} {R : Rb} {kz1 kz2 : Nat → Nat} {B : List Nat} {x y : Nat → Nat} {L : List Nat} {D fs : List Nat} (h : jpI S S1 F F1 t r z z1 Y R kz1 B x y L) (g : rG D fs S1 S2 F1 F2 t z1 z2) (hM : MD S2 F2 t z2 Y R kz2) (hD : ∀ k, k ∈ D → k ∈ JD ∧ k ∈ mdL ∧ (k = 19 ∨ mdK k ≠ 16) ∧ k ≠ 38 ∧ k ≠ 39 ∧ k ≠ 31) (hf : ∀ f, f ∈ fs → f ∈ JF ∧ f ≠ 1532 ∧ f ≠ 1537) : jpI S S2 F F2 t r z z2 Y R kz2 B x y L := by
  obtain ⟨M1, hG, ⟨r1, r2, hC, hc⟩, hL, h37, hfi, h19⟩ := h
  have hr : ∀ k, k ∈ D → r ≠ z1 k := fun k hk => by
    rcases (hD k hk).2.2.1 with e | e
    · rw [e]; exact h19
    · exact r2.nz M1 (hD k hk).2.1 e
  have hD1 : ∀ k, k ∈ D → k ∈ mdL := fun k hk => (hD k hk).2.1
  have nt : r ≠ t := fun e => by
    have a1 := r2.1.2
    rw [e, (M1 0).1.2] at a1
    exact absurd a1 (by decide)
  have er : eI S2 r = eI S1 r := (g.1.2.1 r r2.1.1 (fun q => by
    rcases q with e | ⟨k, k1, e⟩
    · exact nt e
    · exact hr k k1 e)).2.2.2.1
  have n34 : ∀ k, k ∈ mdL → 1534 ≠ 1500 + k := by decide
  refine ⟨hM, hG.tr (g.mono (fun k hk => (hD k hk).1) (fun f hf9 => (hf f hf9).1)), ⟨(g.2.2.2.1 _ (fun k hk => n34 k (hD1 k hk))).trans r1, g.by M1 r2 hr, g.co M1 hD1 (fun w => (hD _ w).2.2.2.1 rfl) (fun w => (hD _ w).2.2.2.2.1 rfl) hC, hc⟩, g.ls M1 hD1 (fun w => (hD _ w).2.2.2.2.2 rfl) (fun w => (hf _ w).2.1 rfl) hL, (g.2.2.1 _ (fun w => (hf _ w).2.2 rfl)).trans h37, fun j => by rw [er]; exact hfi j, ?_⟩
  rcases g.2.2.2.2 19 with e | e
  · rw [e]; exact h19
  · exact fun w => e.2 (w ▸ r2.1.1)
def I_jp1 (t n r : Nat) (z : Nat → Nat) (B : List Nat) (S : MM) (k : Nat) : KT := fun lo st S1 cs sl => ∃ (j : Nat) (x y : Nat → Nat), k = 100 + (5 - j) ∧ j ≤ 5 ∧ ClK B j x y ∧ rK [38, 39] [1535] S S1 t z ∧ rdP9 S1 t r B (clS y j) (B.length - 4) ∧ (∀ i, i < j → eI S1 (z 38) i = nI (x i) ∧ eI S1 (z 39) i = nI (y i) ∧ x i ≤ y i ∧ y i ≤ B.length - 4) ∧ lo = [(0, .inr (.inr (some t))), (1, .inl (nI n)), (2, .inl (nI j))] ∧ st = [] ∧ cs = 0 ∧ sl = 0
def I_jp2 (t n r : Nat) (F : Nat → Nat × Nat) (z : Nat → Nat) (Y : Nat → Nat → Nat) (R : Rb) (kz : Nat → Nat) (B : List Nat) (S : MM) (k : Nat) : KT := fun lo st S1 cs sl => ∃ (x y : Nat → Nat) (L : List Nat), k = 90 ∧ Cols B x y ∧ rdA B (x 0) (y 0) = some L ∧ jpI S S1 F F t r z z Y R kz B x y L ∧ lo = [(0, .inr (.inr (some t))), (1, .inl (nI n))] ∧ st = [] ∧ cs = 0 ∧ sl = 0
def I_jp3 (t n r : Nat) (F : Nat → Nat × Nat) (z : Nat → Nat) (Y : Nat → Nat → Nat) (R : Rb) (kz : Nat → Nat) (B : List Nat) (S : MM) (k : Nat) : KT := fun lo st S1 cs sl => ∃ (x y : Nat → Nat) (L : List Nat) (SY : List Int32), k = 80 ∧ jpT B x y L SY ∧ jpI S S1 F F t r z z Y R kz B x y L ∧ txP S1 t z SY ∧ lo = [(0, .inr (.inr (some t))), (1, .inl (nI n))] ∧ st = [] ∧ cs = 0 ∧ sl = 0
def I_jp4 (t n r : Nat) (F : Nat → Nat × Nat) (z : Nat → Nat) (Y : Nat → Nat → Nat) (R : Rb) (kz : Nat → Nat) (B : List Nat) (S : MM) (k : Nat) : KT := fun lo st S1 cs sl => ∃ (x y : Nat → Nat) (L : List Nat) (SY : List Int32) (F1 : Nat → Nat × Nat) (z1 : Nat → Nat), k = 70 ∧ jpT B x y L SY ∧ (nsp B L x y).1 = true ∧ jpI S S1 F F1 t r z z1 Y R (gz kz (jpA B L x y).length) B x y L ∧ txP S1 t z1 SY ∧ spP S1 t z1 (gz kz (jpA B L x y).length) (jpA B L x y) ∧ lo = [(0, .inr (.inr (some t))), (1, .inl (nI n))] ∧ st = [] ∧ cs = gwC (kz 40) (jpA B L x y).length ∧ sl = gwZ (kz 40) (jpA B L x y).length
def jpP (S1 : MM) (t : Nat) (z1 : Nat → Nat) (kz : Nat → Nat) (B L : List Nat) (x y : Nat → Nat) (SY : List Int32) : Prop := txP S1 t z1 SY ∧ spP S1 t z1 (jpK kz B L x y) (jpA B L x y) ∧ paP S1 t z1 (jpK kz B L x y) (jpD B L x y).flatten ∧ fpP S1 z1 (jpD B L x y) (jpD B L x y).length
def I_jp5 (t n r : Nat) (F : Nat → Nat × Nat) (z : Nat → Nat) (Y : Nat → Nat → Nat) (R : Rb) (kz : Nat → Nat) (B : List Nat) (S : MM) (k : Nat) : KT := fun lo st S1 cs sl => ∃ (x y : Nat → Nat) (L : List Nat) (SY : List Int32) (F1 : Nat → Nat × Nat) (z1 : Nat → Nat), k = 60 ∧ jpT B x y L SY ∧ (nsp B L x y).1 = true ∧ ((npa B L x y (jpA B L x y)).1 = true ∧ (npa B L x y (jpA B L x y)).2.2 = y 2) ∧ jpI S S1 F F1 t r z z1 Y R (jpK kz B L x y) B x y L ∧ jpP S1 t z1 kz B L x y SY ∧ lo = [(0, .inr (.inr (some t))), (1, .inl (nI n))] ∧ st = [] ∧ cs = gwC (kz 40) (jpA B L x y).length + gqC (kz 47) (jpD B L x y).flatten.length ∧ sl = gwZ (kz 40) (jpA B L x y).length + gqZ (kz 47) (jpD B L x y).flatten.length
def I_jp6 (t n r : Nat) (F : Nat → Nat × Nat) (z : Nat → Nat) (Y : Nat → Nat → Nat) (R : Rb) (kz : Nat → Nat) (B : List Nat) (S : MM) (k : Nat) : KT := fun lo st S1 cs sl => ∃ (x y : Nat → Nat) (L : List Nat) (SY : List Int32) (Ox : List (Nat × Int) × Nat × Nat) (F1 : Nat → Nat × Nat) (z1 : Nat → Nat), k = 50 ∧ jpT B x y L SY ∧ jpS B x y L SY Ox ∧ jpI S S1 F F1 t r z z1 Y R (jpK kz B L x y) B x y L ∧ jpP S1 t z1 kz B L x y SY ∧ oqP S1 z1 Ox.1 ∧ lo = [(0, .inr (.inr (some t))), (1, .inl (nI n))] ∧ st = [] ∧ cs = gwC (kz 40) (jpA B L x y).length + gqC (kz 47) (jpD B L x y).flatten.length ∧ sl = gwZ (kz 40) (jpA B L x y).length + gqZ (kz 47) (jpD B L x y).flatten.length
def T_rjp : TR := fun Rc Rs av S cs sl K _Kx => match av with
  | [.inr (.inr t_o), .inl n_v] => pa t_o fun t => (∃ (n : Nat), n_v = nI n ∧ (∃ (F : Nat → Nat × Nat) (z : Nat → Nat) (Y : Nat → Nat → Nat) (R : Rb) (kz : Nat → Nat) (r : Nat) (B : List Nat) (aC aZ bC bZ kC kZ : Nat), (MD S F t z Y R kz ∧ n < 4 ∧ GT (R.Q.G n) (R.Q.T n) ∧ rdP9 S t r B 3 (B.length - 4) ∧ 7 ≤ B.length ∧ r ≠ z 19 ∧ (∀ j, fits .byte (.int (eI S r j)) = true) ∧ mI S 1537 t = 0 ∧ kz 40 ≤ 16384 ∧ jpB B (R.Q.G n) (R.Q.T n) kz aC aZ bC bZ kC kZ) ∧ cs + (aC + bC + kC) ≤ Rc ∧ sl + (aZ + bZ + kZ) ≤ Rs ∧ (∀ (v : Int32) (S' : MM), (jpQ S S' F t z Y R kz n B v) → K (some (.inl v)) S' (cs + (aC + bC + kC)) (sl + (aZ + bZ + kZ)))))
  | _ => False
def sp_rjp (t : Nat) (n : Nat) (F : Nat → Nat × Nat) (z : Nat → Nat) (Y : Nat → Nat → Nat) (R : Rb) (kz : Nat → Nat) (r : Nat) (B : List Nat) (aC aZ bC bZ kC kZ : Nat) : Sp := (fun av S => av = [.inr (.inr (some t)), .inl (nI n)] ∧ (MD S F t z Y R kz ∧ n < 4 ∧ GT (R.Q.G n) (R.Q.T n) ∧ rdP9 S t r B 3 (B.length - 4) ∧ 7 ≤ B.length ∧ r ≠ z 19 ∧ (∀ j, fits .byte (.int (eI S r j)) = true) ∧ mI S 1537 t = 0 ∧ kz 40 ≤ 16384 ∧ jpB B (R.Q.G n) (R.Q.T n) kz aC aZ bC bZ kC kZ), fun _ S => aC + bC + kC, fun _ S => aZ + bZ + kZ, fun _ S rv S' => ∃ v, rv = (some (.inl v)) ∧ (jpQ S S' F t z Y R kz n B v), fun _ _ _ _ => False)
theorem rjp_no {t n : Nat} {F : Nat → Nat × Nat} {z : Nat → Nat} {Y : Nat → Nat → Nat} {R : Rb} {kz : Nat → Nat} {r : Nat} {B : List Nat} {aC aZ bC bZ kC kZ : Nat} {S S1 : MM} {F1 : Nat → Nat × Nat} {z1 : Nat → Nat} {kz1 : Nat → Nat} {f : Nat} (hGT : GT (R.Q.G n) (R.Q.T n)) (hM : MD S1 F1 t z1 Y R kz1) (hG : rG JD JF S S1 F F1 t z z1) (h37 : mI S1 1537 t = 0) (hF : jpF B kz kz1 f) {cs sl : Nat} (hc : cs ≤ aC + bC + kC) (hs : sl ≤ aZ + bZ + kZ) : ([] : List MV) = [] ∧ mret (some .int) (sp_rjp t n F z Y R kz r B aC aZ bC bZ kC kZ) [.inr (.inr (some t)), .inl (nI n)] S (some (.inl (nI f))) S1 cs sl := by
  have f8 : f < 8 := by rcases hF with h | h | h <;> (rw [h.1]; decide)
  exact ⟨rfl, trivial, ⟨nI f, rfl, f, F1, z1, Y, R.Q.G n, R.Q.T n, kz1, rfl, f8, Or.inl ⟨hF, rfl, rfl⟩, by rw [sG_id]; exact hM, hG.rh n, fun _ => rfl, hGT, Nat.le_refl _, by rw [Nat.sub_self]; exact h37⟩, hc, hs⟩
/-- a column more -/
theorem jp_col {t n r : Nat} {F : Nat → Nat × Nat} {z : Nat → Nat} {Y : Nat → Nat → Nat} {R : Rb} {kz : Nat → Nat} {B : List Nat} {S S1 S2 : MM} {j P m : Nat} {x y : Nat → Nat} (hM : MD S F t z Y R kz) (hBy : byN S r B) (hj : j < 5) (hCl : ClK B j x y) (hK : rK [38, 39] [1535] S S1 t z) (hR1 : rdP9 S1 t r B (clS y j) (B.length - 4)) (hX : ∀ i, i < j → eI S1 (z 38) i = nI (x i) ∧ eI S1 (z 39) i = nI (y i) ∧ x i ≤ y i ∧ y i ≤ B.length - 4) (k2 : rK [] [1535] S1 S2 t z) (es : spl B (B.length - 4) (clS y j) = some (P, P + m)) (hPm : P + m ≤ B.length - 4) : ∃ k1, k1 < 100 + (5 - j) ∧ I_jp1 t n r z B S k1 [(0, .inr (.inr (some t))), (1, .inl (nI n)), (2, .inl (nI j + 1))] [] (sI (rI (rI S2 (z 38) (upd (eI S2 (z 38)) j (nI P))) (z 39) (upd (eI (rI S2 (z 38) (upd (eI S2 (z 38)) j (nI P))) (z 39)) j (nI (P + m)))) 1535 t (nI (P + m))) 0 0 := by
  obtain ⟨x1, x2, x3, x4, x5, x6⟩ := hR1
  have M1 := hK.md hM (by decide) (by decide)
  have ne : z 38 ≠ z 39 := rK.nz hM (by decide) (by decide) (by decide)
  have q38 := (k2.row M1 (fun k hk => by cases hk) (j := 38) (by decide) (fun h => by cases h)).1
  have q39 := (k2.row M1 (fun k hk => by cases hk) (j := 39) (by decide) (fun h => by cases h)).1
  generalize e8 : rI (rI S2 (z 38) (upd (eI S2 (z 38)) j (nI P))) (z 39) (upd (eI (rI S2 (z 38) (upd (eI S2 (z 38)) j (nI P))) (z 39)) j (nI (P + m))) = S8
  have k8 : rK [38, 39] [] S2 S8 t z := by
    rw [← e8]
    exact ⟨Keep.rI (P := fun c => c = t ∨ ∃ k, k ∈ [38, 39] ∧ c = z k) (Keep.rI (P := fun c => c = t ∨ ∃ k, k ∈ [38, 39] ∧ c = z k) Keep.rf (Or.inr ⟨38, by decide, rfl⟩)) (Or.inr ⟨39, by decide, rfl⟩), fun _ _ => rfl, fun _ => rfl⟩
  have e38 : ∀ i, eI S8 (z 38) i = if i = j then nI P else eI S1 (z 38) i := fun i => by
    rw [← e8, eI_rI, if_neg ne, eI_rI, if_pos rfl, ← q38]; rfl
  have e39 : ∀ i, eI S8 (z 39) i = if i = j then nI (P + m) else eI S1 (z 39) i := fun i => by
    rw [← e8, eI_rI, if_pos rfl, ← q39, eI_rI, if_neg (show ¬ z 39 = z 38 from fun e => ne e.symm)]; rfl
  clear e8
  have k9 : rK [38, 39] [1535] S1 (sI S8 1535 t (nI (P + m))) t z := ((k2.mono (fun k hk => by cases hk) (by decide)).tr (k8.mono (by decide) (by decide))).tr ((rK.sf 1535 (nI (P + m))).mono (fun k hk => by cases hk) (by decide))
  have nz : ∀ k, k ∈ [38, 39] → r ≠ z k := fun k hk => by
    have : ∀ k, k ∈ [38, 39] → k ∈ mdL ∧ mdK k ≠ 16 := by decide
    exact hBy.nz hM (this k hk).1 (this k hk).2
  refine ⟨100 + (5 - (j + 1)), by omega, j + 1, upF x j P, upF y j (P + m), rfl, by omega, fun k hk => ?_, hK.tr k9, ⟨(k9.2.2 _).trans x1, k9.by M1 x2 nz, ?_, (k9.2.1 _ (by decide)).trans x4, ?_, x6⟩, fun i hi => ?_, by rw [nI_1], rfl, rfl, rfl⟩
  · by_cases c : k = j
    · subst c
      rw [upF_s, upF_s, show clS (upF y k (P + m)) k = clS y k from clS_cg (fun i hi => upF_o (by omega))]
      exact es
    · rw [upF_o c, upF_o c, show clS (upF y j (P + m)) k = clS y k from clS_cg (fun i hi => upF_o (by omega))]
      exact hCl k (by omega)
  · show mI (sI S8 1535 t (nI (P + m))) 1535 t = nI (upF y j (P + m) j)
    rw [upF_s, mI_sI, if_pos ⟨rfl, rfl⟩]
  · show upF y j (P + m) j ≤ _
    rw [upF_s]; exact hPm
  · show eI S8 (z 38) i = _ ∧ eI S8 (z 39) i = _ ∧ _
    rw [e38, e39]
    by_cases c : i = j
    · subst c
      rw [if_pos rfl, if_pos rfl, upF_s, upF_s]
      exact ⟨rfl, rfl, by omega, hPm⟩
    · rw [if_neg c, if_neg c, upF_o c, upF_o c]
      exact hX i (by omega)
def tX14_judgePatch : CD := [(0, .iconst 0), (1, .istore_n 2), (2, .iload_n 2), (3, .iconst 5), (4, .if_icmp .ge 71), (7, .aload_n 0), (8, .invokevirtual 431), (11, .lstore_n 3), (12, .lload_n 3), (13, .lconst 0), (14, .lcmp), (15, .ifCond .lt 18), (18, .lload_n 3), (19, .aload_n 0), (20, .getfield 401), (23, .aload_n 0), (24, .getfield 398), (27, .isub), (28, .i2l), (29, .lcmp), (30, .ifCond .le 5), (33, .iconst 2), (34, .ireturn), (35, .aload_n 0), (36, .getfield 97), (39, .iload_n 2), (40, .aload_n 0), (41, .getfield 398), (44, .iastore), (45, .aload_n 0), (46, .getfield 100), (49, .iload_n 2), (50, .aload_n 0), (51, .getfield 398), (54, .lload_n 3), (55, .l2i), (56, .iadd), (57, .iastore), (58, .aload_n 0), (59, .dup), (60, .getfield 398), (63, .lload_n 3), (64, .l2i), (65, .iadd), (66, .putfield 398), (69, .iinc 2 1), (72, .goto (-70)), (75, .aload_n 0), (76, .getfield 398), (79, .aload_n 0), (80, .getfield 401), (83, .if_icmp .ne 10), (86, .aload_n 0), (87, .invokevirtual 436), (90, .ifCond .ne 5), (93, .iconst 2), (94, .ireturn), (95, .aload_n 0), (96, .invokevirtual 440), (99, .ifCond .eq 18), (102, .aload_n 0), (103, .aload_n 0), (104, .getfield 57), (107, .aload_n 0), (108, .getfield 443), (111, .invokevirtual 166), (114, .ifCond .ne 5), (117, .iconst 3), (118, .ireturn), (119, .aload_n 0), (120, .invokevirtual 446), (123, .ifCond .eq 17), (126, .aload_n 0), (127, .invokevirtual 449), (130, .ifCond .eq 10), (133, .aload_n 0), (134, .invokevirtual 452), (137, .ifCond .ne 5), (140, .iconst 4), (141, .ireturn), (142, .aload_n 0), (143, .iload_n 1), (144, .invokevirtual 455), (147, .ireturn)]
set_option maxRecDepth 100000 in
theorem kX14_judgePatch : chk cX14_judgePatch tX14_judgePatch = true := by decide +kernel
theorem vX14_judgePatch_431 : ∀ w ∈ ([.methodLink RX14 431 yX14_number, .instanceMethod yX14_number, .selects yX14_number.cls yX14_number yX14_number, .initialized yX14_number.cls, .code yX14_number cX14_number 5 (some .long)] : List Cond), w ∈ lw_good := List.forall_mem_cons.mpr ⟨mgd 2346 (by decide +kernel) (by decide +kernel), List.forall_mem_cons.mpr ⟨mgd 2348 (by decide +kernel) (by decide +kernel), List.forall_mem_cons.mpr ⟨mgd 100 (by decide +kernel) (by decide +kernel), List.forall_mem_cons.mpr ⟨mgd 136 (by decide +kernel) (by decide +kernel), List.forall_mem_cons.mpr ⟨mgd 2349 (by decide +kernel) (by decide +kernel), fun _ h => absurd h List.not_mem_nil⟩⟩⟩⟩⟩
theorem vX14_judgePatch_436 : ∀ w ∈ ([.methodLink RX14 436 yX14_readAgents, .instanceMethod yX14_readAgents, .selects yX14_readAgents.cls yX14_readAgents yX14_readAgents, .initialized yX14_readAgents.cls, .code yX14_readAgents cX14_readAgents 6 (some .boolean)] : List Cond), w ∈ lw_good := List.forall_mem_cons.mpr ⟨mgd 2357 (by decide +kernel) (by decide +kernel), List.forall_mem_cons.mpr ⟨mgd 2359 (by decide +kernel) (by decide +kernel), List.forall_mem_cons.mpr ⟨mgd 102 (by decide +kernel) (by decide +kernel), List.forall_mem_cons.mpr ⟨mgd 136 (by decide +kernel) (by decide +kernel), List.forall_mem_cons.mpr ⟨mgd 2360 (by decide +kernel) (by decide +kernel), fun _ h => absurd h List.not_mem_nil⟩⟩⟩⟩⟩
theorem vX14_judgePatch_440 : ∀ w ∈ ([.methodLink RX14 440 yX14_unpack, .instanceMethod yX14_unpack, .selects yX14_unpack.cls yX14_unpack yX14_unpack, .initialized yX14_unpack.cls, .code yX14_unpack cX14_unpack 10 (some .boolean)] : List Cond), w ∈ lw_good := List.forall_mem_cons.mpr ⟨mgd 2366 (by decide +kernel) (by decide +kernel), List.forall_mem_cons.mpr ⟨mgd 2368 (by decide +kernel) (by decide +kernel), List.forall_mem_cons.mpr ⟨mgd 104 (by decide +kernel) (by decide +kernel), List.forall_mem_cons.mpr ⟨mgd 136 (by decide +kernel) (by decide +kernel), List.forall_mem_cons.mpr ⟨mgd 2369 (by decide +kernel) (by decide +kernel), fun _ h => absurd h List.not_mem_nil⟩⟩⟩⟩⟩
theorem vX14_judgePatch_166 : ∀ w ∈ ([.methodLink RX14 166 yX14_readText, .instanceMethod yX14_readText, .selects yX14_readText.cls yX14_readText yX14_readText, .initialized yX14_readText.cls, .code yX14_readText cX14_readText 8 (some .boolean)] : List Cond), w ∈ lw_good := List.forall_mem_cons.mpr ⟨mgd 1962 (by decide +kernel) (by decide +kernel), List.forall_mem_cons.mpr ⟨mgd 1964 (by decide +kernel) (by decide +kernel), List.forall_mem_cons.mpr ⟨mgd 54 (by decide +kernel) (by decide +kernel), List.forall_mem_cons.mpr ⟨mgd 136 (by decide +kernel) (by decide +kernel), List.forall_mem_cons.mpr ⟨mgd 1965 (by decide +kernel) (by decide +kernel), fun _ h => absurd h List.not_mem_nil⟩⟩⟩⟩⟩
theorem vX14_judgePatch_446 : ∀ w ∈ ([.methodLink RX14 446 yX14_readSpans, .instanceMethod yX14_readSpans, .selects yX14_readSpans.cls yX14_readSpans yX14_readSpans, .initialized yX14_readSpans.cls, .code yX14_readSpans cX14_readSpans 8 (some .boolean)] : List Cond), w ∈ lw_good := List.forall_mem_cons.mpr ⟨mgd 2372 (by decide +kernel) (by decide +kernel), List.forall_mem_cons.mpr ⟨mgd 2374 (by decide +kernel) (by decide +kernel), List.forall_mem_cons.mpr ⟨mgd 105 (by decide +kernel) (by decide +kernel), List.forall_mem_cons.mpr ⟨mgd 136 (by decide +kernel) (by decide +kernel), List.forall_mem_cons.mpr ⟨mgd 2375 (by decide +kernel) (by decide +kernel), fun _ h => absurd h List.not_mem_nil⟩⟩⟩⟩⟩
theorem vX14_judgePatch_449 : ∀ w ∈ ([.methodLink RX14 449 yX14_readParents, .instanceMethod yX14_readParents, .selects yX14_readParents.cls yX14_readParents yX14_readParents, .initialized yX14_readParents.cls, .code yX14_readParents cX14_readParents 9 (some .boolean)] : List Cond), w ∈ lw_good := List.forall_mem_cons.mpr ⟨mgd 2393 (by decide +kernel) (by decide +kernel), List.forall_mem_cons.mpr ⟨mgd 2395 (by decide +kernel) (by decide +kernel), List.forall_mem_cons.mpr ⟨mgd 108 (by decide +kernel) (by decide +kernel), List.forall_mem_cons.mpr ⟨mgd 136 (by decide +kernel) (by decide +kernel), List.forall_mem_cons.mpr ⟨mgd 2396 (by decide +kernel) (by decide +kernel), fun _ h => absurd h List.not_mem_nil⟩⟩⟩⟩⟩
theorem vX14_judgePatch_452 : ∀ w ∈ ([.methodLink RX14 452 yX14_readOps, .instanceMethod yX14_readOps, .selects yX14_readOps.cls yX14_readOps yX14_readOps, .initialized yX14_readOps.cls, .code yX14_readOps cX14_readOps 12 (some .boolean)] : List Cond), w ∈ lw_good := List.forall_mem_cons.mpr ⟨mgd 2401 (by decide +kernel) (by decide +kernel), List.forall_mem_cons.mpr ⟨mgd 2403 (by decide +kernel) (by decide +kernel), List.forall_mem_cons.mpr ⟨mgd 110 (by decide +kernel) (by decide +kernel), List.forall_mem_cons.mpr ⟨mgd 136 (by decide +kernel) (by decide +kernel), List.forall_mem_cons.mpr ⟨mgd 2404 (by decide +kernel) (by decide +kernel), fun _ h => absurd h List.not_mem_nil⟩⟩⟩⟩⟩
theorem vX14_judgePatch_455 : ∀ w ∈ ([.methodLink RX14 455 yX14_come, .instanceMethod yX14_come, .selects yX14_come.cls yX14_come yX14_come, .initialized yX14_come.cls, .code yX14_come cX14_come 12 (some .int)] : List Cond), w ∈ lw_good := List.forall_mem_cons.mpr ⟨mgd 2405 (by decide +kernel) (by decide +kernel), List.forall_mem_cons.mpr ⟨mgd 2407 (by decide +kernel) (by decide +kernel), List.forall_mem_cons.mpr ⟨mgd 111 (by decide +kernel) (by decide +kernel), List.forall_mem_cons.mpr ⟨mgd 136 (by decide +kernel) (by decide +kernel), List.forall_mem_cons.mpr ⟨mgd 2408 (by decide +kernel) (by decide +kernel), fun _ h => absurd h List.not_mem_nil⟩⟩⟩⟩⟩
set_option maxRecDepth 100000 in
set_option maxHeartbeats 2000000 in
theorem c_rjp (l : Launch) : ∀ (t : Nat) (n : Nat) (F : Nat → Nat × Nat) (z : Nat → Nat) (Y : Nat → Nat → Nat) (R : Rb) (kz : Nat → Nat) (r : Nat) (B : List Nat) (aC aZ bC bZ kC kZ : Nat), Ct l yX14_judgePatch cX14_judgePatch 5 (some .int) 6 166 (sp_rjp t n F z Y R kz r B aC aZ bC bZ kC kZ) := by
  intro t n F z Y R kz r B aC aZ bC bZ kC kZ
  refine Ct.of (fX14, nX14, aX14, iX14, lX14, [(431, 0, 1, 2, T_rnum), (436, 0, 1, 1, T_rra), (440, 0, 1, 1, T_rup), (166, 0, 3, 1, T_rrt), (446, 0, 1, 1, T_rrs), (449, 0, 1, 1, T_rrpa), (452, 0, 1, 1, T_rrop), (455, 0, 2, 1, T_rcm)], qX14, gX14, []) false tX14_judgePatch (fun _ S => look [(2, ([0,1,2], I_jp1 t n r z B S)), (95, ([0,1], I_jp2 t n r F z Y R kz B S)), (119, ([0,1], I_jp3 t n r F z Y R kz B S)), (126, ([0,1], I_jp4 t n r F z Y R kz B S)), (133, ([0,1], I_jp5 t n r F z Y R kz B S)), (142, ([0,1], I_jp6 t n r F z Y R kz B S))]) (by decide) (by decide) kX14_judgePatch ⟨_, _, rfl⟩ fX14_ok nX14_ok aX14_ok iX14_ok lX14_ok (fun p e R s m args below meth c Q D cy z r A C hR1 hR2 => List.forall_mem_cons.mpr ⟨cOK_use (fun _ _ _ _ _ _ _ _ h => let ⟨sp, h1, h2, h3⟩ := u_rnum l _ _ _ _ _ _ _ _ h; ⟨sp, cOK_V C h1 vX14_judgePatch_431 ⟨by decide, by decide, by decide +kernel⟩ ⟨by rw [hR1]; decide, by rw [hR2]; decide⟩ (k := 15) (T := TX14) (N := 52) rfl (by decide) h2, h3⟩), List.forall_mem_cons.mpr ⟨cOK_use (fun _ _ _ _ _ _ _ _ h => let ⟨sp, h1, h2, h3⟩ := u_rra l _ _ _ _ _ _ _ _ h; ⟨sp, cOK_V C h1 vX14_judgePatch_436 ⟨by decide, by decide, by decide +kernel⟩ ⟨by rw [hR1]; decide, by rw [hR2]; decide⟩ (k := 15) (T := TX14) (N := 52) rfl (by decide) h2, h3⟩), List.forall_mem_cons.mpr ⟨cOK_use (fun _ _ _ _ _ _ _ _ h => let ⟨sp, h1, h2, h3⟩ := u_rup l _ _ _ _ _ _ _ _ h; ⟨sp, cOK_V C h1 vX14_judgePatch_440 ⟨by decide, by decide, by decide +kernel⟩ ⟨by rw [hR1]; decide, by rw [hR2]; decide⟩ (k := 15) (T := TX14) (N := 52) rfl (by decide) h2, h3⟩), List.forall_mem_cons.mpr ⟨cOK_use (fun _ _ _ _ _ _ _ _ h => let ⟨sp, h1, h2, h3⟩ := u_rrt l _ _ _ _ _ _ _ _ h; ⟨sp, cOK_V C h1 vX14_judgePatch_166 ⟨by decide, by decide, by decide +kernel⟩ ⟨by rw [hR1]; decide, by rw [hR2]; decide⟩ (k := 15) (T := TX14) (N := 52) rfl (by decide) h2, h3⟩), List.forall_mem_cons.mpr ⟨cOK_use (fun _ _ _ _ _ _ _ _ h => let ⟨sp, h1, h2, h3⟩ := u_rrs l _ _ _ _ _ _ _ _ h; ⟨sp, cOK_V C h1 vX14_judgePatch_446 ⟨by decide, by decide, by decide +kernel⟩ ⟨by rw [hR1]; decide, by rw [hR2]; decide⟩ (k := 15) (T := TX14) (N := 52) rfl (by decide) h2, h3⟩), List.forall_mem_cons.mpr ⟨cOK_use (fun _ _ _ _ _ _ _ _ h => let ⟨sp, h1, h2, h3⟩ := u_rrpa l _ _ _ _ _ _ _ _ h; ⟨sp, cOK_V C h1 vX14_judgePatch_449 ⟨by decide, by decide, by decide +kernel⟩ ⟨by rw [hR1]; decide, by rw [hR2]; decide⟩ (k := 15) (T := TX14) (N := 52) rfl (by decide) h2, h3⟩), List.forall_mem_cons.mpr ⟨cOK_use (fun _ _ _ _ _ _ _ _ h => let ⟨sp, h1, h2, h3⟩ := u_rrop l _ _ _ _ _ _ _ _ h; ⟨sp, cOK_V C h1 vX14_judgePatch_452 ⟨by decide, by decide, by decide +kernel⟩ ⟨by rw [hR1]; decide, by rw [hR2]; decide⟩ (k := 15) (T := TX14) (N := 52) rfl (by decide) h2, h3⟩), List.forall_mem_cons.mpr ⟨cOK_use (fun _ _ _ _ _ _ _ _ h => let ⟨sp, h1, h2, h3⟩ := u_rcm l _ _ _ _ _ _ _ _ h; ⟨sp, cOK_V C h1 vX14_judgePatch_455 ⟨by decide, by decide, by decide +kernel⟩ ⟨by rw [hR1]; decide, by rw [hR2]; decide⟩ (k := 15) (T := TX14) (N := 52) rfl (by decide) h2, h3⟩), fun _ h => absurd h List.not_mem_nil⟩⟩⟩⟩⟩⟩⟩⟩) qX14_ok gX14_ok rfl ?_ ?_
  · rintro _ S ⟨rfl, hp⟩
    refine ⟨Nat.le_of_ble_eq_true rfl, 300, ?_⟩
    show (∃ k1, I_jp1 t n r z B S k1 [(0, .inr (.inr (some t))), (1, .inl (nI n)), (2, .inl (0 : Int32))] [] S 0 0)
    obtain ⟨hM, hn, hGT, hR, h7, h19, hfi, h37, hk40, hb⟩ := hp
    exact ⟨105, 0, fun _ => 0, fun _ => 0, rfl, Nat.zero_le _, fun k hk => absurd hk (Nat.not_lt_zero k), rK.rf, hR, fun i hi => absurd hi (Nat.not_lt_zero i), rfl, rfl, rfl, rfl⟩
  · intro av S hpre pc I hI k lo st S1 cs sl h
    obtain ⟨rfl, hp⟩ := hpre
    have hm := look_in hI
    simp only [List.mem_cons, List.not_mem_nil, or_false] at hm
    rcases hm with hm | hm | hm | hm | hm | hm
    · cases hm
      obtain ⟨j, x, y, rfl, hj, hCl, hK, hR1, hX, rfl, rfl, rfl, rfl⟩ := h
      refine ⟨300, ?_⟩
      show (((5 : Int32) ≤ (nI j) → (isO S1 15 t ∧ (isO S1 15 t ∧ ((¬ (mI S1 1535 t) = (mI S1 1536 t) → (([] : List MV) = [] ∧ mret (some .int) (sp_rjp t n F z Y R kz r B aC aZ bC bZ kC kZ) [.inr (.inr (some t)), .inl (nI n)] S (some (.inl (2 : Int32))) S1 0 0)) ∧ ((mI S1 1535 t) = (mI S1 1536 t) → (0 = 0 ∧ (∃ (F_1 : Nat → Nat × Nat) (z_2 : Nat → Nat) (Y_3 : Nat → Nat → Nat) (R_4 : Rb) (kz_5 : Nat → Nat) (r_6 : Nat) (B_7 : List Nat) (cA_8 cE_9 : Nat → Nat), (MD S1 F_1 t z_2 Y_3 R_4 kz_5 ∧ rdC S1 t r_6 z_2 B_7 cA_8 cE_9) ∧ 0 ≤ aC + bC + kC ∧ 0 ≤ aZ + bZ + kZ ∧ (∀ (S_10 : MM), (rK [31] rfs S1 S_10 t z_2 ∧ ∀ L, rdA B_7 (cA_8 0) (cE_9 0) = some L → lsP S_10 t z_2 L) → ((¬ (bI (rdA B_7 (cA_8 0) (cE_9 0)).isSome) = 0 → (∃ k1, k1 < 100 + (5 - j) ∧ I_jp2 t n r F z Y R kz B S k1 [(0, .inr (.inr (some t))), (1, .inl (nI n))] [] S_10 0 0)) ∧ ((bI (rdA B_7 (cA_8 0) (cE_9 0)).isSome) = 0 → (([] : List MV) = [] ∧ mret (some .int) (sp_rjp t n F z Y R kz r B aC aZ bC bZ kC kZ) [.inr (.inr (some t)), .inl (nI n)] S (some (.inl (2 : Int32))) S_10 0 0))))))))))) ∧ (¬ (5 : Int32) ≤ (nI j) → (0 = 0 ∧ (∃ (F_11 : Nat → Nat × Nat) (z_12 : Nat → Nat) (Y_13 : Nat → Nat → Nat) (R_14 : Rb) (kz_15 : Nat → Nat) (r_16 : Nat) (B_17 : List Nat) (p_18 q_19 : Nat), (MD S1 F_11 t z_12 Y_13 R_14 kz_15 ∧ rdP9 S1 t r_16 B_17 p_18 q_19) ∧ 0 ≤ aC + bC + kC ∧ 0 ≤ aZ + bZ + kZ ∧ (∀ (S_20 : MM), (nuQ S1 S_20 t B_17 p_18 q_19) → (((lg_cmp (oJ (vint B_17 q_19 p_18).1) (0 : Int64)) < 0 → (([] : List MV) = [] ∧ mret (some .int) (sp_rjp t n F z Y R kz r B aC aZ bC bZ kC kZ) [.inr (.inr (some t)), .inl (nI n)] S (some (.inl (2 : Int32))) S_20 0 0)) ∧ (¬ (lg_cmp (oJ (vint B_17 q_19 p_18).1) (0 : Int64)) < 0 → (isO S_20 15 t ∧ (isO S_20 15 t ∧ (((lg_cmp (oJ (vint B_17 q_19 p_18).1) (((mI S_20 1536 t) - (mI S_20 1535 t)).toInt64)) ≤ 0 → (isO S_20 15 t ∧ (isO S_20 15 t ∧ (pa (mR S_20 1538 t) fun a_21 => isO S_20 17 a_21 ∧ inR S_20 a_21 (nI j) ∧ (isO (rI S_20 a_21 (upd (eI S_20 a_21) (nI j).toNatClampNeg (mI S_20 1535 t))) 15 t ∧ (isO (rI S_20 a_21 (upd (eI S_20 a_21) (nI j).toNatClampNeg (mI S_20 1535 t))) 15 t ∧ (pa (mR (rI S_20 a_21 (upd (eI S_20 a_21) (nI j).toNatClampNeg (mI S_20 1535 t))) 1539 t) fun a_22 => isO (rI S_20 a_21 (upd (eI S_20 a_21) (nI j).toNatClampNeg (mI S_20 1535 t))) 17 a_22 ∧ inR (rI S_20 a_21 (upd (eI S_20 a_21) (nI j).toNatClampNeg (mI S_20 1535 t))) a_22 (nI j) ∧ (isO (rI (rI S_20 a_21 (upd (eI S_20 a_21) (nI j).toNatClampNeg (mI S_20 1535 t))) a_22 (upd (eI (rI S_20 a_21 (upd (eI S_20 a_21) (nI j).toNatClampNeg (mI S_20 1535 t))) a_22) (nI j).toNatClampNeg ((mI (rI S_20 a_21 (upd (eI S_20 a_21) (nI j).toNatClampNeg (mI S_20 1535 t))) 1535 t) + ((oJ (vint B_17 q_19 p_18).1).toInt32)))) 15 t ∧ (True ∧ (isO (rI (rI S_20 a_21 (upd (eI S_20 a_21) (nI j).toNatClampNeg (mI S_20 1535 t))) a_22 (upd (eI (rI S_20 a_21 (upd (eI S_20 a_21) (nI j).toNatClampNeg (mI S_20 1535 t))) a_22) (nI j).toNatClampNeg ((mI (rI S_20 a_21 (upd (eI S_20 a_21) (nI j).toNatClampNeg (mI S_20 1535 t))) 1535 t) + ((oJ (vint B_17 q_19 p_18).1).toInt32)))) 15 t ∧ (∃ k1, k1 < 100 + (5 - j) ∧ I_jp1 t n r z B S k1 [(0, .inr (.inr (some t))), (1, .inl (nI n)), (2, .inl ((nI j) + (1 : Int32)))] [] (sI (rI (rI S_20 a_21 (upd (eI S_20 a_21) (nI j).toNatClampNeg (mI S_20 1535 t))) a_22 (upd (eI (rI S_20 a_21 (upd (eI S_20 a_21) (nI j).toNatClampNeg (mI S_20 1535 t))) a_22) (nI j).toNatClampNeg ((mI (rI S_20 a_21 (upd (eI S_20 a_21) (nI j).toNatClampNeg (mI S_20 1535 t))) 1535 t) + ((oJ (vint B_17 q_19 p_18).1).toInt32)))) 1535 t ((mI (rI (rI S_20 a_21 (upd (eI S_20 a_21) (nI j).toNatClampNeg (mI S_20 1535 t))) a_22 (upd (eI (rI S_20 a_21 (upd (eI S_20 a_21) (nI j).toNatClampNeg (mI S_20 1535 t))) a_22) (nI j).toNatClampNeg ((mI (rI S_20 a_21 (upd (eI S_20 a_21) (nI j).toNatClampNeg (mI S_20 1535 t))) 1535 t) + ((oJ (vint B_17 q_19 p_18).1).toInt32)))) 1535 t) + ((oJ (vint B_17 q_19 p_18).1).toInt32))) 0 0))))))))))) ∧ (¬ (lg_cmp (oJ (vint B_17 q_19 p_18).1) (((mI S_20 1536 t) - (mI S_20 1535 t)).toInt64)) ≤ 0 → (([] : List MV) = [] ∧ mret (some .int) (sp_rjp t n F z Y R kz r B aC aZ bC bZ kC kZ) [.inr (.inr (some t)), .inl (nI n)] S (some (.inl (2 : Int32))) S_20 0 0))))))))))))
      obtain ⟨hM, hn, hGT, hR, h7, h19, hfi, h37, hk40, hb⟩ := hp
      obtain ⟨x1, x2, x3, x4, x5, x6⟩ := id hR1
      have M1 := hK.md hM (by decide) (by decide)
      have hB8 : B.length ≤ 32768 := x2.2.2.1
      have z0 : (0 : Nat) ≤ aC + bC + kC := Nat.zero_le _
      have z0' : (0 : Nat) ≤ aZ + bZ + kZ := Nat.zero_le _
      have bad2 : ∀ {S2}, rK [38, 39, 31] [1535, 1536, 1532] S S2 t z → (∀ x y, Cols B x y → rdA B (x 0) (y 0) = none) → (([] : List MV) = [] ∧ mret (some .int) (sp_rjp t n F z Y R kz r B aC aZ bC bZ kC kZ) [.inr (.inr (some t)), .inl (nI n)] S (some (.inl (2 : Int32))) S2 0 0) := fun {S2} h e => rjp_no (f := 2) hGT (h.md hM (by decide) (by decide)) (h.rg.mono (by decide) (by decide)) ((h.2.1 _ (by decide)).trans h37) (Or.inl ⟨rfl, e, rfl⟩) z0 z0'
      have hK3 : rK [38, 39, 31] [1535, 1536, 1532] S S1 t z := hK.mono (by decide) (by decide)
      refine if_le (a := 5) (by decide) (by omega) (fun w => ?_) (fun w => ?_)
      · have j5 : j = 5 := by omega
        subst j5
        rw [x3, x4]
        refine ⟨(M1 0).1, (M1 0).1, if_ne (by omega) (by omega) (fun w2 => bad2 hK3 (fun x' y' hc => ?_)) (fun w2 => ?_)⟩
        · exfalso
          have u := ClK.uniq hCl hc.1 4 (by decide)
          exact w2 (by show y 4 = _; rw [u.2]; exact hc.2)
        · have hCo : Cols B x y := ⟨hCl, w2⟩
          have hrd : rdC S1 t r z B x y := ⟨x1, x2, fun k hk => ⟨(hX k hk).1, (hX k hk).2.1⟩, fun k hk => ⟨(hX k hk).2.2.1, by have := (hX k hk).2.2.2; omega⟩⟩
          refine ⟨rfl, F, z, Y, R, kz, r, B, x, y, ⟨M1, hrd⟩, z0, z0', fun S10 hq => ?_⟩
          obtain ⟨k10, hL⟩ := hq
          have K10 : rK [38, 39, 31] [1535, 1536, 1532] S S10 t z := hK3.tr (k10.mono (by decide) (by decide))
          have M10 := K10.md hM (by decide) (by decide)
          cases hA : rdA B (x 0) (y 0) with
          | none =>
            refine ⟨fun q => absurd rfl q, fun _ => bad2 K10 (fun x' y' hc => ?_)⟩
            have u := ClK.uniq hCl hc.1 0 (by decide)
            rw [← u.1, ← u.2]; exact hA
          | some L =>
            have nt : r ≠ t := fun e => by
              have a1 := x2.1.2
              rw [e, (M1 0).1.2] at a1
              exact absurd a1 (by decide)
            have nz : ∀ k, k ∈ [38, 39, 31] → r ≠ z k := fun k hk => by
              have : ∀ k, k ∈ [38, 39, 31] → k ∈ mdL ∧ mdK k ≠ 16 := by decide
              exact hR.2.1.nz hM (this k hk).1 (this k hk).2
            have er : eI S10 r = eI S r := (K10.1.2.1 r hR.2.1.1.1 (fun q => by
              rcases q with e | ⟨k, k1, e⟩
              · exact nt e
              · exact nz k k1 e)).2.2.2.1
            refine ⟨fun _ => ⟨90, by omega, x, y, L, rfl, hCo, hA, ⟨M10, K10.rg.mono (by decide) (by decide), ⟨(k10.2.2 _).trans x1, k10.by M1 x2 (fun k hk => by rw [List.mem_singleton.1 hk]; exact nz 31 (by decide)), k10.co M1 (by decide) (by decide) (by decide) hrd.2.2.1, hrd.2.2.2⟩, hL L hA, (K10.2.1 _ (by decide)).trans h37, fun j => by rw [er]; exact hfi j, h19⟩, rfl, rfl, rfl, rfl⟩, fun q => absurd q (show ¬ (1 : Int32) = 0 by decide)⟩
      · refine ⟨rfl, F, z, Y, R, kz, r, B, clS y j, B.length - 4, ⟨M1, hR1⟩, z0, z0', fun S20 hq => ?_⟩
        obtain ⟨p', a1, a2, e20, a4⟩ := hq
        have kp : rK [] [1535] S1 S20 t z := by rw [e20]; exact rK.sf 1535 (nI p')
        have e36 : mI S20 1536 t = nI (B.length - 4) := (kp.2.1 _ (by decide)).trans x4
        have e35 : mI S20 1535 t = nI p' := by rw [e20, mI_sI, if_pos ⟨rfl, rfl⟩]
        clear e20
        have K20 : rK [38, 39, 31] [1535, 1536, 1532] S S20 t z := hK3.tr (kp.mono (fun k hk => by cases hk) (by decide))
        have no : spl B (B.length - 4) (clS y j) = none → ∀ x' y', Cols B x' y' → rdA B (x' 0) (y' 0) = none := fun e x' y' hc => by
          exfalso
          have h1 := hc.1 j (by omega)
          have : clS y' j = clS y j := clS_cg (fun i hi => by
            have := ClK.uniq (n := j) (fun k hk => hc.1 k (by omega)) hCl i hi
            exact this.2)
          rw [this, e] at h1; cases h1
        have M20 := K20.md hM (by decide) (by decide)
        cases hv : (vint B (B.length - 4) (clS y j)).1 with
        | none =>
          refine ⟨fun _ => bad2 K20 (no ?_), fun q => absurd (by decide) q⟩
          unfold spl; rw [hv]
        | some m =>
          have hlt := vint_lt x2.2.2.2.1 hv
          have hgt := vint_gt hv
          have ep := a4 m hv
          have hn0 : ¬ lg_cmp (oJ (some m)) 0 < 0 := fun q => by
            have := (oJ_lt (o := some m) (fun m e => by cases e; exact hlt)).1 q
            cases this
          have hle : lg_cmp (oJ (some m)) (lN (B.length - 4 - p')) ≤ 0 ↔ m ≤ B.length - 4 - p' := lgk (by omega) (by omega)
          have e32 : (oJ (some m)).toInt32 = nI m := lN_32 hlt
          have cj : (nI j).toNatClampNeg = j := nI_clamp (by omega)
          have esl : spl B (B.length - 4) (clS y j) = if m ≤ B.length - 4 - p' then some (p', p' + m) else none := by
            unfold spl; rw [hv, ep]
          refine ⟨fun q => absurd q hn0, fun _ => ⟨(M20 0).1, (M20 0).1, ?_⟩⟩
          have r38 := M20 1 38 (by decide)
          have r39 := M20 1 39 (by decide)
          have d0 : mI S20 1536 t - mI S20 1535 t = nI (B.length - 4 - p') := by rw [e36, e35, pk_sub a2]
          rw [d0, nI_l (by omega)]
          refine ⟨fun q => ?_, fun q => bad2 K20 (no (by rw [esl, if_neg (fun e => q (hle.2 e))]))⟩
          have q := hle.1 q
          have key := jp_col (n := n) hM hR.2.1 w hCl hK hR1 hX kp (esl.trans (if_pos q)) (by omega)
          refine ⟨(M20 0).1, (M20 0).1, pa_i r38.1 ⟨r38.2.2.1, inRn (N := 5) r38.2.2.2 (by omega) (by decide), (M20 0).1, (M20 0).1, pa_i r39.1 ⟨r39.2.2.1, inRn (N := 5) (S := S20) r39.2.2.2 (by omega) (by decide), (M20 0).1, trivial, (M20 0).1, ?_⟩⟩⟩
          simp only [mI_rI]
          rw [e35, e32, nI_add, cj]
          exact key
    · cases hm
      obtain ⟨x, y, L, rfl, hCo, hA, hV, rfl, rfl, rfl, rfl⟩ := h
      refine ⟨300, ?_⟩
      show (0 = 0 ∧ (∃ (F_1 : Nat → Nat × Nat) (z_2 : Nat → Nat) (Y_3 : Nat → Nat → Nat) (R_4 : Rb) (kz_5 : Nat → Nat) (r_6 : Nat) (B_7 : List Nat) (cA_8 cE_9 : Nat → Nat), (MD S1 F_1 t z_2 Y_3 R_4 kz_5 ∧ rdC S1 t r_6 z_2 B_7 cA_8 cE_9 ∧ r_6 ≠ z_2 19 ∧ (∀ j, fits .byte (.int (eI S1 r_6 j)) = true)) ∧ 0 ≤ aC + bC + kC ∧ 0 ≤ aZ + bZ + kZ ∧ (∀ (S_10 : MM), (rK [19] ufs S1 S_10 t z_2 ∧ ((upk B_7 (cE_9 4) (cA_8 4)).1 = true → pnP S_10 t z_2 (upk B_7 (cE_9 4) (cA_8 4)).2.1)) → (((bI (upk B_7 (cE_9 4) (cA_8 4)).1) = 0 → (([] : List MV) = [] ∧ mret (some .int) (sp_rjp t n F z Y R kz r B aC aZ bC bZ kC kZ) [.inr (.inr (some t)), .inl (nI n)] S (some (.inl (3 : Int32))) S_10 0 0)) ∧ (¬ (bI (upk B_7 (cE_9 4) (cA_8 4)).1) = 0 → (isO S_10 15 t ∧ (isO S_10 15 t ∧ (0 = 0 ∧ ((pa (mR S_10 1519 t) fun a_11 => (∃ (n_12 : Nat), mI S_10 1520 t = nI n_12 ∧ (∃ (F_13 : Nat → Nat × Nat) (z_14 : Nat → Nat) (Y_15 : Nat → Nat → Nat) (R_16 : Rb) (kz_17 : Nat → Nat) (B_18 : List Nat), (MD S_10 F_13 t z_14 Y_15 R_16 kz_17 ∧ byN S_10 a_11 B_18 ∧ B_18.length = n_12) ∧ 0 ≤ aC + bC + kC ∧ 0 ≤ aZ + bZ + kZ ∧ (∀ (S_19 : MM), (txQ S_10 S_19 F_13 t z_14 Y_15 R_16 kz_17 ∧ ∀ L, syms B_18 = some L → txP S_19 t z_14 L) → ((¬ (bI (syms B_18).isSome) = 0 → (∃ k1, k1 < 90 ∧ I_jp3 t n r F z Y R kz B S k1 [(0, .inr (.inr (some t))), (1, .inl (nI n))] [] S_19 0 0)) ∧ ((bI (syms B_18).isSome) = 0 → (([] : List MV) = [] ∧ mret (some .int) (sp_rjp t n F z Y R kz r B aC aZ bC bZ kC kZ) [.inr (.inr (some t)), .inl (nI n)] S (some (.inl (3 : Int32))) S_19 0 0))))))))))))))))
      obtain ⟨hM, hn, hGT, hR, h7, h19, hfi, h37, hk40, hb⟩ := hp
      obtain ⟨M1, hG, hrd, hL, h37', hfi', h19'⟩ := id hV
      have z0 : (0 : Nat) ≤ aC + bC + kC := Nat.zero_le _
      have z0' : (0 : Nat) ≤ aZ + bZ + kZ := Nat.zero_le _
      refine ⟨rfl, F, z, Y, R, kz, r, B, x, y, ⟨M1, hrd, h19', hfi'⟩, z0, z0', fun S10 hq => ?_⟩
      obtain ⟨k10, hP⟩ := hq
      have M10 := k10.md M1 (by decide) (by decide)
      have V10 := hV.st k10.rg M10 (by decide) (by decide)
      have bad3 : ∀ {S2}, jpI S S2 F F t r z z Y R kz B x y L → ((upk B (y 4) (x 4)).1 = false ∨ syms (upk B (y 4) (x 4)).2.1 = none) → (([] : List MV) = [] ∧ mret (some .int) (sp_rjp t n F z Y R kz r B aC aZ bC bZ kC kZ) [.inr (.inr (some t)), .inl (nI n)] S (some (.inl (3 : Int32))) S2 0 0) := fun {S2} h e => rjp_no (f := 3) hGT h.1 h.2.1 h.2.2.2.2.1 (Or.inr (Or.inl ⟨rfl, ⟨x, y, L, hCo, hA, e⟩, rfl⟩)) z0 z0'
      cases hu : (upk B (y 4) (x 4)).1 with
      | false => exact ⟨fun _ => bad3 V10 (Or.inl hu), fun q => absurd rfl q⟩
      | true =>
        obtain ⟨p1, p2, p3, p4⟩ := hP hu
        have r19 := M10 1 19 (by decide)
        have n19 : mN S10 (z 19) = 32768 := r19.2.2.2
        refine ⟨fun q => absurd q (by decide), fun _ => ⟨(M10 0).1, (M10 0).1, rfl, pa_i r19.1 ⟨_, p1, F, z, Y, R, kz, (upk B (y 4) (x 4)).2.1, ⟨M10, ⟨r19.2.2.1, by rw [n19]; exact p2, p2, p3, p4⟩, rfl⟩, z0, z0', fun S19 hq => ?_⟩⟩⟩
        obtain ⟨⟨t1, t2, t3, t4⟩, t5⟩ := hq
        have k19 : rK [17] [1518] S10 S19 t z := ⟨t2.mono (fun b _ q => by
          rcases q with e | e
          · exact Or.inl e
          · exact Or.inr ⟨17, by decide, e⟩), fun f hf => t3 f (fun e => hf (List.mem_singleton.2 e)), t4⟩
        have V19 := V10.st k19.rg t1 (by decide) (by decide)
        cases hs : syms (upk B (y 4) (x 4)).2.1 with
        | none => exact ⟨fun q => absurd rfl q, fun _ => bad3 V19 (Or.inr hs)⟩
        | some SY => exact ⟨fun _ => ⟨80, by decide, x, y, L, SY, rfl, ⟨hCo, hA, hu, hs⟩, V19, t5 SY hs, rfl, rfl, rfl, rfl⟩, fun q => absurd q (show ¬ (1 : Int32) = 0 by decide)⟩
    · cases hm
      obtain ⟨x, y, L, SY, rfl, hT, hV, hTx, rfl, rfl, rfl, rfl⟩ := h
      refine ⟨300, ?_⟩
      show (0 = 0 ∧ (∃ (F_1 : Nat → Nat × Nat) (z_2 : Nat → Nat) (Y_3 : Nat → Nat → Nat) (R_4 : Rb) (kz_5 : Nat → Nat) (r_6 : Nat) (B_7 L_8 : List Nat) (cA_9 cE_10 : Nat → Nat), (MD S1 F_1 t z_2 Y_3 R_4 kz_5 ∧ rdC S1 t r_6 z_2 B_7 cA_9 cE_10 ∧ lsP S1 t z_2 L_8 ∧ kz_5 40 ≤ 16384) ∧ 0 + (gwC (kz_5 40) (nsp B_7 L_8 cA_9 cE_10).2.length) ≤ aC + bC + kC ∧ 0 + (gwZ (kz_5 40) (nsp B_7 L_8 cA_9 cE_10).2.length) ≤ aZ + bZ + kZ ∧ (∀ (S_11 : MM), (∃ F' z', MD S_11 F' t z' Y_3 R_4 (gz kz_5 (nsp B_7 L_8 cA_9 cE_10).2.length) ∧ rG gsL sfs S1 S_11 F_1 F' t z_2 z' ∧ spP S_11 t z' (gz kz_5 (nsp B_7 L_8 cA_9 cE_10).2.length) (nsp B_7 L_8 cA_9 cE_10).2 ∧ lsP S_11 t z' L_8) → (((bI (nsp B_7 L_8 cA_9 cE_10).1) = 0 → (([] : List MV) = [] ∧ mret (some .int) (sp_rjp t n F z Y R kz r B aC aZ bC bZ kC kZ) [.inr (.inr (some t)), .inl (nI n)] S (some (.inl (4 : Int32))) S_11 (0 + (gwC (kz_5 40) (nsp B_7 L_8 cA_9 cE_10).2.length)) (0 + (gwZ (kz_5 40) (nsp B_7 L_8 cA_9 cE_10).2.length)))) ∧ (¬ (bI (nsp B_7 L_8 cA_9 cE_10).1) = 0 → (∃ k1, k1 < 80 ∧ I_jp4 t n r F z Y R kz B S k1 [(0, .inr (.inr (some t))), (1, .inl (nI n))] [] S_11 (0 + (gwC (kz_5 40) (nsp B_7 L_8 cA_9 cE_10).2.length)) (0 + (gwZ (kz_5 40) (nsp B_7 L_8 cA_9 cE_10).2.length))))))))
      obtain ⟨hM, hn, hGT, hR, h7, h19, hfi, h37, hk40, hb⟩ := hp
      obtain ⟨M1, hG, hrd, hL, h37', hfi', h19'⟩ := id hV
      obtain ⟨b1, b2, b3, b4⟩ := hb x y L SY hT
      have b1 : gwC (kz 40) (nsp B L x y).2.length ≤ aC := b1
      have b2 : gwZ (kz 40) (nsp B L x y).2.length ≤ aZ := b2
      refine ⟨rfl, F, z, Y, R, kz, r, B, L, x, y, ⟨M1, hrd, hL, hk40⟩, by omega, by omega, fun S11 hq => ?_⟩
      obtain ⟨F2, z2, M2, g2, hsp, hL2⟩ := hq
      have V2 := hV.st g2 M2 (by decide) (by decide)
      rw [Nat.zero_add, Nat.zero_add]
      cases hs : (nsp B L x y).1 with
      | false => exact ⟨fun _ => rjp_no (f := 4) hGT V2.1 V2.2.1 V2.2.2.2.2.1 (Or.inr (Or.inr ⟨rfl, x, y, L, SY, hT, (fun Ox h => by have := h.1; rw [hs] at this; cases this), by rw [hs]; rfl⟩)) (by omega) (by omega), fun q => absurd rfl q⟩
      | true =>
        have hTx2 : txP S11 t z2 SY := ⟨(g2.2.2.1 _ (by decide)).trans hTx.1, hTx.2.1, fun j hj => by rw [g2.zo (by decide), (g2.row M1 (by decide) (j := 17) (by decide) (by decide)).1]; exact hTx.2.2 j hj⟩
        exact ⟨fun q => absurd q (by decide), fun _ => ⟨70, by decide, x, y, L, SY, F2, z2, rfl, hT, hs, V2, hTx2, hsp, rfl, rfl, rfl, rfl⟩⟩
    · cases hm
      obtain ⟨x, y, L, SY, F1, z1, rfl, hT, hs1, hV, hTx, hsp, rfl, rfl, rfl, rfl⟩ := h
      refine ⟨300, ?_⟩
      show (0 = 0 ∧ (∃ (F_1 : Nat → Nat × Nat) (z_2 : Nat → Nat) (Y_3 : Nat → Nat → Nat) (R_4 : Rb) (kz_5 : Nat → Nat) (r_6 : Nat) (B_7 L_8 : List Nat) (cA_9 cE_10 : Nat → Nat) (A_11 : List SpR), (MD S1 F_1 t z_2 Y_3 R_4 kz_5 ∧ rdC S1 t r_6 z_2 B_7 cA_9 cE_10 ∧ lsP S1 t z_2 L_8 ∧ spP S1 t z_2 kz_5 A_11 ∧ (∀ s, s ∈ A_11 → s.1 < 256 ∧ s.2.1 < 2147483648 ∧ 1 ≤ s.2.2 ∧ s.2.2 ≤ 8192)) ∧ gwC (kz 40) (jpA B L x y).length + (gqC (kz_5 47) (npa B_7 L_8 cA_9 cE_10 A_11).2.1.flatten.length) ≤ aC + bC + kC ∧ gwZ (kz 40) (jpA B L x y).length + (gqZ (kz_5 47) (npa B_7 L_8 cA_9 cE_10 A_11).2.1.flatten.length) ≤ aZ + bZ + kZ ∧ (∀ (S_12 : MM), (∃ F' z', MD S_12 F' t z' Y_3 R_4 (hz kz_5 (npa B_7 L_8 cA_9 cE_10 A_11).2.1.flatten.length) ∧ rG paD pgF S1 S_12 F_1 F' t z_2 z' ∧ lsP S_12 t z' L_8 ∧ spP S_12 t z' kz_5 A_11 ∧ ((npa B_7 L_8 cA_9 cE_10 A_11).1 = true → (npa B_7 L_8 cA_9 cE_10 A_11).2.1.length = A_11.length ∧ prQ S_12 t z' kz_5 (npa B_7 L_8 cA_9 cE_10 A_11).2.1)) → (((bI (decide ((npa B_7 L_8 cA_9 cE_10 A_11).1 = true ∧ (npa B_7 L_8 cA_9 cE_10 A_11).2.2 = cE_10 2))) = 0 → (([] : List MV) = [] ∧ mret (some .int) (sp_rjp t n F z Y R kz r B aC aZ bC bZ kC kZ) [.inr (.inr (some t)), .inl (nI n)] S (some (.inl (4 : Int32))) S_12 (gwC (kz 40) (jpA B L x y).length + (gqC (kz_5 47) (npa B_7 L_8 cA_9 cE_10 A_11).2.1.flatten.length)) (gwZ (kz 40) (jpA B L x y).length + (gqZ (kz_5 47) (npa B_7 L_8 cA_9 cE_10 A_11).2.1.flatten.length)))) ∧ (¬ (bI (decide ((npa B_7 L_8 cA_9 cE_10 A_11).1 = true ∧ (npa B_7 L_8 cA_9 cE_10 A_11).2.2 = cE_10 2))) = 0 → (∃ k1, k1 < 70 ∧ I_jp5 t n r F z Y R kz B S k1 [(0, .inr (.inr (some t))), (1, .inl (nI n))] [] S_12 (gwC (kz 40) (jpA B L x y).length + (gqC (kz_5 47) (npa B_7 L_8 cA_9 cE_10 A_11).2.1.flatten.length)) (gwZ (kz 40) (jpA B L x y).length + (gqZ (kz_5 47) (npa B_7 L_8 cA_9 cE_10 A_11).2.1.flatten.length))))))))
      obtain ⟨hM, hn, hGT, hR, h7, h19, hfi, h37, hk40, hb⟩ := hp
      obtain ⟨M1, hG, hrd, hL, h37', hfi', h19'⟩ := id hV
      obtain ⟨b1, b2, b3, b4⟩ := hb x y L SY hT
      obtain ⟨b5, b6⟩ := b3 hs1
      have hBy := hrd.2.1.2.2.2.1
      have ok := nsp_ok (cA := x) (cE := y) hBy hL.2.2.2
      have e47 : gz kz (jpA B L x y).length 47 = kz 47 := upF_o (by decide)
      have eD : (npa B L x y (jpA B L x y)).2.1 = jpD B L x y := rfl
      refine ⟨rfl, F1, z1, Y, R, gz kz (jpA B L x y).length, r, B, L, x, y, jpA B L x y, ⟨M1, hrd, hL, hsp, fun s hs => ok.1 s hs⟩, ?_, ?_, fun S12 hq => ?_⟩
      · rw [e47, eD]; omega
      · rw [e47, eD]; omega
      · rw [eD] at hq
        rw [e47, eD]
        obtain ⟨F2, z2, M2, g2, hL2, hsp2, hpr⟩ := hq
        have V2 := hV.st g2 M2 (by decide) (by decide)
        by_cases hc : (npa B L x y (jpA B L x y)).1 = true ∧ (npa B L x y (jpA B L x y)).2.2 = y 2
        · rw [decide_eq_true hc]
          have hTx2 : txP S12 t z2 SY := ⟨(g2.2.2.1 _ (by decide)).trans hTx.1, hTx.2.1, fun j hj => by rw [g2.zo (by decide), (g2.row M1 (by decide) (j := 17) (by decide) (by decide)).1]; exact hTx.2.2 j hj⟩
          obtain ⟨q1, q2, q3⟩ := hpr hc.1
          have e40 : jpK kz B L x y 40 = gz kz (jpA B L x y).length 40 := by
            unfold jpK hz
            exact upF_o (by decide)
          exact ⟨fun q => absurd q (by decide), fun _ => ⟨60, by decide, x, y, L, SY, F2, z2, rfl, hT, hs1, hc, V2, ⟨hTx2, ⟨hsp2.1, by rw [e40]; exact hsp2.2.1, hsp2.2.2⟩, q2, q3⟩, rfl, rfl, rfl, rfl⟩⟩
        · rw [decide_eq_false hc]
          exact ⟨fun _ => rjp_no (f := 4) hGT V2.1 V2.2.1 V2.2.2.2.2.1 (Or.inr (Or.inr ⟨rfl, x, y, L, SY, hT, fun Ox h => hc h.2.1, by rw [if_pos hs1]; rfl⟩)) (by omega) (by omega), fun q => absurd rfl q⟩
    · cases hm
      obtain ⟨x, y, L, SY, F1, z1, rfl, hT, hs1, hs2, hV, hP, rfl, rfl, rfl, rfl⟩ := h
      refine ⟨300, ?_⟩
      show (0 = 0 ∧ (∃ (F_1 : Nat → Nat × Nat) (z_2 : Nat → Nat) (Y_3 : Nat → Nat → Nat) (R_4 : Rb) (kz_5 : Nat → Nat) (r_6 : Nat) (B_7 : List Nat) (cA_8 cE_9 : Nat → Nat) (A_10 : List SpR) (n_11 : Nat), (MD S1 F_1 t z_2 Y_3 R_4 kz_5 ∧ rdC S1 t r_6 z_2 B_7 cA_8 cE_9 ∧ spP S1 t z_2 kz_5 A_10 ∧ (∀ s, s ∈ A_10 → s.1 < 256 ∧ s.2.1 < 2147483648 ∧ 1 ≤ s.2.2 ∧ s.2.2 ≤ 8192) ∧ mI S1 1518 t = nI n_11 ∧ n_11 ≤ 32768) ∧ gwC (kz 40) (jpA B L x y).length + gqC (kz 47) (jpD B L x y).flatten.length ≤ aC + bC + kC ∧ gwZ (kz 40) (jpA B L x y).length + gqZ (kz 47) (jpD B L x y).flatten.length ≤ aZ + bZ + kZ ∧ (∀ (S_12 : MM), (rK rqD [1535, 1536] S1 S_12 t z_2 ∧ ∀ x, nop B_7 cA_8 cE_9 A_10 = some x → x.1.length = A_10.length ∧ oqP S_12 z_2 x.1) → ((¬ (bI (opV (nop B_7 cA_8 cE_9 A_10) (cE_9 3) n_11)) = 0 → (∃ k1, k1 < 60 ∧ I_jp6 t n r F z Y R kz B S k1 [(0, .inr (.inr (some t))), (1, .inl (nI n))] [] S_12 (gwC (kz 40) (jpA B L x y).length + gqC (kz 47) (jpD B L x y).flatten.length) (gwZ (kz 40) (jpA B L x y).length + gqZ (kz 47) (jpD B L x y).flatten.length))) ∧ ((bI (opV (nop B_7 cA_8 cE_9 A_10) (cE_9 3) n_11)) = 0 → (([] : List MV) = [] ∧ mret (some .int) (sp_rjp t n F z Y R kz r B aC aZ bC bZ kC kZ) [.inr (.inr (some t)), .inl (nI n)] S (some (.inl (4 : Int32))) S_12 (gwC (kz 40) (jpA B L x y).length + gqC (kz 47) (jpD B L x y).flatten.length) (gwZ (kz 40) (jpA B L x y).length + gqZ (kz 47) (jpD B L x y).flatten.length)))))))
      obtain ⟨hM, hn, hGT, hR, h7, h19, hfi, h37, hk40, hb⟩ := hp
      obtain ⟨M1, hG, hrd, hL, h37', hfi', h19'⟩ := id hV
      obtain ⟨b1, b2, b3, b4⟩ := hb x y L SY hT
      obtain ⟨b5, b6⟩ := b3 hs1
      have hBy := hrd.2.1.2.2.2.1
      have ok := nsp_ok (cA := x) (cE := y) hBy hL.2.2.2
      obtain ⟨hTx, hsp, hpa, hfp⟩ := id hP
      refine ⟨rfl, F1, z1, Y, R, jpK kz B L x y, r, B, x, y, jpA B L x y, SY.length, ⟨M1, hrd, hsp, fun s hs => ok.1 s hs, hTx.1, hTx.2.1⟩, by omega, by omega, fun S12 hq => ?_⟩
      obtain ⟨k12, ho⟩ := hq
      have M2 := k12.md M1 (by decide) (by decide)
      have g2 : rG rqD [1535, 1536] S1 S12 F1 F1 t z1 z1 := k12.rg
      have V2 := hV.st g2 M2 (by decide) (by decide)
      have no4 : (∀ Ox, ¬ jpS B x y L SY Ox) → (([] : List MV) = [] ∧ mret (some .int) (sp_rjp t n F z Y R kz r B aC aZ bC bZ kC kZ) [.inr (.inr (some t)), .inl (nI n)] S (some (.inl (4 : Int32))) S12 (gwC (kz 40) (jpA B L x y).length + gqC (kz 47) (jpD B L x y).flatten.length) (gwZ (kz 40) (jpA B L x y).length + gqZ (kz 47) (jpD B L x y).flatten.length)) := fun e => rjp_no (f := 4) hGT V2.1 V2.2.1 V2.2.2.2.2.1 (Or.inr (Or.inr ⟨rfl, x, y, L, SY, hT, e, by rw [if_pos hs1]⟩)) (by omega) (by omega)
      cases hno : nop B x y (jpA B L x y) with
      | none => exact ⟨fun q => absurd rfl q, fun _ => no4 (fun Ox h => by have := h.2.2.1; rw [hno] at this; cases this)⟩
      | some Ox =>
        have eV : opV (some Ox) (y 3) SY.length = decide (Ox.2.2 = y 3 ∧ Ox.2.1 = SY.length) := rfl
        rw [eV]
        by_cases hc : Ox.2.2 = y 3 ∧ Ox.2.1 = SY.length
        · rw [decide_eq_true hc]
          have hTx2 : txP S12 t z1 SY := ⟨(k12.2.1 _ (by decide)).trans hTx.1, hTx.2.1, fun j hj => by rw [(k12.row M1 (by decide) (j := 17) (by decide) (by decide)).1]; exact hTx.2.2 j hj⟩
          exact ⟨fun _ => ⟨50, by decide, x, y, L, SY, Ox, F1, z1, rfl, hT, ⟨hs1, hs2, hno, hc.1, hc.2⟩, V2, ⟨hTx2, hsp.rg g2 M1 (by decide) (by decide) (by decide) (by decide) (by decide), hpa.rg g2 M1 (by decide) (by decide) (by decide) (by decide), hfp.rg g2 M1 (by decide) (by decide) (by decide)⟩, (ho Ox hno).2, rfl, rfl, rfl, rfl⟩, fun q => absurd q (by decide)⟩
        · rw [decide_eq_false hc]
          refine ⟨fun q => absurd rfl q, fun _ => no4 (fun Ox' h => ?_)⟩
          have e9 := h.2.2.1
          rw [hno] at e9
          cases e9
          exact hc ⟨h.2.2.2.1, h.2.2.2.2⟩
    · cases hm
      obtain ⟨x, y, L, SY, Ox, F1, z1, rfl, hT, hS, hV, hP, hoq, rfl, rfl, rfl, rfl⟩ := h
      refine ⟨300, ?_⟩
      show (0 = 0 ∧ (∃ (n_1 : Nat), nI n = nI n_1 ∧ (∃ (F_2 : Nat → Nat × Nat) (z_3 : Nat → Nat) (Y_4 : Nat → Nat → Nat) (R_5 : Rb) (kz_6 : Nat → Nat) (A_7 : List SpR) (D_8 : Dss) (O_9 : List (Nat × Int)) (SY_10 : List Int32) (kC_11 kZ_12 : Nat), (MD S1 F_2 t z_3 Y_4 R_5 kz_6 ∧ n_1 < 4 ∧ GT (R_5.Q.G n_1) (R_5.Q.T n_1) ∧ dtP S1 t z_3 kz_6 A_7 D_8 O_9 SY_10 ∧ dtB A_7 D_8 O_9 SY_10 ∧ mI S1 1537 t = 0 ∧ rvK (rvAll A_7 D_8 O_9 A_7.length 0 SY_10) (R_5.Q.G n_1) (R_5.Q.T n_1) kz_6 kC_11 kZ_12) ∧ gwC (kz 40) (jpA B L x y).length + gqC (kz 47) (jpD B L x y).flatten.length + kC_11 ≤ aC + bC + kC ∧ gwZ (kz 40) (jpA B L x y).length + gqZ (kz 47) (jpD B L x y).flatten.length + kZ_12 ≤ aZ + bZ + kZ ∧ (∀ (x_14 : Int32) (S_13 : MM), (cmQ S1 S_13 F_2 t z_3 Y_4 R_5 kz_6 n_1 (rvAll A_7 D_8 O_9 A_7.length 0 SY_10) x_14) → (([] : List MV) = [] ∧ mret (some .int) (sp_rjp t n F z Y R kz r B aC aZ bC bZ kC kZ) [.inr (.inr (some t)), .inl (nI n)] S (some (.inl x_14)) S_13 (gwC (kz 40) (jpA B L x y).length + gqC (kz 47) (jpD B L x y).flatten.length + kC_11) (gwZ (kz 40) (jpA B L x y).length + gqZ (kz 47) (jpD B L x y).flatten.length + kZ_12))))))
      obtain ⟨hM, hn, hGT, hR, h7, h19, hfi, h37, hk40, hb⟩ := hp
      obtain ⟨M1, hG, hrd, hL, h37', hfi', h19'⟩ := id hV
      obtain ⟨b1, b2, b3, b4⟩ := hb x y L SY hT
      obtain ⟨b5, b6⟩ := b3 hS.1
      have hBy := hrd.2.1.2.2.2.1
      have hB8 := hrd.2.1.2.2.1
      obtain ⟨hTx, hsp, hpa, hfp⟩ := id hP
      have hc2 := hrd.2.2.2 2 (by decide)
      obtain ⟨NL, hNL, hNL2, -⟩ := syms_nat (upk_ok hBy _ _).1 (upk_ok hBy _ _).2 hT.2.2.2
      have hSY : ∀ c, c ∈ SY → ∃ u, c = nI u ∧ u < 2000000 := fun c hc => by
        rw [hNL] at hc
        obtain ⟨u, u1, rfl⟩ := List.mem_map.1 hc
        exact ⟨u, rfl, by have := hNL2 u u1; omega⟩
      have hdB : dtB (jpA B L x y) (jpD B L x y) Ox.1 SY := dtB_of hBy hL.2.2.2 hc2.1 (by omega) hS.2.1.1 hS.2.2.1 hSY hS.2.2.2.2
      refine ⟨rfl, n, rfl, F1, z1, Y, R, jpK kz B L x y, jpA B L x y, jpD B L x y, Ox.1, SY, kC, kZ, ⟨M1, hn, hGT, ⟨hsp, ⟨hpa, hfp⟩, hoq, hTx⟩, hdB, h37', b4 Ox hS⟩, by omega, by omega, fun v S13 hq => ?_⟩
      obtain ⟨f, F2, z2, Y2, G2, T2, kz2, rfl, hf8, hr, c1, c2, c3, c4, c5, c6, c7⟩ := hq
      refine ⟨rfl, trivial, ⟨nI f, rfl, f, F2, z2, Y2, G2, T2, kz2, rfl, hf8, Or.inr ⟨x, y, L, SY, Ox, hT, hS, hr⟩, c1, ((hG.rh n).mono (fun k hk => hk) (fun f hf => hf)).tr (c2.mono (by decide) (by decide)), c3, c4, c5, c6⟩, ?_, ?_⟩
      · show _ + kC ≤ aC + bC + kC
        omega
      · show _ + kZ ≤ aZ + bZ + kZ
        omega
theorem u_rjp (l : Launch) : Us l yX14_judgePatch cX14_judgePatch 5 (some .int) 6 166 15 T_rjp := by
  intro Rc Rs av S cs sl K Kx h
  unfold T_rjp at h
  split at h
  · rename_i t_o n_v
    obtain ⟨t, rfl, h_1⟩ := pa_of h
    obtain ⟨n, rfl, h_2⟩ := h_1
    obtain ⟨F, z, Y, R, kz, r, B, aC, aZ, bC, bZ, kC, kZ, hp, hc, hs, hk⟩ := h_2
    refine ⟨(sp_rjp t n F z Y R kz r B aC aZ bC bZ kC kZ), c_rjp l t n F z Y R kz r B aC aZ bC bZ kC kZ, fun _ _ h9 => ⟨_, _, h9.1, (h9.2.1 0).1⟩, ⟨rfl, hp⟩, hc, hs, fun v9 S' h8 => by
      obtain ⟨v8, h7, h8⟩ := h8
      cases h7
      exact hk _ _ h8, fun _ _ q => q.elim⟩
  · exact h.elim
