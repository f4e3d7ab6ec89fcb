/-! ===== WHAT STAYS: only cells of P were written; new ones may have come ===== -/
def Keep (P : Nat → Prop) (S S' : MM) : Prop := (∀ b, b ∈ mL S → b ∈ mL S' ∧ mK S' b = mK S b ∧ mN S' b = mN S b) ∧ ∀ b, b ∈ mL S → ¬ P b → (∀ i, mI S' i b = mI S i b) ∧ (∀ i, mR S' i b = mR S i b) ∧ (∀ i, mJ S' i b = mJ S i b) ∧ eI S' b = eI S b ∧ eJ S' b = eJ S b ∧ eR S' b = eR S b
theorem Keep.rf {P : Nat → Prop} {S : MM} : Keep P S S := ⟨fun _ h => ⟨h, rfl, rfl⟩, fun _ _ _ => ⟨fun _ => rfl, fun _ => rfl, fun _ => rfl, rfl, rfl, rfl⟩⟩
theorem Keep.tr {P : Nat → Prop} {S S1 S2 : MM} (h1 : Keep P S S1) (h2 : Keep P S1 S2) : Keep P S S2 := by
  refine ⟨fun b hb => ?_, fun b hb hp => ?_⟩
  · obtain ⟨a1, a2, a3⟩ := h1.1 b hb
    obtain ⟨b1, b2, b3⟩ := h2.1 b a1
    exact ⟨b1, b2.trans a2, b3.trans a3⟩
  · obtain ⟨a1, a2, a3, a4, a5, a6⟩ := h1.2 b hb hp
    obtain ⟨b1, b2, b3, b4, b5, b6⟩ := h2.2 b (h1.1 b hb).1 hp
    exact ⟨fun i => (b1 i).trans (a1 i), fun i => (b2 i).trans (a2 i), fun i => (b3 i).trans (a3 i), b4.trans a4, b5.trans a5, b6.trans a6⟩
theorem Keep.mono {P Q : Nat → Prop} {S S1 : MM} (h1 : Keep P S S1) (h : ∀ b, b ∈ mL S → P b → Q b) : Keep Q S S1 := ⟨h1.1, fun b hb hq => h1.2 b hb (fun hp => hq (h b hb hp))⟩
theorem Keep.sI {P : Nat → Prop} {S S1 : MM} {i a : Nat} {v : Int32} (h : Keep P S S1) (ha : P a) : Keep P S (sI S1 i a v) := h.tr ⟨fun _ h => ⟨h, rfl, rfl⟩, fun b _ hp => ⟨fun _ => up2_m (fun e => hp (e ▸ ha)), fun _ => rfl, fun _ => rfl, rfl, rfl, rfl⟩⟩
theorem Keep.sR {P : Nat → Prop} {S S1 : MM} {i a : Nat} {v : Option Nat} (h : Keep P S S1) (ha : P a) : Keep P S (sR S1 i a v) := h.tr ⟨fun _ h => ⟨h, rfl, rfl⟩, fun b _ hp => ⟨fun _ => rfl, fun _ => up2_m (fun e => hp (e ▸ ha)), fun _ => rfl, rfl, rfl, rfl⟩⟩
theorem Keep.sJ {P : Nat → Prop} {S S1 : MM} {i a : Nat} {v : Int64} (h : Keep P S S1) (ha : P a) : Keep P S (sJ S1 i a v) := h.tr ⟨fun _ h => ⟨h, rfl, rfl⟩, fun b _ hp => ⟨fun _ => rfl, fun _ => rfl, fun _ => up2_m (fun e => hp (e ▸ ha)), rfl, rfl, rfl⟩⟩
theorem Keep.rI {P : Nat → Prop} {S S1 : MM} {a : Nat} {f : Nat → Int32} (h : Keep P S S1) (ha : P a) : Keep P S (rI S1 a f) := h.tr ⟨fun _ h => ⟨h, rfl, rfl⟩, fun b _ hp => ⟨fun _ => rfl, fun _ => rfl, fun _ => rfl, va_up_ne _ _ (fun e => hp (e ▸ ha)), rfl, rfl⟩⟩
theorem Keep.rJ {P : Nat → Prop} {S S1 : MM} {a : Nat} {f : Nat → Int64} (h : Keep P S S1) (ha : P a) : Keep P S (rJ S1 a f) := h.tr ⟨fun _ h => ⟨h, rfl, rfl⟩, fun b _ hp => ⟨fun _ => rfl, fun _ => rfl, fun _ => rfl, rfl, va_up_ne _ _ (fun e => hp (e ▸ ha)), rfl⟩⟩
theorem Keep.rR {P : Nat → Prop} {S S1 : MM} {a : Nat} {f : Nat → Option Nat} (h : Keep P S S1) (ha : P a) : Keep P S (rR S1 a f) := h.tr ⟨fun _ h => ⟨h, rfl, rfl⟩, fun b _ hp => ⟨fun _ => rfl, fun _ => rfl, fun _ => rfl, rfl, rfl, va_up_ne _ _ (fun e => hp (e ▸ ha))⟩⟩
theorem Keep.nO {P : Nat → Prop} {S S1 : MM} {a k : Nat} (h : Keep P S S1) (ha : a ∉ mL S1) : Keep P S (nO S1 a k) := h.tr ⟨fun b hb => ⟨List.mem_append_left _ hb, va_up_ne _ _ (fun (e : b = a) => ha (e ▸ hb)), rfl⟩, fun b hb _ => ⟨fun _ => if_neg (fun (e : b = a) => ha (e ▸ hb)), fun _ => if_neg (fun (e : b = a) => ha (e ▸ hb)), fun _ => if_neg (fun (e : b = a) => ha (e ▸ hb)), rfl, rfl, rfl⟩⟩
theorem Keep.nA {P : Nat → Prop} {S S1 : MM} {a k n : Nat} (h : Keep P S S1) (ha : a ∉ mL S1) : Keep P S (nA S1 a k n) := h.tr ⟨fun b hb => ⟨List.mem_append_left _ hb, va_up_ne _ _ (fun (e : b = a) => ha (e ▸ hb)), va_up_ne _ _ (fun (e : b = a) => ha (e ▸ hb))⟩, fun b hb _ => ⟨fun _ => rfl, fun _ => rfl, fun _ => rfl, va_up_ne _ _ (fun (e : b = a) => ha (e ▸ hb)), va_up_ne _ _ (fun (e : b = a) => ha (e ▸ hb)), va_up_ne _ _ (fun (e : b = a) => ha (e ▸ hb))⟩⟩
theorem Keep.isO {P : Nat → Prop} {S S1 : MM} {k a : Nat} (h : Keep P S S1) (ho : isO S k a) : isO S1 k a := ⟨(h.1 a ho.1).1, (h.1 a ho.1).2.1.trans ho.2⟩
/-- reads behind writes -/
theorem mI_sI {S : MM} {i a j b : Nat} {v : Int32} : mI (sI S i a v) j b = if j = i ∧ b = a then v else mI S j b := rfl
theorem mR_sR {S : MM} {i a j b : Nat} {v : Option Nat} : mR (sR S i a v) j b = if j = i ∧ b = a then v else mR S j b := rfl
theorem mJ_sJ {S : MM} {i a j b : Nat} {v : Int64} : mJ (sJ S i a v) j b = if j = i ∧ b = a then v else mJ S j b := rfl
theorem eI_rI {S : MM} {a b : Nat} {f : Nat → Int32} : eI (rI S a f) b = if b = a then f else eI S b := rfl
theorem eR_rR {S : MM} {a b : Nat} {f : Nat → Option Nat} : eR (rR S a f) b = if b = a then f else eR S b := rfl
theorem eI_nA {S : MM} {a k n b : Nat} : eI (nA S a k n) b = if b = a then fun _ => 0 else eI S b := rfl
theorem mN_nA {S : MM} {a k n b : Nat} : mN (nA S a k n) b = if b = a then n else mN S b := rfl
theorem mK_nA {S : MM} {a k n b : Nat} : mK (nA S a k n) b = if b = a then k else mK S b := rfl
theorem mK_nO {S : MM} {a k b : Nat} : mK (nO S a k) b = if b = a then k else mK S b := rfl
theorem isO_nA {S : MM} {a k n k2 b : Nat} (h : isO S k2 b) (ha : a ∉ mL S) : isO (nA S a k n) k2 b := ⟨List.mem_append_left _ h.1, (va_up_ne _ _ (fun (e : b = a) => ha (e ▸ h.1))).trans h.2⟩
theorem isO_nA_self {S : MM} {a k n : Nat} : isO (nA S a k n) k a := ⟨List.mem_append_right _ (List.mem_singleton.mpr rfl), va_up_self _ _ _⟩
theorem isO_nO {S : MM} {a k k2 b : Nat} (h : isO S k2 b) (ha : a ∉ mL S) : isO (nO S a k) k2 b := ⟨List.mem_append_left _ h.1, (va_up_ne _ _ (fun (e : b = a) => ha (e ▸ h.1))).trans h.2⟩
theorem isO_nO_self {S : MM} {a k : Nat} : isO (nO S a k) k a := ⟨List.mem_append_right _ (List.mem_singleton.mpr rfl), va_up_self _ _ _⟩
theorem isO_ne {S : MM} {k1 k2 a b : Nat} (h1 : isO S k1 a) (h2 : isO S k2 b) (h : k1 ≠ k2) : a ≠ b := fun e => h (by subst e; exact h1.2.symm.trans h2.2)
