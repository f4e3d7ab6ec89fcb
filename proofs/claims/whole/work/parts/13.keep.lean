/-! ===== WHAT STAYS: only cells of P were written; new ones may have come ===== -/
def Keep (P : Nat → Prop) (S S' : MM) : Prop := (∀ b, b ∈ mL S → b ∈ mL S' ∧ mK S' b = mK S b ∧ mN S' b = mN S b) ∧ (∀ b, b ∈ mL S → ¬ P b → (∀ i, mI S' i b = mI S i b) ∧ (∀ i, mR S' i b = mR S i b) ∧ (∀ i, mJ S' i b = mJ S i b) ∧ eI S' b = eI S b ∧ eJ S' b = eJ S b ∧ eR S' b = eR S b) ∧ mZ S' = mZ S ∧ mQ S' = mQ S
theorem Keep.rf {P : Nat → Prop} {S : MM} : Keep P S S := ⟨fun _ h => ⟨h, rfl, rfl⟩, fun _ _ _ => ⟨fun _ => rfl, fun _ => rfl, fun _ => rfl, rfl, rfl, rfl⟩, rfl, rfl⟩
theorem Keep.tr {P : Nat → Prop} {S S1 S2 : MM} (h1 : Keep P S S1) (h2 : Keep P S1 S2) : Keep P S S2 := by
  refine ⟨fun b hb => ?_, fun b hb hp => ?_, h2.2.2.1.trans h1.2.2.1, h2.2.2.2.trans h1.2.2.2⟩
  · obtain ⟨a1, a2, a3⟩ := h1.1 b hb
    obtain ⟨b1, b2, b3⟩ := h2.1 b a1
    exact ⟨b1, b2.trans a2, b3.trans a3⟩
  · obtain ⟨a1, a2, a3, a4, a5, a6⟩ := h1.2.1 b hb hp
    obtain ⟨b1, b2, b3, b4, b5, b6⟩ := h2.2.1 b (h1.1 b hb).1 hp
    exact ⟨fun i => (b1 i).trans (a1 i), fun i => (b2 i).trans (a2 i), fun i => (b3 i).trans (a3 i), b4.trans a4, b5.trans a5, b6.trans a6⟩
theorem Keep.mono {P Q : Nat → Prop} {S S1 : MM} (h1 : Keep P S S1) (h : ∀ b, b ∈ mL S → P b → Q b) : Keep Q S S1 := ⟨h1.1, fun b hb hq => h1.2.1 b hb (fun hp => hq (h b hb hp)), h1.2.2⟩
theorem Keep.sI {P : Nat → Prop} {S S1 : MM} {i a : Nat} {v : Int32} (h : Keep P S S1) (ha : P a) : Keep P S (sI S1 i a v) := h.tr ⟨fun _ h => ⟨h, rfl, rfl⟩, fun b _ hp => ⟨fun _ => up2_m (fun e => hp (e ▸ ha)), fun _ => rfl, fun _ => rfl, rfl, rfl, rfl⟩, rfl, rfl⟩
theorem Keep.sR {P : Nat → Prop} {S S1 : MM} {i a : Nat} {v : Option Nat} (h : Keep P S S1) (ha : P a) : Keep P S (sR S1 i a v) := h.tr ⟨fun _ h => ⟨h, rfl, rfl⟩, fun b _ hp => ⟨fun _ => rfl, fun _ => up2_m (fun e => hp (e ▸ ha)), fun _ => rfl, rfl, rfl, rfl⟩, rfl, rfl⟩
theorem Keep.sJ {P : Nat → Prop} {S S1 : MM} {i a : Nat} {v : Int64} (h : Keep P S S1) (ha : P a) : Keep P S (sJ S1 i a v) := h.tr ⟨fun _ h => ⟨h, rfl, rfl⟩, fun b _ hp => ⟨fun _ => rfl, fun _ => rfl, fun _ => up2_m (fun e => hp (e ▸ ha)), rfl, rfl, rfl⟩, rfl, rfl⟩
theorem Keep.rI {P : Nat → Prop} {S S1 : MM} {a : Nat} {f : Nat → Int32} (h : Keep P S S1) (ha : P a) : Keep P S (rI S1 a f) := h.tr ⟨fun _ h => ⟨h, rfl, rfl⟩, fun b _ hp => ⟨fun _ => rfl, fun _ => rfl, fun _ => rfl, va_up_ne _ _ (fun e => hp (e ▸ ha)), rfl, rfl⟩, rfl, rfl⟩
theorem Keep.rJ {P : Nat → Prop} {S S1 : MM} {a : Nat} {f : Nat → Int64} (h : Keep P S S1) (ha : P a) : Keep P S (rJ S1 a f) := h.tr ⟨fun _ h => ⟨h, rfl, rfl⟩, fun b _ hp => ⟨fun _ => rfl, fun _ => rfl, fun _ => rfl, rfl, va_up_ne _ _ (fun e => hp (e ▸ ha)), rfl⟩, rfl, rfl⟩
theorem Keep.rR {P : Nat → Prop} {S S1 : MM} {a : Nat} {f : Nat → Option Nat} (h : Keep P S S1) (ha : P a) : Keep P S (rR S1 a f) := h.tr ⟨fun _ h => ⟨h, rfl, rfl⟩, fun b _ hp => ⟨fun _ => rfl, fun _ => rfl, fun _ => rfl, rfl, rfl, va_up_ne _ _ (fun e => hp (e ▸ ha))⟩, rfl, rfl⟩
theorem Keep.nO {P : Nat → Prop} {S S1 : MM} {a k : Nat} (h : Keep P S S1) (ha : a ∉ mL S1) : Keep P S (nO S1 a k) := h.tr ⟨fun b hb => ⟨List.mem_append_left _ hb, va_up_ne _ _ (fun (e : b = a) => ha (e ▸ hb)), rfl⟩, fun b hb _ => ⟨fun _ => if_neg (fun (e : b = a) => ha (e ▸ hb)), fun _ => if_neg (fun (e : b = a) => ha (e ▸ hb)), fun _ => if_neg (fun (e : b = a) => ha (e ▸ hb)), rfl, rfl, rfl⟩, rfl, rfl⟩
theorem Keep.nA {P : Nat → Prop} {S S1 : MM} {a k n : Nat} (h : Keep P S S1) (ha : a ∉ mL S1) : Keep P S (nA S1 a k n) := h.tr ⟨fun b hb => ⟨List.mem_append_left _ hb, va_up_ne _ _ (fun (e : b = a) => ha (e ▸ hb)), va_up_ne _ _ (fun (e : b = a) => ha (e ▸ hb))⟩, fun b hb _ => ⟨fun _ => rfl, fun _ => rfl, fun _ => rfl, va_up_ne _ _ (fun (e : b = a) => ha (e ▸ hb)), va_up_ne _ _ (fun (e : b = a) => ha (e ▸ hb)), va_up_ne _ _ (fun (e : b = a) => ha (e ▸ hb))⟩, rfl, rfl⟩
theorem Keep.isO {P : Nat → Prop} {S S1 : MM} {k a : Nat} (h : Keep P S S1) (ho : isO S k a) : isO S1 k a := ⟨(h.1 a ho.1).1, (h.1 a ho.1).2.1.trans ho.2⟩
/-- reads behind writes -/
theorem mI_sI {S : MM} {i a j b : Nat} {v : Int32} : mI (sI S i a v) j b = if j = i ∧ b = a then v else mI S j b := rfl
theorem mR_sR {S : MM} {i a j b : Nat} {v : Option Nat} : mR (sR S i a v) j b = if j = i ∧ b = a then v else mR S j b := rfl
theorem mJ_sJ {S : MM} {i a j b : Nat} {v : Int64} : mJ (sJ S i a v) j b = if j = i ∧ b = a then v else mJ S j b := rfl
theorem eI_rI {S : MM} {a b : Nat} {f : Nat → Int32} : eI (rI S a f) b = if b = a then f else eI S b := rfl
theorem eR_rR {S : MM} {a b : Nat} {f : Nat → Option Nat} : eR (rR S a f) b = if b = a then f else eR S b := rfl
theorem eI_nA {S : MM} {a k n b : Nat} : eI (nA S a k n) b = if b = a then fun _ => 0 else eI S b := rfl
theorem mN_nA {S : MM} {a k n b : Nat} : mN (nA S a k n) b = if b = a then n else mN S b := rfl
theorem mK_nA {S : MM} {a k n b : Nat} : mK (nA S a k n) b = if b = a then k else mK S b := rfl
theorem mK_nO {S : MM} {a k b : Nat} : mK (nO S a k) b = if b = a then k else mK S b := rfl
theorem isO_nA {S : MM} {a k n k2 b : Nat} (h : isO S k2 b) (ha : a ∉ mL S) : isO (nA S a k n) k2 b := ⟨List.mem_append_left _ h.1, (va_up_ne _ _ (fun (e : b = a) => ha (e ▸ h.1))).trans h.2⟩
theorem isO_nA_self {S : MM} {a k n : Nat} : isO (nA S a k n) k a := ⟨List.mem_append_right _ (List.mem_singleton.mpr rfl), va_up_self _ _ _⟩
theorem isO_nO {S : MM} {a k k2 b : Nat} (h : isO S k2 b) (ha : a ∉ mL S) : isO (nO S a k) k2 b := ⟨List.mem_append_left _ h.1, (va_up_ne _ _ (fun (e : b = a) => ha (e ▸ h.1))).trans h.2⟩
theorem isO_nO_self {S : MM} {a k : Nat} : isO (nO S a k) k a := ⟨List.mem_append_right _ (List.mem_singleton.mpr rfl), va_up_self _ _ _⟩
theorem isO_ne {S : MM} {k1 k2 a b : Nat} (h1 : isO S k1 a) (h2 : isO S k2 b) (h : k1 ≠ k2) : a ≠ b := fun e => h (by subst e; exact h1.2.symm.trans h2.2)
theorem mL_sI {S : MM} (i a : Nat) (v : Int32) : mL (sI S i a v) = mL S := rfl
theorem mL_sR {S : MM} (i a : Nat) (v : Option Nat) : mL (sR S i a v) = mL S := rfl
theorem mL_sJ {S : MM} (i a : Nat) (v : Int64) : mL (sJ S i a v) = mL S := rfl
theorem mL_rI {S : MM} (a : Nat) (f : Nat → Int32) : mL (rI S a f) = mL S := rfl
theorem mL_rJ {S : MM} (a : Nat) (f : Nat → Int64) : mL (rJ S a f) = mL S := rfl
theorem mL_rR {S : MM} (a : Nat) (f : Nat → Option Nat) : mL (rR S a f) = mL S := rfl
theorem mK_sI {S : MM} (i a : Nat) (v : Int32) : mK (sI S i a v) = mK S := rfl
theorem mK_sR {S : MM} (i a : Nat) (v : Option Nat) : mK (sR S i a v) = mK S := rfl
theorem mK_sJ {S : MM} (i a : Nat) (v : Int64) : mK (sJ S i a v) = mK S := rfl
theorem mK_rI {S : MM} (a : Nat) (f : Nat → Int32) : mK (rI S a f) = mK S := rfl
theorem mK_rJ {S : MM} (a : Nat) (f : Nat → Int64) : mK (rJ S a f) = mK S := rfl
theorem mK_rR {S : MM} (a : Nat) (f : Nat → Option Nat) : mK (rR S a f) = mK S := rfl
theorem mI_sR {S : MM} (i a : Nat) (v : Option Nat) : mI (sR S i a v) = mI S := rfl
theorem mI_sJ {S : MM} (i a : Nat) (v : Int64) : mI (sJ S i a v) = mI S := rfl
theorem mI_rI {S : MM} (a : Nat) (f : Nat → Int32) : mI (rI S a f) = mI S := rfl
theorem mI_rJ {S : MM} (a : Nat) (f : Nat → Int64) : mI (rJ S a f) = mI S := rfl
theorem mI_rR {S : MM} (a : Nat) (f : Nat → Option Nat) : mI (rR S a f) = mI S := rfl
theorem mR_sI {S : MM} (i a : Nat) (v : Int32) : mR (sI S i a v) = mR S := rfl
theorem mR_sJ {S : MM} (i a : Nat) (v : Int64) : mR (sJ S i a v) = mR S := rfl
theorem mR_rI {S : MM} (a : Nat) (f : Nat → Int32) : mR (rI S a f) = mR S := rfl
theorem mR_rJ {S : MM} (a : Nat) (f : Nat → Int64) : mR (rJ S a f) = mR S := rfl
theorem mR_rR {S : MM} (a : Nat) (f : Nat → Option Nat) : mR (rR S a f) = mR S := rfl
theorem mJ_sI {S : MM} (i a : Nat) (v : Int32) : mJ (sI S i a v) = mJ S := rfl
theorem mJ_sR {S : MM} (i a : Nat) (v : Option Nat) : mJ (sR S i a v) = mJ S := rfl
theorem mJ_rI {S : MM} (a : Nat) (f : Nat → Int32) : mJ (rI S a f) = mJ S := rfl
theorem mJ_rJ {S : MM} (a : Nat) (f : Nat → Int64) : mJ (rJ S a f) = mJ S := rfl
theorem mJ_rR {S : MM} (a : Nat) (f : Nat → Option Nat) : mJ (rR S a f) = mJ S := rfl
theorem mN_sI {S : MM} (i a : Nat) (v : Int32) : mN (sI S i a v) = mN S := rfl
theorem mN_sR {S : MM} (i a : Nat) (v : Option Nat) : mN (sR S i a v) = mN S := rfl
theorem mN_sJ {S : MM} (i a : Nat) (v : Int64) : mN (sJ S i a v) = mN S := rfl
theorem mN_rI {S : MM} (a : Nat) (f : Nat → Int32) : mN (rI S a f) = mN S := rfl
theorem mN_rJ {S : MM} (a : Nat) (f : Nat → Int64) : mN (rJ S a f) = mN S := rfl
theorem mN_rR {S : MM} (a : Nat) (f : Nat → Option Nat) : mN (rR S a f) = mN S := rfl
theorem eI_sI {S : MM} (i a : Nat) (v : Int32) : eI (sI S i a v) = eI S := rfl
theorem eI_sR {S : MM} (i a : Nat) (v : Option Nat) : eI (sR S i a v) = eI S := rfl
theorem eI_sJ {S : MM} (i a : Nat) (v : Int64) : eI (sJ S i a v) = eI S := rfl
theorem eI_rJ {S : MM} (a : Nat) (f : Nat → Int64) : eI (rJ S a f) = eI S := rfl
theorem eI_rR {S : MM} (a : Nat) (f : Nat → Option Nat) : eI (rR S a f) = eI S := rfl
theorem eJ_sI {S : MM} (i a : Nat) (v : Int32) : eJ (sI S i a v) = eJ S := rfl
theorem eJ_sR {S : MM} (i a : Nat) (v : Option Nat) : eJ (sR S i a v) = eJ S := rfl
theorem eJ_sJ {S : MM} (i a : Nat) (v : Int64) : eJ (sJ S i a v) = eJ S := rfl
theorem eJ_rI {S : MM} (a : Nat) (f : Nat → Int32) : eJ (rI S a f) = eJ S := rfl
theorem eJ_rR {S : MM} (a : Nat) (f : Nat → Option Nat) : eJ (rR S a f) = eJ S := rfl
theorem eR_sI {S : MM} (i a : Nat) (v : Int32) : eR (sI S i a v) = eR S := rfl
theorem eR_sR {S : MM} (i a : Nat) (v : Option Nat) : eR (sR S i a v) = eR S := rfl
theorem eR_sJ {S : MM} (i a : Nat) (v : Int64) : eR (sJ S i a v) = eR S := rfl
theorem eR_rI {S : MM} (a : Nat) (f : Nat → Int32) : eR (rI S a f) = eR S := rfl
theorem eR_rJ {S : MM} (a : Nat) (f : Nat → Int64) : eR (rJ S a f) = eR S := rfl
theorem mZ_sI {S : MM} (i a : Nat) (v : Int32) : mZ (sI S i a v) = mZ S := rfl
theorem mZ_sR {S : MM} (i a : Nat) (v : Option Nat) : mZ (sR S i a v) = mZ S := rfl
theorem mZ_sJ {S : MM} (i a : Nat) (v : Int64) : mZ (sJ S i a v) = mZ S := rfl
theorem mZ_rI {S : MM} (a : Nat) (f : Nat → Int32) : mZ (rI S a f) = mZ S := rfl
theorem mZ_rJ {S : MM} (a : Nat) (f : Nat → Int64) : mZ (rJ S a f) = mZ S := rfl
theorem mZ_rR {S : MM} (a : Nat) (f : Nat → Option Nat) : mZ (rR S a f) = mZ S := rfl
theorem mQ_sI {S : MM} (i a : Nat) (v : Int32) : mQ (sI S i a v) = mQ S := rfl
theorem mQ_sR {S : MM} (i a : Nat) (v : Option Nat) : mQ (sR S i a v) = mQ S := rfl
theorem mQ_sJ {S : MM} (i a : Nat) (v : Int64) : mQ (sJ S i a v) = mQ S := rfl
theorem mQ_rI {S : MM} (a : Nat) (f : Nat → Int32) : mQ (rI S a f) = mQ S := rfl
theorem mQ_rJ {S : MM} (a : Nat) (f : Nat → Int64) : mQ (rJ S a f) = mQ S := rfl
theorem mQ_rR {S : MM} (a : Nat) (f : Nat → Option Nat) : mQ (rR S a f) = mQ S := rfl
theorem mI_nA {S : MM} (a k n : Nat) : mI (nA S a k n) = mI S := rfl
theorem mR_nA {S : MM} (a k n : Nat) : mR (nA S a k n) = mR S := rfl
theorem mJ_nA {S : MM} (a k n : Nat) : mJ (nA S a k n) = mJ S := rfl
theorem mZ_nA {S : MM} (a k n : Nat) : mZ (nA S a k n) = mZ S := rfl
theorem mQ_nA {S : MM} (a k n : Nat) : mQ (nA S a k n) = mQ S := rfl
theorem mN_nO {S : MM} (a k : Nat) : mN (nO S a k) = mN S := rfl
theorem eI_nO {S : MM} (a k : Nat) : eI (nO S a k) = eI S := rfl
theorem eJ_nO {S : MM} (a k : Nat) : eJ (nO S a k) = eJ S := rfl
theorem eR_nO {S : MM} (a k : Nat) : eR (nO S a k) = eR S := rfl
theorem mZ_nO {S : MM} (a k : Nat) : mZ (nO S a k) = mZ S := rfl
theorem mQ_nO {S : MM} (a k : Nat) : mQ (nO S a k) = mQ S := rfl
theorem mI_nO {S : MM} {a k i b : Nat} : mI (nO S a k) i b = if b = a then 0 else mI S i b := rfl
theorem mR_nO {S : MM} {a k i b : Nat} : mR (nO S a k) i b = if b = a then none else mR S i b := rfl
theorem eJ_rJ {S : MM} {a b : Nat} {f : Nat → Int64} : eJ (rJ S a f) b = if b = a then f else eJ S b := rfl
