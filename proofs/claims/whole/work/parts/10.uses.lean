/-! ===== CONTRACTS AS TRANSFORMERS: the caller names what the callee's contract speaks of ===== -/
def rcv (kr : Nat) (av : List MV) (S : MM) : Prop := match kr with
  | 99 => True
  | 98 => ∃ a vs, av = .inr (.inr (some a)) :: vs
  | k => ∃ a vs, av = .inr (.inr (some a)) :: vs ∧ isO S k a
/-- T may be used at a call of y -/
def Us (l : Launch) (y : MethodName) (cc : ByteArray) (nL : Nat) (rt : Option FieldType) (fr lc kr : Nat) (T : TR) : Prop :=
  ∀ Rc Rs av S cs sl K Kx, T Rc Rs av S cs sl K Kx → ∃ sp, Ct l y cc nL rt fr lc sp ∧ (∀ av S, sp.1 av S → rcv kr av S) ∧ Told (rkOf rt) sp Rc Rs av S cs sl K Kx
def imin (x y : Int32) : Int32 := if y < x then y else x
def imax (x y : Int32) : Int32 := if x < y then y else x
def acP (S : MM) (a0 a1 : Nat) (x y n : Int32) (k : Nat) : Prop := isO S k a0 ∧ isO S k a1 ∧ (k = 17 ∨ k = 19 ∧ (∀ i, i < n.toNatClampNeg → fits .short (.int (eI S a0 (x.toNatClampNeg + i))) = true) ∨ k = 16 ∧ (∀ i, i < n.toNatClampNeg → fits .byte (.int (eI S a0 (x.toNatClampNeg + i))) = true)) ∧ ¬ x < 0 ∧ ¬ y < 0 ∧ ¬ n < 0 ∧ x.toNatClampNeg + n.toNatClampNeg ≤ mN S a0 ∧ y.toNatClampNeg + n.toNatClampNeg ≤ mN S a1
def T_obj : TR := fun Rc Rs av S cs sl K _Kx => match av with
  | [.inr (.inr a_o)] => pa a_o fun a => (True ∧ cs ≤ Rc ∧ sl ≤ Rs ∧ (K none S cs sl))
  | _ => False
def T_min : TR := fun Rc Rs av S cs sl K _Kx => match av with
  | [.inl x, .inl y] => True ∧ cs ≤ Rc ∧ sl ≤ Rs ∧ (K (some (.inl (imin x y))) S cs sl)
  | _ => False
def T_max : TR := fun Rc Rs av S cs sl K _Kx => match av with
  | [.inl x, .inl y] => True ∧ cs ≤ Rc ∧ sl ≤ Rs ∧ (K (some (.inl (imax x y))) S cs sl)
  | _ => False
def T_acopy : TR := fun Rc Rs av S cs sl K _Kx => match av with
  | [.inr (.inr a0_o), .inl x, .inr (.inr a1_o), .inl y, .inl n] => pa a0_o fun a0 => (pa a1_o fun a1 => (∃ (k : Nat), (acP S a0 a1 x y n k) ∧ cs ≤ Rc ∧ sl ≤ Rs ∧ (K none (rI S a1 (va_cpy (eI S a0) (eI S a1) x.toNatClampNeg y.toNatClampNeg n.toNatClampNeg)) cs sl)))
  | _ => False
def acR (S : MM) (a0 a1 : Nat) (x y n : Int32) : Prop := isO S 26 a0 ∧ isO S 26 a1 ∧ (∀ i, i < n.toNatClampNeg → ∀ b, eR S a0 (x.toNatClampNeg + i) = some b → isO S 4 b ∨ isO S 5 b) ∧ ¬ x < 0 ∧ ¬ y < 0 ∧ ¬ n < 0 ∧ x.toNatClampNeg + n.toNatClampNeg ≤ mN S a0 ∧ y.toNatClampNeg + n.toNatClampNeg ≤ mN S a1
def T_getc : TR := fun Rc Rs av S cs sl K _Kx => match av with
  | [.inr (.inr a_o)] => pa a_o fun a => ((isO S 26 a) ∧ cs ≤ Rc ∧ sl ≤ Rs ∧ (K (some (.inr (.inr (some (mQ S).2)))) S cs sl))
  | _ => False
def T_acopyR : TR := fun Rc Rs av S cs sl K _Kx => match av with
  | [.inr (.inr a0_o), .inl x, .inr (.inr a1_o), .inl y, .inl n] => pa a0_o fun a0 => (pa a1_o fun a1 => ((acR S a0 a1 x y n) ∧ cs ≤ Rc ∧ sl ≤ Rs ∧ (K none (rR S a1 (va_cpy (eR S a0) (eR S a1) x.toNatClampNeg y.toNatClampNeg n.toNatClampNeg)) cs sl)))
  | _ => False
def T_clone : TR := fun Rc Rs av S cs sl K _Kx => match av with
  | [.inr (.inr a_o)] => pa a_o fun a => ((isO S 17 a) ∧ cs + 1 ≤ Rc ∧ sl + (mN S a) ≤ Rs ∧ (∀ (v : Option Nat) (S' : MM), (∃ q, q ∉ mL S ∧ v = some q ∧ S' = rI (nA S q 17 (mN S a)) q (eI S a)) → K (some (.inr (.inr v))) S' (cs + 1) (sl + (mN S a))))
  | _ => False
section MUSE
variable {Rc Rs : Nat} {av : List MV} {S : MM} {cs sl : Nat} {K : Option MV → MM → Nat → Nat → Prop} {Kx : Nat → MM → Nat → Nat → Prop}
theorem T_obj_ok (h : T_obj Rc Rs av S cs sl K Kx) : Told 0 spObj Rc Rs av S cs sl K Kx := by
  unfold T_obj at h
  split at h
  · obtain ⟨a, e9, -, hc, hs, hk⟩ := pa_of h
    subst e9
    refine ⟨⟨a, rfl⟩, hc, hs, fun S' h8 => ?_, fun _ _ q => q.elim⟩
    obtain ⟨-, h8⟩ := h8
    subst h8
    exact hk
  · exact h.elim
theorem T_min_ok (h : T_min Rc Rs av S cs sl K Kx) : Told 1 sp_min Rc Rs av S cs sl K Kx := by
  unfold T_min at h
  split at h
  · obtain ⟨-, hc, hs, hk⟩ := h
    refine ⟨⟨_, _, rfl⟩, hc, hs, fun v S' h8 => ?_, fun _ _ q => q.elim⟩
    obtain ⟨h7, h6⟩ := h8 _ _ rfl
    cases h7
    subst h6
    exact hk
  · exact h.elim
theorem T_max_ok (h : T_max Rc Rs av S cs sl K Kx) : Told 1 sp_max Rc Rs av S cs sl K Kx := by
  unfold T_max at h
  split at h
  · obtain ⟨-, hc, hs, hk⟩ := h
    refine ⟨⟨_, _, rfl⟩, hc, hs, fun v S' h8 => ?_, fun _ _ q => q.elim⟩
    obtain ⟨h7, h6⟩ := h8 _ _ rfl
    cases h7
    subst h6
    exact hk
  · exact h.elim
theorem T_acopy_ok (h : T_acopy Rc Rs av S cs sl K Kx) : Told 0 sp_acopy Rc Rs av S cs sl K Kx := by
  unfold T_acopy at h
  split at h
  · obtain ⟨a0, rfl, h1⟩ := pa_of h
    obtain ⟨a1, rfl, h2⟩ := pa_of h1
    obtain ⟨k, hp, hc, hs, hk⟩ := h2
    refine ⟨⟨a0, a1, _, _, _, k, rfl, hp⟩, hc, hs, fun S' h8 => ?_, fun _ _ q => q.elim⟩
    obtain ⟨-, h8⟩ := h8 _ _ _ _ _ rfl
    subst h8
    exact hk
  · exact h.elim
theorem T_getc_ok (h : T_getc Rc Rs av S cs sl K Kx) : Told 3 sp_getc Rc Rs av S cs sl K Kx := by
  unfold T_getc at h
  split at h
  · obtain ⟨a, rfl, hp, hc, hs, hk⟩ := pa_of h
    refine ⟨⟨a, rfl, hp⟩, hc, hs, fun x S' h8 => ?_, fun _ _ q => q.elim⟩
    obtain ⟨h7, h8⟩ := h8
    cases h7
    subst h8
    exact hk
  · exact h.elim
theorem T_acopyR_ok (h : T_acopyR Rc Rs av S cs sl K Kx) : Told 0 sp_acopyR Rc Rs av S cs sl K Kx := by
  unfold T_acopyR at h
  split at h
  · obtain ⟨a0, rfl, h1⟩ := pa_of h
    obtain ⟨a1, rfl, h2⟩ := pa_of h1
    obtain ⟨hp, hc, hs, hk⟩ := h2
    refine ⟨⟨a0, a1, _, _, _, rfl, hp⟩, hc, hs, fun S' h8 => ?_, fun _ _ q => q.elim⟩
    obtain ⟨-, h8⟩ := h8 _ _ _ _ _ rfl
    subst h8
    exact hk
  · exact h.elim
theorem T_clone_ok (h : T_clone Rc Rs av S cs sl K Kx) : Told 3 sp_clone Rc Rs av S cs sl K Kx := by
  unfold T_clone at h
  split at h
  · obtain ⟨a, rfl, hp, hc, hs, hk⟩ := pa_of h
    refine ⟨⟨a, rfl, hp⟩, hc, hs, fun x S' h8 => ?_, fun _ _ q => q.elim⟩
    obtain ⟨q, q1, q2, q3⟩ := h8 a rfl
    cases q2
    exact hk (some q) S' ⟨q, q1, rfl, q3⟩
  · exact h.elim
end MUSE
/-! branches over numbers -/
theorem if_lt {a b : Nat} {P Q : Prop} (ha : a < 2147483648) (hb : b < 2147483648) (h1 : a < b → P) (h2 : b ≤ a → Q) : (nI a < nI b → P) ∧ (¬ nI a < nI b → Q) := ⟨fun h => h1 ((nI_ltI ha hb).mp h), fun h => h2 (Nat.le_of_not_lt fun q => h ((nI_ltI ha hb).mpr q))⟩
theorem if_le {a b : Nat} {P Q : Prop} (ha : a < 2147483648) (hb : b < 2147483648) (h1 : a ≤ b → P) (h2 : b < a → Q) : (nI a ≤ nI b → P) ∧ (¬ nI a ≤ nI b → Q) := ⟨fun h => h1 ((nI_leI ha hb).mp h), fun h => h2 (Nat.lt_of_not_le fun q => h ((nI_leI ha hb).mpr q))⟩
theorem if_eq {a b : Nat} {P Q : Prop} (ha : a < 2147483648) (hb : b < 2147483648) (h1 : a = b → P) (h2 : a ≠ b → Q) : (nI a = nI b → P) ∧ (¬ nI a = nI b → Q) := ⟨fun h => h1 ((nI_eq ha hb).mp h), fun h => h2 fun q => h (by rw [q])⟩
theorem if_ne {a b : Nat} {P Q : Prop} (ha : a < 2147483648) (hb : b < 2147483648) (h1 : a ≠ b → P) (h2 : a = b → Q) : (¬ nI a = nI b → P) ∧ (nI a = nI b → Q) := ⟨fun h => h1 fun q => h (by rw [q]), fun h => h2 ((nI_eq ha hb).mp h)⟩
