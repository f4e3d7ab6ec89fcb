/-! ===== THE PROGRAM'S MEMORY AS FUNCTIONS: addresses, the kind of each, int / reference / long fields by their code (100 * kind + place), lengths and rows of arrays ===== -/
abbrev MM : Type := List Nat × (Nat → Nat) × (Nat → Nat → Int32) × (Nat → Nat → Option Nat) × (Nat → Nat → Int64) × (Nat → Nat) × (Nat → Nat → Int32) × (Nat → Nat → Int64) × (Nat → Nat → Option Nat) × Nat × Nat × Nat
def mL (S : MM) : List Nat := S.1
def mK (S : MM) : Nat → Nat := S.2.1
def mI (S : MM) : Nat → Nat → Int32 := S.2.2.1
def mR (S : MM) : Nat → Nat → Option Nat := S.2.2.2.1
def mJ (S : MM) : Nat → Nat → Int64 := S.2.2.2.2.1
def mN (S : MM) : Nat → Nat := S.2.2.2.2.2.1
def eI (S : MM) : Nat → Nat → Int32 := S.2.2.2.2.2.2.1
def eJ (S : MM) : Nat → Nat → Int64 := S.2.2.2.2.2.2.2.1
def eR (S : MM) : Nat → Nat → Option Nat := S.2.2.2.2.2.2.2.2.1
/-- where the lists' empty row lies; where the table of remainders and the class object of Object[] lie -/
def mZ (S : MM) : Nat := S.2.2.2.2.2.2.2.2.2.1
def mQ (S : MM) : Nat × Nat := S.2.2.2.2.2.2.2.2.2.2
def up2 {α : Type} (f : Nat → Nat → α) (i a : Nat) (v : α) : Nat → Nat → α := fun j b => if j = i ∧ b = a then v else f j b
/-- a field's new value -/
def sI (S : MM) (i a : Nat) (v : Int32) : MM := (mL S, mK S, up2 (mI S) i a v, mR S, mJ S, mN S, eI S, eJ S, eR S, mZ S, mQ S)
def sR (S : MM) (i a : Nat) (v : Option Nat) : MM := (mL S, mK S, mI S, up2 (mR S) i a v, mJ S, mN S, eI S, eJ S, eR S, mZ S, mQ S)
def sJ (S : MM) (i a : Nat) (v : Int64) : MM := (mL S, mK S, mI S, mR S, up2 (mJ S) i a v, mN S, eI S, eJ S, eR S, mZ S, mQ S)
/-- a row's new contents -/
def rI (S : MM) (a : Nat) (f : Nat → Int32) : MM := (mL S, mK S, mI S, mR S, mJ S, mN S, va_up (eI S) a f, eJ S, eR S, mZ S, mQ S)
def rJ (S : MM) (a : Nat) (f : Nat → Int64) : MM := (mL S, mK S, mI S, mR S, mJ S, mN S, eI S, va_up (eJ S) a f, eR S, mZ S, mQ S)
def rR (S : MM) (a : Nat) (f : Nat → Option Nat) : MM := (mL S, mK S, mI S, mR S, mJ S, mN S, eI S, eJ S, va_up (eR S) a f, mZ S, mQ S)
/-- a new object of kind k, a new array of kind k and length n -/
def nO (S : MM) (a k : Nat) : MM := (mL S ++ [a], va_up (mK S) a k, (fun i b => if b = a then 0 else mI S i b), (fun i b => if b = a then none else mR S i b), (fun i b => if b = a then 0 else mJ S i b), mN S, eI S, eJ S, eR S, mZ S, mQ S)
def nA (S : MM) (a k n : Nat) : MM := (mL S ++ [a], va_up (mK S) a k, mI S, mR S, mJ S, va_up (mN S) a n, va_up (eI S) a (fun _ => 0), va_up (eJ S) a (fun _ => 0), va_up (eR S) a (fun _ => none), mZ S, mQ S)
/-- a new array of kind 28, with its rows of ints -/
def nG (S : MM) (a : Nat) (r : Nat → Nat) (n k : Nat) : MM := (a :: (mL S ++ (List.range n).map r), (fun b => if b = a then 28 else if b ∈ (List.range n).map r then 17 else mK S b), mI S, mR S, mJ S, (fun b => if b = a then n else if b ∈ (List.range n).map r then k else mN S b), (fun b => if b ∈ (List.range n).map r then (fun _ => 0) else eI S b), eJ S, va_up (eR S) a (fun i => if i < n then some (r i) else none), mZ S, mQ S)
/-- the fields of the kinds: 0 a number of 32 bits, 1 a reference, 2 a long -/
def mFt (k : Nat) : List Nat := match k with
  | 0 => [0, 1, 0]
  | 1 => [0, 0, 1]
  | 2 => [1, 0, 0]
  | 3 => [1, 0, 0]
  | 4 => [0, 0]
  | 5 => [1, 0, 0, 1, 1, 0, 0, 1, 1, 1, 1, 1, 1, 0, 0, 0]
  | 6 => [1, 1, 1, 0, 1, 0, 1, 1, 1, 0, 1, 0]
  | 7 => [1, 0, 0, 0, 0, 0]
  | 8 => [1, 1, 1, 0, 0]
  | 9 => [1, 1, 1, 1, 1, 1, 1, 1, 1, 0, 1, 0, 0, 0, 0, 0, 0, 0, 2, 2]
  | 10 => [1, 1, 1, 1, 1, 1, 1, 1, 0, 1, 1, 0, 0, 1, 0]
  | 11 => [0, 1, 1, 1, 1, 1]
  | 12 => [1, 1, 1, 1, 1, 1, 0, 0, 1, 1, 1, 0, 1, 1, 1]
  | 13 => [0, 0, 0, 1, 1, 1, 1, 1, 1, 1, 1, 1, 1, 1, 1, 1, 1, 0, 1, 1, 1, 1, 1, 1, 1, 1, 0]
  | 14 => [1, 0]
  | 15 => [1, 1, 0, 1, 1, 1, 1, 1, 0, 1, 0, 1, 1, 0, 0, 1, 1, 1, 0, 1, 0, 1, 1, 1, 1, 1, 1, 1, 1, 1, 1, 1, 0, 0, 1, 0, 0, 0, 1, 1, 1, 1, 1, 1, 1, 1, 1, 1, 1, 0, 0, 0]
  | _ => []
def mV (S : MM) (t i a : Nat) : Value := match t with
  | 0 => .int (mI S i a)
  | 1 => va_rf (mR S i a)
  | _ => .long (mJ S i a)
def mFv (S : MM) (k a : Nat) : Nat → List Nat → List Value
  | _, [] => []
  | j, t :: ts => mV S t (100 * k + j) a :: mFv S k a (j + 1) ts
def mRow (S : MM) (a : Nat) : (Nat → Int32) ⊕ (Nat → Int64) ⊕ (Nat → UInt32) ⊕ (Nat → UInt64) ⊕ (Nat → Option Nat) := if mK S a = 18 then .inr (.inl (eJ S a)) else if mK S a < 21 then .inl (eI S a) else .inr (.inr (.inr (.inr (eR S a))))
/-- what lies at an address -/
def mE (cy : Nat → ClassId) (S : MM) (a : Nat) : va_E := if mK S a < 16 then .inr (mK S a, mFv S (mK S a) a 0 (mFt (mK S a))) else .inl (cy (mK S a), mN S a, mRow S a)
def mW (cy : Nat → ClassId) (S : MM) : va_W := va_pl (mL S) (mE cy S)
theorem mE_o {cy : Nat → ClassId} {S : MM} {a k : Nat} (h : mK S a = k) (hk : k < 16) : mE cy S a = .inr (k, mFv S k a 0 (mFt k)) := by
  subst h
  exact if_pos hk
theorem mE_a {cy : Nat → ClassId} {S : MM} {a k : Nat} (h : mK S a = k) (hk : ¬ k < 16) : mE cy S a = .inl (cy k, mN S a, mRow S a) := by
  subst h
  exact if_neg hk
theorem up2_s {α : Type} {f : Nat → Nat → α} {i a : Nat} {v : α} : up2 f i a v i a = v := if_pos ⟨rfl, rfl⟩
theorem up2_n {α : Type} {f : Nat → Nat → α} {i a j b : Nat} {v : α} (h : j ≠ i) : up2 f i a v j b = f j b := if_neg (fun q => h q.1)
theorem up2_m {α : Type} {f : Nat → Nat → α} {i a j b : Nat} {v : α} (h : b ≠ a) : up2 f i a v j b = f j b := if_neg (fun q => h q.2)
theorem mFv_len {S : MM} {k a : Nat} : ∀ (ts : List Nat) (j : Nat), (mFv S k a j ts).length = ts.length
  | [], _ => rfl
  | _ :: ts, j => congrArg (· + 1) (mFv_len ts (j + 1))
theorem mFv_get {S : MM} {k a : Nat} : ∀ (ts : List Nat) (j n t : Nat), ts[n]? = some t → (mFv S k a j ts)[n]? = some (mV S t (100 * k + (j + n)) a)
  | [], _, n, t, h => by simp at h
  | t0 :: ts, j, 0, t, h => by
    simp only [List.getElem?_cons_zero, Option.some.injEq] at h
    subst h
    rfl
  | t0 :: ts, j, n + 1, t, h => by
    have h1 := mFv_get (S := S) (k := k) (a := a) ts (j + 1) n t (by simpa using h)
    have e : j + 1 + n = j + (n + 1) := by omega
    rw [e] at h1
    simpa [mFv] using h1

theorem mV_sI {S : MM} {i a : Nat} {v : Int32} {t j b : Nat} (h : j ≠ i ∨ b ≠ a) : mV (sI S i a v) t j b = mV S t j b := by
  have h1 : up2 (mI S) i a v j b = mI S j b := h.elim up2_n up2_m
  match t with
  | 0 => first | rfl | exact congrArg Value.int h1
  | 1 => first | rfl | exact congrArg va_rf h1
  | n + 2 => first | rfl | exact congrArg Value.long h1
theorem mFv_sIa {S : MM} {k i a : Nat} {v : Int32} {b : Nat} : ∀ (ts : List Nat) (j : Nat), (i < 100 * k + j ∨ b ≠ a) → mFv (sI S i a v) k b j ts = mFv S k b j ts
  | [], _, _ => rfl
  | t :: ts, j, h => by
    show _ :: _ = _ :: _
    rw [mV_sI (h.imp (fun q => by omega) id), mFv_sIa ts (j + 1) (h.imp (fun q => by omega) id)]
theorem mFv_sI {S : MM} {k a : Nat} {v : Int32} : ∀ (ts : List Nat) (j n : Nat), ts[n]? = some 0 → (mFv S k a j ts).set n (.int v) = mFv (sI S (100 * k + (j + n)) a v) k a j ts
  | [], _, n, h => by simp at h
  | t0 :: ts, j, 0, h => by
    simp only [List.getElem?_cons_zero, Option.some.injEq] at h
    subst h
    show _ :: _ = _ :: _
    rw [mFv_sIa ts (j + 1) (Or.inl (by omega))]
    refine congrArg (· :: _) ?_
    have h1 : up2 (mI S) (100 * k + (j + 0)) a v (100 * k + j) a = v := up2_s
    show _ = mV _ 0 _ _
    first | exact (congrArg Value.int h1).symm | exact (congrArg va_rf h1).symm | exact (congrArg Value.long h1).symm
  | t0 :: ts, j, n + 1, h => by
    have h1 := mFv_sI (S := S) (k := k) (a := a) (v := v) ts (j + 1) n (by simpa using h)
    have e : j + 1 + n = j + (n + 1) := by omega
    rw [e] at h1
    show _ :: _ = _ :: _
    rw [h1, mV_sI (Or.inl (by omega))]
theorem mW_sI {cy : Nat → ClassId} {S : MM} {A : Nat → Prop} {a k n q0 : Nat} {v : Int32} (hD : va_D A (mW cy S)) (hL : a ∈ mL S) (hk : mK S a = k) (h16 : k < 16) (ht : (mFt k)[n]? = some 0) (he : (mW cy S)[q0]? = some (a, .inr (k, mFv S k a 0 (mFt k)))) : (mW cy S).set q0 (a, .inr (k, (mFv S k a 0 (mFt k)).set n (.int v))) = mW cy (sI S (100 * k + n) a v) := by
  have e := mFv_sI (S := S) (k := k) (a := a) (v := v) (mFt k) 0 n ht
  rw [Nat.zero_add] at e
  rw [e]
  have h1 := va_pl_set (X := []) (f := mE cy S) (e := .inr (k, mFv (sI S (100 * k + n) a v) k a 0 (mFt k))) hD hL (by rw [mE_o hk h16]; exact he)
  refine h1.trans (va_pl_congr fun b => ?_)
  by_cases hb : b = a
  · subst hb
    rw [va_up_self]
    exact (mE_o (S := sI S (100 * k + n) b v) hk h16).symm
  · rw [va_up_ne _ _ hb]
    by_cases h2 : mK S b < 16
    · rw [mE_o (S := S) rfl h2, mE_o (S := sI S (100 * k + n) a v) (k := mK S b) rfl h2, mFv_sIa _ _ (Or.inr hb)]
    · rw [mE_a (S := S) rfl h2, mE_a (S := sI S (100 * k + n) a v) (k := mK S b) rfl h2]
      rfl

theorem mV_sR {S : MM} {i a : Nat} {v : Option Nat} {t j b : Nat} (h : j ≠ i ∨ b ≠ a) : mV (sR S i a v) t j b = mV S t j b := by
  have h1 : up2 (mR S) i a v j b = mR S j b := h.elim up2_n up2_m
  match t with
  | 0 => first | rfl | exact congrArg Value.int h1
  | 1 => first | rfl | exact congrArg va_rf h1
  | n + 2 => first | rfl | exact congrArg Value.long h1
theorem mFv_sRa {S : MM} {k i a : Nat} {v : Option Nat} {b : Nat} : ∀ (ts : List Nat) (j : Nat), (i < 100 * k + j ∨ b ≠ a) → mFv (sR S i a v) k b j ts = mFv S k b j ts
  | [], _, _ => rfl
  | t :: ts, j, h => by
    show _ :: _ = _ :: _
    rw [mV_sR (h.imp (fun q => by omega) id), mFv_sRa ts (j + 1) (h.imp (fun q => by omega) id)]
theorem mFv_sR {S : MM} {k a : Nat} {v : Option Nat} : ∀ (ts : List Nat) (j n : Nat), ts[n]? = some 1 → (mFv S k a j ts).set n (va_rf v) = mFv (sR S (100 * k + (j + n)) a v) k a j ts
  | [], _, n, h => by simp at h
  | t0 :: ts, j, 0, h => by
    simp only [List.getElem?_cons_zero, Option.some.injEq] at h
    subst h
    show _ :: _ = _ :: _
    rw [mFv_sRa ts (j + 1) (Or.inl (by omega))]
    refine congrArg (· :: _) ?_
    have h1 : up2 (mR S) (100 * k + (j + 0)) a v (100 * k + j) a = v := up2_s
    show _ = mV _ 1 _ _
    first | exact (congrArg Value.int h1).symm | exact (congrArg va_rf h1).symm | exact (congrArg Value.long h1).symm
  | t0 :: ts, j, n + 1, h => by
    have h1 := mFv_sR (S := S) (k := k) (a := a) (v := v) ts (j + 1) n (by simpa using h)
    have e : j + 1 + n = j + (n + 1) := by omega
    rw [e] at h1
    show _ :: _ = _ :: _
    rw [h1, mV_sR (Or.inl (by omega))]
theorem mW_sR {cy : Nat → ClassId} {S : MM} {A : Nat → Prop} {a k n q0 : Nat} {v : Option Nat} (hD : va_D A (mW cy S)) (hL : a ∈ mL S) (hk : mK S a = k) (h16 : k < 16) (ht : (mFt k)[n]? = some 1) (he : (mW cy S)[q0]? = some (a, .inr (k, mFv S k a 0 (mFt k)))) : (mW cy S).set q0 (a, .inr (k, (mFv S k a 0 (mFt k)).set n (va_rf v))) = mW cy (sR S (100 * k + n) a v) := by
  have e := mFv_sR (S := S) (k := k) (a := a) (v := v) (mFt k) 0 n ht
  rw [Nat.zero_add] at e
  rw [e]
  have h1 := va_pl_set (X := []) (f := mE cy S) (e := .inr (k, mFv (sR S (100 * k + n) a v) k a 0 (mFt k))) hD hL (by rw [mE_o hk h16]; exact he)
  refine h1.trans (va_pl_congr fun b => ?_)
  by_cases hb : b = a
  · subst hb
    rw [va_up_self]
    exact (mE_o (S := sR S (100 * k + n) b v) hk h16).symm
  · rw [va_up_ne _ _ hb]
    by_cases h2 : mK S b < 16
    · rw [mE_o (S := S) rfl h2, mE_o (S := sR S (100 * k + n) a v) (k := mK S b) rfl h2, mFv_sRa _ _ (Or.inr hb)]
    · rw [mE_a (S := S) rfl h2, mE_a (S := sR S (100 * k + n) a v) (k := mK S b) rfl h2]
      rfl

theorem mV_sJ {S : MM} {i a : Nat} {v : Int64} {t j b : Nat} (h : j ≠ i ∨ b ≠ a) : mV (sJ S i a v) t j b = mV S t j b := by
  have h1 : up2 (mJ S) i a v j b = mJ S j b := h.elim up2_n up2_m
  match t with
  | 0 => first | rfl | exact congrArg Value.int h1
  | 1 => first | rfl | exact congrArg va_rf h1
  | n + 2 => first | rfl | exact congrArg Value.long h1
theorem mFv_sJa {S : MM} {k i a : Nat} {v : Int64} {b : Nat} : ∀ (ts : List Nat) (j : Nat), (i < 100 * k + j ∨ b ≠ a) → mFv (sJ S i a v) k b j ts = mFv S k b j ts
  | [], _, _ => rfl
  | t :: ts, j, h => by
    show _ :: _ = _ :: _
    rw [mV_sJ (h.imp (fun q => by omega) id), mFv_sJa ts (j + 1) (h.imp (fun q => by omega) id)]
theorem mFv_sJ {S : MM} {k a : Nat} {v : Int64} : ∀ (ts : List Nat) (j n : Nat), ts[n]? = some 2 → (mFv S k a j ts).set n (.long v) = mFv (sJ S (100 * k + (j + n)) a v) k a j ts
  | [], _, n, h => by simp at h
  | t0 :: ts, j, 0, h => by
    simp only [List.getElem?_cons_zero, Option.some.injEq] at h
    subst h
    show _ :: _ = _ :: _
    rw [mFv_sJa ts (j + 1) (Or.inl (by omega))]
    refine congrArg (· :: _) ?_
    have h1 : up2 (mJ S) (100 * k + (j + 0)) a v (100 * k + j) a = v := up2_s
    show _ = mV _ 2 _ _
    first | exact (congrArg Value.int h1).symm | exact (congrArg va_rf h1).symm | exact (congrArg Value.long h1).symm
  | t0 :: ts, j, n + 1, h => by
    have h1 := mFv_sJ (S := S) (k := k) (a := a) (v := v) ts (j + 1) n (by simpa using h)
    have e : j + 1 + n = j + (n + 1) := by omega
    rw [e] at h1
    show _ :: _ = _ :: _
    rw [h1, mV_sJ (Or.inl (by omega))]
theorem mW_sJ {cy : Nat → ClassId} {S : MM} {A : Nat → Prop} {a k n q0 : Nat} {v : Int64} (hD : va_D A (mW cy S)) (hL : a ∈ mL S) (hk : mK S a = k) (h16 : k < 16) (ht : (mFt k)[n]? = some 2) (he : (mW cy S)[q0]? = some (a, .inr (k, mFv S k a 0 (mFt k)))) : (mW cy S).set q0 (a, .inr (k, (mFv S k a 0 (mFt k)).set n (.long v))) = mW cy (sJ S (100 * k + n) a v) := by
  have e := mFv_sJ (S := S) (k := k) (a := a) (v := v) (mFt k) 0 n ht
  rw [Nat.zero_add] at e
  rw [e]
  have h1 := va_pl_set (X := []) (f := mE cy S) (e := .inr (k, mFv (sJ S (100 * k + n) a v) k a 0 (mFt k))) hD hL (by rw [mE_o hk h16]; exact he)
  refine h1.trans (va_pl_congr fun b => ?_)
  by_cases hb : b = a
  · subst hb
    rw [va_up_self]
    exact (mE_o (S := sJ S (100 * k + n) b v) hk h16).symm
  · rw [va_up_ne _ _ hb]
    by_cases h2 : mK S b < 16
    · rw [mE_o (S := S) rfl h2, mE_o (S := sJ S (100 * k + n) a v) (k := mK S b) rfl h2, mFv_sJa _ _ (Or.inr hb)]
    · rw [mE_a (S := S) rfl h2, mE_a (S := sJ S (100 * k + n) a v) (k := mK S b) rfl h2]
      rfl

theorem mFv_eq {S S' : MM} {k a : Nat} (h1 : ∀ i, mI S i a = mI S' i a) (h2 : ∀ i, mR S i a = mR S' i a) (h3 : ∀ i, mJ S i a = mJ S' i a) : ∀ (ts : List Nat) (j : Nat), mFv S k a j ts = mFv S' k a j ts
  | [], _ => rfl
  | t :: ts, j => by
    show _ :: _ = _ :: _
    rw [mFv_eq h1 h2 h3 ts (j + 1)]
    refine congrArg (· :: _) ?_
    match t with
    | 0 => exact congrArg Value.int (h1 _)
    | 1 => exact congrArg va_rf (h2 _)
    | n + 2 => exact congrArg Value.long (h3 _)
theorem mRow_I {S : MM} {a : Nat} (hk : mK S a < 21) (h18 : mK S a ≠ 18) : mRow S a = .inl (eI S a) := by
  unfold mRow
  rw [if_neg h18, if_pos hk]
theorem mW_rI {cy : Nat → ClassId} {S : MM} {A : Nat → Prop} {a q0 : Nat} {f : Nat → Int32} (hD : va_D A (mW cy S)) (hL : a ∈ mL S) (h16 : ¬ mK S a < 16) (hk : mK S a < 21) (h18 : mK S a ≠ 18) (he : (mW cy S)[q0]? = some (a, .inl (cy (mK S a), mN S a, .inl (eI S a)))) : (mW cy S).set q0 (a, .inl (cy (mK S a), mN S a, .inl f)) = mW cy (rI S a f) := by
  have h0 : mE cy S a = .inl (cy (mK S a), mN S a, .inl (eI S a)) := by rw [mE_a (S := S) rfl h16, mRow_I hk h18]
  have h1 := va_pl_set (X := []) (f := mE cy S) (e := .inl (cy (mK S a), mN S a, .inl f)) hD hL (by rw [h0]; exact he)
  refine h1.trans (va_pl_congr fun b => ?_)
  by_cases hb : b = a
  · subst hb
    have e1 : mE cy (rI S b f) b = .inl (cy (mK S b), mN S b, .inl f) := by
      rw [mE_a (S := rI S b f) (k := mK S b) rfl h16, mRow_I (S := rI S b f) hk h18]
      exact congrArg (fun z => (Sum.inl (cy (mK S b), mN S b, .inl z) : va_E)) (va_up_self (eI S) b f)
    rw [va_up_self, e1]
  · rw [va_up_ne _ _ hb]
    by_cases h2 : mK S b < 16
    · rw [mE_o (S := S) rfl h2, mE_o (S := rI S a f) (k := mK S b) rfl h2]
      have e2 : mFv S (mK S b) b 0 (mFt (mK S b)) = mFv (rI S a f) (mK S b) b 0 (mFt (mK S b)) := mFv_eq (S := S) (S' := rI S a f) (fun _ => rfl) (fun _ => rfl) (fun _ => rfl) _ _
      exact congrArg (fun z => (Sum.inr (mK S b, z) : va_E)) e2
    · rw [mE_a (S := S) rfl h2, mE_a (S := rI S a f) (k := mK S b) rfl h2]
      have e0 : eI (rI S a f) b = eI S b := va_up_ne _ _ hb
      have e3 : mRow S b = mRow (rI S a f) b := by
        unfold mRow
        rw [e0]
        rfl
      exact congrArg (fun z => (Sum.inl (cy (mK S b), mN S b, z) : va_E)) e3

theorem mRow_J {S : MM} {a : Nat} (h18 : mK S a = 18) : mRow S a = .inr (.inl (eJ S a)) := by
  unfold mRow
  rw [if_pos h18]
theorem mW_rJ {cy : Nat → ClassId} {S : MM} {A : Nat → Prop} {a q0 : Nat} {f : Nat → Int64} (hD : va_D A (mW cy S)) (hL : a ∈ mL S) (h16 : ¬ mK S a < 16) (h18 : mK S a = 18) (he : (mW cy S)[q0]? = some (a, .inl (cy (mK S a), mN S a, .inr (.inl (eJ S a))))) : (mW cy S).set q0 (a, .inl (cy (mK S a), mN S a, .inr (.inl f))) = mW cy (rJ S a f) := by
  have h0 : mE cy S a = .inl (cy (mK S a), mN S a, .inr (.inl (eJ S a))) := by rw [mE_a (S := S) rfl h16, mRow_J h18]
  have h1 := va_pl_set (X := []) (f := mE cy S) (e := .inl (cy (mK S a), mN S a, .inr (.inl f))) hD hL (by rw [h0]; exact he)
  refine h1.trans (va_pl_congr fun b => ?_)
  by_cases hb : b = a
  · subst hb
    have e1 : mE cy (rJ S b f) b = .inl (cy (mK S b), mN S b, .inr (.inl f)) := by
      rw [mE_a (S := rJ S b f) (k := mK S b) rfl h16, mRow_J (S := rJ S b f) h18]
      exact congrArg (fun z => (Sum.inl (cy (mK S b), mN S b, .inr (.inl z)) : va_E)) (va_up_self (eJ S) b f)
    rw [va_up_self, e1]
  · rw [va_up_ne _ _ hb]
    by_cases h2 : mK S b < 16
    · rw [mE_o (S := S) rfl h2, mE_o (S := rJ S a f) (k := mK S b) rfl h2]
      have e2 : mFv S (mK S b) b 0 (mFt (mK S b)) = mFv (rJ S a f) (mK S b) b 0 (mFt (mK S b)) := mFv_eq (S := S) (S' := rJ S a f) (fun _ => rfl) (fun _ => rfl) (fun _ => rfl) _ _
      exact congrArg (fun z => (Sum.inr (mK S b, z) : va_E)) e2
    · rw [mE_a (S := S) rfl h2, mE_a (S := rJ S a f) (k := mK S b) rfl h2]
      have e0 : eJ (rJ S a f) b = eJ S b := va_up_ne _ _ hb
      have e3 : mRow S b = mRow (rJ S a f) b := by
        unfold mRow
        rw [e0]
        rfl
      exact congrArg (fun z => (Sum.inl (cy (mK S b), mN S b, z) : va_E)) e3

theorem mRow_R {S : MM} {a : Nat} (hk : ¬ mK S a < 21) : mRow S a = .inr (.inr (.inr (.inr (eR S a)))) := by
  unfold mRow
  rw [if_neg (fun q => hk (by omega)), if_neg hk]
theorem mW_rR {cy : Nat → ClassId} {S : MM} {A : Nat → Prop} {a q0 : Nat} {f : Nat → Option Nat} (hD : va_D A (mW cy S)) (hL : a ∈ mL S) (h16 : ¬ mK S a < 16) (hk : ¬ mK S a < 21) (he : (mW cy S)[q0]? = some (a, .inl (cy (mK S a), mN S a, .inr (.inr (.inr (.inr (eR S a))))))) : (mW cy S).set q0 (a, .inl (cy (mK S a), mN S a, .inr (.inr (.inr (.inr f))))) = mW cy (rR S a f) := by
  have h0 : mE cy S a = .inl (cy (mK S a), mN S a, .inr (.inr (.inr (.inr (eR S a))))) := by rw [mE_a (S := S) rfl h16, mRow_R hk]
  have h1 := va_pl_set (X := []) (f := mE cy S) (e := .inl (cy (mK S a), mN S a, .inr (.inr (.inr (.inr f))))) hD hL (by rw [h0]; exact he)
  refine h1.trans (va_pl_congr fun b => ?_)
  by_cases hb : b = a
  · subst hb
    have e1 : mE cy (rR S b f) b = .inl (cy (mK S b), mN S b, .inr (.inr (.inr (.inr f)))) := by
      rw [mE_a (S := rR S b f) (k := mK S b) rfl h16, mRow_R (S := rR S b f) hk]
      exact congrArg (fun z => (Sum.inl (cy (mK S b), mN S b, .inr (.inr (.inr (.inr z)))) : va_E)) (va_up_self (eR S) b f)
    rw [va_up_self, e1]
  · rw [va_up_ne _ _ hb]
    by_cases h2 : mK S b < 16
    · rw [mE_o (S := S) rfl h2, mE_o (S := rR S a f) (k := mK S b) rfl h2]
      have e2 : mFv S (mK S b) b 0 (mFt (mK S b)) = mFv (rR S a f) (mK S b) b 0 (mFt (mK S b)) := mFv_eq (S := S) (S' := rR S a f) (fun _ => rfl) (fun _ => rfl) (fun _ => rfl) _ _
      exact congrArg (fun z => (Sum.inr (mK S b, z) : va_E)) e2
    · rw [mE_a (S := S) rfl h2, mE_a (S := rR S a f) (k := mK S b) rfl h2]
      have e0 : eR (rR S a f) b = eR S b := va_up_ne _ _ hb
      have e3 : mRow S b = mRow (rR S a f) b := by
        unfold mRow
        rw [e0]
        rfl
      exact congrArg (fun z => (Sum.inl (cy (mK S b), mN S b, z) : va_E)) e3
