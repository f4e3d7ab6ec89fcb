/-! ===== NEW THINGS, CALLS, RETURNS; RUNS; CONTRACTS ===== -/
section MSOUND2
variable {p : Program} {l : Launch} {e : Env} {R : Room} {s : State} {m : MethodId} {args : Array Value} {below : List Frame} {meth : Method} {c : Code} {Q : State → Prop} {cc : ByteArray} {nL : Nat} {own : String} {D : va_G} {cy : Nat → ClassId} {z r0 : Nat} {A : Nat → Prop} {ev : EV} {ini : Bool} {tb : CD} {g : CD → KT} {ret : Option MV → MM → Nat → Nat → Prop} {pc : Nat} {rest : CD} {lo : List (Nat × MV)} {st : List MV} {S : MM} {cs sl : Nat}
theorem ms_arraylength (C : mCx p l s m args meth c cc nL own D cy z r0 A) (hd : decode cc pc = .ok (.arraylength, 1)) (hn : ∀ lo st S cs sl, g rest lo st S cs sl → JJ p l e R s m args below meth c Q nL D cy A (pc + 1) lo st S cs sl) (h : mstep ev ini nL R.cells R.slots tb g ret pc (.arraylength) rest lo st S cs sl) : JJ p l e R s m args below meth c Q nL D cy A pc lo st S cs sl := by
  obtain ⟨o, st, rfl, g1⟩ := pr_of h
  obtain ⟨a, rfl, h1, h2, h3, g2⟩ := pa_of g1
  refine fun ls H locs hl hP hD hS => ?_
  obtain ⟨q0, hq⟩ := mat (cy := cy) (k := mK S a) ⟨h1, rfl⟩
  rw [mE_a rfl h2] at hq
  have ht : ∃ (t0 : Nat) (ty : FieldType), (mtys cy)[t0]? = some (cy (mK S a), ty) := by
    have h4 : mK S a = 16 ∨ mK S a = 17 ∨ mK S a = 18 ∨ mK S a = 19 ∨ mK S a = 20 ∨ mK S a = 21 ∨ mK S a = 22 ∨ mK S a = 23 ∨ mK S a = 24 ∨ mK S a = 25 ∨ mK S a = 26 ∨ mK S a = 27 ∨ mK S a = 28 := by omega
    rcases h4 with e | e | e | e | e | e | e | e | e | e | e | e | e <;> rw [e]
    · exact ⟨0, _, rfl⟩
    · exact ⟨1, _, rfl⟩
    · exact ⟨2, _, rfl⟩
    · exact ⟨3, _, rfl⟩
    · exact ⟨4, _, rfl⟩
    · exact ⟨5, _, rfl⟩
    · exact ⟨6, _, rfl⟩
    · exact ⟨7, _, rfl⟩
    · exact ⟨8, _, rfl⟩
    · exact ⟨9, _, rfl⟩
    · exact ⟨10, _, rfl⟩
    · exact ⟨11, _, rfl⟩
    · exact ⟨12, _, rfl⟩
  obtain ⟨t0, ty, ht⟩ := ht
  exact va_alen C.1 C.2.1 C.2.2.2.2.2.1 hP q0 t0 hq ht rfl hd (hn _ _ _ _ _ g2 ls H locs hl hP hD hS)

def mD0 (t : Nat) : Value := match t with
  | 0 => .int 0
  | 1 => .null
  | _ => .long 0
theorem mFv_new {a k : Nat} : ∀ (ts : List Nat) (j : Nat), mFv (nO S a k) k a j ts = ts.map mD0
  | [], _ => rfl
  | t :: ts, j => by
    show _ :: _ = _ :: _
    rw [mFv_new ts (j + 1)]
    refine congrArg (· :: _) ?_
    match t with
    | 0 => exact congrArg Value.int (if_pos rfl)
    | 1 => exact congrArg va_rf (if_pos rfl)
    | n + 2 => exact congrArg Value.long (if_pos rfl)
theorem mW_nO {a k : Nat} (hk : k < 16) (ha : a ∉ mL S) : mW cy S ++ [(a, .inr (k, (mFt k).map mD0))] = mW cy (nO S a k) := by
  have h1 := va_pl_push (f := mE cy S) (e := .inr (k, (mFt k).map mD0)) ha
  refine h1.trans (va_pl_congr fun b => ?_)
  by_cases hb : b = a
  · subst hb
    rw [va_up_self, mE_o (S := nO S b k) (k := k) (va_up_self _ _ _) hk, mFv_new]
  · rw [va_up_ne _ _ hb]
    have e0 : mK (nO S a k) b = mK S b := va_up_ne _ _ hb
    by_cases h2 : mK S b < 16
    · rw [mE_o (S := S) rfl h2, mE_o (S := nO S a k) (k := mK S b) e0 h2]
      exact congrArg (fun z => (Sum.inr (mK S b, z) : va_E)) (mFv_eq (S := S) (S' := nO S a k) (fun _ => (if_neg hb).symm) (fun _ => (if_neg hb).symm) (fun _ => (if_neg hb).symm) _ _)
    · rw [mE_a (S := S) rfl h2, mE_a (S := nO S a k) (k := mK S b) e0 h2]
      have e3 : mRow S b = mRow (nO S a k) b := by
        unfold mRow
        rw [e0]
        rfl
      exact congrArg (fun z => (Sum.inl (cy (mK S b), mN S b, z) : va_E)) e3
/-- what a class's entry of 'new' means -/
def nOK (own : String) (n k : Nat) : Prop :=
  ∃ (Cn : String) (T : u_T) (N : Nat) (ty0 : Nat → FieldType), vwCl[k]? = some (Cn, T, N) ∧ k < 16 ∧ (∀ w ∈ u_ws Cn T N, w ∈ lw_good) ∧ (∀ j, j < N → parseFieldDescriptor (T j).2.2.1 = some (ty0 j)) ∧ (mFt k).length = N ∧ (∀ j, j < N → defaultValue (ty0 j) = vp_V ((mFt k).map mD0) j) ∧
    Cond.classLink own n Cn ∈ lw_good ∧ Cond.instantiable Cn N ∈ lw_good ∧ Cond.initialized Cn ∈ lw_good
theorem ms_new {n : Nat} (C : mCx p l s m args meth c cc nL own D cy z r0 A) (hd : decode cc pc = .ok (.new n, 3)) (hF : ∀ q ∈ ev.2.1, nOK own q.1 q.2) (hn : ∀ lo st S cs sl, g rest lo st S cs sl → JJ p l e R s m args below meth c Q nL D cy A (pc + 3) lo st S cs sl) (h : mstep ev ini nL R.cells R.slots tb g ret pc (.new n) rest lo st S cs sl) : JJ p l e R s m args below meth c Q nL D cy A pc lo st S cs sl := by
  obtain ⟨k, hk, h1, h2, g1⟩ := po_of h
  obtain ⟨Cn, T, N, ty0, f1, f2, f3, f4, f5, f6, f7, f8, f9⟩ := hF _ (look_in hk)
  dsimp only at f1 f2 f5 f6
  refine fun ls H locs hl hP hD hS => ?_
  rw [f5] at h2
  refine va_new (ci := k) (fs := (mFt k).map mD0) (C := Cn) (T := T) (N := N) C.1 C.2.1 C.2.2.2.2.1 f3 ty0 f4 C.2.2.2.1 (C.2.2.2.2.1 _ f7) (C.2.2.2.2.1 _ f8) (C.2.2.2.2.1 _ f9) C.2.2.2.2.2.1 hP hD hS C.2.2.2.2.2.2.1 f1 f6 h1 h2 hd (fun q H1 hP1 hD1 hS1 => ?_)
  have hq : q ∉ mL S := va_pl_fresh2 (X := []) hD1
  rw [mW_nO f2 hq] at hP1 hD1
  have g2 := g1 q hq
  rw [f5] at g2
  exact hn _ _ _ _ _ g2 ls H1 locs hl hP1 hD1 hS1

theorem mW_nA {a k n : Nat} (hk : ¬ k < 16) (ha : a ∉ mL S) : mW cy S ++ [(a, .inl (cy k, n, mRow (nA S a k n) a))] = mW cy (nA S a k n) := by
  have h1 := va_pl_push (f := mE cy S) (e := .inl (cy k, n, mRow (nA S a k n) a)) ha
  refine h1.trans (va_pl_congr fun b => ?_)
  by_cases hb : b = a
  · subst hb
    rw [va_up_self, mE_a (S := nA S b k n) (k := k) (va_up_self _ _ _) hk]
    exact congrArg (fun z => (Sum.inl (cy k, z, mRow (nA S b k n) b) : va_E)) (va_up_self (mN S) b n).symm
  · rw [va_up_ne _ _ hb]
    have e0 : mK (nA S a k n) b = mK S b := va_up_ne _ _ hb
    by_cases h2 : mK S b < 16
    · rw [mE_o (S := S) rfl h2, mE_o (S := nA S a k n) (k := mK S b) e0 h2]
      exact congrArg (fun z => (Sum.inr (mK S b, z) : va_E)) (mFv_eq (S := S) (S' := nA S a k n) (fun _ => rfl) (fun _ => rfl) (fun _ => rfl) _ _)
    · rw [mE_a (S := S) rfl h2, mE_a (S := nA S a k n) (k := mK S b) e0 h2]
      have e1 : mN (nA S a k n) b = mN S b := va_up_ne _ _ hb
      have e2 : eI (nA S a k n) b = eI S b := va_up_ne _ _ hb
      have e4 : eJ (nA S a k n) b = eJ S b := va_up_ne _ _ hb
      have e5 : eR (nA S a k n) b = eR S b := va_up_ne _ _ hb
      have e3 : mRow S b = mRow (nA S a k n) b := by
        unfold mRow
        rw [e0, e2, e4, e5]
      rw [e1, e3]

theorem ms_newarray_int (C : mCx p l s m args meth c cc nL own D cy z r0 A) (hd : decode cc pc = .ok (.newarray .int, 2)) (hF : Cond.arrayClass .int ∈ lw_good) (hn : ∀ lo st S cs sl, g rest lo st S cs sl → JJ p l e R s m args below meth c Q nL D cy A (pc + 2) lo st S cs sl) (h : mstep ev ini nL R.cells R.slots tb g ret pc (.newarray .int) rest lo st S cs sl) : JJ p l e R s m args below meth c Q nL D cy A pc lo st S cs sl := by
  obtain ⟨n, st, rfl, g1⟩ := pi_of h
  obtain ⟨h1, h2, h3, h4, g2⟩ := g1
  refine fun ls H locs hl hP hD hS => ?_
  refine va_newa (atype := .int) (ty := .int) (a0 := (n.toNatClampNeg, .inl (fun _ => 0))) C.1 C.2.1 (C.2.2.2.2.1 _ hF) rfl C.2.2.2.2.2.1 hP hD hS C.2.2.2.2.2.2.1 (fun _ => rfl) h1 rfl (Nat.le_trans (Nat.mul_le_mul_left _ (by decide)) h2) h3 h4 hd (fun q cA H1 hK1 hP1 hD1 hS1 => ?_)
  have hq : q ∉ mL S := va_pl_fresh2 (X := []) hD1
  have e1 : cA = cy 17 := by
    have a1 := (hK1.2 13 (cA, .int) rfl).2
    have a2 := (C.2.2.2.2.2.1.2 1 (cy 17, .int) rfl).2
    exact Option.some.inj (a1.symm.trans a2)
  subst e1
  have e2 : mRow (nA S q 17 n.toNatClampNeg) q = .inl (fun _ => 0) := by
    have k1 : mK (nA S q 17 n.toNatClampNeg) q = 17 := va_up_self _ _ _
    unfold mRow
    rw [k1]
    exact congrArg (fun z => (Sum.inl z : (Nat → Int32) ⊕ (Nat → Int64) ⊕ (Nat → UInt32) ⊕ (Nat → UInt64) ⊕ (Nat → Option Nat))) (va_up_self (eI S) q _)
  have e3 := mW_nA (cy := cy) (n := n.toNatClampNeg) (k := 17) (by decide) hq
  rw [e2] at e3
  rw [e3] at hP1 hD1
  exact hn _ _ _ _ _ (g2 q hq) ls H1 locs hl hP1 hD1 hS1

theorem ms_newarray_byte (C : mCx p l s m args meth c cc nL own D cy z r0 A) (hd : decode cc pc = .ok (.newarray .byte, 2)) (hF : Cond.arrayClass .byte ∈ lw_good) (hn : ∀ lo st S cs sl, g rest lo st S cs sl → JJ p l e R s m args below meth c Q nL D cy A (pc + 2) lo st S cs sl) (h : mstep ev ini nL R.cells R.slots tb g ret pc (.newarray .byte) rest lo st S cs sl) : JJ p l e R s m args below meth c Q nL D cy A pc lo st S cs sl := by
  obtain ⟨n, st, rfl, g1⟩ := pi_of h
  obtain ⟨h1, h2, h3, h4, g2⟩ := g1
  refine fun ls H locs hl hP hD hS => ?_
  refine va_newa (atype := .byte) (ty := .byte) (a0 := (n.toNatClampNeg, .inl (fun _ => 0))) C.1 C.2.1 (C.2.2.2.2.1 _ hF) rfl C.2.2.2.2.2.1 hP hD hS C.2.2.2.2.2.2.1 (fun _ => rfl) h1 rfl (Nat.le_trans (Nat.mul_le_mul_left _ (by decide)) h2) h3 h4 hd (fun q cA H1 hK1 hP1 hD1 hS1 => ?_)
  have hq : q ∉ mL S := va_pl_fresh2 (X := []) hD1
  have e1 : cA = cy 16 := by
    have a1 := (hK1.2 13 (cA, .byte) rfl).2
    have a2 := (C.2.2.2.2.2.1.2 0 (cy 16, .byte) rfl).2
    exact Option.some.inj (a1.symm.trans a2)
  subst e1
  have e2 : mRow (nA S q 16 n.toNatClampNeg) q = .inl (fun _ => 0) := by
    have k1 : mK (nA S q 16 n.toNatClampNeg) q = 16 := va_up_self _ _ _
    unfold mRow
    rw [k1]
    exact congrArg (fun z => (Sum.inl z : (Nat → Int32) ⊕ (Nat → Int64) ⊕ (Nat → UInt32) ⊕ (Nat → UInt64) ⊕ (Nat → Option Nat))) (va_up_self (eI S) q _)
  have e3 := mW_nA (cy := cy) (n := n.toNatClampNeg) (k := 16) (by decide) hq
  rw [e2] at e3
  rw [e3] at hP1 hD1
  exact hn _ _ _ _ _ (g2 q hq) ls H1 locs hl hP1 hD1 hS1

theorem ms_newarray_long (C : mCx p l s m args meth c cc nL own D cy z r0 A) (hd : decode cc pc = .ok (.newarray .long, 2)) (hF : Cond.arrayClass .long ∈ lw_good) (hn : ∀ lo st S cs sl, g rest lo st S cs sl → JJ p l e R s m args below meth c Q nL D cy A (pc + 2) lo st S cs sl) (h : mstep ev ini nL R.cells R.slots tb g ret pc (.newarray .long) rest lo st S cs sl) : JJ p l e R s m args below meth c Q nL D cy A pc lo st S cs sl := by
  obtain ⟨n, st, rfl, g1⟩ := pi_of h
  obtain ⟨h1, h2, h3, h4, g2⟩ := g1
  refine fun ls H locs hl hP hD hS => ?_
  refine va_newa (atype := .long) (ty := .long) (a0 := (n.toNatClampNeg, .inr (.inl (fun _ => 0)))) C.1 C.2.1 (C.2.2.2.2.1 _ hF) rfl C.2.2.2.2.2.1 hP hD hS C.2.2.2.2.2.2.1 (fun _ => rfl) h1 rfl (Nat.le_trans (Nat.mul_le_mul_left _ (by decide)) h2) h3 h4 hd (fun q cA H1 hK1 hP1 hD1 hS1 => ?_)
  have hq : q ∉ mL S := va_pl_fresh2 (X := []) hD1
  have e1 : cA = cy 18 := by
    have a1 := (hK1.2 13 (cA, .long) rfl).2
    have a2 := (C.2.2.2.2.2.1.2 2 (cy 18, .long) rfl).2
    exact Option.some.inj (a1.symm.trans a2)
  subst e1
  have e2 : mRow (nA S q 18 n.toNatClampNeg) q = .inr (.inl (fun _ => 0)) := by
    have k1 : mK (nA S q 18 n.toNatClampNeg) q = 18 := va_up_self _ _ _
    unfold mRow
    rw [k1]
    exact congrArg (fun z => (Sum.inr (Sum.inl z) : (Nat → Int32) ⊕ (Nat → Int64) ⊕ (Nat → UInt32) ⊕ (Nat → UInt64) ⊕ (Nat → Option Nat))) (va_up_self (eJ S) q _)
  have e3 := mW_nA (cy := cy) (n := n.toNatClampNeg) (k := 18) (by decide) hq
  rw [e2] at e3
  rw [e3] at hP1 hD1
  exact hn _ _ _ _ _ (g2 q hq) ls H1 locs hl hP1 hD1 hS1

theorem ms_newarray_short (C : mCx p l s m args meth c cc nL own D cy z r0 A) (hd : decode cc pc = .ok (.newarray .short, 2)) (hF : Cond.arrayClass .short ∈ lw_good) (hn : ∀ lo st S cs sl, g rest lo st S cs sl → JJ p l e R s m args below meth c Q nL D cy A (pc + 2) lo st S cs sl) (h : mstep ev ini nL R.cells R.slots tb g ret pc (.newarray .short) rest lo st S cs sl) : JJ p l e R s m args below meth c Q nL D cy A pc lo st S cs sl := by
  obtain ⟨n, st, rfl, g1⟩ := pi_of h
  obtain ⟨h1, h2, h3, h4, g2⟩ := g1
  refine fun ls H locs hl hP hD hS => ?_
  refine va_newa (atype := .short) (ty := .short) (a0 := (n.toNatClampNeg, .inl (fun _ => 0))) C.1 C.2.1 (C.2.2.2.2.1 _ hF) rfl C.2.2.2.2.2.1 hP hD hS C.2.2.2.2.2.2.1 (fun _ => rfl) h1 rfl (Nat.le_trans (Nat.mul_le_mul_left _ (by decide)) h2) h3 h4 hd (fun q cA H1 hK1 hP1 hD1 hS1 => ?_)
  have hq : q ∉ mL S := va_pl_fresh2 (X := []) hD1
  have e1 : cA = cy 19 := by
    have a1 := (hK1.2 13 (cA, .short) rfl).2
    have a2 := (C.2.2.2.2.2.1.2 3 (cy 19, .short) rfl).2
    exact Option.some.inj (a1.symm.trans a2)
  subst e1
  have e2 : mRow (nA S q 19 n.toNatClampNeg) q = .inl (fun _ => 0) := by
    have k1 : mK (nA S q 19 n.toNatClampNeg) q = 19 := va_up_self _ _ _
    unfold mRow
    rw [k1]
    exact congrArg (fun z => (Sum.inl z : (Nat → Int32) ⊕ (Nat → Int64) ⊕ (Nat → UInt32) ⊕ (Nat → UInt64) ⊕ (Nat → Option Nat))) (va_up_self (eI S) q _)
  have e3 := mW_nA (cy := cy) (n := n.toNatClampNeg) (k := 19) (by decide) hq
  rw [e2] at e3
  rw [e3] at hP1 hD1
  exact hn _ _ _ _ _ (g2 q hq) ls H1 locs hl hP1 hD1 hS1

theorem ms_newarray_boolean (C : mCx p l s m args meth c cc nL own D cy z r0 A) (hd : decode cc pc = .ok (.newarray .boolean, 2)) (hF : Cond.arrayClass .boolean ∈ lw_good) (hn : ∀ lo st S cs sl, g rest lo st S cs sl → JJ p l e R s m args below meth c Q nL D cy A (pc + 2) lo st S cs sl) (h : mstep ev ini nL R.cells R.slots tb g ret pc (.newarray .boolean) rest lo st S cs sl) : JJ p l e R s m args below meth c Q nL D cy A pc lo st S cs sl := by
  obtain ⟨n, st, rfl, g1⟩ := pi_of h
  obtain ⟨h1, h2, h3, h4, g2⟩ := g1
  refine fun ls H locs hl hP hD hS => ?_
  refine va_newa (atype := .boolean) (ty := .boolean) (a0 := (n.toNatClampNeg, .inl (fun _ => 0))) C.1 C.2.1 (C.2.2.2.2.1 _ hF) rfl C.2.2.2.2.2.1 hP hD hS C.2.2.2.2.2.2.1 (fun _ => rfl) h1 rfl (Nat.le_trans (Nat.mul_le_mul_left _ (by decide)) h2) h3 h4 hd (fun q cA H1 hK1 hP1 hD1 hS1 => ?_)
  have hq : q ∉ mL S := va_pl_fresh2 (X := []) hD1
  have e1 : cA = cy 20 := by
    have a1 := (hK1.2 13 (cA, .boolean) rfl).2
    have a2 := (C.2.2.2.2.2.1.2 4 (cy 20, .boolean) rfl).2
    exact Option.some.inj (a1.symm.trans a2)
  subst e1
  have e2 : mRow (nA S q 20 n.toNatClampNeg) q = .inl (fun _ => 0) := by
    have k1 : mK (nA S q 20 n.toNatClampNeg) q = 20 := va_up_self _ _ _
    unfold mRow
    rw [k1]
    exact congrArg (fun z => (Sum.inl z : (Nat → Int32) ⊕ (Nat → Int64) ⊕ (Nat → UInt32) ⊕ (Nat → UInt64) ⊕ (Nat → Option Nat))) (va_up_self (eI S) q _)
  have e3 := mW_nA (cy := cy) (n := n.toNatClampNeg) (k := 20) (by decide) hq
  rw [e2] at e3
  rw [e3] at hP1 hD1
  exact hn _ _ _ _ _ (g2 q hq) ls H1 locs hl hP1 hD1 hS1

theorem ms_ldc {n : Nat} (C : mCx p l s m args meth c cc nL own D cy z r0 A) (hd : decode cc pc = .ok (.ldc n, 2)) (hF : ∀ q ∈ ev.2.2.2.1, Cond.constant own q.1 q.2 ∈ lw_good) (hn : ∀ lo st S cs sl, g rest lo st S cs sl → JJ p l e R s m args below meth c Q nL D cy A (pc + 2) lo st S cs sl) (h : mstep ev ini nL R.cells R.slots tb g ret pc (.ldc n) rest lo st S cs sl) : JJ p l e R s m args below meth c Q nL D cy A pc lo st S cs sl := by
  obtain ⟨v, hv, g1⟩ := po_of h
  exact fun ls H locs hl hP hD hS => lv_ldc C.1 C.2.1 C.2.2.2.1 (C.2.2.2.2.1 _ (hF _ (look_in hv))) hd (hn _ _ _ _ _ g1 ls H locs hl hP hD hS)

theorem ms_ldc_w {n : Nat} (C : mCx p l s m args meth c cc nL own D cy z r0 A) (hd : decode cc pc = .ok (.ldc_w n, 3)) (hF : ∀ q ∈ ev.2.2.2.1, Cond.constant own q.1 q.2 ∈ lw_good) (hn : ∀ lo st S cs sl, g rest lo st S cs sl → JJ p l e R s m args below meth c Q nL D cy A (pc + 3) lo st S cs sl) (h : mstep ev ini nL R.cells R.slots tb g ret pc (.ldc_w n) rest lo st S cs sl) : JJ p l e R s m args below meth c Q nL D cy A pc lo st S cs sl := by
  obtain ⟨v, hv, g1⟩ := po_of h
  exact fun ls H locs hl hP hD hS => lv_ldcw C.1 C.2.1 C.2.2.2.1 (C.2.2.2.2.1 _ (hF _ (look_in hv))) hd (hn _ _ _ _ _ g1 ls H locs hl hP hD hS)

theorem ms_ldc2_w {n : Nat} (C : mCx p l s m args meth c cc nL own D cy z r0 A) (hd : decode cc pc = .ok (.ldc2_w n, 3)) (hF : ∀ q ∈ ev.2.2.2.2.1, Cond.constantLong own q.1 q.2 ∈ lw_good) (hn : ∀ lo st S cs sl, g rest lo st S cs sl → JJ p l e R s m args below meth c Q nL D cy A (pc + 3) lo st S cs sl) (h : mstep ev ini nL R.cells R.slots tb g ret pc (.ldc2_w n) rest lo st S cs sl) : JJ p l e R s m args below meth c Q nL D cy A pc lo st S cs sl := by
  obtain ⟨v, hv, g1⟩ := po_of h
  exact fun ls H locs hl hP hD hS => lv_ldc2 C.1 C.2.1 C.2.2.2.1 (C.2.2.2.2.1 _ (hF _ (look_in hv))) hd (hn _ _ _ _ _ g1 ls H locs hl hP hD hS)

/-- what an entry of a call means here -/
def cOK (p : Program) (l : Launch) (e : Env) (R : Room) (s : State) (m : MethodId) (args : Array Value) (below : List Frame) (meth : Method) (c : Code) (Q : State → Prop) (cc : ByteArray) (nL : Nat) (D : va_G) (cy : Nat → ClassId) (A : Nat → Prop) (q : Nat × Nat × Nat × Sp) : Prop :=
  ∀ (pc : Nat) (lo : List (Nat × MV)) (av rest : List MV) (S : MM) (cs sl : Nat) (i : Instr), (q.2.1 = 0 ∧ i = .invokevirtual q.1 ∨ q.2.1 = 1 ∧ i = .invokespecial q.1 ∨ q.2.1 = 2 ∧ i = .invokestatic q.1) → decode cc pc = .ok (i, 3) → av.length = q.2.2.1 → msum rest ≤ 8 → q.2.2.2.1 av S → cs + q.2.2.2.2.1 av S ≤ R.cells → sl + q.2.2.2.2.2.1 av S ≤ R.slots →
    (∀ r S', q.2.2.2.2.2.2 av S r S' → JJ p l e R s m args below meth c Q nL D cy A (pc + 3) lo (r.toList ++ rest) S' (cs + q.2.2.2.2.1 av S) (sl + q.2.2.2.2.2.1 av S)) → JJ p l e R s m args below meth c Q nL D cy A pc lo (av.reverse ++ rest) S cs sl
theorem mcal_ok {q : Nat × Nat × Nat × Sp} {i : Instr} (hc : cOK p l e R s m args below meth c Q cc nL D cy A q) (hi : q.2.1 = 0 ∧ i = .invokevirtual q.1 ∨ q.2.1 = 1 ∧ i = .invokespecial q.1 ∨ q.2.1 = 2 ∧ i = .invokestatic q.1) (hd : decode cc pc = .ok (i, 3)) (hn : ∀ lo st S cs sl, g rest lo st S cs sl → JJ p l e R s m args below meth c Q nL D cy A (pc + 3) lo st S cs sl) (h : mcal g R.cells R.slots q.2.2 rest lo st S cs sl) : JJ p l e R s m args below meth c Q nL D cy A pc lo st S cs sl := by
  unfold mcal at h
  split at h
  · rename_i e1
    rw [Bool.and_eq_true] at e1
    have e2 := Nat.le_of_ble_eq_true e1.1
    have e3 := Nat.le_of_ble_eq_true e1.2
    obtain ⟨h1, h2, h3, h4⟩ := h
    have k := hc pc lo (st.take q.2.2.1).reverse (st.drop q.2.2.1) S cs sl i hi hd (by rw [List.length_reverse, List.length_take]; omega) e2 h1 h2 h3 (fun r S' hp => hn _ _ _ _ _ (h4 r S' hp))
    rw [List.reverse_reverse, List.take_append_drop] at k
    exact k
  · exact h.elim

theorem ms_invokevirtual {n : Nat} (hd : decode cc pc = .ok (.invokevirtual n, 3)) (hF : ∀ q ∈ ev.2.2.2.2.2, cOK p l e R s m args below meth c Q cc nL D cy A q) (hn : ∀ lo st S cs sl, g rest lo st S cs sl → JJ p l e R s m args below meth c Q nL D cy A (pc + 3) lo st S cs sl) (h : mstep ev ini nL R.cells R.slots tb g ret pc (.invokevirtual n) rest lo st S cs sl) : JJ p l e R s m args below meth c Q nL D cy A pc lo st S cs sl := by
  obtain ⟨v, hv, h1, g1⟩ := po_of h
  exact mcal_ok (q := (n, v)) (hF _ (look_in hv)) (Or.inl ⟨h1, rfl⟩) hd hn g1

theorem ms_invokespecial {n : Nat} (hd : decode cc pc = .ok (.invokespecial n, 3)) (hF : ∀ q ∈ ev.2.2.2.2.2, cOK p l e R s m args below meth c Q cc nL D cy A q) (hn : ∀ lo st S cs sl, g rest lo st S cs sl → JJ p l e R s m args below meth c Q nL D cy A (pc + 3) lo st S cs sl) (h : mstep ev ini nL R.cells R.slots tb g ret pc (.invokespecial n) rest lo st S cs sl) : JJ p l e R s m args below meth c Q nL D cy A pc lo st S cs sl := by
  obtain ⟨v, hv, h1, g1⟩ := po_of h
  exact mcal_ok (q := (n, v)) (hF _ (look_in hv)) (Or.inr (Or.inl ⟨h1, rfl⟩)) hd hn g1

theorem ms_invokestatic {n : Nat} (hd : decode cc pc = .ok (.invokestatic n, 3)) (hF : ∀ q ∈ ev.2.2.2.2.2, cOK p l e R s m args below meth c Q cc nL D cy A q) (hn : ∀ lo st S cs sl, g rest lo st S cs sl → JJ p l e R s m args below meth c Q nL D cy A (pc + 3) lo st S cs sl) (h : mstep ev ini nL R.cells R.slots tb g ret pc (.invokestatic n) rest lo st S cs sl) : JJ p l e R s m args below meth c Q nL D cy A pc lo st S cs sl := by
  obtain ⟨v, hv, h1, g1⟩ := po_of h
  exact mcal_ok (q := (n, v)) (hF _ (look_in hv)) (Or.inr (Or.inr ⟨h1, rfl⟩)) hd hn g1

end MSOUND2
