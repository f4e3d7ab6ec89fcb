/-! ===== NEW THINGS, CALLS, RETURNS; RUNS; CONTRACTS ===== -/
theorem aCi : Cond.arrayClass .int ∈ lw_good := by decide +kernel
theorem cst3 : Cond.castable RX3 "java/lang/Object" ∈ lw_bad := by decide +kernel
theorem cst4 : Cond.castable RX4 "java/lang/Object" ∈ lw_bad := by decide +kernel
section VALDA
variable {p : Program} {l : Launch} {e : Env} {R : Room} {s : State} {m : MethodId} {args : Array Value} {below : List Frame} {meth : Method} {c : Code} {H : Heap} {locs : List Loc} {cells slots : Nat} {Q : State → Prop}
variable {cc : ByteArray} {pc : Nat} {ls : Array Slot} {rest : List Value} {D : va_G} {cl : List vw_C} {A : Nat → Prop} {a : Nat} {tys : List (ClassId × FieldType)} {ws : va_W} {H0 : Heap}
theorem va_aldqA (hexec : p.tables.exec = Jvm.exec) (hb : c.code = cc) (hK : va_K D cl tys s) (hP : va_P D cl ws H) (q0 t0 : Nat) {cA : ClassId} {ty : FieldType} {n : Nat} {f : Nat → Option Nat} (ha : ws[q0]? = some (a, .inl (cA, n, .inr (.inr (.inr (.inr f)))))) (ht : tys[t0]? = some (cA, .array ty)) {i : Int32} (hin : vp_in i n) (hdg : decode cc pc = .ok (.aaload, 1))
    (kk : W p l e R s m args below meth c H locs cells slots Q (F0 m (pc + 1) ls (va_rf (f i.toNatClampNeg) :: rest))) : W p l e R s m args below meth c H locs cells slots Q (F0 m pc ls (.int i :: .ref a :: rest)) := by
  have hlt : i.toNatClampNeg < n := Nat.not_le.mp fun q => hin (Or.inr q)
  exact W.aald (v := va_rf (f i.toNatClampNeg)) (ty := .array ty) hexec hb (hP q0 _ ha) ((hK.2 t0 _ ht).1 n (fun j => va_rf (f j))) rfl (fun q => by cases q) (by show ¬ (i < 0 ∨ (arrV _ _ _).slots.size ≤ _); rw [arrV_size]; exact hin) (by show (arrV _ _ _).slots[_]? = _; rw [arrV_read _ _ hlt]) rfl rfl hdg kk
end VALDA
section MSOUND2
variable {p : Program} {l : Launch} {e : Env} {R : Room} {s : State} {m : MethodId} {args : Array Value} {below : List Frame} {meth : Method} {c : Code} {Q : State → Prop} {cc : ByteArray} {nL : Nat} {own : String} {D : va_G} {cy : Nat → ClassId} {z : Nat} {r0 : Nat × Nat} {A : Nat → Prop} {ev : EV} {ini : Bool} {tb : CD} {xh : Nat → Nat → Option CD} {xc : Nat → MM → Nat → Nat → Prop} {g : CD → KT} {ret : Option MV → MM → Nat → Nat → Prop} {pc : Nat} {rest : CD} {lo : List (Nat × MV)} {st : List MV} {S : MM} {cs sl : Nat}
theorem ms_arraylength (C : mCx p l s m args meth c cc nL own D cy z r0 A) (hd : decode cc pc = .ok (.arraylength, 1)) (hn : ∀ lo st S cs sl, g rest lo st S cs sl → JJ p l e R s m args below meth c Q nL D cy z r0 A (pc + 1) lo st S cs sl) (h : mstep ev ini nL R.cells R.slots tb xh xc g ret pc (.arraylength) rest lo st S cs sl) : JJ p l e R s m args below meth c Q nL D cy z r0 A pc lo st S cs sl := by
  obtain ⟨o, st, rfl, g1⟩ := pr_of h
  obtain ⟨a, rfl, g2⟩ := pa_of g1
  refine fun ls H locs hl hz hP hD hS => ?_
  obtain ⟨v, hv9, g2⟩ := g2
  have k9 := hn _ _ _ _ _ g2 ls H locs hl hz hP hD hS
  rcases hv9 with ⟨h1, h2, h3, rfl⟩ | ⟨h1, rfl⟩
  case inr =>
    rw [h1, hz.1]
    exact va_tlen C.1 C.2.1 C.2.2.2.2.2.2.2.1.2.2.2.2.2.1 hS rfl hd k9
  obtain ⟨q0, hq⟩ := mat (cy := cy) (k := mK S a) ⟨h1, rfl⟩
  rw [mE_a rfl h2] at hq
  have ht : ∃ (t0 : Nat) (ty : FieldType), (mtys cy)[t0]? = some (cy (mK S a), ty) := by
    have h4 : mK S a = 16 ∨ mK S a = 17 ∨ mK S a = 18 ∨ mK S a = 19 ∨ mK S a = 20 ∨ mK S a = 21 ∨ mK S a = 22 ∨ mK S a = 23 ∨ mK S a = 24 ∨ mK S a = 25 ∨ mK S a = 26 ∨ mK S a = 27 ∨ mK S a = 28 := by omega
    rcases h4 with e | e | e | e | e | e | e | e | e | e | e | e | e <;> rw [e]
    · exact ⟨0, _, rfl⟩
    · exact ⟨1, _, rfl⟩
    · exact ⟨2, _, rfl⟩
    · exact ⟨3, _, rfl⟩
    · exact ⟨4, _, rfl⟩
    · exact ⟨5, _, rfl⟩
    · exact ⟨6, _, rfl⟩
    · exact ⟨7, _, rfl⟩
    · exact ⟨8, _, rfl⟩
    · exact ⟨9, _, rfl⟩
    · exact ⟨10, _, rfl⟩
    · exact ⟨11, _, rfl⟩
    · exact ⟨12, _, rfl⟩
  obtain ⟨t0, ty, ht⟩ := ht
  exact va_alen C.1 C.2.1 C.2.2.2.2.2.1 hP q0 t0 hq ht rfl hd k9

def mD0 (t : Nat) : Value := match t with
  | 0 => .int 0
  | 1 => .null
  | _ => .long 0
theorem mFv_new {a k : Nat} : ∀ (ts : List Nat) (j : Nat), mFv (nO S a k) k a j ts = ts.map mD0
  | [], _ => rfl
  | t :: ts, j => by
    show _ :: _ = _ :: _
    rw [mFv_new ts (j + 1)]
    refine congrArg (· :: _) ?_
    match t with
    | 0 => exact congrArg Value.int (if_pos rfl)
    | 1 => exact congrArg va_rf (if_pos rfl)
    | n + 2 => exact congrArg Value.long (if_pos rfl)
theorem mW_nO {a k : Nat} (hk : k < 16) (ha : a ∉ mL S) : mW cy S ++ [(a, .inr (k, (mFt k).map mD0))] = mW cy (nO S a k) := by
  have h1 := va_pl_push (f := mE cy S) (e := .inr (k, (mFt k).map mD0)) ha
  refine h1.trans (va_pl_congr fun b => ?_)
  by_cases hb : b = a
  · subst hb
    rw [va_up_self, mE_o (S := nO S b k) (k := k) (va_up_self _ _ _) hk, mFv_new]
  · rw [va_up_ne _ _ hb]
    have e0 : mK (nO S a k) b = mK S b := va_up_ne _ _ hb
    by_cases h2 : mK S b < 16
    · rw [mE_o (S := S) rfl h2, mE_o (S := nO S a k) (k := mK S b) e0 h2]
      exact congrArg (fun z => (Sum.inr (mK S b, z) : va_E)) (mFv_eq (S := S) (S' := nO S a k) (fun _ => (if_neg hb).symm) (fun _ => (if_neg hb).symm) (fun _ => (if_neg hb).symm) _ _)
    · rw [mE_a (S := S) rfl h2, mE_a (S := nO S a k) (k := mK S b) e0 h2]
      have e3 : mRow S b = mRow (nO S a k) b := by
        unfold mRow
        rw [e0]
        rfl
      exact congrArg (fun z => (Sum.inl (cy (mK S b), mN S b, z) : va_E)) e3
/-- what a class's entry of 'new' means -/
def nOK (own : String) (n k : Nat) : Prop :=
  ∃ (Cn : String) (T : u_T) (N : Nat) (ty0 : Nat → FieldType), vwCl[k]? = some (Cn, T, N) ∧ k < 16 ∧ (∀ w ∈ u_ws Cn T N, w ∈ lw_good) ∧ (∀ j, j < N → parseFieldDescriptor (T j).2.2.1 = some (ty0 j)) ∧ (mFt k).length = N ∧ (∀ j, j < N → defaultValue (ty0 j) = vp_V ((mFt k).map mD0) j) ∧
    Cond.classLink own n Cn ∈ lw_good ∧ Cond.instantiable Cn N ∈ lw_good ∧ Cond.initialized Cn ∈ lw_good
theorem ms_new1 {n : Nat} (C : mCx p l s m args meth c cc nL own D cy z r0 A) (hd : decode cc pc = .ok (.new n, 3)) (hF : ∀ q ∈ ev.2.1, nOK own q.1 q.2) (hn : ∀ lo st S cs sl, g rest lo st S cs sl → JJ p l e R s m args below meth c Q nL D cy z r0 A (pc + 3) lo st S cs sl) (h : po (look ev.2.1 n) fun k => cs + 1 ≤ R.cells ∧ sl + (mFt k).length ≤ R.slots ∧ ∀ a, a ∉ mL S → g rest lo (.inr (.inr (some a)) :: st) (nO S a k) (cs + 1) (sl + (mFt k).length)) : JJ p l e R s m args below meth c Q nL D cy z r0 A pc lo st S cs sl := by
  obtain ⟨k, hk, h1, h2, g1⟩ := po_of h
  obtain ⟨Cn, T, N, ty0, f1, f2, f3, f4, f5, f6, f7, f8, f9⟩ := hF _ (look_in hk)
  dsimp only at f1 f2 f5 f6
  refine fun ls H locs hl hz hP hD hS => ?_
  rw [f5] at h2
  refine va_new (ci := k) (fs := (mFt k).map mD0) (C := Cn) (T := T) (N := N) C.1 C.2.1 C.2.2.2.2.1 f3 ty0 f4 C.2.2.2.1 (C.2.2.2.2.1 _ f7) (C.2.2.2.2.1 _ f8) (C.2.2.2.2.1 _ f9) C.2.2.2.2.2.1 hP hD hS C.2.2.2.2.2.2.1 f1 f6 h1 h2 hd (fun q H1 hP1 hD1 hS1 => ?_)
  have hq : q ∉ mL S := va_pl_fresh2 (X := []) hD1
  rw [mW_nO f2 hq] at hP1 hD1
  have g2 := g1 q hq
  rw [f5] at g2
  exact hn _ _ _ _ _ g2 ls H1 locs hl hz hP1 hD1 hS1

theorem mW_nA {a k n : Nat} (hk : ¬ k < 16) (ha : a ∉ mL S) : mW cy S ++ [(a, .inl (cy k, n, mRow (nA S a k n) a))] = mW cy (nA S a k n) := by
  have h1 := va_pl_push (f := mE cy S) (e := .inl (cy k, n, mRow (nA S a k n) a)) ha
  refine h1.trans (va_pl_congr fun b => ?_)
  by_cases hb : b = a
  · subst hb
    rw [va_up_self, mE_a (S := nA S b k n) (k := k) (va_up_self _ _ _) hk]
    exact congrArg (fun z => (Sum.inl (cy k, z, mRow (nA S b k n) b) : va_E)) (va_up_self (mN S) b n).symm
  · rw [va_up_ne _ _ hb]
    have e0 : mK (nA S a k n) b = mK S b := va_up_ne _ _ hb
    by_cases h2 : mK S b < 16
    · rw [mE_o (S := S) rfl h2, mE_o (S := nA S a k n) (k := mK S b) e0 h2]
      exact congrArg (fun z => (Sum.inr (mK S b, z) : va_E)) (mFv_eq (S := S) (S' := nA S a k n) (fun _ => rfl) (fun _ => rfl) (fun _ => rfl) _ _)
    · rw [mE_a (S := S) rfl h2, mE_a (S := nA S a k n) (k := mK S b) e0 h2]
      have e1 : mN (nA S a k n) b = mN S b := va_up_ne _ _ hb
      have e2 : eI (nA S a k n) b = eI S b := va_up_ne _ _ hb
      have e4 : eJ (nA S a k n) b = eJ S b := va_up_ne _ _ hb
      have e5 : eR (nA S a k n) b = eR S b := va_up_ne _ _ hb
      have e3 : mRow S b = mRow (nA S a k n) b := by
        unfold mRow
        rw [e0, e2, e4, e5]
      rw [e1, e3]

theorem ms_newarray_int (C : mCx p l s m args meth c cc nL own D cy z r0 A) (hd : decode cc pc = .ok (.newarray .int, 2)) (hF : Cond.arrayClass .int ∈ lw_good) (hn : ∀ lo st S cs sl, g rest lo st S cs sl → JJ p l e R s m args below meth c Q nL D cy z r0 A (pc + 2) lo st S cs sl) (h : mstep ev ini nL R.cells R.slots tb xh xc g ret pc (.newarray .int) rest lo st S cs sl) : JJ p l e R s m args below meth c Q nL D cy z r0 A pc lo st S cs sl := by
  obtain ⟨n, st, rfl, g1⟩ := pi_of h
  obtain ⟨h1, h2, h3, h4, g2⟩ := g1
  refine fun ls H locs hl hz hP hD hS => ?_
  refine va_newa (atype := .int) (ty := .int) (a0 := (n.toNatClampNeg, .inl (fun _ => 0))) C.1 C.2.1 (C.2.2.2.2.1 _ hF) rfl C.2.2.2.2.2.1 hP hD hS C.2.2.2.2.2.2.1 (fun _ => rfl) h1 rfl (Nat.le_trans (Nat.mul_le_mul_left _ (by decide)) h2) h3 h4 hd (fun q cA H1 hK1 hP1 hD1 hS1 => ?_)
  have hq : q ∉ mL S := va_pl_fresh2 (X := []) hD1
  have e1 : cA = cy 17 := by
    have a1 := (hK1.2 13 (cA, .int) rfl).2
    have a2 := (C.2.2.2.2.2.1.2 1 (cy 17, .int) rfl).2
    exact Option.some.inj (a1.symm.trans a2)
  subst e1
  have e2 : mRow (nA S q 17 n.toNatClampNeg) q = .inl (fun _ => 0) := by
    have k1 : mK (nA S q 17 n.toNatClampNeg) q = 17 := va_up_self _ _ _
    unfold mRow
    rw [k1]
    exact congrArg (fun z => (Sum.inl z : (Nat → Int32) ⊕ (Nat → Int64) ⊕ (Nat → UInt32) ⊕ (Nat → UInt64) ⊕ (Nat → Option Nat))) (va_up_self (eI S) q _)
  have e3 := mW_nA (cy := cy) (n := n.toNatClampNeg) (k := 17) (by decide) hq
  rw [e2] at e3
  rw [e3] at hP1 hD1
  exact hn _ _ _ _ _ (g2 q hq) ls H1 locs hl hz hP1 hD1 hS1

theorem ms_newarray_byte (C : mCx p l s m args meth c cc nL own D cy z r0 A) (hd : decode cc pc = .ok (.newarray .byte, 2)) (hF : Cond.arrayClass .byte ∈ lw_good) (hn : ∀ lo st S cs sl, g rest lo st S cs sl → JJ p l e R s m args below meth c Q nL D cy z r0 A (pc + 2) lo st S cs sl) (h : mstep ev ini nL R.cells R.slots tb xh xc g ret pc (.newarray .byte) rest lo st S cs sl) : JJ p l e R s m args below meth c Q nL D cy z r0 A pc lo st S cs sl := by
  obtain ⟨n, st, rfl, g1⟩ := pi_of h
  obtain ⟨h1, h2, h3, h4, g2⟩ := g1
  refine fun ls H locs hl hz hP hD hS => ?_
  refine va_newa (atype := .byte) (ty := .byte) (a0 := (n.toNatClampNeg, .inl (fun _ => 0))) C.1 C.2.1 (C.2.2.2.2.1 _ hF) rfl C.2.2.2.2.2.1 hP hD hS C.2.2.2.2.2.2.1 (fun _ => rfl) h1 rfl (Nat.le_trans (Nat.mul_le_mul_left _ (by decide)) h2) h3 h4 hd (fun q cA H1 hK1 hP1 hD1 hS1 => ?_)
  have hq : q ∉ mL S := va_pl_fresh2 (X := []) hD1
  have e1 : cA = cy 16 := by
    have a1 := (hK1.2 13 (cA, .byte) rfl).2
    have a2 := (C.2.2.2.2.2.1.2 0 (cy 16, .byte) rfl).2
    exact Option.some.inj (a1.symm.trans a2)
  subst e1
  have e2 : mRow (nA S q 16 n.toNatClampNeg) q = .inl (fun _ => 0) := by
    have k1 : mK (nA S q 16 n.toNatClampNeg) q = 16 := va_up_self _ _ _
    unfold mRow
    rw [k1]
    exact congrArg (fun z => (Sum.inl z : (Nat → Int32) ⊕ (Nat → Int64) ⊕ (Nat → UInt32) ⊕ (Nat → UInt64) ⊕ (Nat → Option Nat))) (va_up_self (eI S) q _)
  have e3 := mW_nA (cy := cy) (n := n.toNatClampNeg) (k := 16) (by decide) hq
  rw [e2] at e3
  rw [e3] at hP1 hD1
  exact hn _ _ _ _ _ (g2 q hq) ls H1 locs hl hz hP1 hD1 hS1

theorem ms_newarray_long (C : mCx p l s m args meth c cc nL own D cy z r0 A) (hd : decode cc pc = .ok (.newarray .long, 2)) (hF : Cond.arrayClass .long ∈ lw_good) (hn : ∀ lo st S cs sl, g rest lo st S cs sl → JJ p l e R s m args below meth c Q nL D cy z r0 A (pc + 2) lo st S cs sl) (h : mstep ev ini nL R.cells R.slots tb xh xc g ret pc (.newarray .long) rest lo st S cs sl) : JJ p l e R s m args below meth c Q nL D cy z r0 A pc lo st S cs sl := by
  obtain ⟨n, st, rfl, g1⟩ := pi_of h
  obtain ⟨h1, h2, h3, h4, g2⟩ := g1
  refine fun ls H locs hl hz hP hD hS => ?_
  refine va_newa (atype := .long) (ty := .long) (a0 := (n.toNatClampNeg, .inr (.inl (fun _ => 0)))) C.1 C.2.1 (C.2.2.2.2.1 _ hF) rfl C.2.2.2.2.2.1 hP hD hS C.2.2.2.2.2.2.1 (fun _ => rfl) h1 rfl (Nat.le_trans (Nat.mul_le_mul_left _ (by decide)) h2) h3 h4 hd (fun q cA H1 hK1 hP1 hD1 hS1 => ?_)
  have hq : q ∉ mL S := va_pl_fresh2 (X := []) hD1
  have e1 : cA = cy 18 := by
    have a1 := (hK1.2 13 (cA, .long) rfl).2
    have a2 := (C.2.2.2.2.2.1.2 2 (cy 18, .long) rfl).2
    exact Option.some.inj (a1.symm.trans a2)
  subst e1
  have e2 : mRow (nA S q 18 n.toNatClampNeg) q = .inr (.inl (fun _ => 0)) := by
    have k1 : mK (nA S q 18 n.toNatClampNeg) q = 18 := va_up_self _ _ _
    unfold mRow
    rw [k1]
    exact congrArg (fun z => (Sum.inr (Sum.inl z) : (Nat → Int32) ⊕ (Nat → Int64) ⊕ (Nat → UInt32) ⊕ (Nat → UInt64) ⊕ (Nat → Option Nat))) (va_up_self (eJ S) q _)
  have e3 := mW_nA (cy := cy) (n := n.toNatClampNeg) (k := 18) (by decide) hq
  rw [e2] at e3
  rw [e3] at hP1 hD1
  exact hn _ _ _ _ _ (g2 q hq) ls H1 locs hl hz hP1 hD1 hS1

theorem ms_newarray_short (C : mCx p l s m args meth c cc nL own D cy z r0 A) (hd : decode cc pc = .ok (.newarray .short, 2)) (hF : Cond.arrayClass .short ∈ lw_good) (hn : ∀ lo st S cs sl, g rest lo st S cs sl → JJ p l e R s m args below meth c Q nL D cy z r0 A (pc + 2) lo st S cs sl) (h : mstep ev ini nL R.cells R.slots tb xh xc g ret pc (.newarray .short) rest lo st S cs sl) : JJ p l e R s m args below meth c Q nL D cy z r0 A pc lo st S cs sl := by
  obtain ⟨n, st, rfl, g1⟩ := pi_of h
  obtain ⟨h1, h2, h3, h4, g2⟩ := g1
  refine fun ls H locs hl hz hP hD hS => ?_
  refine va_newa (atype := .short) (ty := .short) (a0 := (n.toNatClampNeg, .inl (fun _ => 0))) C.1 C.2.1 (C.2.2.2.2.1 _ hF) rfl C.2.2.2.2.2.1 hP hD hS C.2.2.2.2.2.2.1 (fun _ => rfl) h1 rfl (Nat.le_trans (Nat.mul_le_mul_left _ (by decide)) h2) h3 h4 hd (fun q cA H1 hK1 hP1 hD1 hS1 => ?_)
  have hq : q ∉ mL S := va_pl_fresh2 (X := []) hD1
  have e1 : cA = cy 19 := by
    have a1 := (hK1.2 13 (cA, .short) rfl).2
    have a2 := (C.2.2.2.2.2.1.2 3 (cy 19, .short) rfl).2
    exact Option.some.inj (a1.symm.trans a2)
  subst e1
  have e2 : mRow (nA S q 19 n.toNatClampNeg) q = .inl (fun _ => 0) := by
    have k1 : mK (nA S q 19 n.toNatClampNeg) q = 19 := va_up_self _ _ _
    unfold mRow
    rw [k1]
    exact congrArg (fun z => (Sum.inl z : (Nat → Int32) ⊕ (Nat → Int64) ⊕ (Nat → UInt32) ⊕ (Nat → UInt64) ⊕ (Nat → Option Nat))) (va_up_self (eI S) q _)
  have e3 := mW_nA (cy := cy) (n := n.toNatClampNeg) (k := 19) (by decide) hq
  rw [e2] at e3
  rw [e3] at hP1 hD1
  exact hn _ _ _ _ _ (g2 q hq) ls H1 locs hl hz hP1 hD1 hS1

theorem ms_newarray_boolean (C : mCx p l s m args meth c cc nL own D cy z r0 A) (hd : decode cc pc = .ok (.newarray .boolean, 2)) (hF : Cond.arrayClass .boolean ∈ lw_good) (hn : ∀ lo st S cs sl, g rest lo st S cs sl → JJ p l e R s m args below meth c Q nL D cy z r0 A (pc + 2) lo st S cs sl) (h : mstep ev ini nL R.cells R.slots tb xh xc g ret pc (.newarray .boolean) rest lo st S cs sl) : JJ p l e R s m args below meth c Q nL D cy z r0 A pc lo st S cs sl := by
  obtain ⟨n, st, rfl, g1⟩ := pi_of h
  obtain ⟨h1, h2, h3, h4, g2⟩ := g1
  refine fun ls H locs hl hz hP hD hS => ?_
  refine va_newa (atype := .boolean) (ty := .boolean) (a0 := (n.toNatClampNeg, .inl (fun _ => 0))) C.1 C.2.1 (C.2.2.2.2.1 _ hF) rfl C.2.2.2.2.2.1 hP hD hS C.2.2.2.2.2.2.1 (fun _ => rfl) h1 rfl (Nat.le_trans (Nat.mul_le_mul_left _ (by decide)) h2) h3 h4 hd (fun q cA H1 hK1 hP1 hD1 hS1 => ?_)
  have hq : q ∉ mL S := va_pl_fresh2 (X := []) hD1
  have e1 : cA = cy 20 := by
    have a1 := (hK1.2 13 (cA, .boolean) rfl).2
    have a2 := (C.2.2.2.2.2.1.2 4 (cy 20, .boolean) rfl).2
    exact Option.some.inj (a1.symm.trans a2)
  subst e1
  have e2 : mRow (nA S q 20 n.toNatClampNeg) q = .inl (fun _ => 0) := by
    have k1 : mK (nA S q 20 n.toNatClampNeg) q = 20 := va_up_self _ _ _
    unfold mRow
    rw [k1]
    exact congrArg (fun z => (Sum.inl z : (Nat → Int32) ⊕ (Nat → Int64) ⊕ (Nat → UInt32) ⊕ (Nat → UInt64) ⊕ (Nat → Option Nat))) (va_up_self (eI S) q _)
  have e3 := mW_nA (cy := cy) (n := n.toNatClampNeg) (k := 20) (by decide) hq
  rw [e2] at e3
  rw [e3] at hP1 hD1
  exact hn _ _ _ _ _ (g2 q hq) ls H1 locs hl hz hP1 hD1 hS1

theorem ms_ldc_w {n : Nat} (C : mCx p l s m args meth c cc nL own D cy z r0 A) (hd : decode cc pc = .ok (.ldc_w n, 3)) (hF : ∀ q ∈ ev.2.2.2.1, Cond.constant own q.1 q.2 ∈ lw_good) (hn : ∀ lo st S cs sl, g rest lo st S cs sl → JJ p l e R s m args below meth c Q nL D cy z r0 A (pc + 3) lo st S cs sl) (h : mstep ev ini nL R.cells R.slots tb xh xc g ret pc (.ldc_w n) rest lo st S cs sl) : JJ p l e R s m args below meth c Q nL D cy z r0 A pc lo st S cs sl := by
  obtain ⟨v, hv, g1⟩ := po_of h
  exact fun ls H locs hl hz hP hD hS => lv_ldcw C.1 C.2.1 C.2.2.2.1 (C.2.2.2.2.1 _ (hF _ (look_in hv))) hd (hn _ _ _ _ _ g1 ls H locs hl hz hP hD hS)

theorem ms_ldc2_w {n : Nat} (C : mCx p l s m args meth c cc nL own D cy z r0 A) (hd : decode cc pc = .ok (.ldc2_w n, 3)) (hF : ∀ q ∈ ev.2.2.2.2.1, Cond.constantLong own q.1 q.2 ∈ lw_good) (hn : ∀ lo st S cs sl, g rest lo st S cs sl → JJ p l e R s m args below meth c Q nL D cy z r0 A (pc + 3) lo st S cs sl) (h : mstep ev ini nL R.cells R.slots tb xh xc g ret pc (.ldc2_w n) rest lo st S cs sl) : JJ p l e R s m args below meth c Q nL D cy z r0 A pc lo st S cs sl := by
  obtain ⟨v, hv, g1⟩ := po_of h
  exact fun ls H locs hl hz hP hD hS => lv_ldc2 C.1 C.2.1 C.2.2.2.1 (C.2.2.2.2.1 _ (hF _ (look_in hv))) hd (hn _ _ _ _ _ g1 ls H locs hl hz hP hD hS)

/-- the exception of number E was thrown at pc over this frame -/
def XJ (p : Program) (l : Launch) (e : Env) (R : Room) (s : State) (m : MethodId) (args : Array Value) (below : List Frame) (meth : Method) (c : Code) (Q : State → Prop) (nL : Nat) (D : va_G) (cy : Nat → ClassId) (z : Nat) (r0 : Nat × Nat) (A : Nat → Prop) (pc E : Nat) (lo : List (Nat × MV)) (S : MM) (cs sl : Nat) : Prop :=
  ∀ (ls : Array Slot) (H : Heap) (locs : List Loc) (q : Nat) (ce : Cell) (rest : List Value), lv_has ls nL (mlv lo) → (mZ S = z ∧ mQ S = r0) → va_P D vwCl (mW cy S) H → va_D A (mW cy S) → va_S A s.heap H locs → H[q]? = some ce → ce.vm = .none → s.vm.findClass (xname E) = some ce.cls → vx_W p l e R s m args below meth c H locs cs sl Q (F0 m pc ls rest) q
/-- what an entry of a call means here -/
def cOKo (p : Program) (l : Launch) (e : Env) (R : Room) (s : State) (m : MethodId) (args : Array Value) (below : List Frame) (meth : Method) (c : Code) (Q : State → Prop) (cc : ByteArray) (nL : Nat) (D : va_G) (cy : Nat → ClassId) (z : Nat) (r0 : Nat × Nat) (A : Nat → Prop) (q : Nat × Nat × Nat × Nat × Sp) : Prop :=
  ∀ (pc : Nat) (lo : List (Nat × MV)) (av rest : List MV) (S : MM) (cs sl : Nat) (i : Instr), (q.2.1 = 0 ∧ i = .invokevirtual q.1 ∨ q.2.1 = 1 ∧ i = .invokespecial q.1 ∨ q.2.1 = 2 ∧ i = .invokestatic q.1) → decode cc pc = .ok (i, 3) → av.length = q.2.2.1 → msum rest ≤ 8 → q.2.2.2.2.1 av S → cs + q.2.2.2.2.2.1 av S ≤ R.cells → sl + q.2.2.2.2.2.2.1 av S ≤ R.slots →
    (∀ r S', rkOK q.2.2.2.1 r → q.2.2.2.2.2.2.2.1 av S r S' → JJ p l e R s m args below meth c Q nL D cy z r0 A (pc + 3) lo (r.toList ++ rest) S' (cs + q.2.2.2.2.2.1 av S) (sl + q.2.2.2.2.2.2.1 av S)) → (∀ E S', q.2.2.2.2.2.2.2.2 av S E S' → XJ p l e R s m args below meth c Q nL D cy z r0 A pc E lo S' (cs + q.2.2.2.2.2.1 av S) (sl + q.2.2.2.2.2.2.1 av S)) → JJ p l e R s m args below meth c Q nL D cy z r0 A pc lo (av.reverse ++ rest) S cs sl
def cOK (p : Program) (l : Launch) (e : Env) (R : Room) (s : State) (m : MethodId) (args : Array Value) (below : List Frame) (meth : Method) (c : Code) (Q : State → Prop) (cc : ByteArray) (nL : Nat) (D : va_G) (cy : Nat → ClassId) (z : Nat) (r0 : Nat × Nat) (A : Nat → Prop) (q : Nat × Nat × Nat × Nat × TR) : Prop :=
  ∀ (pc : Nat) (lo : List (Nat × MV)) (av rest : List MV) (S : MM) (cs sl : Nat) (i : Instr) (K : Option MV → MM → Nat → Nat → Prop) (Kx : Nat → MM → Nat → Nat → Prop), (q.2.1 = 0 ∧ i = .invokevirtual q.1 ∨ q.2.1 = 1 ∧ i = .invokespecial q.1 ∨ q.2.1 = 2 ∧ i = .invokestatic q.1) → decode cc pc = .ok (i, 3) → av.length = q.2.2.1 → msum rest ≤ 8 → q.2.2.2.2 R.cells R.slots av S cs sl K Kx →
    (∀ r S' c9 s9, K r S' c9 s9 → JJ p l e R s m args below meth c Q nL D cy z r0 A (pc + 3) lo (mpush r rest) S' c9 s9) → (∀ E S' c9 s9, Kx E S' c9 s9 → XJ p l e R s m args below meth c Q nL D cy z r0 A pc E lo S' c9 s9) → JJ p l e R s m args below meth c Q nL D cy z r0 A pc lo (av.reverse ++ rest) S cs sl
theorem cOK_old {n k n1 rk : Nat} {sp : Sp} (h : cOKo p l e R s m args below meth c Q cc nL D cy z r0 A (n, k, n1, rk, sp)) : cOK p l e R s m args below meth c Q cc nL D cy z r0 A (n, k, n1, rk, Told rk sp) := by
  intro pc lo av rest S cs sl i K Kx hi hd hlen hsum hT kk kx
  obtain ⟨h1, h2, h3, h4, h5⟩ := hT
  refine h pc lo av rest S cs sl i hi hd hlen hsum h1 h2 h3 (fun r S' hk hp => ?_) (fun E S' hp => kx _ _ _ _ (h5 E S' hp))
  dsimp only at hk hp ⊢
  match rk, hk, h4 with
  | 0, hk, h4 =>
    subst hk
    exact kk _ _ _ _ (h4 S' hp)
  | 1, hk, h4 =>
    obtain ⟨x, hx9⟩ := hk
    subst hx9
    exact kk _ _ _ _ (h4 x S' hp)
  | 2, hk, h4 =>
    obtain ⟨x, hx9⟩ := hk
    subst hx9
    exact kk _ _ _ _ (h4 x S' hp)
  | _ + 3, hk, h4 =>
    obtain ⟨x, hx9⟩ := hk
    subst hx9
    exact kk _ _ _ _ (h4 x S' hp)
theorem cOK_use {n k n1 rk : Nat} {T : TR} (h : ∀ Rc Rs av S cs sl K Kx, T Rc Rs av S cs sl K Kx → ∃ sp, cOKo p l e R s m args below meth c Q cc nL D cy z r0 A (n, k, n1, rk, sp) ∧ Told rk sp Rc Rs av S cs sl K Kx) : cOK p l e R s m args below meth c Q cc nL D cy z r0 A (n, k, n1, rk, T) := by
  intro pc lo av rest S cs sl i K Kx hi hd hlen hsum hT kk kx
  obtain ⟨sp, h1, h2⟩ := h _ _ _ _ _ _ _ _ hT
  exact cOK_old h1 pc lo av rest S cs sl i K Kx hi hd hlen hsum h2 kk kx
theorem mcal_ok {q : Nat × Nat × Nat × Nat × TR} {i : Instr} (hc : cOK p l e R s m args below meth c Q cc nL D cy z r0 A q) (hi : q.2.1 = 0 ∧ i = .invokevirtual q.1 ∨ q.2.1 = 1 ∧ i = .invokespecial q.1 ∨ q.2.1 = 2 ∧ i = .invokestatic q.1) (hd : decode cc pc = .ok (i, 3)) (hn : ∀ lo st S cs sl, g rest lo st S cs sl → JJ p l e R s m args below meth c Q nL D cy z r0 A (pc + 3) lo st S cs sl) (hx : ∀ E lo S cs sl, (match xh pc E with | some h => ∀ q, g h lo [.inr (.inr (some q))] S cs sl | none => xc E S cs sl) → XJ p l e R s m args below meth c Q nL D cy z r0 A pc E lo S cs sl) (h : mcal g xh xc pc R.cells R.slots q.2.2.1 q.2.2.2.2 rest lo st S cs sl) : JJ p l e R s m args below meth c Q nL D cy z r0 A pc lo st S cs sl := by
  unfold mcal at h
  split at h
  · rename_i e1
    rw [Bool.and_eq_true] at e1
    have e2 := Nat.le_of_ble_eq_true e1.1
    have e3 := Nat.le_of_ble_eq_true e1.2
    have k := hc pc lo (st.take q.2.2.1).reverse (st.drop q.2.2.1) S cs sl i _ _ hi hd (by rw [List.length_reverse, List.length_take]; omega) e2 h (fun r S' c9 s9 h9 => hn _ _ _ _ _ h9) (fun E S' c9 s9 h9 => hx _ _ _ _ _ h9)
    rw [List.reverse_reverse, List.take_append_drop] at k
    exact k
  · exact h.elim
/-- what an entry of a throw means here -/
def xOK (p : Program) (l : Launch) (e : Env) (R : Room) (s : State) (m : MethodId) (args : Array Value) (below : List Frame) (meth : Method) (c : Code) (Q : State → Prop) (cc : ByteArray) (nL : Nat) (D : va_G) (cy : Nat → ClassId) (z : Nat) (r0 : Nat × Nat) (A : Nat → Prop) (xc : Nat → MM → Nat → Nat → Prop) (q : Nat × Nat × Nat) : Prop :=
  ∀ (pc : Nat) (lo : List (Nat × MV)) (st : List MV) (S : MM) (cs sl : Nat), decode cc pc = .ok (.new q.1, 3) → decode cc (pc + 3) = .ok (.dup, 1) → decode cc (pc + 4) = .ok (.invokespecial q.2.2, 3) → decode cc (pc + 7) = .ok (.athrow, 1) → msum st ≤ 8 → xc q.2.1 S (cs + 1) (sl + 6) → JJ p l e R s m args below meth c Q nL D cy z r0 A pc lo st S cs sl

theorem ms_invokevirtual {n : Nat} (hd : decode cc pc = .ok (.invokevirtual n, 3)) (hF : ∀ q ∈ ev.2.2.2.2.2.1, cOK p l e R s m args below meth c Q cc nL D cy z r0 A q) (hn : ∀ lo st S cs sl, g rest lo st S cs sl → JJ p l e R s m args below meth c Q nL D cy z r0 A (pc + 3) lo st S cs sl) (hx : ∀ E lo S cs sl, (match xh pc E with | some h => ∀ q, g h lo [.inr (.inr (some q))] S cs sl | none => xc E S cs sl) → XJ p l e R s m args below meth c Q nL D cy z r0 A pc E lo S cs sl) (h : mstep ev ini nL R.cells R.slots tb xh xc g ret pc (.invokevirtual n) rest lo st S cs sl) : JJ p l e R s m args below meth c Q nL D cy z r0 A pc lo st S cs sl := by
  obtain ⟨v, hv, h1, g1⟩ := po_of h
  exact mcal_ok (q := (n, v)) (hF _ (look_in hv)) (Or.inl ⟨h1, rfl⟩) hd hn hx g1

theorem ms_invokespecial {n : Nat} (hd : decode cc pc = .ok (.invokespecial n, 3)) (hF : ∀ q ∈ ev.2.2.2.2.2.1, cOK p l e R s m args below meth c Q cc nL D cy z r0 A q) (hn : ∀ lo st S cs sl, g rest lo st S cs sl → JJ p l e R s m args below meth c Q nL D cy z r0 A (pc + 3) lo st S cs sl) (hx : ∀ E lo S cs sl, (match xh pc E with | some h => ∀ q, g h lo [.inr (.inr (some q))] S cs sl | none => xc E S cs sl) → XJ p l e R s m args below meth c Q nL D cy z r0 A pc E lo S cs sl) (h : mstep ev ini nL R.cells R.slots tb xh xc g ret pc (.invokespecial n) rest lo st S cs sl) : JJ p l e R s m args below meth c Q nL D cy z r0 A pc lo st S cs sl := by
  obtain ⟨v, hv, h1, g1⟩ := po_of h
  exact mcal_ok (q := (n, v)) (hF _ (look_in hv)) (Or.inr (Or.inl ⟨h1, rfl⟩)) hd hn hx g1

theorem ms_invokestatic {n : Nat} (hd : decode cc pc = .ok (.invokestatic n, 3)) (hF : ∀ q ∈ ev.2.2.2.2.2.1, cOK p l e R s m args below meth c Q cc nL D cy z r0 A q) (hn : ∀ lo st S cs sl, g rest lo st S cs sl → JJ p l e R s m args below meth c Q nL D cy z r0 A (pc + 3) lo st S cs sl) (hx : ∀ E lo S cs sl, (match xh pc E with | some h => ∀ q, g h lo [.inr (.inr (some q))] S cs sl | none => xc E S cs sl) → XJ p l e R s m args below meth c Q nL D cy z r0 A pc E lo S cs sl) (h : mstep ev ini nL R.cells R.slots tb xh xc g ret pc (.invokestatic n) rest lo st S cs sl) : JJ p l e R s m args below meth c Q nL D cy z r0 A pc lo st S cs sl := by
  obtain ⟨v, hv, h1, g1⟩ := po_of h
  exact mcal_ok (q := (n, v)) (hF _ (look_in hv)) (Or.inr (Or.inr ⟨h1, rfl⟩)) hd hn hx g1

theorem ms_aaload (C : mCx p l s m args meth c cc nL own D cy z r0 A) (hd : decode cc pc = .ok (.aaload, 1)) (hn : ∀ lo st S cs sl, g rest lo st S cs sl → JJ p l e R s m args below meth c Q nL D cy z r0 A (pc + 1) lo st S cs sl) (h : mstep ev ini nL R.cells R.slots tb xh xc g ret pc (.aaload) rest lo st S cs sl) : JJ p l e R s m args below meth c Q nL D cy z r0 A pc lo st S cs sl := by
  obtain ⟨i, st, rfl, g1⟩ := pi_of h
  obtain ⟨o, st, rfl, g2⟩ := pr_of g1
  obtain ⟨a, rfl, h1, h2, h3, h4, g3⟩ := pa_of g2
  refine fun ls H locs hl hz hP hD hS => ?_
  obtain ⟨q0, hq⟩ := mat (cy := cy) (k := mK S a) ⟨h1, rfl⟩
  rw [mE_a rfl (by omega), mRow_R h2] at hq
  have k9 := hn _ _ _ _ _ g3 ls H locs hl hz hP hD hS
  have h5 : mK S a = 21 ∨ mK S a = 22 ∨ mK S a = 23 ∨ mK S a = 24 ∨ mK S a = 25 ∨ mK S a = 26 ∨ mK S a = 27 ∨ mK S a = 28 := by omega
  rcases h5 with e | e | e | e | e | e | e | e
  · exact va_aldq C.1 C.2.1 C.2.2.2.2.2.1 hP q0 5 hq (by rw [e]; rfl) h4 hd k9
  · exact va_aldq C.1 C.2.1 C.2.2.2.2.2.1 hP q0 6 hq (by rw [e]; rfl) h4 hd k9
  · exact va_aldq C.1 C.2.1 C.2.2.2.2.2.1 hP q0 7 hq (by rw [e]; rfl) h4 hd k9
  · exact va_aldq C.1 C.2.1 C.2.2.2.2.2.1 hP q0 8 hq (by rw [e]; rfl) h4 hd k9
  · exact va_aldq C.1 C.2.1 C.2.2.2.2.2.1 hP q0 9 hq (by rw [e]; rfl) h4 hd k9
  · exact va_aldq C.1 C.2.1 C.2.2.2.2.2.1 hP q0 10 hq (by rw [e]; rfl) h4 hd k9
  · exact va_aldqA C.1 C.2.1 C.2.2.2.2.2.1 hP q0 11 hq (by rw [e]; rfl) h4 hd k9
  · exact va_aldqA C.1 C.2.1 C.2.2.2.2.2.1 hP q0 12 hq (by rw [e]; rfl) h4 hd k9
theorem ms_aastore (C : mCx p l s m args meth c cc nL own D cy z r0 A) (hd : decode cc pc = .ok (.aastore, 1)) (hn : ∀ lo st S cs sl, g rest lo st S cs sl → JJ p l e R s m args below meth c Q nL D cy z r0 A (pc + 1) lo st S cs sl) (h : mstep ev ini nL R.cells R.slots tb xh xc g ret pc (.aastore) rest lo st S cs sl) : JJ p l e R s m args below meth c Q nL D cy z r0 A pc lo st S cs sl := by
  obtain ⟨x, st, rfl, g0⟩ := pr_of h
  obtain ⟨i, st, rfl, g1⟩ := pi_of g0
  obtain ⟨o, st, rfl, g2⟩ := pr_of g1
  obtain ⟨a, rfl, h1, h2, h3, h4, h6, g3⟩ := pa_of g2
  refine fun ls H locs hl hz hP hD hS => ?_
  obtain ⟨q0, hq⟩ := mat (cy := cy) (k := mK S a) ⟨h1, rfl⟩
  rw [mE_a (S := S) rfl (by omega), mRow_R h2] at hq
  have kk : ∀ (H1 : Heap) (locs1 : List Loc), va_P D vwCl ((mW cy S).set q0 (a, .inl (cy (mK S a), mN S a, .inr (.inr (.inr (.inr (va_up (eR S a) i.toNatClampNeg x))))))) H1 → va_D A ((mW cy S).set q0 (a, .inl (cy (mK S a), mN S a, .inr (.inr (.inr (.inr (va_up (eR S a) i.toNatClampNeg x))))))) → va_S A s.heap H1 locs1 → W p l e R s m args below meth c H1 locs1 cs sl Q (F0 m (pc + 1) ls (st.map toV)) := by
    intro H1 locs1 hP1 hD1 hS1
    rw [mW_rR hD h1 (by omega) h2 hq] at hP1 hD1
    exact hn _ _ _ _ _ g3 ls H1 locs1 hl hz hP1 hD1 hS1
  have hG : ∀ (j : Nat) (t : FieldType), (mtys cy)[j]? = some (cy (mK S a), .array t) → (∀ v, x = some v → mK S v = 16 ∧ t = .byte ∨ mK S v = 17 ∧ t = .int) → va_AOA t s → t = .byte ∨ t = .int → W p l e R s m args below meth c H locs cs sl Q (F0 m pc ls (va_rf x :: .int i :: .ref a :: st.map toV)) := by
    intro j t ht hk hover htt
    obtain ⟨comp, cA, kA, g1, g2, g4, g5⟩ := va_AOA.at hover
    have e1 : cA = cy (mK S a) := by
      have a2 : s.vm.findClass ("[" ++ (FieldType.array t).toString) = some (cy (mK S a)) := (C.2.2.2.2.2.1.2 j _ ht).2
      exact Option.some.inj (g5.symm.trans a2)
    obtain ⟨kc, hkc, -⟩ := Vm.findClass_spec g1
    subst e1
    refine va_astG C.1 C.2.1 hP hD hS q0 hq g2 g4 hkc (fun v hv => ?_) h4 hd kk
    have hm := (h6 v hv).1
    obtain ⟨qk, hk9⟩ := mat (cy := cy) (k := mK S v) ⟨hm, rfl⟩
    have hcomp : comp = cy (mK S v) := by
      rcases hk v hv with ⟨b1, b2⟩ | ⟨b1, b2⟩
      · have a3 : s.vm.findClass ("[" ++ FieldType.byte.toString) = some (cy 16) := (C.2.2.2.2.2.1.2 0 _ rfl).2
        rw [b1]
        rw [b2] at g1
        exact Option.some.inj (g1.symm.trans a3)
      · have a3 : s.vm.findClass ("[" ++ FieldType.int.toString) = some (cy 17) := (C.2.2.2.2.2.1.2 1 _ rfl).2
        rw [b1]
        rw [b2] at g1
        exact Option.some.inj (g1.symm.trans a3)
    have h16 : ¬ mK S v < 16 := by rcases hk v hv with ⟨b1, -⟩ | ⟨b1, -⟩ <;> omega
    rw [mE_a (S := S) rfl h16] at hk9
    rw [hcomp]
    exact ⟨qk, _, hk9⟩
  by_cases h27 : mK S a = 27
  · exact hG 11 .byte (by rw [h27]; rfl) (fun v hv => Or.inl ⟨by have := (h6 v hv).2; omega, rfl⟩) C.2.2.2.2.2.2.2.2.2.2.2.1 (Or.inl rfl)
  by_cases h28 : mK S a = 28
  · exact hG 12 .int (by rw [h28]; rfl) (fun v hv => Or.inr ⟨by have := (h6 v hv).2; omega, rfl⟩) C.2.2.2.2.2.2.2.2.2.2.2.2.1 (Or.inr rfl)
  have h5 : mK S a = 21 ∨ mK S a = 22 ∨ mK S a = 23 ∨ mK S a = 24 ∨ mK S a = 25 ∨ mK S a = 26 := by omega
  have ht : ∃ (t0 : Nat) (Cn : String), (mtys cy)[t0]? = some (cy (mK S a), .object Cn) := by
    rcases h5 with e | e | e | e | e | e <;> rw [e]
    · exact ⟨5, _, rfl⟩
    · exact ⟨6, _, rfl⟩
    · exact ⟨7, _, rfl⟩
    · exact ⟨8, _, rfl⟩
    · exact ⟨9, _, rfl⟩
    · exact ⟨10, _, rfl⟩
  cases x with
  | none =>
    obtain ⟨t0, Cn, ht⟩ := ht
    exact va_astqN C.1 C.2.1 C.2.2.2.2.2.1 hP hD hS q0 t0 hq ht h4 hd kk
  | some v =>
    obtain ⟨v1, v2⟩ := h6 v rfl
    obtain ⟨qk, hk⟩ := mat (cy := cy) (k := mK S v) ⟨v1, rfl⟩
    rcases v2 with ⟨e1, e2⟩ | ⟨e1, e2⟩ | ⟨e1, e2⟩ | ⟨e1, e2⟩ | ⟨e1, e2⟩ | ⟨e1, e2 | e2⟩ | ⟨e1, -⟩ | ⟨e1, -⟩
    · rw [mE_o e2 (by decide)] at hk
      exact va_astq (r := (RX0, TX0, 3)) C.1 C.2.1 C.2.2.2.2.2.1 hP hD hS q0 5 qk 1 hq (by rw [e1]; rfl) hk rfl h4 hd kk
    · rw [mE_o e2 (by decide)] at hk
      exact va_astq (r := (RX1, TX1, 3)) C.1 C.2.1 C.2.2.2.2.2.1 hP hD hS q0 6 qk 2 hq (by rw [e1]; rfl) hk rfl h4 hd kk
    · rw [mE_o e2 (by decide)] at hk
      exact va_astq (r := (RX4, TX4, 16)) C.1 C.2.1 C.2.2.2.2.2.1 hP hD hS q0 7 qk 5 hq (by rw [e1]; rfl) hk rfl h4 hd kk
    · rw [mE_o e2 (by decide)] at hk
      exact va_astq (r := (RX10, TX10, 6)) C.1 C.2.1 C.2.2.2.2.2.1 hP hD hS q0 8 qk 11 hq (by rw [e1]; rfl) hk rfl h4 hd kk
    · rw [mE_o e2 (by decide)] at hk
      exact va_astq (r := (RX12, TX12, 27)) C.1 C.2.1 C.2.2.2.2.2.1 hP hD hS q0 9 qk 13 hq (by rw [e1]; rfl) hk rfl h4 hd kk
    · rw [mE_o e2 (by decide)] at hk
      exact va_astqO (r := (RX3, TX3, 2)) C.1 C.2.1 C.2.2.2.2.2.1 hP hD hS q0 10 qk 4 hq (by rw [e1]; rfl) (C.2.2.2.2.2.2.2.2.1 _ cst3) hk rfl h4 hd kk
    · rw [mE_o e2 (by decide)] at hk
      exact va_astqO (r := (RX4, TX4, 16)) C.1 C.2.1 C.2.2.2.2.2.1 hP hD hS q0 10 qk 5 hq (by rw [e1]; rfl) (C.2.2.2.2.2.2.2.2.1 _ cst4) hk rfl h4 hd kk
    · exact absurd e1 h27
    · exact absurd e1 h28

/-- what an entry of 'anewarray' means: the kind of the array -/
def aOK (own : String) (n k : Nat) : Prop := (∃ (Cn : String), Cn ∈ mAOs ∧ Cond.classLink own n Cn ∈ lw_good ∧ ¬ k < 21 ∧ k < 27 ∧ ∀ cy : Nat → ClassId, (mtys cy)[k - 16]? = some (cy k, .object Cn)) ∨ (k = 27 ∧ Cond.classLink own n "[B" ∈ lw_good) ∨ (k = 28 ∧ Cond.classLink own n "[[I" ∈ lw_good)
theorem ms_anewarray {n : Nat} (C : mCx p l s m args meth c cc nL own D cy z r0 A) (hd : decode cc pc = .ok (.anewarray n, 3)) (hF : ∀ q ∈ ev.2.2.1, aOK own q.1 q.2) (hn : ∀ lo st S cs sl, g rest lo st S cs sl → JJ p l e R s m args below meth c Q nL D cy z r0 A (pc + 3) lo st S cs sl) (h : mstep ev ini nL R.cells R.slots tb xh xc g ret pc (.anewarray n) rest lo st S cs sl) : JJ p l e R s m args below meth c Q nL D cy z r0 A pc lo st S cs sl := by
  obtain ⟨k, hk, g0⟩ := po_of h
  split at g0
  · exact g0.elim
  rename_i hk28
  obtain ⟨x, st, rfl, h1, h2, h3, h4, g1⟩ := pi_of g0
  have hmr : ∀ q, ¬ k < 21 → mRow (nA S q k x.toNatClampNeg) q = .inr (.inr (.inr (.inr (fun _ => none)))) := fun q f3 => by
    have k1 : mK (nA S q k x.toNatClampNeg) q = k := va_up_self _ _ _
    rw [mRow_R (by rw [k1]; exact f3)]
    exact congrArg (fun z => (Sum.inr (Sum.inr (Sum.inr (Sum.inr z))) : (Nat → Int32) ⊕ (Nat → Int64) ⊕ (Nat → UInt32) ⊕ (Nat → UInt64) ⊕ (Nat → Option Nat))) (va_up_self (eR S) q _)
  rcases hF _ (look_in hk) with ⟨Cn, f1, f2, f3, -, f4⟩ | ⟨f1, f2⟩ | ⟨f1, f2⟩
  rotate_left
  · dsimp only at f1
    subst f1
    refine fun ls H locs hl hz hP hD hS => ?_
    refine va_newG (t := .byte) C.1 C.2.1 C.2.2.2.1 (C.2.2.2.2.1 _ f2) C.2.2.2.2.2.2.2.2.2.2.2.1 hP hD hS C.2.2.2.2.2.2.1 h1 (Nat.le_trans (Nat.mul_le_mul_left _ (by decide)) h2) h3 h4 hd (fun q cA H1 hf hP1 hD1 hS1 => ?_)
    have hq : q ∉ mL S := va_pl_fresh2 (X := []) hD1
    have e1 : cA = cy 27 := by
      have a2 : s.vm.findClass ("[" ++ (FieldType.array .byte).toString) = some (cy 27) := (C.2.2.2.2.2.1.2 11 _ rfl).2
      exact Option.some.inj (hf.symm.trans a2)
    subst e1
    have e3 := mW_nA (cy := cy) (S := S) (n := x.toNatClampNeg) (k := 27) (by omega) hq
    rw [hmr q (by omega)] at e3
    rw [e3] at hP1 hD1
    exact hn _ _ _ _ _ (g1 q hq) ls H1 locs hl hz hP1 hD1 hS1
  · dsimp only at f1
    subst f1
    exact absurd hk28 (by decide)
  dsimp only at f3 f4
  refine fun ls H locs hl hz hP hD hS => ?_
  refine va_newq C.1 C.2.1 C.2.2.2.1 (C.2.2.2.2.1 _ f2) (C.2.2.2.2.2.2.2.2.2.2.1 Cn f1) C.2.2.2.2.2.1 hP hD hS C.2.2.2.2.2.2.1 h1 rfl (Nat.le_trans (Nat.mul_le_mul_left _ (by decide)) h2) h3 h4 hd (fun q cA H1 hK1 hP1 hD1 hS1 => ?_)
  have hq : q ∉ mL S := va_pl_fresh2 (X := []) hD1
  have e1 : cA = cy k := by
    have a1 := (hK1.2 13 (cA, .object Cn) rfl).2
    have a2 := (C.2.2.2.2.2.1.2 (k - 16) (cy k, .object Cn) (f4 cy)).2
    obtain ⟨k1, c1, -, -, -, b1⟩ := a1
    obtain ⟨k2, c2, -, -, -, b2⟩ := a2
    exact Option.some.inj (b1.symm.trans b2)
  subst e1
  have e2 : mRow (nA S q k x.toNatClampNeg) q = .inr (.inr (.inr (.inr (fun _ => none)))) := by
    have k1 : mK (nA S q k x.toNatClampNeg) q = k := va_up_self _ _ _
    rw [mRow_R (by rw [k1]; exact f3)]
    exact congrArg (fun z => (Sum.inr (Sum.inr (Sum.inr (Sum.inr z))) : (Nat → Int32) ⊕ (Nat → Int64) ⊕ (Nat → UInt32) ⊕ (Nat → UInt64) ⊕ (Nat → Option Nat))) (va_up_self (eR S) q _)
  have e3 := mW_nA (cy := cy) (S := S) (n := x.toNatClampNeg) (k := k) (by omega) hq
  rw [e2] at e3
  rw [e3] at hP1 hD1
  exact hn _ _ _ _ _ (g1 q hq) ls H1 locs hl hz hP1 hD1 hS1
/-- what an entry of 'checkcast' means: the kind of the object -/
def kOK (own : String) (n k : Nat) : Prop := (∃ (Cn : String) (T : u_T) (N : Nat), vwCl[k]? = some (Cn, T, N) ∧ k < 16 ∧ Cond.classLink own n Cn ∈ lw_good) ∨ (k = 17 ∧ Cond.classLink own n "[I" ∈ lw_good)
theorem ms_checkcast {n : Nat} (C : mCx p l s m args meth c cc nL own D cy z r0 A) (hd : decode cc pc = .ok (.checkcast n, 3)) (hF : ∀ q ∈ ev.2.2.2.2.2.2.1, kOK own q.1 q.2) (hn : ∀ lo st S cs sl, g rest lo st S cs sl → JJ p l e R s m args below meth c Q nL D cy z r0 A (pc + 3) lo st S cs sl) (h : mstep ev ini nL R.cells R.slots tb xh xc g ret pc (.checkcast n) rest lo st S cs sl) : JJ p l e R s m args below meth c Q nL D cy z r0 A pc lo st S cs sl := by
  obtain ⟨k, hk, g0⟩ := po_of h
  obtain ⟨x, st, rfl, h1, g1⟩ := pr_of g0
  refine fun ls H locs hl hz hP hD hS => ?_
  have k9 := hn _ _ _ _ _ g1 ls H locs hl hz hP hD hS
  cases x with
  | none => exact lv_castN C.1 C.2.1 hd k9
  | some a =>
   have hO := h1 a rfl
   rcases hF _ (look_in hk) with ⟨Cn, T, N, f1, f2, f3⟩ | ⟨f1, f3⟩
   · dsimp only at f1 f2
     obtain ⟨q0, hq⟩ := mat (cy := cy) hO
     rw [mE_o hO.2 f2] at hq
     exact va_castS C.1 C.2.1 C.2.2.2.1 (C.2.2.2.2.1 _ f3) (C.2.2.2.2.2.1.1 k _ f1).2 (va_recv C.2.2.2.2.2.1 hP f1 hq) hd k9
   · dsimp only at f1
     subst f1
     obtain ⟨q0, hq⟩ := mat (cy := cy) hO
     rw [mE_a hO.2 (by decide)] at hq
     exact va_castA C.1 C.2.1 C.2.2.2.1 (C.2.2.2.2.1 _ f3) hP q0 hq (C.2.2.2.2.2.1.2 1 (cy 17, .int) rfl).2 hd k9
/-- what an entry of 'getstatic' means -/
def gOK (own : String) (n k : Nat) : Prop := (k = 0 ∧ Cond.fieldLink own n RJx4a65c "DEFAULTCAPACITY_EMPTY_ELEMENTDATA" "[Ljava/lang/Object;" ∈ lw_good) ∨ (k = 1 ∧ Cond.fieldLink own n RX1 "REMAINDERS" "[I" ∈ lw_good) ∨ (k = 2 ∧ Cond.classLink own n "[Ljava/lang/Object;" ∈ lw_good)
theorem ms_getstatic {n : Nat} (C : mCx p l s m args meth c cc nL own D cy z r0 A) (hd : decode cc pc = .ok (.getstatic n, 3)) (hF : ∀ q ∈ ev.2.2.2.2.2.2.2.1, gOK own q.1 q.2) (hn : ∀ lo st S cs sl, g rest lo st S cs sl → JJ p l e R s m args below meth c Q nL D cy z r0 A (pc + 3) lo st S cs sl) (h : mstep ev ini nL R.cells R.slots tb xh xc g ret pc (.getstatic n) rest lo st S cs sl) : JJ p l e R s m args below meth c Q nL D cy z r0 A pc lo st S cs sl := by
  obtain ⟨k, hk, g1⟩ := po_of h
  refine fun ls H locs hl hz hP hD hS => ?_
  have k9 := hn _ _ _ _ _ g1 ls H locs hl hz hP hD hS
  obtain ⟨hk1, hk2⟩ := lookS_in hk
  rcases hF _ hk1 with ⟨e1, e2⟩ | ⟨e1, e2⟩ | ⟨e1, e2⟩
  · dsimp only at e1
    subst e1
    have e3 : toV (.inr (.inr (some (mZ S)))) = .ref z := by rw [hz.1]; rfl
    exact va_gets (v := .ref z) C.1 C.2.1 C.2.2.2.2.2.2.2.1.2.2.2.2.1 hS C.2.2.2.1 (C.2.2.2.2.1 _ e2) (fun _ h9 => h9) hd (by rw [← e3]; exact k9)
  · dsimp only at e1
    subst e1
    have e3 : toV (.inr (.inr (some (mQ S).1))) = .ref r0.1 := by rw [hz.2]; rfl
    exact va_gets (v := .ref r0.1) C.1 C.2.1 C.2.2.2.2.2.2.2.1.2.2.1 hS C.2.2.2.1 (C.2.2.2.2.1 _ e2) (fun _ h9 => h9) hd (by rw [← e3]; exact k9)
  · exact absurd e1 hk2
theorem ms_ldc {n : Nat} (C : mCx p l s m args meth c cc nL own D cy z r0 A) (hd : decode cc pc = .ok (.ldc n, 2)) (hF : ∀ q ∈ ev.2.2.2.1, Cond.constant own q.1 q.2 ∈ lw_good) (hG : ∀ q ∈ ev.2.2.2.2.2.2.2.1, gOK own q.1 q.2) (hn : ∀ lo st S cs sl, g rest lo st S cs sl → JJ p l e R s m args below meth c Q nL D cy z r0 A (pc + 2) lo st S cs sl) (h : mstep ev ini nL R.cells R.slots tb xh xc g ret pc (.ldc n) rest lo st S cs sl) : JJ p l e R s m args below meth c Q nL D cy z r0 A pc lo st S cs sl := by
  unfold mstep at h
  dsimp only at h
  split at h
  · rename_i v hv
    exact fun ls H locs hl hz hP hD hS => lv_ldc C.1 C.2.1 C.2.2.2.1 (C.2.2.2.2.1 _ (hF _ (look_in hv))) hd (hn _ _ _ _ _ h ls H locs hl hz hP hD hS)
  · obtain ⟨k, hk, g1⟩ := po_of h
    rcases hG _ (lookM_in hk) with ⟨e1, e2⟩ | ⟨e1, e2⟩ | ⟨-, e2⟩
    · exact absurd (show (2 : Nat) = 0 from e1) (by decide)
    · exact absurd (show (2 : Nat) = 1 from e1) (by decide)
    · refine fun ls H locs hl hz hP hD hS => ?_
      have k9 := hn _ _ _ _ _ g1 ls H locs hl hz hP hD hS
      have e3 : toV (.inr (.inr (some (mQ S).2))) = .ref r0.2 := by rw [hz.2]; rfl
      exact va_ldcM C.1 C.2.1 C.2.2.2.1 (C.2.2.2.2.1 _ e2) C.2.2.2.2.2.2.2.1.2.2.2.2.2.2 hd (by rw [← e3]; exact k9)

/-- 'multianewarray' of int[][] -/
theorem mW_nG {a : Nat} {r : Nat → Nat} {n k : Nat} (ha : a ∉ mL S) (hr : ∀ i, i < n → r i ∉ mL S ∧ r i ≠ a) : [(a, (.inl (cy 28, n, .inr (.inr (.inr (.inr (fun i => if i < n then some (r i) else none))))) : va_E))] ++ va_pl (mL S ++ (List.range n).map r) (vr_up (mE cy S) ((List.range n).map r) (.inl (cy 17, k, .inl (fun _ => 0)))) = mW cy (nG S a r n k) := by
  have hrm : ∀ b, b ∈ (List.range n).map r → b ∉ mL S ∧ b ≠ a := fun b hb => by
    obtain ⟨i, hi, rfl⟩ := List.mem_map.mp hb
    exact hr i (List.mem_range.mp hi)
  show _ = (a, mE cy (nG S a r n k) a) :: va_pl (mL S ++ (List.range n).map r) (mE cy (nG S a r n k))
  have ka : mK (nG S a r n k) a = 28 := if_pos rfl
  have e1 : mE cy (nG S a r n k) a = .inl (cy 28, n, .inr (.inr (.inr (.inr (fun i => if i < n then some (r i) else none))))) := by
    rw [mE_a ka (by decide), mRow_R (by rw [ka]; decide)]
    have n1 : mN (nG S a r n k) a = n := if_pos rfl
    have n2 : eR (nG S a r n k) a = (fun i => if i < n then some (r i) else none) := va_up_self _ _ _
    rw [n1, n2]
  rw [e1]
  refine congrArg (_ :: ·) ?_
  unfold va_pl
  refine List.map_congr_left fun b hb => ?_
  refine congrArg (fun z => (b, z)) ?_
  by_cases hb2 : b ∈ (List.range n).map r
  · rw [vr_up_in hb2]
    have kb : mK (nG S a r n k) b = 17 := by
      show (if b = a then 28 else if b ∈ (List.range n).map r then 17 else mK S b) = 17
      rw [if_neg (hrm b hb2).2, if_pos hb2]
    have nb : mN (nG S a r n k) b = k := by
      show (if b = a then n else if b ∈ (List.range n).map r then k else mN S b) = k
      rw [if_neg (hrm b hb2).2, if_pos hb2]
    have eb : eI (nG S a r n k) b = fun _ => 0 := if_pos hb2
    rw [mE_a kb (by decide), mRow_I (by rw [kb]; decide) (by rw [kb]; decide), nb, eb]
  · rw [vr_up_ne hb2]
    have hba : b ≠ a := by
      rintro rfl
      rcases List.mem_append.mp hb with h | h
      · exact ha h
      · exact hb2 h
    have kb : mK (nG S a r n k) b = mK S b := by
      show (if b = a then 28 else if b ∈ (List.range n).map r then 17 else mK S b) = _
      rw [if_neg hba, if_neg hb2]
    have nb : mN (nG S a r n k) b = mN S b := by
      show (if b = a then n else if b ∈ (List.range n).map r then k else mN S b) = _
      rw [if_neg hba, if_neg hb2]
    have eb : eI (nG S a r n k) b = eI S b := if_neg hb2
    have er : eR (nG S a r n k) b = eR S b := va_up_ne _ _ hba
    by_cases h2 : mK S b < 16
    · rw [mE_o (S := S) rfl h2, mE_o kb h2]
      exact congrArg (fun z => (Sum.inr (mK S b, z) : va_E)) (mFv_eq (S := S) (S' := nG S a r n k) (fun _ => rfl) (fun _ => rfl) (fun _ => rfl) _ _)
    · rw [mE_a (S := S) rfl h2, mE_a kb h2]
      have e3 : mRow S b = mRow (nG S a r n k) b := by
        unfold mRow
        rw [kb, eb, er]
        rfl
      rw [nb, e3]
theorem ms_multianewarray {n d : Nat} (C : mCx p l s m args meth c cc nL own D cy z r0 A) (hd : decode cc pc = .ok (.multianewarray n d, 4)) (hF : ∀ q ∈ ev.2.2.1, aOK own q.1 q.2) (hn : ∀ lo st S cs sl, g rest lo st S cs sl → JJ p l e R s m args below meth c Q nL D cy z r0 A (pc + 4) lo st S cs sl) (h : mstep ev ini nL R.cells R.slots tb xh xc g ret pc (.multianewarray n d) rest lo st S cs sl) : JJ p l e R s m args below meth c Q nL D cy z r0 A pc lo st S cs sl := by
  obtain ⟨k, hk, g0⟩ := po_of h
  split at g0
  · exact g0.elim
  rename_i hk28
  rw [Bool.and_eq_true] at hk28
  have k28 := Nat.eq_of_beq_eq_true hk28.1
  have d2 := Nat.eq_of_beq_eq_true hk28.2
  subst k28
  subst d2
  obtain ⟨y, st, rfl, g1⟩ := pi_of g0
  obtain ⟨x, st, rfl, h1, h2, h3, h4, h5, h6, g2⟩ := pi_of g1
  have f2 : Cond.classLink own n "[[I" ∈ lw_good := by
    rcases hF _ (look_in hk) with ⟨Cn, -, -, -, f3, -⟩ | ⟨f1, -⟩ | ⟨-, f2⟩
    · exact absurd (show 28 < 27 from f3) (by decide)
    · exact absurd (show 28 = 27 from f1) (by decide)
    · exact f2
  refine fun ls H locs hl hz hP hD hS => ?_
  have hc17 : s.vm.findClass (FieldType.array .int).toString = some (cy 17) := (C.2.2.2.2.2.1.2 1 (cy 17, .int) rfl).2
  refine va_mna (X := []) (L := mL S) (f := mE cy S) (ty := .int) (z := (y.toNatClampNeg, .inl (fun _ => 0))) C.1 C.2.1 C.2.2.2.1 (C.2.2.2.2.1 _ f2) C.2.2.2.2.2.2.2.2.2.2.2.2.1 (C.2.2.2.2.1 _ aCi) hc17 C.2.2.2.2.2.1 hP hD hS C.2.2.2.2.2.2.1 h1 h2 rfl rfl (by omega) (by show _ * 4 ≤ _; omega) (by omega) rfl rfl h5 h6 (fun c => ?_) hd (fun q r cA H1 q1 q2 q3 q4 q5 q6 => ?_)
  · show ({ cls := c, slots := Array.replicate y.toNatClampNeg (.int 0), vm := .none } : Cell) = _
    rw [vp_cell_i, arrV_new]
  · have hcA : cA = cy 28 := by
      have a1 : s.vm.findClass ("[" ++ (FieldType.array .int).toString) = some cA := (q3.2 13 (cA, .array .int) rfl).2
      have a2 : s.vm.findClass ("[" ++ (FieldType.array .int).toString) = some (cy 28) := (C.2.2.2.2.2.1.2 12 _ rfl).2
      exact Option.some.inj (a1.symm.trans a2)
    subst hcA
    have hmem : ∀ b ∈ mL S ++ (List.range x.toNatClampNeg).map r, b ≠ q := fun b hb e9 => by
      obtain ⟨j, hj⟩ := List.getElem?_of_mem hb
      have := q5.1 0 (1 + j) (q, .inl (cy 28, x.toNatClampNeg, .inr (.inr (.inr (.inr (fun i => if i < x.toNatClampNeg then some (r i) else none)))))) (b, vr_up (mE cy S) ((List.range x.toNatClampNeg).map r) (.inl (cy 17, y.toNatClampNeg, .inl (fun _ => 0))) b) rfl (by
        rw [List.getElem?_append_right (by simp)]
        unfold va_pl
        rw [List.getElem?_map]
        simp [hj]) e9.symm
      omega
    have ha : q ∉ mL S := fun h9 => hmem q (List.mem_append_left _ h9) rfl
    have hr : ∀ i, i < x.toNatClampNeg → r i ∉ mL S ∧ r i ≠ q := fun i hi => ⟨q2 i hi, hmem _ (List.mem_append_right _ (List.mem_map.mpr ⟨i, List.mem_range.mpr hi, rfl⟩))⟩
    rw [List.nil_append, mW_nG ha hr] at q4 q5
    exact hn _ _ _ _ _ (g2 q r ⟨ha, hr, q1⟩) ls H1 locs hl hz q4 q5 q6
theorem ms_tableswitch {d lo1 hi1 : Int} {os : Array Int} {ln : Nat} (C : mCx p l s m args meth c cc nL own D cy z r0 A) (hd : decode cc pc = .ok (.tableswitch d lo1 hi1 os, ln)) (hk : 0 ≤ (pc : Int) + d ∧ (∀ o ∈ os.toList, 0 ≤ (pc : Int) + o) ∧ hi1 - lo1 + 1 = os.size) (hj : ∀ t lo st S cs sl, g (seek tb t) lo st S cs sl → JJ p l e R s m args below meth c Q nL D cy z r0 A t lo st S cs sl) (h : mstep ev ini nL R.cells R.slots tb xh xc g ret pc (.tableswitch d lo1 hi1 os) rest lo st S cs sl) : JJ p l e R s m args below meth c Q nL D cy z r0 A pc lo st S cs sl := by
  obtain ⟨x, st, rfl, h1, h2⟩ := pi_of h
  refine fun ls H locs hl hz hP hD hS => ?_
  by_cases hx : x.toInt < lo1 ∨ hi1 < x.toInt
  · exact lv_tableOut C.1 C.2.1 hd hx (by unfold jt; rw [Int.toNat_of_nonneg hk.1]) (hj _ _ _ _ _ _ (h1 hx) ls H locs hl hz hP hD hS)
  · have hlt : (x.toInt - lo1).toNat < os.size := by omega
    have ho : os[(x.toInt - lo1).toNat]? = some os[(x.toInt - lo1).toNat] := Array.getElem?_eq_getElem hlt
    have ho2 : os.toList[(x.toInt - lo1).toNat]? = some os[(x.toInt - lo1).toNat] := by rw [Array.getElem?_toList]; exact ho
    have h0 := hk.2.1 _ (List.mem_of_getElem? ho2)
    exact lv_tableIn C.1 C.2.1 hd (by omega) (by omega) ho (by unfold jt; rw [Int.toNat_of_nonneg h0]) (hj _ _ _ _ _ _ (tsw_at h2 ho2 (by omega)) ls H locs hl hz hP hD hS)

end MSOUND2
