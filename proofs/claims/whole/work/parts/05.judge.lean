/-! ===== VALUES, LOCALS, SPECS; the judgement JJ: the machine at a place of a method, over the memory as functions ===== -/
abbrev MV : Type := Int32 ⊕ Int64 ⊕ Option Nat
def toV (v : MV) : Value := match v with
  | .inl x => .int x
  | .inr (.inl x) => .long x
  | .inr (.inr o) => va_rf o
def mcat (v : MV) : Nat := match v with
  | .inr (.inl _) => 2
  | _ => 1
theorem mcat_ok (v : MV) : (toV v).category = mcat v := by
  match v with
  | .inl x => rfl
  | .inr (.inl x) => rfl
  | .inr (.inr none) => rfl
  | .inr (.inr (some a)) => rfl
def mget : List (Nat × MV) → Nat → Option MV
  | [], _ => none
  | q :: l, i => match Nat.beq q.1 i with
    | true => some q.2
    | false => mget l i
def mput1 : List (Nat × MV) → Nat → List (Nat × MV)
  | [], _ => []
  | q :: l, i => match (!(q.1 == i) && !(q.1 + 1 == i && mcat q.2 == 2)) with
    | true => q :: mput1 l i
    | false => mput1 l i
def mput2 : List (Nat × MV) → Nat → List (Nat × MV)
  | [], _ => []
  | q :: l, i => match (!(q.1 == i) && (!(q.1 == i + 1) && !(q.1 + 1 == i && mcat q.2 == 2))) with
    | true => q :: mput2 l i
    | false => mput2 l i
def mlv (l : List (Nat × MV)) : List (Nat × Value) := l.map (fun q => (q.1, toV q.2))
theorem mget_in : ∀ {l : List (Nat × MV)} {i : Nat} {v : MV}, mget l i = some v → (i, v) ∈ l
  | [], i, v, h => by simp [mget] at h
  | q :: l, i, v, h => by
    unfold mget at h
    split at h
    · rename_i e
      have e1 : q.1 = i := Nat.eq_of_beq_eq_true e
      cases h
      rw [← e1]
      exact List.mem_cons_self
    · exact List.mem_cons_of_mem _ (mget_in h)
theorem mput1_ok : ∀ (l : List (Nat × MV)) (i : Nat), (mlv l).filter (fun q => !(q.1 == i) && !(q.1 + 1 == i && q.2.category == 2)) = mlv (mput1 l i)
  | [], _ => rfl
  | q :: l, i => by
    have ih := mput1_ok l i
    unfold mput1
    show List.filter _ ((q.1, toV q.2) :: mlv l) = _
    rw [List.filter_cons]
    simp only [mcat_ok]
    split
    · rename_i h1
      rw [h1]
      exact congrArg ((q.1, toV q.2) :: ·) ih
    · rename_i h1
      rw [Bool.not_eq_true] at h1
      rw [h1]
      exact ih
theorem mput2_ok : ∀ (l : List (Nat × MV)) (i : Nat), (mlv l).filter (fun q => !(q.1 == i) && (!(q.1 == i + 1) && !(q.1 + 1 == i && q.2.category == 2))) = mlv (mput2 l i)
  | [], _ => rfl
  | q :: l, i => by
    have ih := mput2_ok l i
    unfold mput2
    show List.filter _ ((q.1, toV q.2) :: mlv l) = _
    rw [List.filter_cons]
    simp only [mcat_ok]
    split
    · rename_i h1
      rw [h1]
      exact congrArg ((q.1, toV q.2) :: ·) ih
    · rename_i h1
      rw [Bool.not_eq_true] at h1
      rw [h1]
      exact ih
/-- the tables' words that stay, and those that need a word of their own at a call -/
def lw_good : List Cond := lw_tbl.filter goodWord
def isBad (w : Cond) : Bool := match w with
  | .methodLinkNest .. => true
  | .fieldLinkNest .. => true
  | .castable .. => true
  | .declares _ => true
  | _ => false
def lw_bad : List Cond := lw_tbl.filter isBad
def mtys (cy : Nat → ClassId) : List (ClassId × FieldType) := [(cy 16, .byte), (cy 17, .int), (cy 18, .long), (cy 19, .short), (cy 20, .boolean), (cy 21, .object RX0), (cy 22, .object RX1), (cy 23, .object RX4), (cy 24, .object RX10), (cy 25, .object RX12), (cy 26, .object "java/lang/Object"), (cy 27, .array .byte), (cy 28, .array .int)]
/-- the class's table of sixteen remainders -/
def mRem (j : Nat) : Int32 := ([0, 498536548, 997073096, 651767980, 1994146192, 1802195444, 1303535960, 1342533948, -306674912, -267414716, -690576408, -882789492, -1687895376, -2032938284, -1609899400, -1111625188] : List Int32).getD j 0
/-- what lies in the heap before the law begins, and is never written: two statics of Throwable, the class's table at r, the lists' empty row at z, the class object of Object[] -/
def mSt (z : Nat) (r : Nat × Nat) (A : Nat → Prop) (U : State) (H : Heap) : Prop :=
  vx_Zq Bundle.tN "UNASSIGNED_STACK" Bundle.steD A U H ∧ vx_Zq Bundle.tN "SUPPRESSED_SENTINEL" Bundle.listD A U H ∧ va_Z RX1 "REMAINDERS" "[I" (.ref r.1) A U H ∧ va_T .int r.1 16 (fun j => .int (mRem j)) A U H ∧ va_Z RJx4a65c "DEFAULTCAPACITY_EMPTY_ELEMENTDATA" "[Ljava/lang/Object;" (.ref z) A U H ∧ va_T (.object "java/lang/Object") z 0 (fun _ => .null) A U H ∧ va_Mi "[Ljava/lang/Object;" r.2 U
theorem mSt.moved {z : Nat} {r : Nat × Nat} {A : Nat → Prop} {u U : State} {H : Heap} (hvm : u.vm.Alike U.vm) (h : mSt z r A u H) : mSt z r A U H :=
  ⟨vx_Zq.moved hvm h.1, vx_Zq.moved hvm h.2.1, va_Z.moved hvm h.2.2.1, va_T.moved hvm h.2.2.2.1, va_Z.moved hvm h.2.2.2.2.1, va_T.moved hvm h.2.2.2.2.2.1, va_Mi.moved hvm h.2.2.2.2.2.2⟩
theorem mSt.kept {z : Nat} {r : Nat × Nat} {A : Nat → Prop} {U : State} {H H1 : Heap} (h : mSt z r A U H) (hq : ∀ a : Nat, a < H.size → ¬ A a → H1[a]? = H[a]?) : mSt z r A U H1 :=
  ⟨vx_Zq.kept h.1 hq, vx_Zq.kept h.2.1 hq, va_Z.kept h.2.2.1 hq, va_T.kept h.2.2.2.1 hq, va_Z.kept h.2.2.2.2.1 hq, va_T.kept h.2.2.2.2.2.1 hq, h.2.2.2.2.2.2⟩
theorem mSt.narrow {z : Nat} {r : Nat × Nat} {A B : Nat → Prop} {U : State} {H : Heap} (h : mSt z r A U H) (hAB : ∀ q, B q → A q) : mSt z r B U H :=
  ⟨vx_Zq.narrow h.1 hAB, vx_Zq.narrow h.2.1 hAB, va_Z.narrow h.2.2.1 hAB, va_T.narrow h.2.2.2.1 hAB, va_Z.narrow h.2.2.2.2.1 hAB, va_T.narrow h.2.2.2.2.2.1 hAB, h.2.2.2.2.2.2⟩
/-- the classes of which the tables say that arrays can be made -/
def mAOs : List String := [RX0, RX1, RX4, RX10, RX12, "java/lang/Object"]
/-- the four exceptions by numbers -/
def xname (E : Nat) : String := match E with
  | 1 => "java/lang/IllegalArgumentException"
  | 2 => "java/util/NoSuchElementException"
  | 3 => "java/lang/UnsupportedOperationException"
  | _ => "java/lang/IllegalStateException"
/-- the four exceptions; none is another's heir; arrays of arrays can be made -/
def xns : List String := ["java/lang/IllegalArgumentException", "java/util/NoSuchElementException", "java/lang/UnsupportedOperationException", "java/lang/IllegalStateException"]
def mXt (U : State) : Prop := va_AOA .byte U ∧ va_AOA .int U ∧ ∀ a ∈ xns, ∀ b ∈ xns, a ≠ b → va_Nc a b U
theorem mXt.moved {u U : State} (hvm : u.vm.Alike U.vm) (h : mXt u) : mXt U := ⟨va_AOA.moved hvm h.1, va_AOA.moved hvm h.2.1, fun a ha b hb hab => va_Nc.moved hvm (h.2.2 a ha b hb hab)⟩
theorem xname_in (E : Nat) : xname E ∈ xns := by
  unfold xname xns
  split <;> simp
/-- what a method's walk rests on -/
def mCx (p : Program) (l : Launch) (s : State) (m : MethodId) (args : Array Value) (meth : Method) (c : Code) (cc : ByteArray) (nL : Nat) (own : String) (D : va_G) (cy : Nat → ClassId) (z : Nat) (r : Nat × Nat) (A : Nat → Prop) : Prop :=
  p.tables.exec = Jvm.exec ∧ c.code = cc ∧ c.maxLocals = nL ∧ s.vm.findClass own = some m.cls ∧ (∀ w ∈ lw_good, w.before args s = true) ∧ va_K D vwCl (mtys cy) s ∧ (∀ q, s.heap.size ≤ q → A q) ∧ mSt z r A s s.heap ∧ (∀ w ∈ lw_bad, va_Nw w s) ∧ meth.locks = false ∧ (∀ Cn ∈ mAOs, va_AO Cn s) ∧ mXt s
def JJ (p : Program) (l : Launch) (e : Env) (R : Room) (s : State) (m : MethodId) (args : Array Value) (below : List Frame) (meth : Method) (c : Code) (Q : State → Prop) (nL : Nat) (D : va_G) (cy : Nat → ClassId) (z : Nat) (r0 : Nat × Nat) (A : Nat → Prop) (pc : Nat) (lo : List (Nat × MV)) (st : List MV) (S : MM) (cs sl : Nat) : Prop :=
  ∀ (ls : Array Slot) (H : Heap) (locs : List Loc), lv_has ls nL (mlv lo) → (mZ S = z ∧ mQ S = r0) → va_P D vwCl (mW cy S) H → va_D A (mW cy S) → va_S A s.heap H locs → W p l e R s m args below meth c H locs cs sl Q (F0 m pc ls (st.map toV))
