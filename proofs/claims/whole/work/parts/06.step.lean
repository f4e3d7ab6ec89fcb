/-! ===== ONE INSTRUCTION, AND A RUN OF THEM, AS A PROPOSITION OVER THE MEMORY ===== -/
def pi (st : List MV) (k : Int32 → List MV → Prop) : Prop := match st with
  | .inl x :: r => k x r
  | _ => False
def pj (st : List MV) (k : Int64 → List MV → Prop) : Prop := match st with
  | .inr (.inl x) :: r => k x r
  | _ => False
def pr (st : List MV) (k : Option Nat → List MV → Prop) : Prop := match st with
  | .inr (.inr o) :: r => k o r
  | _ => False
def pv (st : List MV) (k : MV → List MV → Prop) : Prop := match st with
  | v :: r => k v r
  | _ => False
/-- a reference that isn't null, of an address of the memory -/
def pa (o : Option Nat) (k : Nat → Prop) : Prop := match o with
  | some a => k a
  | none => False
def po {α : Type} (o : Option α) (k : α → Prop) : Prop := match o with
  | some a => k a
  | none => False
theorem pi_of {st : List MV} {k : Int32 → List MV → Prop} (h : pi st k) : ∃ x r, st = .inl x :: r ∧ k x r := by
  unfold pi at h
  split at h
  · exact ⟨_, _, rfl, h⟩
  · exact h.elim
theorem pj_of {st : List MV} {k : Int64 → List MV → Prop} (h : pj st k) : ∃ x r, st = .inr (.inl x) :: r ∧ k x r := by
  unfold pj at h
  split at h
  · exact ⟨_, _, rfl, h⟩
  · exact h.elim
theorem pr_of {st : List MV} {k : Option Nat → List MV → Prop} (h : pr st k) : ∃ x r, st = .inr (.inr x) :: r ∧ k x r := by
  unfold pr at h
  split at h
  · exact ⟨_, _, rfl, h⟩
  · exact h.elim
theorem pv_of {st : List MV} {k : MV → List MV → Prop} (h : pv st k) : ∃ x r, st = x :: r ∧ k x r := by
  unfold pv at h
  split at h
  · exact ⟨_, _, rfl, h⟩
  · exact h.elim
theorem po_of {α : Type} {o : Option α} {k : α → Prop} (h : po o k) : ∃ a, o = some a ∧ k a := by
  unfold po at h
  split at h
  · exact ⟨_, rfl, h⟩
  · exact h.elim
theorem pa_of {o : Option Nat} {k : Nat → Prop} (h : pa o k) : ∃ a, o = some a ∧ k a := by
  unfold pa at h
  split at h
  · exact ⟨_, rfl, h⟩
  · exact h.elim
/-- words of nests and casts: they go over to a callee by rows of their own -/
abbrev KT : Type := List (Nat × MV) → List MV → MM → Nat → Nat → Prop
abbrev CD : Type := List (Nat × Instr)
/-- what a callee asks, costs in cells and slots, gives where it returns, and where it throws -/
abbrev Sp : Type := (List MV → MM → Prop) × (List MV → MM → Nat) × (List MV → MM → Nat) × (List MV → MM → Option MV → MM → Prop) × (List MV → MM → Nat → MM → Prop)
def look {α : Type} : List (Nat × α) → Nat → Option α
  | [], _ => none
  | q :: l, i => match Nat.beq q.1 i with
    | true => some q.2
    | false => look l i
theorem look_in {α : Type} : ∀ {l : List (Nat × α)} {i : Nat} {v : α}, look l i = some v → (i, v) ∈ l
  | [], i, v, h => by simp [look] at h
  | q :: l, i, v, h => by
    unfold look at h
    split at h
    · rename_i e
      have e1 : q.1 = i := Nat.eq_of_beq_eq_true e
      cases h
      rw [← e1]
      exact List.mem_cons_self
    · exact List.mem_cons_of_mem _ (look_in h)
/-- an entry of the statics that is no class object, one that is -/
def lookS (l : List (Nat × Nat)) (n : Nat) : Option Nat := match look l n with
  | some 2 => none
  | r => r
def lookM (l : List (Nat × Nat)) (n : Nat) : Option Nat := match look l n with
  | some 2 => some 2
  | _ => none
theorem lookS_in {l : List (Nat × Nat)} {n v : Nat} (h : lookS l n = some v) : (n, v) ∈ l ∧ v ≠ 2 := by
  unfold lookS at h
  split at h
  · cases h
  · rename_i h2
    exact ⟨look_in h, fun e => h2 (e ▸ h)⟩
theorem lookM_in {l : List (Nat × Nat)} {n v : Nat} (h : lookM l n = some v) : (n, 2) ∈ l := by
  unfold lookM at h
  split at h
  · rename_i h2; exact look_in h2
  · cases h
def seek : CD → Nat → CD
  | [], _ => []
  | q :: l, i => match Nat.beq q.1 i with
    | true => q :: l
    | false => seek l i
/-- a callee as a transformer: the room, its values, the memory, what was used; what must hold behind its return, and behind its throw -/
abbrev TR : Type := Nat → Nat → List MV → MM → Nat → Nat → (Option MV → MM → Nat → Nat → Prop) → (Nat → MM → Nat → Nat → Prop) → Prop
def mpush (r : Option MV) (st : List MV) : List MV := match r with
  | none => st
  | some v => v :: st
/-- a spec as a transformer -/
def Told (rk : Nat) (sp : Sp) : TR := fun Rc Rs av S cs sl K Kx => sp.1 av S ∧ cs + sp.2.1 av S ≤ Rc ∧ sl + sp.2.2.1 av S ≤ Rs ∧ (match rk with
    | 0 => ∀ S', sp.2.2.2.1 av S none S' → K none S' (cs + sp.2.1 av S) (sl + sp.2.2.1 av S)
    | 1 => ∀ x S', sp.2.2.2.1 av S (some (.inl x)) S' → K (some (.inl x)) S' (cs + sp.2.1 av S) (sl + sp.2.2.1 av S)
    | 2 => ∀ x S', sp.2.2.2.1 av S (some (.inr (.inl x))) S' → K (some (.inr (.inl x))) S' (cs + sp.2.1 av S) (sl + sp.2.2.1 av S)
    | _ => ∀ x S', sp.2.2.2.1 av S (some (.inr (.inr x))) S' → K (some (.inr (.inr x))) S' (cs + sp.2.1 av S) (sl + sp.2.2.1 av S)) ∧
    ∀ E S', sp.2.2.2.2 av S E S' → Kx E S' (cs + sp.2.1 av S) (sl + sp.2.2.1 av S)
/-- what a class's entries mean: fields (code; type: 0 an int, 3 a boolean, 1 a reference, 2 a long; 0 is read only, 1 is written, 2 is written in the constructor), classes that are made, arrays of references, numbers, callees (0 virtual, 1 special, 2 static; how many values, receiver with them; the result: 0 none, 1 an int, 2 a long, 3 a reference), casts, the two static rows, exceptions that are thrown (their number, the constructor's entry) -/
abbrev EV : Type := List (Nat × Nat × Nat × Nat) × List (Nat × Nat) × List (Nat × Nat) × List (Nat × Int32) × List (Nat × Int64) × List (Nat × Nat × Nat × Nat × TR) × List (Nat × Nat) × List (Nat × Nat) × List (Nat × Nat × Nat)
def jt (pc : Nat) (off : Int) : Nat := ((pc : Int) + off).toNat
def msum (st : List MV) : Nat := match st with
  | [] => 0
  | v :: r => mcat v + msum r
/-- getfield by the type -/
def mread (S : MM) (t i a : Nat) : MV := match t with
  | 1 => .inr (.inr (mR S i a))
  | 2 => .inr (.inl (mJ S i a))
  | _ => .inl (mI S i a)
def isO (S : MM) (k a : Nat) : Prop := a ∈ mL S ∧ mK S a = k
/-- the rows by an index -/
def inR (S : MM) (a : Nat) (i : Int32) : Prop := vp_in i (mN S a)
def putf (t : Nat) (v : MV) (S : MM) (i a : Nat) (k : MM → Prop) : Prop := match t, v with
  | 0, .inl x => k (sI S i a x)
  | 3, .inl x => (x = 0 ∨ x = 1) ∧ k (sI S i a x)
  | 1, .inr (.inr o) => k (sR S i a o)
  | 2, .inr (.inl x) => k (sJ S i a x)
  | _, _ => False
def rd (lo : List (Nat × MV)) (i : Nat) (st : List MV) (k : List MV → Prop) : Prop := po (mget lo i) fun v => k (v :: st)
def wr (nL : Nat) (lo : List (Nat × MV)) (i : Nat) (v : MV) (k : List (Nat × MV) → Prop) : Prop := match v with
  | .inr (.inl x) => (match Nat.blt (i + 1) nL with
    | true => k ((i, .inr (.inl x)) :: mput2 lo i)
    | false => False)
  | v => (match Nat.blt i nL with
    | true => k ((i, v) :: mput1 lo i)
    | false => False)
/-- 'new' of an exception, the rest of its throwing behind it -/
def isThr (rest : CD) (ic : Nat) : Bool := match rest with
  | (_, .dup) :: (_, .invokespecial k) :: (_, .athrow) :: _ => Nat.beq k ic
  | _ => false
def mcal (g : CD → KT) (xh : Nat → Nat → Option CD) (xc : Nat → MM → Nat → Nat → Prop) (pc Rc Rs : Nat) (n : Nat) (T : TR) (rest : CD) : KT := fun lo st S cs sl => (match Nat.ble (msum (st.drop n)) 8 && Nat.ble n st.length with
    | true => T Rc Rs (st.take n).reverse S cs sl (fun r S' c s => g rest lo (mpush r (st.drop n)) S' c s) (fun E S' c s => match xh pc E with
          | some h => ∀ q, g h lo [.inr (.inr (some q))] S' c s
          | none => xc E S' c s)
    | false => False)
/-- a result of a kind -/
def rkOK (rk : Nat) (r : Option MV) : Prop := match rk with
  | 0 => r = none
  | 1 => ∃ x, r = some (.inl x)
  | 2 => ∃ x, r = some (.inr (.inl x))
  | _ => ∃ x, r = some (.inr (.inr x))
/-- the targets of a switch, one after the other -/
def tsw (g : Int → Prop) (x : Int32) : List Int → Int → Prop
  | [], _ => True
  | o :: r, k => (x.toInt = k → g o) ∧ tsw g x r (k + 1)
theorem tsw_at {g : Int → Prop} {x : Int32} : ∀ {os : List Int} {k : Int} {i : Nat} {o : Int}, tsw g x os k → os[i]? = some o → x.toInt = k + i → g o
  | [], _, _, _, _, h, _ => by simp at h
  | o0 :: r, k, 0, o, h, e1, e2 => by
    simp only [List.getElem?_cons_zero, Option.some.injEq] at e1
    subst e1
    exact h.1 (by rw [e2]; simp)
  | o0 :: r, k, i + 1, o, h, e1, e2 => tsw_at (k := k + 1) (i := i) h.2 (by simpa using e1) (by rw [e2]; push_cast; omega)
def mstep (ev : EV) (ini : Bool) (nL Rc Rs : Nat) (tb : CD) (xh : Nat → Nat → Option CD) (xc : Nat → MM → Nat → Nat → Prop) (g : CD → KT) (ret : Option MV → MM → Nat → Nat → Prop) (pc : Nat) (i : Instr) (rest : CD) : KT := fun lo st S cs sl => match i with
  | .iconst n => g rest lo (.inl (Int32.ofInt n) :: st) S cs sl
  | .bipush n => g rest lo (.inl (Int8.ofInt n).toInt32 :: st) S cs sl
  | .sipush n => g rest lo (.inl (Int16.ofInt n).toInt32 :: st) S cs sl
  | .lconst n => g rest lo (.inr (.inl (Int64.ofNat (n : Nat))) :: st) S cs sl
  | .aconst_null => g rest lo (.inr (.inr none) :: st) S cs sl
  | .ldc n => (match look ev.2.2.2.1 n with
    | some v => g rest lo (.inl v :: st) S cs sl
    | none => po (lookM ev.2.2.2.2.2.2.2.1 n) fun _ => g rest lo (.inr (.inr (some (mQ S).2)) :: st) S cs sl)
  | .ldc_w n => po (look ev.2.2.2.1 n) fun v => g rest lo (.inl v :: st) S cs sl
  | .ldc2_w n => po (look ev.2.2.2.2.1 n) fun v => g rest lo (.inr (.inl v) :: st) S cs sl
  | .iload_n k => po (mget lo k) fun v => pi [v] fun x _ => g rest lo (.inl x :: st) S cs sl
  | .iload k => po (mget lo k) fun v => pi [v] fun x _ => g rest lo (.inl x :: st) S cs sl
  | .lload_n k => po (mget lo k) fun v => pj [v] fun x _ => g rest lo (.inr (.inl x) :: st) S cs sl
  | .lload k => po (mget lo k) fun v => pj [v] fun x _ => g rest lo (.inr (.inl x) :: st) S cs sl
  | .aload_n k => po (mget lo k) fun v => pr [v] fun x _ => g rest lo (.inr (.inr x) :: st) S cs sl
  | .aload k => po (mget lo k) fun v => pr [v] fun x _ => g rest lo (.inr (.inr x) :: st) S cs sl
  | .istore_n k => pi st fun x st => wr nL lo k (.inl x) fun lo => g rest lo st S cs sl
  | .istore k => pi st fun x st => wr nL lo k (.inl x) fun lo => g rest lo st S cs sl
  | .lstore_n k => pj st fun x st => wr nL lo k (.inr (.inl x)) fun lo => g rest lo st S cs sl
  | .lstore k => pj st fun x st => wr nL lo k (.inr (.inl x)) fun lo => g rest lo st S cs sl
  | .astore_n k => pr st fun x st => wr nL lo k (.inr (.inr x)) fun lo => g rest lo st S cs sl
  | .astore k => pr st fun x st => wr nL lo k (.inr (.inr x)) fun lo => g rest lo st S cs sl
  | .iinc k n => po (mget lo k) fun v => pi [v] fun x _ => wr nL lo k (.inl (x + Int32.ofInt n)) fun lo => g rest lo st S cs sl
  | .iadd => pi st fun y st => pi st fun x st => g rest lo (.inl (x + y) :: st) S cs sl
  | .isub => pi st fun y st => pi st fun x st => g rest lo (.inl (x - y) :: st) S cs sl
  | .imul => pi st fun y st => pi st fun x st => g rest lo (.inl (x * y) :: st) S cs sl
  | .iand => pi st fun y st => pi st fun x st => g rest lo (.inl (x &&& y) :: st) S cs sl
  | .ior => pi st fun y st => pi st fun x st => g rest lo (.inl (x ||| y) :: st) S cs sl
  | .ixor => pi st fun y st => pi st fun x st => g rest lo (.inl (x ^^^ y) :: st) S cs sl
  | .idiv => pi st fun y st => pi st fun x st => ¬ y = 0 ∧ g rest lo (.inl (x / y) :: st) S cs sl
  | .irem => pi st fun y st => pi st fun x st => ¬ y = 0 ∧ g rest lo (.inl (x - x / y * y) :: st) S cs sl
  | .ishl => pi st fun y st => pi st fun x st => g rest lo (.inl (x <<< (y &&& 31)) :: st) S cs sl
  | .ishr => pi st fun y st => pi st fun x st => g rest lo (.inl (x >>> (y &&& 31)) :: st) S cs sl
  | .iushr => pi st fun y st => pi st fun x st => g rest lo (.inl (x.toUInt32 >>> (y.toUInt32 &&& Int32.toUInt32 31)).toInt32 :: st) S cs sl
  | .ineg => pi st fun x st => g rest lo (.inl (-x) :: st) S cs sl
  | .ladd => pj st fun y st => pj st fun x st => g rest lo (.inr (.inl (x + y)) :: st) S cs sl
  | .lsub => pj st fun y st => pj st fun x st => g rest lo (.inr (.inl (x - y)) :: st) S cs sl
  | .lmul => pj st fun y st => pj st fun x st => g rest lo (.inr (.inl (x * y)) :: st) S cs sl
  | .land => pj st fun y st => pj st fun x st => g rest lo (.inr (.inl (x &&& y)) :: st) S cs sl
  | .lor => pj st fun y st => pj st fun x st => g rest lo (.inr (.inl (x ||| y)) :: st) S cs sl
  | .ldiv => pj st fun y st => pj st fun x st => ¬ y = 0 ∧ g rest lo (.inr (.inl (x / y)) :: st) S cs sl
  | .lrem => pj st fun y st => pj st fun x st => ¬ y = 0 ∧ g rest lo (.inr (.inl (x - x / y * y)) :: st) S cs sl
  | .lneg => pj st fun x st => g rest lo (.inr (.inl (-x)) :: st) S cs sl
  | .lshl => pi st fun y st => pj st fun x st => g rest lo (.inr (.inl (x <<< (y.toInt64 &&& 63))) :: st) S cs sl
  | .lshr => pi st fun y st => pj st fun x st => g rest lo (.inr (.inl (x >>> (y.toInt64 &&& 63))) :: st) S cs sl
  | .lcmp => pj st fun y st => pj st fun x st => g rest lo (.inl (lg_cmp x y) :: st) S cs sl
  | .i2l => pi st fun x st => g rest lo (.inr (.inl x.toInt64) :: st) S cs sl
  | .l2i => pj st fun x st => g rest lo (.inl x.toInt32 :: st) S cs sl
  | .i2b => pi st fun x st => g rest lo (.inl x.toInt8.toInt32 :: st) S cs sl
  | .i2s => pi st fun x st => g rest lo (.inl x.toInt16.toInt32 :: st) S cs sl
  | .dup => pv st fun v st => (match Nat.beq (mcat v) 1 with
    | true => g rest lo (v :: v :: st) S cs sl
    | false => False)
  | .dup_x1 => pv st fun v st => pv st fun w st => (match Nat.beq (mcat v) 1 && Nat.beq (mcat w) 1 with
    | true => g rest lo (v :: w :: v :: st) S cs sl
    | false => False)
  | .dup2 => pv st fun v st => pv st fun w st => (match Nat.beq (mcat v) 1 && Nat.beq (mcat w) 1 with
    | true => g rest lo (v :: w :: v :: w :: st) S cs sl
    | false => False)
  | .pop => pv st fun v st => (match Nat.beq (mcat v) 1 with
    | true => g rest lo st S cs sl
    | false => False)
  | .goto off => g (seek tb (jt pc off)) lo st S cs sl
  | .ifCond .eq off => pi st fun x st => (x = 0 → g (seek tb (jt pc off)) lo st S cs sl) ∧ (¬ x = 0 → g rest lo st S cs sl)
  | .ifCond .ne off => pi st fun x st => (¬ x = 0 → g (seek tb (jt pc off)) lo st S cs sl) ∧ (x = 0 → g rest lo st S cs sl)
  | .ifCond .lt off => pi st fun x st => (x < 0 → g (seek tb (jt pc off)) lo st S cs sl) ∧ (¬ x < 0 → g rest lo st S cs sl)
  | .ifCond .ge off => pi st fun x st => (0 ≤ x → g (seek tb (jt pc off)) lo st S cs sl) ∧ (¬ 0 ≤ x → g rest lo st S cs sl)
  | .ifCond .gt off => pi st fun x st => (0 < x → g (seek tb (jt pc off)) lo st S cs sl) ∧ (¬ 0 < x → g rest lo st S cs sl)
  | .ifCond .le off => pi st fun x st => (x ≤ 0 → g (seek tb (jt pc off)) lo st S cs sl) ∧ (¬ x ≤ 0 → g rest lo st S cs sl)
  | .if_icmp .eq off => pi st fun y st => pi st fun x st => (x = y → g (seek tb (jt pc off)) lo st S cs sl) ∧ (¬ x = y → g rest lo st S cs sl)
  | .if_icmp .ne off => pi st fun y st => pi st fun x st => (¬ x = y → g (seek tb (jt pc off)) lo st S cs sl) ∧ (x = y → g rest lo st S cs sl)
  | .if_icmp .lt off => pi st fun y st => pi st fun x st => (x < y → g (seek tb (jt pc off)) lo st S cs sl) ∧ (¬ x < y → g rest lo st S cs sl)
  | .if_icmp .ge off => pi st fun y st => pi st fun x st => (y ≤ x → g (seek tb (jt pc off)) lo st S cs sl) ∧ (¬ y ≤ x → g rest lo st S cs sl)
  | .if_icmp .gt off => pi st fun y st => pi st fun x st => (y < x → g (seek tb (jt pc off)) lo st S cs sl) ∧ (¬ y < x → g rest lo st S cs sl)
  | .if_icmp .le off => pi st fun y st => pi st fun x st => (x ≤ y → g (seek tb (jt pc off)) lo st S cs sl) ∧ (¬ x ≤ y → g rest lo st S cs sl)
  | .if_acmp .eq off => pr st fun y st => pr st fun x st => (x = y → g (seek tb (jt pc off)) lo st S cs sl) ∧ (¬ x = y → g rest lo st S cs sl)
  | .if_acmp .ne off => pr st fun y st => pr st fun x st => (¬ x = y → g (seek tb (jt pc off)) lo st S cs sl) ∧ (x = y → g rest lo st S cs sl)
  | .ifnull off => pr st fun x st => (x = none → g (seek tb (jt pc off)) lo st S cs sl) ∧ (∀ a, x = some a → g rest lo st S cs sl)
  | .ifnonnull off => pr st fun x st => (∀ a, x = some a → g (seek tb (jt pc off)) lo st S cs sl) ∧ (x = none → g rest lo st S cs sl)
  | .getfield n => po (look ev.1 n) fun f => pr st fun o st => pa o fun a => isO S (f.1 / 100) a ∧ g rest lo (mread S f.2.1 f.1 a :: st) S cs sl
  | .putfield n => po (look ev.1 n) fun f => (match f.2.2 with
    | 1 => True
    | 2 => ini = true
    | _ => False) ∧ pv st fun v st => pr st fun o st => pa o fun a => isO S (f.1 / 100) a ∧ putf f.2.1 v S f.1 a fun S => g rest lo st S cs sl
  | .iaload => pi st fun i st => pr st fun o st => pa o fun a => ∃ v, (isO S 17 a ∧ inR S a i ∧ v = eI S a i.toNatClampNeg ∨ a = (mQ S).1 ∧ vp_in i 16 ∧ v = mRem i.toNatClampNeg) ∧ g rest lo (.inl v :: st) S cs sl
  | .baload => pi st fun i st => pr st fun o st => pa o fun a => (isO S 16 a ∨ isO S 20 a) ∧ inR S a i ∧ g rest lo (.inl (eI S a i.toNatClampNeg) :: st) S cs sl
  | .saload => pi st fun i st => pr st fun o st => pa o fun a => isO S 19 a ∧ inR S a i ∧ g rest lo (.inl (eI S a i.toNatClampNeg) :: st) S cs sl
  | .laload => pi st fun i st => pr st fun o st => pa o fun a => isO S 18 a ∧ inR S a i ∧ g rest lo (.inr (.inl (eJ S a i.toNatClampNeg)) :: st) S cs sl
  | .iastore => pi st fun x st => pi st fun i st => pr st fun o st => pa o fun a => isO S 17 a ∧ inR S a i ∧ g rest lo st (rI S a (upd (eI S a) i.toNatClampNeg x)) cs sl
  | .bastore => pi st fun x st => pi st fun i st => pr st fun o st => pa o fun a => (isO S 16 a ∧ inR S a i ∧ g rest lo st (rI S a (upd (eI S a) i.toNatClampNeg (x.toInt8.toInt32))) cs sl) ∨ (isO S 20 a ∧ inR S a i ∧ g rest lo st (rI S a (upd (eI S a) i.toNatClampNeg (vp_nar .boolean x))) cs sl)
  | .sastore => pi st fun x st => pi st fun i st => pr st fun o st => pa o fun a => isO S 19 a ∧ inR S a i ∧ g rest lo st (rI S a (upd (eI S a) i.toNatClampNeg (x.toInt16.toInt32))) cs sl
  | .lastore => pj st fun x st => pi st fun i st => pr st fun o st => pa o fun a => isO S 18 a ∧ inR S a i ∧ g rest lo st (rJ S a (vp_updL (eJ S a) i.toNatClampNeg x)) cs sl
  | .arraylength => pr st fun o st => pa o fun a => ∃ v, (a ∈ mL S ∧ ¬ mK S a < 16 ∧ mK S a < 29 ∧ v = Int32.ofNat (mN S a) ∨ a = mZ S ∧ v = 0) ∧ g rest lo (.inl v :: st) S cs sl
  | .new n => match look ev.2.2.2.2.2.2.2.2 n with
    | some E => (match isThr rest E.2 && Nat.ble (msum st) 8 with
      | true => xc E.1 S (cs + 1) (sl + 6)
      | false => False)
    | none => po (look ev.2.1 n) fun k => cs + 1 ≤ Rc ∧ sl + (mFt k).length ≤ Rs ∧ ∀ a, a ∉ mL S → g rest lo (.inr (.inr (some a)) :: st) (nO S a k) (cs + 1) (sl + (mFt k).length)
  | .aaload => pi st fun i st => pr st fun o st => pa o fun a => a ∈ mL S ∧ ¬ mK S a < 21 ∧ mK S a < 29 ∧ inR S a i ∧ g rest lo (.inr (.inr (eR S a i.toNatClampNeg)) :: st) S cs sl
  | .aastore => pr st fun x st => pi st fun i st => pr st fun o st => pa o fun a => a ∈ mL S ∧ ¬ mK S a < 21 ∧ mK S a < 29 ∧ inR S a i ∧ (∀ v, x = some v → v ∈ mL S ∧ (mK S a = 21 ∧ mK S v = 1 ∨ mK S a = 22 ∧ mK S v = 2 ∨ mK S a = 23 ∧ mK S v = 5 ∨ mK S a = 24 ∧ mK S v = 11 ∨ mK S a = 25 ∧ mK S v = 13 ∨ mK S a = 26 ∧ (mK S v = 4 ∨ mK S v = 5) ∨ mK S a = 27 ∧ mK S v = 16 ∨ mK S a = 28 ∧ mK S v = 17)) ∧ g rest lo st (rR S a (va_up (eR S a) i.toNatClampNeg x)) cs sl
  | .anewarray n => po (look ev.2.2.1 n) fun k => (match Nat.beq k 28 with
    | true => False
    | false => pi st fun n st => ¬ n < 0 ∧ n.toNatClampNeg * 8 ≤ 536870912 ∧ cs + 1 ≤ Rc ∧ sl + n.toNatClampNeg ≤ Rs ∧ ∀ a, a ∉ mL S → g rest lo (.inr (.inr (some a)) :: st) (nA S a k n.toNatClampNeg) (cs + 1) (sl + n.toNatClampNeg))
  | .multianewarray n d => po (look ev.2.2.1 n) fun k => (match Nat.beq k 28 && Nat.beq d 2 with
    | false => False
    | true => pi st fun y st => pi st fun x st => ¬ x < 0 ∧ ¬ y < 0 ∧ x.toNatClampNeg * 8 ≤ 536870912 ∧ y.toNatClampNeg * 8 ≤ 536870912 ∧ cs + (1 + x.toNatClampNeg) ≤ Rc ∧ sl + (x.toNatClampNeg + x.toNatClampNeg * y.toNatClampNeg) ≤ Rs ∧ ∀ a r, (a ∉ mL S ∧ (∀ i, i < x.toNatClampNeg → r i ∉ mL S ∧ r i ≠ a) ∧ ∀ i j, i < x.toNatClampNeg → j < x.toNatClampNeg → r i = r j → i = j) → g rest lo (.inr (.inr (some a)) :: st) (nG S a r x.toNatClampNeg y.toNatClampNeg) (cs + 1 + x.toNatClampNeg) (sl + x.toNatClampNeg + x.toNatClampNeg * y.toNatClampNeg))
  | .tableswitch d l h os => pi st fun x st => (x.toInt < l ∨ h < x.toInt → g (seek tb (jt pc d)) lo st S cs sl) ∧ tsw (fun o => g (seek tb (jt pc o)) lo st S cs sl) x os.toList l
  | .checkcast n => po (look ev.2.2.2.2.2.2.1 n) fun k => pr st fun o st => (∀ a, o = some a → isO S k a) ∧ g rest lo (.inr (.inr o) :: st) S cs sl
  | .getstatic n => po (lookS ev.2.2.2.2.2.2.2.1 n) fun k => g rest lo (.inr (.inr (some (match k with
    | 0 => mZ S
    | _ => (mQ S).1))) :: st) S cs sl
  | .newarray .int => pi st fun n st => ¬ n < 0 ∧ n.toNatClampNeg * 8 ≤ 536870912 ∧ cs + 1 ≤ Rc ∧ sl + n.toNatClampNeg ≤ Rs ∧ ∀ a, a ∉ mL S → g rest lo (.inr (.inr (some a)) :: st) (nA S a 17 n.toNatClampNeg) (cs + 1) (sl + n.toNatClampNeg)
  | .newarray .byte => pi st fun n st => ¬ n < 0 ∧ n.toNatClampNeg * 8 ≤ 536870912 ∧ cs + 1 ≤ Rc ∧ sl + n.toNatClampNeg ≤ Rs ∧ ∀ a, a ∉ mL S → g rest lo (.inr (.inr (some a)) :: st) (nA S a 16 n.toNatClampNeg) (cs + 1) (sl + n.toNatClampNeg)
  | .newarray .long => pi st fun n st => ¬ n < 0 ∧ n.toNatClampNeg * 8 ≤ 536870912 ∧ cs + 1 ≤ Rc ∧ sl + n.toNatClampNeg ≤ Rs ∧ ∀ a, a ∉ mL S → g rest lo (.inr (.inr (some a)) :: st) (nA S a 18 n.toNatClampNeg) (cs + 1) (sl + n.toNatClampNeg)
  | .newarray .short => pi st fun n st => ¬ n < 0 ∧ n.toNatClampNeg * 8 ≤ 536870912 ∧ cs + 1 ≤ Rc ∧ sl + n.toNatClampNeg ≤ Rs ∧ ∀ a, a ∉ mL S → g rest lo (.inr (.inr (some a)) :: st) (nA S a 19 n.toNatClampNeg) (cs + 1) (sl + n.toNatClampNeg)
  | .newarray .boolean => pi st fun n st => ¬ n < 0 ∧ n.toNatClampNeg * 8 ≤ 536870912 ∧ cs + 1 ≤ Rc ∧ sl + n.toNatClampNeg ≤ Rs ∧ ∀ a, a ∉ mL S → g rest lo (.inr (.inr (some a)) :: st) (nA S a 20 n.toNatClampNeg) (cs + 1) (sl + n.toNatClampNeg)
  | .invokevirtual n => po (look ev.2.2.2.2.2.1 n) fun c => c.1 = 0 ∧ mcal g xh xc pc Rc Rs c.2.1 c.2.2.2 rest lo st S cs sl
  | .invokespecial n => po (look ev.2.2.2.2.2.1 n) fun c => c.1 = 1 ∧ mcal g xh xc pc Rc Rs c.2.1 c.2.2.2 rest lo st S cs sl
  | .invokestatic n => po (look ev.2.2.2.2.2.1 n) fun c => c.1 = 2 ∧ mcal g xh xc pc Rc Rs c.2.1 c.2.2.2 rest lo st S cs sl
  | .ireturn => pi st fun x r => r = [] ∧ ret (some (.inl x)) S cs sl
  | .lreturn => pj st fun x r => r = [] ∧ ret (some (.inr (.inl x))) S cs sl
  | .areturn => pr st fun x r => r = [] ∧ ret (some (.inr (.inr x))) S cs sl
  | .return_ => st = [] ∧ ret none S cs sl
  | _ => False
/-- the locals that a cut names, in its order -/
def pick (lo : List (Nat × MV)) : List Nat → List (Nat × MV)
  | [] => []
  | i :: ks => match mget lo i with
    | some v => (i, v) :: pick lo ks
    | none => pick lo ks
def nxt (cu : Nat → Option (List Nat × KT)) (g : CD → KT) (rest : CD) : KT := match rest with
  | [] => fun _ _ _ _ _ => False
  | q :: r => match cu q.1 with
    | some I => fun lo st S cs sl => I.2 (pick lo I.1) st S cs sl
    | none => g (q :: r)
/-- n instructions at most, from here to the cuts -/
def go (ev : EV) (ini : Bool) (nL Rc Rs : Nat) (tb : CD) (xh : Nat → Nat → Option CD) (xc : Nat → MM → Nat → Nat → Prop) (cu : Nat → Option (List Nat × KT)) (ret : Option MV → MM → Nat → Nat → Prop) : Nat → CD → KT
  | 0, _ => fun _ _ _ _ _ => False
  | _ + 1, [] => fun _ _ _ _ _ => False
  | n + 1, q :: rest => mstep ev ini nL Rc Rs tb xh xc (nxt cu (go ev ini nL Rc Rs tb xh xc cu ret n)) ret q.1 q.2 rest
