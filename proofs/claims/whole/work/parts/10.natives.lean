/-! ===== CALLS OF MEMBERS THAT ARE NO CODE OF OURS: Math.min, Math.max, System.arraycopy over numbers ===== -/
/-- a spec of a method that makes nothing and never throws -/
def sp0 (pre : List MV → MM → Prop) (post : List MV → MM → Option MV → MM → Prop) : Sp := (pre, fun _ _ => 0, fun _ _ => 0, post, fun _ _ _ _ => False)
theorem mret0 {rt : Option FieldType} {pre : List MV → MM → Prop} {post : List MV → MM → Option MV → MM → Prop} {av : List MV} {S0 S1 : MM} {rv : Option MV} (h1 : rtOK rt rv) (h2 : post av S0 rv S1) : mret rt (sp0 pre post) av S0 rv S1 0 0 := ⟨h1, h2, Nat.le_refl _, Nat.le_refl _⟩
def sp_min : Sp := sp0 (fun av _ => ∃ x y, av = [.inl x, .inl y]) (fun av S r S' => ∀ x y, av = [.inl x, .inl y] → r = some (.inl (if y < x then y else x)) ∧ S' = S)
def sp_max : Sp := sp0 (fun av _ => ∃ x y, av = [.inl x, .inl y]) (fun av S r S' => ∀ x y, av = [.inl x, .inl y] → r = some (.inl (if x < y then y else x)) ∧ S' = S)
/-- arraycopy between rows of numbers of one kind -/
def sp_acopy : Sp := sp0 (fun av S => ∃ a0 a1 x y n k, av = [.inr (.inr (some a0)), .inl x, .inr (.inr (some a1)), .inl y, .inl n] ∧ isO S k a0 ∧ isO S k a1 ∧ (k = 17 ∨ k = 19 ∧ (∀ i, i < n.toNatClampNeg → fits .short (.int (eI S a0 (x.toNatClampNeg + i))) = true) ∨ k = 16 ∧ (∀ i, i < n.toNatClampNeg → fits .byte (.int (eI S a0 (x.toNatClampNeg + i))) = true)) ∧ ¬ x < 0 ∧ ¬ y < 0 ∧ ¬ n < 0 ∧ x.toNatClampNeg + n.toNatClampNeg ≤ mN S a0 ∧ y.toNatClampNeg + n.toNatClampNeg ≤ mN S a1)
  (fun av S r S' => ∀ a0 a1 x y n, av = [.inr (.inr (some a0)), .inl x, .inr (.inr (some a1)), .inl y, .inl n] → r = none ∧ S' = rI S a1 (va_cpy (eI S a0) (eI S a1) x.toNatClampNeg y.toNatClampNeg n.toNatClampNeg))
section MNAT
variable {p : Program} {l : Launch} {e : Env} {R : Room} {s : State} {m : MethodId} {args : Array Value} {below : List Frame} {meth : Method} {c : Code} {Q : State → Prop} {cc : ByteArray} {nL : Nat} {own : String} {D : va_G} {cy : Nat → ClassId} {z : Nat} {r0 : Nat × Nat} {A : Nat → Prop}
theorem cOK_min (C : mCx p l s m args meth c cc nL own D cy z r0 A) {n : Nat} (hw : ∀ w ∈ ([.methodLink own n Lib.Math.min.name, .static Lib.Math.min.name, .initialized "java/lang/Math", .code Lib.Math.min.name Lib.Math.min.code 2 (some .int)] : List Cond), w ∈ lw_good) (hR : 1 ≤ R.frames ∧ 21 ≤ R.locals) : cOKo p l e R s m args below meth c Q cc nL D cy z r0 A (n, 2, 2, 1, sp_min) := by
  intro pc lo av rest S cs sl i hi hdec hlen hsum hpre hc hs kk kx
  dsimp only at hi hlen hpre hc hs kk
  obtain ⟨x, y, rfl⟩ := hpre
  have hi : i = .invokestatic n := by
    rcases hi with ⟨h, -⟩ | ⟨h, -⟩ | ⟨-, h⟩
    · exact absurd h (by decide)
    · exact absurd h (by decide)
    · exact h
  subst hi
  intro ls H locs hl hz hP hD hS
  have ok : ∀ w ∈ ([.methodLink own n Lib.Math.min.name, .static Lib.Math.min.name, .initialized "java/lang/Math", .code Lib.Math.min.name Lib.Math.min.code 2 (some .int)] : List Cond), w.before args s = true := fun w h => C.2.2.2.2.1 w (hw w h)
  exact va_mmin (rest := rest.map toV) C.1 C.2.1 (C.2.2.1.trans hl.1.symm) C.2.2.2.1 (ok _ (by simp)) (ok _ (by simp)) (ok _ (by simp)) (ok _ (by simp)) hR.1 (by rw [toV_cat]; omega) hc hs hdec (kk (some (.inl _)) S ⟨_, rfl⟩ (fun _ _ e9 => by cases e9; exact ⟨rfl, rfl⟩) ls H locs hl hz hP hD hS)
theorem cOK_max (C : mCx p l s m args meth c cc nL own D cy z r0 A) {n : Nat} (hw : ∀ w ∈ ([.methodLink own n Lib.Math.max.name, .static Lib.Math.max.name, .initialized "java/lang/Math", .code Lib.Math.max.name Lib.Math.max.code 2 (some .int)] : List Cond), w ∈ lw_good) (hR : 1 ≤ R.frames ∧ 21 ≤ R.locals) : cOKo p l e R s m args below meth c Q cc nL D cy z r0 A (n, 2, 2, 1, sp_max) := by
  intro pc lo av rest S cs sl i hi hdec hlen hsum hpre hc hs kk kx
  dsimp only at hi hlen hpre hc hs kk
  obtain ⟨x, y, rfl⟩ := hpre
  have hi : i = .invokestatic n := by
    rcases hi with ⟨h, -⟩ | ⟨h, -⟩ | ⟨-, h⟩
    · exact absurd h (by decide)
    · exact absurd h (by decide)
    · exact h
  subst hi
  intro ls H locs hl hz hP hD hS
  have ok : ∀ w ∈ ([.methodLink own n Lib.Math.max.name, .static Lib.Math.max.name, .initialized "java/lang/Math", .code Lib.Math.max.name Lib.Math.max.code 2 (some .int)] : List Cond), w.before args s = true := fun w h => C.2.2.2.2.1 w (hw w h)
  exact va_mmax (rest := rest.map toV) C.1 C.2.1 (C.2.2.1.trans hl.1.symm) C.2.2.2.1 (ok _ (by simp)) (ok _ (by simp)) (ok _ (by simp)) (ok _ (by simp)) hR.1 (by rw [toV_cat]; omega) hc hs hdec (kk (some (.inl _)) S ⟨_, rfl⟩ (fun _ _ e9 => by cases e9; exact ⟨rfl, rfl⟩) ls H locs hl hz hP hD hS)
theorem cOK_acopy (C : mCx p l s m args meth c cc nL own D cy z r0 A) {n : Nat} (hw : ∀ w ∈ ([.methodLink own n arraycopyName, .native arraycopyName, .static arraycopyName, .initialized "java/lang/System"] : List Cond), w ∈ lw_good) (hR : 1 ≤ R.frames ∧ 8 + (nativeFrameWords "java/lang/System" "arraycopy" 5 + 11) ≤ R.locals) : cOKo p l e R s m args below meth c Q cc nL D cy z r0 A (n, 2, 5, 0, sp_acopy) := by
  intro pc lo av rest S cs sl i hi hdec hlen hsum hpre hc hs kk kx
  dsimp only at hi hlen hpre hc hs kk
  obtain ⟨a0, a1, x, y, n9, k, rfl, h1, h2, h3, h4, h5, h6, h7, h8⟩ := hpre
  have hi : i = .invokestatic n := by
    rcases hi with ⟨h, -⟩ | ⟨h, -⟩ | ⟨-, h⟩
    · exact absurd h (by decide)
    · exact absurd h (by decide)
    · exact h
  subst hi
  intro ls H locs hl hz hP hD hS
  have ok : ∀ w ∈ ([.methodLink own n arraycopyName, .native arraycopyName, .static arraycopyName, .initialized "java/lang/System"] : List Cond), w.before args s = true := fun w h => C.2.2.2.2.1 w (hw w h)
  obtain ⟨q0, hq0⟩ := mat (cy := cy) h1
  obtain ⟨q1, hq1⟩ := mat (cy := cy) h2
  have k21 : k < 21 := by omega
  have k18 : k ≠ 18 := by omega
  have k16 : ¬ k < 16 := by omega
  rw [mE_a (S := S) rfl (by rw [h1.2]; exact k16), mRow_I (by rw [h1.2]; exact k21) (by rw [h1.2]; exact k18)] at hq0
  rw [mE_a (S := S) rfl (by rw [h2.2]; exact k16), mRow_I (by rw [h2.2]; exact k21) (by rw [h2.2]; exact k18)] at hq1
  have hty : ∃ (t0 : Nat) (ty : FieldType), (mtys cy)[t0]? = some (cy k, ty) ∧ refKind ty = false ∧ ∀ i, i < n9.toNatClampNeg → fits ty (.int (eI S a0 (x.toNatClampNeg + i))) = true := by
    rcases h3 with e | ⟨e, h9⟩ | ⟨e, h9⟩
    · rw [e]
      exact ⟨1, .int, rfl, rfl, fun _ _ => rfl⟩
    · rw [e]
      exact ⟨3, .short, rfl, rfl, h9⟩
    · rw [e]
      exact ⟨0, .byte, rfl, rfl, h9⟩
  obtain ⟨t0, ty, ht, hpr, hft⟩ := hty
  refine va_copyi (rest := rest.map toV) C.1 C.2.1 (C.2.2.1.trans hl.1.symm) C.2.2.2.1 (ok _ (by simp)) (ok _ (by simp)) (ok _ (by simp)) (ok _ (by simp)) C.2.2.2.2.2.1 hP hD hS q0 q1 t0 t0 hq0 hq1 (by rw [h1.2]; exact ht) (by rw [h2.2]; exact ht) hpr h4 h5 h6 h7 h8 hft hR.1 (by rw [toV_cat]; omega) hdec (fun H1 locs1 hP1 hD1 hS1 => ?_)
  rw [mW_rI hD h2.1 (by rw [h2.2]; exact k16) (by rw [h2.2]; exact k21) (by rw [h2.2]; exact k18) hq1] at hP1 hD1
  exact kk none (rI S a1 (va_cpy (eI S a0) (eI S a1) x.toNatClampNeg y.toNatClampNeg n9.toNatClampNeg)) rfl (fun _ _ _ _ _ e9 => by cases e9; exact ⟨rfl, rfl⟩) ls H1 locs1 hl hz hP1 hD1 hS1
end MNAT
/-! ===== getClass of a row of objects, arraycopy between such rows, clone of a row of ints ===== -/
def gcN : MethodName := ⟨"java/lang/Object", "getClass", "()Ljava/lang/Class;"⟩
def clN : MethodName := ⟨"java/lang/Object", "clone", "()Ljava/lang/Object;"⟩
def sp_getc : Sp := sp0 (fun av S => ∃ a, av = [.inr (.inr (some a))] ∧ isO S 26 a) (fun _ S r S' => r = some (.inr (.inr (some (mQ S).2))) ∧ S' = S)
def sp_acopyR : Sp := sp0 (fun av S => ∃ a0 a1 x y n, av = [.inr (.inr (some a0)), .inl x, .inr (.inr (some a1)), .inl y, .inl n] ∧ isO S 26 a0 ∧ isO S 26 a1 ∧ (∀ i, i < n.toNatClampNeg → ∀ b, eR S a0 (x.toNatClampNeg + i) = some b → isO S 4 b ∨ isO S 5 b) ∧ ¬ x < 0 ∧ ¬ y < 0 ∧ ¬ n < 0 ∧ x.toNatClampNeg + n.toNatClampNeg ≤ mN S a0 ∧ y.toNatClampNeg + n.toNatClampNeg ≤ mN S a1)
  (fun av S r S' => ∀ a0 a1 x y n, av = [.inr (.inr (some a0)), .inl x, .inr (.inr (some a1)), .inl y, .inl n] → r = none ∧ S' = rR S a1 (va_cpy (eR S a0) (eR S a1) x.toNatClampNeg y.toNatClampNeg n.toNatClampNeg))
def sp_clone : Sp := (fun av S => ∃ a, av = [.inr (.inr (some a))] ∧ isO S 17 a, fun _ _ => 1, fun av S => (match av with
  | [.inr (.inr (some a))] => mN S a
  | _ => 0), fun av S r S' => ∀ a, av = [.inr (.inr (some a))] → ∃ q, q ∉ mL S ∧ r = some (.inr (.inr (some q))) ∧ S' = rI (nA S q 17 (mN S a)) q (eI S a), fun _ _ _ _ => False)
theorem mW_nAI {cy : Nat → ClassId} {S : MM} {a n : Nat} {f : Nat → Int32} (ha : a ∉ mL S) : mW cy S ++ [(a, .inl (cy 17, n, .inl f))] = mW cy (rI (nA S a 17 n) a f) := by
  have h1 := va_pl_push (f := mE cy S) (e := .inl (cy 17, n, .inl f)) ha
  refine h1.trans (va_pl_congr fun b => ?_)
  by_cases hb : b = a
  · subst hb
    have k1 : mK (rI (nA S b 17 n) b f) b = 17 := va_up_self _ _ _
    have e1 : mN (rI (nA S b 17 n) b f) b = n := va_up_self _ _ _
    have e3 : eI (rI (nA S b 17 n) b f) b = f := va_up_self _ _ _
    rw [va_up_self, mE_a (S := rI (nA S b 17 n) b f) (k := 17) k1 (by decide), mRow_I (by rw [k1]; decide) (by rw [k1]; decide), e1, e3]
  · rw [va_up_ne _ _ hb]
    have e0 : mK (rI (nA S a 17 n) a f) b = mK S b := va_up_ne _ _ hb
    by_cases h2 : mK S b < 16
    · rw [mE_o (S := S) rfl h2, mE_o (S := rI (nA S a 17 n) a f) (k := mK S b) e0 h2]
      exact congrArg (fun z => (Sum.inr (mK S b, z) : va_E)) (mFv_eq (S := S) (S' := rI (nA S a 17 n) a f) (fun _ => rfl) (fun _ => rfl) (fun _ => rfl) _ _)
    · rw [mE_a (S := S) rfl h2, mE_a (S := rI (nA S a 17 n) a f) (k := mK S b) e0 h2]
      have e1 : mN (rI (nA S a 17 n) a f) b = mN S b := va_up_ne _ _ hb
      have e2 : eI (rI (nA S a 17 n) a f) b = eI S b := (va_up_ne _ _ hb).trans (va_up_ne _ _ hb)
      have e4 : eJ (rI (nA S a 17 n) a f) b = eJ S b := va_up_ne _ _ hb
      have e5 : eR (rI (nA S a 17 n) a f) b = eR S b := va_up_ne _ _ hb
      have e3 : mRow S b = mRow (rI (nA S a 17 n) a f) b := by
        unfold mRow
        rw [e0, e2, e4, e5]
      rw [e1, e3]
section MNAT2
variable {p : Program} {l : Launch} {e : Env} {R : Room} {s : State} {m : MethodId} {args : Array Value} {below : List Frame} {meth : Method} {c : Code} {Q : State → Prop} {cc : ByteArray} {nL : Nat} {own : String} {D : va_G} {cy : Nat → ClassId} {z : Nat} {r0 : Nat × Nat} {A : Nat → Prop}
theorem cOK_getc (C : mCx p l s m args meth c cc nL own D cy z r0 A) {n : Nat} (hw : ∀ w ∈ ([.methodLink own n gcN, .selects "[Ljava/lang/Object;" gcN gcN, .instanceMethod gcN, .native gcN] : List Cond), w ∈ lw_good) (hb : Cond.declares gcN ∈ lw_bad) (hR : 1 ≤ R.frames ∧ 22 ≤ R.locals) : cOKo p l e R s m args below meth c Q cc nL D cy z r0 A (n, 0, 1, 3, sp_getc) := by
  intro pc lo av rest S cs sl i hi hdec hlen hsum hpre hc hs kk kx
  dsimp only at hi hlen hpre hc hs kk
  obtain ⟨a, rfl, h1⟩ := hpre
  have hi : i = .invokevirtual n := by
    rcases hi with ⟨-, h⟩ | ⟨h, -⟩ | ⟨h, -⟩
    · exact h
    · exact absurd h (by decide)
    · exact absurd h (by decide)
  subst hi
  intro ls H locs hl hz hP hD hS
  have ok : ∀ w ∈ ([.methodLink own n gcN, .selects "[Ljava/lang/Object;" gcN gcN, .instanceMethod gcN, .native gcN] : List Cond), w.before args s = true := fun w h => C.2.2.2.2.1 w (hw w h)
  obtain ⟨q0, hq0⟩ := mat (cy := cy) h1
  rw [mE_a (S := S) rfl (by rw [h1.2]; decide), h1.2] at hq0
  have hnm : s.vm.findClass "[Ljava/lang/Object;" = some (cy 26) := va_nmO (C.2.2.2.2.2.1.2 10 (cy 26, .object "java/lang/Object") rfl).2 rfl
  have hcell : ∃ cell : Cell, H[a]? = some cell ∧ cell.vm.isStatics = false ∧ s.vm.findClass "[Ljava/lang/Object;" = some cell.cls := by
    refine ⟨_, hP q0 _ hq0, ?_, ?_⟩
    · rw [mRow_R (by rw [h1.2]; decide)]; rfl
    · rw [mRow_R (by rw [h1.2]; decide)]; exact hnm
  have e3 : toV (.inr (.inr (some (mQ S).2))) = .ref r0.2 := by rw [hz.2]; rfl
  have k9 := kk (some (.inr (.inr (some (mQ S).2)))) S ⟨_, rfl⟩ ⟨rfl, rfl⟩ ls H locs hl hz hP hD hS
  exact va_getC (rest := rest.map toV) C.1 C.2.1 (C.2.2.1.trans hl.1.symm) C.2.2.2.1 (ok (.methodLink own n gcN) (by simp)) (va_Nw.use rfl (C.2.2.2.2.2.2.2.2.1 _ hb)) (ok (.selects "[Ljava/lang/Object;" gcN gcN) (by simp)) (ok (.instanceMethod gcN) (by simp)) (ok (.native gcN) (by simp)) C.2.2.2.2.2.2.2.1.2.2.2.2.2.2 hcell hR.1 (by rw [toV_cat]; omega) hdec (by rw [← e3]; exact k9)
theorem cOK_acopyR (C : mCx p l s m args meth c cc nL own D cy z r0 A) {n : Nat} (hw : ∀ w ∈ ([.methodLink own n arraycopyName, .native arraycopyName, .static arraycopyName, .initialized "java/lang/System"] : List Cond), w ∈ lw_good) (hR : 1 ≤ R.frames ∧ 8 + (nativeFrameWords "java/lang/System" "arraycopy" 5 + 11) ≤ R.locals) : cOKo p l e R s m args below meth c Q cc nL D cy z r0 A (n, 2, 5, 0, sp_acopyR) := by
  intro pc lo av rest S cs sl i hi hdec hlen hsum hpre hc hs kk kx
  dsimp only at hi hlen hpre hc hs kk
  obtain ⟨a0, a1, x, y, n9, rfl, h1, h2, h3, h4, h5, h6, h7, h8⟩ := hpre
  have hi : i = .invokestatic n := by
    rcases hi with ⟨h, -⟩ | ⟨h, -⟩ | ⟨-, h⟩
    · exact absurd h (by decide)
    · exact absurd h (by decide)
    · exact h
  subst hi
  intro ls H locs hl hz hP hD hS
  have ok : ∀ w ∈ ([.methodLink own n arraycopyName, .native arraycopyName, .static arraycopyName, .initialized "java/lang/System"] : List Cond), w.before args s = true := fun w h => C.2.2.2.2.1 w (hw w h)
  obtain ⟨q0, hq0⟩ := mat (cy := cy) h1
  obtain ⟨q1, hq1⟩ := mat (cy := cy) h2
  rw [mE_a (S := S) rfl (by rw [h1.2]; decide), mRow_R (by rw [h1.2]; decide)] at hq0
  rw [mE_a (S := S) rfl (by rw [h2.2]; decide), mRow_R (by rw [h2.2]; decide)] at hq1
  have hel : ∀ i : Nat, i < n9.toNatClampNeg → ∀ b : Nat, eR S a0 (x.toNatClampNeg + i) = some b → va_Any "java/lang/Object" s H b := by
    intro i hi b hb
    rcases h3 i hi b hb with h9 | h9
    · obtain ⟨qk, hk⟩ := mat (cy := cy) h9
      rw [mE_o h9.2 (by decide)] at hk
      exact va_rAny (r := (RX3, TX3, 2)) C.2.2.2.2.2.1 hP hk rfl (vb_asgC (C.2.2.2.2.2.2.2.2.1 _ cst3))
    · obtain ⟨qk, hk⟩ := mat (cy := cy) h9
      rw [mE_o h9.2 (by decide)] at hk
      exact va_rAny (r := (RX4, TX4, 16)) C.2.2.2.2.2.1 hP hk rfl (vb_asgC (C.2.2.2.2.2.2.2.2.1 _ cst4))
  refine va_copyM (rest := rest.map toV) C.1 C.2.1 (C.2.2.1.trans hl.1.symm) C.2.2.2.1 (ok _ (by simp)) (ok _ (by simp)) (ok _ (by simp)) (ok _ (by simp)) C.2.2.2.2.2.1 hP hD hS q0 q1 10 10 hq0 hq1 (by rw [h1.2]; rfl) (by rw [h2.2]; rfl) h4 h5 h6 h7 h8 hel hR.1 (by rw [toV_cat]; omega) hdec (fun H1 locs1 hP1 hD1 hS1 => ?_)
  rw [mW_rR hD h2.1 (by rw [h2.2]; decide) (by rw [h2.2]; decide) hq1] at hP1 hD1
  exact kk none (rR S a1 (va_cpy (eR S a0) (eR S a1) x.toNatClampNeg y.toNatClampNeg n9.toNatClampNeg)) rfl (fun _ _ _ _ _ e9 => by cases e9; exact ⟨rfl, rfl⟩) ls H1 locs1 hl hz hP1 hD1 hS1
theorem cOK_clone (C : mCx p l s m args meth c cc nL own D cy z r0 A) {n : Nat} (hw : ∀ w ∈ ([.methodLink own n ⟨"[I", "clone", "()Ljava/lang/Object;"⟩, .sameMethod "[I" "java/lang/Object" "clone" "()Ljava/lang/Object;", .native clN, .instanceMethod clN, .selects "[I" ⟨"[I", "clone", "()Ljava/lang/Object;"⟩ clN] : List Cond), w ∈ lw_good) (hb : Cond.castable "[I" "java/lang/Cloneable" ∈ lw_bad) (hR : 1 ≤ R.frames ∧ 22 ≤ R.locals) : cOKo p l e R s m args below meth c Q cc nL D cy z r0 A (n, 0, 1, 3, sp_clone) := by
  intro pc lo av rest S cs sl i hi hdec hlen hsum hpre hc hs kk kx
  obtain ⟨a, rfl, h1⟩ := hpre
  have hi : i = .invokevirtual n := by
    rcases hi with ⟨-, h⟩ | ⟨h, -⟩ | ⟨h, -⟩
    · exact h
    · exact absurd (show (0 : Nat) = 1 from h) (by decide)
    · exact absurd (show (0 : Nat) = 2 from h) (by decide)
  subst hi
  intro ls H locs hl hz hP hD hS
  have ok : ∀ w ∈ ([.methodLink own n ⟨"[I", "clone", "()Ljava/lang/Object;"⟩, .sameMethod "[I" "java/lang/Object" "clone" "()Ljava/lang/Object;", .native clN, .instanceMethod clN, .selects "[I" ⟨"[I", "clone", "()Ljava/lang/Object;"⟩ clN] : List Cond), w.before args s = true := fun w h => C.2.2.2.2.1 w (hw w h)
  obtain ⟨q0, hq0⟩ := mat (cy := cy) h1
  rw [mE_a (S := S) rfl (by rw [h1.2]; decide), mRow_I (by rw [h1.2]; decide) (by rw [h1.2]; decide), h1.2] at hq0
  have hnm : s.vm.findClass "[I" = some (cy 17) := (C.2.2.2.2.2.1.2 1 (cy 17, .int) rfl).2
  refine va_clone (rest := rest.map toV) C.1 C.2.1 (C.2.2.1.trans hl.1.symm) C.2.2.2.1 (ok (.methodLink own n ⟨"[I", "clone", "()Ljava/lang/Object;"⟩) (by simp)) (ok (.sameMethod "[I" "java/lang/Object" "clone" "()Ljava/lang/Object;") (by simp)) (ok (.native clN) (by simp)) (ok (.instanceMethod clN) (by simp)) (ok (.selects "[I" ⟨"[I", "clone", "()Ljava/lang/Object;"⟩ clN) (by simp)) (C.2.2.2.2.2.2.2.2.1 _ hb) C.2.2.2.2.2.1 hP hD hS C.2.2.2.2.2.2.1 q0 1 hq0 rfl hnm (fun j v hv => ?_) hR.1 (by rw [toV_cat]; omega) hc hs hdec (fun q H1 _ hP1 hD1 hS1 => ?_)
  · exact va_fit (fun _ _ => rfl) j v hv
  · have hq : q ∉ mL S := va_pl_fresh2 (X := []) hD1
    rw [mW_nAI hq] at hP1 hD1
    exact kk (some (.inr (.inr (some q)))) (rI (nA S q 17 (mN S a)) q (eI S a)) ⟨_, rfl⟩ (fun a9 e9 => by cases e9; exact ⟨q, hq, rfl, rfl⟩) ls H1 locs hl hz hP1 hD1 hS1
end MNAT2
