/-! ===== CALLS OF MEMBERS THAT ARE NO CODE OF OURS: Math.min, Math.max, System.arraycopy over numbers ===== -/
/-- a spec of a method that makes nothing and never throws -/
def sp0 (pre : List MV → MM → Prop) (post : List MV → MM → Option MV → MM → Prop) : Sp := (pre, fun _ _ => 0, fun _ _ => 0, post, fun _ _ _ _ => False)
theorem mret0 {rt : Option FieldType} {pre : List MV → MM → Prop} {post : List MV → MM → Option MV → MM → Prop} {av : List MV} {S0 S1 : MM} {rv : Option MV} (h1 : rtOK rt rv) (h2 : post av S0 rv S1) : mret rt (sp0 pre post) av S0 rv S1 0 0 := ⟨h1, h2, Nat.le_refl _, Nat.le_refl _⟩
def sp_min : Sp := sp0 (fun av _ => ∃ x y, av = [.inl x, .inl y]) (fun av S r S' => ∀ x y, av = [.inl x, .inl y] → r = some (.inl (if y < x then y else x)) ∧ S' = S)
def sp_max : Sp := sp0 (fun av _ => ∃ x y, av = [.inl x, .inl y]) (fun av S r S' => ∀ x y, av = [.inl x, .inl y] → r = some (.inl (if x < y then y else x)) ∧ S' = S)
/-- arraycopy between rows of numbers of one kind -/
def sp_acopy : Sp := sp0 (fun av S => ∃ a0 a1 x y n k, av = [.inr (.inr (some a0)), .inl x, .inr (.inr (some a1)), .inl y, .inl n] ∧ isO S k a0 ∧ isO S k a1 ∧ (k = 17 ∨ k = 19 ∧ (∀ i, fits .short (.int (eI S a0 i)) = true) ∨ k = 16 ∧ (∀ i, fits .byte (.int (eI S a0 i)) = true)) ∧ ¬ x < 0 ∧ ¬ y < 0 ∧ ¬ n < 0 ∧ x.toNatClampNeg + n.toNatClampNeg ≤ mN S a0 ∧ y.toNatClampNeg + n.toNatClampNeg ≤ mN S a1)
  (fun av S r S' => ∀ a0 a1 x y n, av = [.inr (.inr (some a0)), .inl x, .inr (.inr (some a1)), .inl y, .inl n] → r = none ∧ S' = rI S a1 (va_cpy (eI S a0) (eI S a1) x.toNatClampNeg y.toNatClampNeg n.toNatClampNeg))
section MNAT
variable {p : Program} {l : Launch} {e : Env} {R : Room} {s : State} {m : MethodId} {args : Array Value} {below : List Frame} {meth : Method} {c : Code} {Q : State → Prop} {cc : ByteArray} {nL : Nat} {own : String} {D : va_G} {cy : Nat → ClassId} {z r0 : Nat} {A : Nat → Prop}
theorem cOK_min (C : mCx p l s m args meth c cc nL own D cy z r0 A) {n : Nat} (hw : ∀ w ∈ ([.methodLink own n Lib.Math.min.name, .static Lib.Math.min.name, .initialized "java/lang/Math", .code Lib.Math.min.name Lib.Math.min.code 2 (some .int)] : List Cond), w ∈ lw_good) (hR : 1 ≤ R.frames ∧ 21 ≤ R.locals) : cOKo p l e R s m args below meth c Q cc nL D cy z r0 A (n, 2, 2, 1, sp_min) := by
  intro pc lo av rest S cs sl i hi hdec hlen hsum hpre hc hs kk kx
  dsimp only at hi hlen hpre hc hs kk
  obtain ⟨x, y, rfl⟩ := hpre
  have hi : i = .invokestatic n := by
    rcases hi with ⟨h, -⟩ | ⟨h, -⟩ | ⟨-, h⟩
    · exact absurd h (by decide)
    · exact absurd h (by decide)
    · exact h
  subst hi
  intro ls H locs hl hz hP hD hS
  have ok : ∀ w ∈ ([.methodLink own n Lib.Math.min.name, .static Lib.Math.min.name, .initialized "java/lang/Math", .code Lib.Math.min.name Lib.Math.min.code 2 (some .int)] : List Cond), w.before args s = true := fun w h => C.2.2.2.2.1 w (hw w h)
  exact va_mmin (rest := rest.map toV) C.1 C.2.1 (C.2.2.1.trans hl.1.symm) C.2.2.2.1 (ok _ (by simp)) (ok _ (by simp)) (ok _ (by simp)) (ok _ (by simp)) hR.1 (by rw [toV_cat]; omega) hc hs hdec (kk (some (.inl _)) S ⟨_, rfl⟩ (fun _ _ e9 => by cases e9; exact ⟨rfl, rfl⟩) ls H locs hl hz hP hD hS)
theorem cOK_max (C : mCx p l s m args meth c cc nL own D cy z r0 A) {n : Nat} (hw : ∀ w ∈ ([.methodLink own n Lib.Math.max.name, .static Lib.Math.max.name, .initialized "java/lang/Math", .code Lib.Math.max.name Lib.Math.max.code 2 (some .int)] : List Cond), w ∈ lw_good) (hR : 1 ≤ R.frames ∧ 21 ≤ R.locals) : cOKo p l e R s m args below meth c Q cc nL D cy z r0 A (n, 2, 2, 1, sp_max) := by
  intro pc lo av rest S cs sl i hi hdec hlen hsum hpre hc hs kk kx
  dsimp only at hi hlen hpre hc hs kk
  obtain ⟨x, y, rfl⟩ := hpre
  have hi : i = .invokestatic n := by
    rcases hi with ⟨h, -⟩ | ⟨h, -⟩ | ⟨-, h⟩
    · exact absurd h (by decide)
    · exact absurd h (by decide)
    · exact h
  subst hi
  intro ls H locs hl hz hP hD hS
  have ok : ∀ w ∈ ([.methodLink own n Lib.Math.max.name, .static Lib.Math.max.name, .initialized "java/lang/Math", .code Lib.Math.max.name Lib.Math.max.code 2 (some .int)] : List Cond), w.before args s = true := fun w h => C.2.2.2.2.1 w (hw w h)
  exact va_mmax (rest := rest.map toV) C.1 C.2.1 (C.2.2.1.trans hl.1.symm) C.2.2.2.1 (ok _ (by simp)) (ok _ (by simp)) (ok _ (by simp)) (ok _ (by simp)) hR.1 (by rw [toV_cat]; omega) hc hs hdec (kk (some (.inl _)) S ⟨_, rfl⟩ (fun _ _ e9 => by cases e9; exact ⟨rfl, rfl⟩) ls H locs hl hz hP hD hS)
theorem cOK_acopy (C : mCx p l s m args meth c cc nL own D cy z r0 A) {n : Nat} (hw : ∀ w ∈ ([.methodLink own n arraycopyName, .native arraycopyName, .static arraycopyName, .initialized "java/lang/System"] : List Cond), w ∈ lw_good) (hR : 1 ≤ R.frames ∧ 8 + (nativeFrameWords "java/lang/System" "arraycopy" 5 + 11) ≤ R.locals) : cOKo p l e R s m args below meth c Q cc nL D cy z r0 A (n, 2, 5, 0, sp_acopy) := by
  intro pc lo av rest S cs sl i hi hdec hlen hsum hpre hc hs kk kx
  dsimp only at hi hlen hpre hc hs kk
  obtain ⟨a0, a1, x, y, n9, k, rfl, h1, h2, h3, h4, h5, h6, h7, h8⟩ := hpre
  have hi : i = .invokestatic n := by
    rcases hi with ⟨h, -⟩ | ⟨h, -⟩ | ⟨-, h⟩
    · exact absurd h (by decide)
    · exact absurd h (by decide)
    · exact h
  subst hi
  intro ls H locs hl hz hP hD hS
  have ok : ∀ w ∈ ([.methodLink own n arraycopyName, .native arraycopyName, .static arraycopyName, .initialized "java/lang/System"] : List Cond), w.before args s = true := fun w h => C.2.2.2.2.1 w (hw w h)
  obtain ⟨q0, hq0⟩ := mat (cy := cy) h1
  obtain ⟨q1, hq1⟩ := mat (cy := cy) h2
  have k21 : k < 21 := by omega
  have k18 : k ≠ 18 := by omega
  have k16 : ¬ k < 16 := by omega
  rw [mE_a (S := S) rfl (by rw [h1.2]; exact k16), mRow_I (by rw [h1.2]; exact k21) (by rw [h1.2]; exact k18)] at hq0
  rw [mE_a (S := S) rfl (by rw [h2.2]; exact k16), mRow_I (by rw [h2.2]; exact k21) (by rw [h2.2]; exact k18)] at hq1
  have hty : ∃ (t0 : Nat) (ty : FieldType), (mtys cy)[t0]? = some (cy k, ty) ∧ refKind ty = false ∧ ∀ i, fits ty (.int (eI S a0 i)) = true := by
    rcases h3 with e | ⟨e, h9⟩ | ⟨e, h9⟩
    · rw [e]
      exact ⟨1, .int, rfl, rfl, fun _ => rfl⟩
    · rw [e]
      exact ⟨3, .short, rfl, rfl, h9⟩
    · rw [e]
      exact ⟨0, .byte, rfl, rfl, h9⟩
  obtain ⟨t0, ty, ht, hpr, hft⟩ := hty
  refine va_copyi (rest := rest.map toV) C.1 C.2.1 (C.2.2.1.trans hl.1.symm) C.2.2.2.1 (ok _ (by simp)) (ok _ (by simp)) (ok _ (by simp)) (ok _ (by simp)) C.2.2.2.2.2.1 hP hD hS q0 q1 t0 t0 hq0 hq1 (by rw [h1.2]; exact ht) (by rw [h2.2]; exact ht) hpr h4 h5 h6 h7 h8 (fun i _ => hft _) hR.1 (by rw [toV_cat]; omega) hdec (fun H1 locs1 hP1 hD1 hS1 => ?_)
  rw [mW_rI hD h2.1 (by rw [h2.2]; exact k16) (by rw [h2.2]; exact k21) (by rw [h2.2]; exact k18) hq1] at hP1 hD1
  exact kk none (rI S a1 (va_cpy (eI S a0) (eI S a1) x.toNatClampNeg y.toNatClampNeg n9.toNatClampNeg)) rfl (fun _ _ _ _ _ e9 => by cases e9; exact ⟨rfl, rfl⟩) ls H1 locs1 hl hz hP1 hD1 hS1
end MNAT
