/-! ===== EVERY STEP IS WHAT THE MACHINE DOES ===== -/
section MSOUND
variable {p : Program} {l : Launch} {e : Env} {R : Room} {s : State} {m : MethodId} {args : Array Value} {below : List Frame} {meth : Method} {c : Code} {Q : State → Prop} {cc : ByteArray} {nL : Nat} {own : String} {D : va_G} {cy : Nat → ClassId} {z : Nat} {r0 : Nat × Nat} {A : Nat → Prop} {ev : EV} {ini : Bool} {tb : CD} {xh : Nat → Nat → Option CD} {xc : Nat → MM → Nat → Nat → Prop} {g : CD → KT} {ret : Option MV → MM → Nat → Nat → Prop} {pc : Nat} {rest : CD} {lo : List (Nat × MV)} {st : List MV} {S : MM} {cs sl : Nat}
theorem ml_at {ls : Array Slot} {i : Nat} {v : MV} (hl : lv_has ls nL (mlv lo)) (h : mget lo i = some v) : ls[i]? = some (.val (toV v)) := hl.2.2 (i, toV v) (List.mem_map.mpr ⟨(i, v), mget_in h, rfl⟩)
theorem wr_i {i : Nat} {x : Int32} {k : List (Nat × MV) → Prop} (h : wr nL lo i (.inl x) k) : i < nL ∧ k ((i, .inl x) :: mput1 lo i) := by
  unfold wr at h
  dsimp only at h
  split at h
  · rename_i e
    exact ⟨Nat.le_of_ble_eq_true e, h⟩
  · exact h.elim
theorem wr_r {i : Nat} {x : Option Nat} {k : List (Nat × MV) → Prop} (h : wr nL lo i (.inr (.inr x)) k) : i < nL ∧ k ((i, .inr (.inr x)) :: mput1 lo i) := by
  unfold wr at h
  dsimp only at h
  split at h
  · rename_i e
    exact ⟨Nat.le_of_ble_eq_true e, h⟩
  · exact h.elim
theorem wr_j {i : Nat} {x : Int64} {k : List (Nat × MV) → Prop} (h : wr nL lo i (.inr (.inl x)) k) : i + 1 < nL ∧ k ((i, .inr (.inl x)) :: mput2 lo i) := by
  unfold wr at h
  dsimp only at h
  split at h
  · rename_i e
    exact ⟨Nat.le_of_ble_eq_true e, h⟩
  · exact h.elim
theorem jt_ok {off : Int} (h : 0 ≤ (pc : Int) + off) : (pc : Int) + off = (jt pc off : Int) := (Int.toNat_of_nonneg h).symm

theorem ms_iconst {n : Int} (C : mCx p l s m args meth c cc nL own D cy z r0 A) (hd : decode cc pc = .ok (.iconst n, 1))  (hn : ∀ lo st S cs sl, g rest lo st S cs sl → JJ p l e R s m args below meth c Q nL D cy z r0 A (pc + 1) lo st S cs sl)  (h : mstep ev ini nL R.cells R.slots tb xh xc g ret pc (.iconst n) rest lo st S cs sl) : JJ p l e R s m args below meth c Q nL D cy z r0 A pc lo st S cs sl := by
  exact fun ls H locs hl hz hP hD hS => lv_iconst C.1 C.2.1 hd rfl (hn _ _ _ _ _ h ls H locs hl hz hP hD hS)
theorem ms_bipush {n : Int} (C : mCx p l s m args meth c cc nL own D cy z r0 A) (hd : decode cc pc = .ok (.bipush n, 2))  (hn : ∀ lo st S cs sl, g rest lo st S cs sl → JJ p l e R s m args below meth c Q nL D cy z r0 A (pc + 2) lo st S cs sl)  (h : mstep ev ini nL R.cells R.slots tb xh xc g ret pc (.bipush n) rest lo st S cs sl) : JJ p l e R s m args below meth c Q nL D cy z r0 A pc lo st S cs sl := by
  exact fun ls H locs hl hz hP hD hS => lv_bipush C.1 C.2.1 hd rfl (hn _ _ _ _ _ h ls H locs hl hz hP hD hS)
theorem ms_sipush {n : Int} (C : mCx p l s m args meth c cc nL own D cy z r0 A) (hd : decode cc pc = .ok (.sipush n, 3))  (hn : ∀ lo st S cs sl, g rest lo st S cs sl → JJ p l e R s m args below meth c Q nL D cy z r0 A (pc + 3) lo st S cs sl)  (h : mstep ev ini nL R.cells R.slots tb xh xc g ret pc (.sipush n) rest lo st S cs sl) : JJ p l e R s m args below meth c Q nL D cy z r0 A pc lo st S cs sl := by
  exact fun ls H locs hl hz hP hD hS => lv_sipush C.1 C.2.1 hd rfl (hn _ _ _ _ _ h ls H locs hl hz hP hD hS)
theorem ms_lconst {n : Fin 2} (C : mCx p l s m args meth c cc nL own D cy z r0 A) (hd : decode cc pc = .ok (.lconst n, 1))  (hn : ∀ lo st S cs sl, g rest lo st S cs sl → JJ p l e R s m args below meth c Q nL D cy z r0 A (pc + 1) lo st S cs sl)  (h : mstep ev ini nL R.cells R.slots tb xh xc g ret pc (.lconst n) rest lo st S cs sl) : JJ p l e R s m args below meth c Q nL D cy z r0 A pc lo st S cs sl := by
  exact fun ls H locs hl hz hP hD hS => lv_lconst C.1 C.2.1 hd rfl (hn _ _ _ _ _ h ls H locs hl hz hP hD hS)
theorem ms_aconst_null  (C : mCx p l s m args meth c cc nL own D cy z r0 A) (hd : decode cc pc = .ok (.aconst_null, 1))  (hn : ∀ lo st S cs sl, g rest lo st S cs sl → JJ p l e R s m args below meth c Q nL D cy z r0 A (pc + 1) lo st S cs sl)  (h : mstep ev ini nL R.cells R.slots tb xh xc g ret pc (.aconst_null) rest lo st S cs sl) : JJ p l e R s m args below meth c Q nL D cy z r0 A pc lo st S cs sl := by
  exact fun ls H locs hl hz hP hD hS => lv_null C.1 C.2.1 hd (hn _ _ _ _ _ h ls H locs hl hz hP hD hS)
theorem ms_iload_n {k : Fin 4} (C : mCx p l s m args meth c cc nL own D cy z r0 A) (hd : decode cc pc = .ok (.iload_n k, 1))  (hn : ∀ lo st S cs sl, g rest lo st S cs sl → JJ p l e R s m args below meth c Q nL D cy z r0 A (pc + 1) lo st S cs sl)  (h : mstep ev ini nL R.cells R.slots tb xh xc g ret pc (.iload_n k) rest lo st S cs sl) : JJ p l e R s m args below meth c Q nL D cy z r0 A pc lo st S cs sl := by
  obtain ⟨v, hv, g1⟩ := po_of h
  obtain ⟨x, r, e9, g2⟩ := pi_of g1
  cases e9
  exact fun ls H locs hl hz hP hD hS => lv_iload_n C.1 C.2.1 hd rfl (ml_at hl hv) (hn _ _ _ _ _ g2 ls H locs hl hz hP hD hS)
theorem ms_iload {k : Nat} (C : mCx p l s m args meth c cc nL own D cy z r0 A) (hd : decode cc pc = .ok (.iload k, 2))  (hn : ∀ lo st S cs sl, g rest lo st S cs sl → JJ p l e R s m args below meth c Q nL D cy z r0 A (pc + 2) lo st S cs sl)  (h : mstep ev ini nL R.cells R.slots tb xh xc g ret pc (.iload k) rest lo st S cs sl) : JJ p l e R s m args below meth c Q nL D cy z r0 A pc lo st S cs sl := by
  obtain ⟨v, hv, g1⟩ := po_of h
  obtain ⟨x, r, e9, g2⟩ := pi_of g1
  cases e9
  exact fun ls H locs hl hz hP hD hS => lv_iload C.1 C.2.1 hd (ml_at hl hv) (hn _ _ _ _ _ g2 ls H locs hl hz hP hD hS)
theorem ms_lload_n {k : Fin 4} (C : mCx p l s m args meth c cc nL own D cy z r0 A) (hd : decode cc pc = .ok (.lload_n k, 1))  (hn : ∀ lo st S cs sl, g rest lo st S cs sl → JJ p l e R s m args below meth c Q nL D cy z r0 A (pc + 1) lo st S cs sl)  (h : mstep ev ini nL R.cells R.slots tb xh xc g ret pc (.lload_n k) rest lo st S cs sl) : JJ p l e R s m args below meth c Q nL D cy z r0 A pc lo st S cs sl := by
  obtain ⟨v, hv, g1⟩ := po_of h
  obtain ⟨x, r, e9, g2⟩ := pj_of g1
  cases e9
  exact fun ls H locs hl hz hP hD hS => lv_lload_n C.1 C.2.1 hd rfl (ml_at hl hv) (hn _ _ _ _ _ g2 ls H locs hl hz hP hD hS)
theorem ms_lload {k : Nat} (C : mCx p l s m args meth c cc nL own D cy z r0 A) (hd : decode cc pc = .ok (.lload k, 2))  (hn : ∀ lo st S cs sl, g rest lo st S cs sl → JJ p l e R s m args below meth c Q nL D cy z r0 A (pc + 2) lo st S cs sl)  (h : mstep ev ini nL R.cells R.slots tb xh xc g ret pc (.lload k) rest lo st S cs sl) : JJ p l e R s m args below meth c Q nL D cy z r0 A pc lo st S cs sl := by
  obtain ⟨v, hv, g1⟩ := po_of h
  obtain ⟨x, r, e9, g2⟩ := pj_of g1
  cases e9
  exact fun ls H locs hl hz hP hD hS => lv_lload C.1 C.2.1 hd (ml_at hl hv) (hn _ _ _ _ _ g2 ls H locs hl hz hP hD hS)
theorem ms_aload_n {k : Fin 4} (C : mCx p l s m args meth c cc nL own D cy z r0 A) (hd : decode cc pc = .ok (.aload_n k, 1))  (hn : ∀ lo st S cs sl, g rest lo st S cs sl → JJ p l e R s m args below meth c Q nL D cy z r0 A (pc + 1) lo st S cs sl)  (h : mstep ev ini nL R.cells R.slots tb xh xc g ret pc (.aload_n k) rest lo st S cs sl) : JJ p l e R s m args below meth c Q nL D cy z r0 A pc lo st S cs sl := by
  obtain ⟨v, hv, g1⟩ := po_of h
  obtain ⟨x, r, e9, g2⟩ := pr_of g1
  cases e9
  cases x with
  | none => exact fun ls H locs hl hz hP hD hS => lv_aload_nN C.1 C.2.1 hd rfl (ml_at hl hv) (hn _ _ _ _ _ g2 ls H locs hl hz hP hD hS)
  | some a => exact fun ls H locs hl hz hP hD hS => lv_aload_n C.1 C.2.1 hd rfl (ml_at hl hv) (hn _ _ _ _ _ g2 ls H locs hl hz hP hD hS)
theorem ms_aload {k : Nat} (C : mCx p l s m args meth c cc nL own D cy z r0 A) (hd : decode cc pc = .ok (.aload k, 2))  (hn : ∀ lo st S cs sl, g rest lo st S cs sl → JJ p l e R s m args below meth c Q nL D cy z r0 A (pc + 2) lo st S cs sl)  (h : mstep ev ini nL R.cells R.slots tb xh xc g ret pc (.aload k) rest lo st S cs sl) : JJ p l e R s m args below meth c Q nL D cy z r0 A pc lo st S cs sl := by
  obtain ⟨v, hv, g1⟩ := po_of h
  obtain ⟨x, r, e9, g2⟩ := pr_of g1
  cases e9
  cases x with
  | none => exact fun ls H locs hl hz hP hD hS => lv_aloadN C.1 C.2.1 hd (ml_at hl hv) (hn _ _ _ _ _ g2 ls H locs hl hz hP hD hS)
  | some a => exact fun ls H locs hl hz hP hD hS => lv_aload C.1 C.2.1 hd (ml_at hl hv) (hn _ _ _ _ _ g2 ls H locs hl hz hP hD hS)
theorem ms_istore_n {k : Fin 4} (C : mCx p l s m args meth c cc nL own D cy z r0 A) (hd : decode cc pc = .ok (.istore_n k, 1))  (hn : ∀ lo st S cs sl, g rest lo st S cs sl → JJ p l e R s m args below meth c Q nL D cy z r0 A (pc + 1) lo st S cs sl)  (h : mstep ev ini nL R.cells R.slots tb xh xc g ret pc (.istore_n k) rest lo st S cs sl) : JJ p l e R s m args below meth c Q nL D cy z r0 A pc lo st S cs sl := by
  obtain ⟨x, st, rfl, g1⟩ := pi_of h
  obtain ⟨h1, g2⟩ := wr_i g1
  exact fun ls H locs hl hz hP hD hS => lv_istore_n C.1 C.2.1 hd rfl hl h1 (congrArg (_ :: ·) (mput1_ok lo _)) (fun ls hl => hn _ _ _ _ _ g2 ls H locs hl hz hP hD hS)
theorem ms_istore {k : Nat} (C : mCx p l s m args meth c cc nL own D cy z r0 A) (hd : decode cc pc = .ok (.istore k, 2))  (hn : ∀ lo st S cs sl, g rest lo st S cs sl → JJ p l e R s m args below meth c Q nL D cy z r0 A (pc + 2) lo st S cs sl)  (h : mstep ev ini nL R.cells R.slots tb xh xc g ret pc (.istore k) rest lo st S cs sl) : JJ p l e R s m args below meth c Q nL D cy z r0 A pc lo st S cs sl := by
  obtain ⟨x, st, rfl, g1⟩ := pi_of h
  obtain ⟨h1, g2⟩ := wr_i g1
  exact fun ls H locs hl hz hP hD hS => lv_istore C.1 C.2.1 hd hl h1 (congrArg (_ :: ·) (mput1_ok lo _)) (fun ls hl => hn _ _ _ _ _ g2 ls H locs hl hz hP hD hS)
theorem ms_lstore_n {k : Fin 4} (C : mCx p l s m args meth c cc nL own D cy z r0 A) (hd : decode cc pc = .ok (.lstore_n k, 1))  (hn : ∀ lo st S cs sl, g rest lo st S cs sl → JJ p l e R s m args below meth c Q nL D cy z r0 A (pc + 1) lo st S cs sl)  (h : mstep ev ini nL R.cells R.slots tb xh xc g ret pc (.lstore_n k) rest lo st S cs sl) : JJ p l e R s m args below meth c Q nL D cy z r0 A pc lo st S cs sl := by
  obtain ⟨x, st, rfl, g1⟩ := pj_of h
  obtain ⟨h1, g2⟩ := wr_j g1
  exact fun ls H locs hl hz hP hD hS => lv_lstore_n C.1 C.2.1 hd rfl hl h1 (congrArg (_ :: ·) (mput2_ok lo _)) (fun ls hl => hn _ _ _ _ _ g2 ls H locs hl hz hP hD hS)
theorem ms_lstore {k : Nat} (C : mCx p l s m args meth c cc nL own D cy z r0 A) (hd : decode cc pc = .ok (.lstore k, 2))  (hn : ∀ lo st S cs sl, g rest lo st S cs sl → JJ p l e R s m args below meth c Q nL D cy z r0 A (pc + 2) lo st S cs sl)  (h : mstep ev ini nL R.cells R.slots tb xh xc g ret pc (.lstore k) rest lo st S cs sl) : JJ p l e R s m args below meth c Q nL D cy z r0 A pc lo st S cs sl := by
  obtain ⟨x, st, rfl, g1⟩ := pj_of h
  obtain ⟨h1, g2⟩ := wr_j g1
  exact fun ls H locs hl hz hP hD hS => lv_lstore C.1 C.2.1 hd hl h1 (congrArg (_ :: ·) (mput2_ok lo _)) (fun ls hl => hn _ _ _ _ _ g2 ls H locs hl hz hP hD hS)
theorem ms_astore_n {k : Fin 4} (C : mCx p l s m args meth c cc nL own D cy z r0 A) (hd : decode cc pc = .ok (.astore_n k, 1))  (hn : ∀ lo st S cs sl, g rest lo st S cs sl → JJ p l e R s m args below meth c Q nL D cy z r0 A (pc + 1) lo st S cs sl)  (h : mstep ev ini nL R.cells R.slots tb xh xc g ret pc (.astore_n k) rest lo st S cs sl) : JJ p l e R s m args below meth c Q nL D cy z r0 A pc lo st S cs sl := by
  obtain ⟨x, st, rfl, g1⟩ := pr_of h
  obtain ⟨h1, g2⟩ := wr_r g1
  cases x with
  | none => exact fun ls H locs hl hz hP hD hS => lv_astore_nN C.1 C.2.1 hd rfl hl h1 (congrArg (_ :: ·) (mput1_ok lo _)) (fun ls hl => hn _ _ _ _ _ g2 ls H locs hl hz hP hD hS)
  | some a => exact fun ls H locs hl hz hP hD hS => lv_astore_n C.1 C.2.1 hd rfl hl h1 (congrArg (_ :: ·) (mput1_ok lo _)) (fun ls hl => hn _ _ _ _ _ g2 ls H locs hl hz hP hD hS)
theorem ms_astore {k : Nat} (C : mCx p l s m args meth c cc nL own D cy z r0 A) (hd : decode cc pc = .ok (.astore k, 2))  (hn : ∀ lo st S cs sl, g rest lo st S cs sl → JJ p l e R s m args below meth c Q nL D cy z r0 A (pc + 2) lo st S cs sl)  (h : mstep ev ini nL R.cells R.slots tb xh xc g ret pc (.astore k) rest lo st S cs sl) : JJ p l e R s m args below meth c Q nL D cy z r0 A pc lo st S cs sl := by
  obtain ⟨x, st, rfl, g1⟩ := pr_of h
  obtain ⟨h1, g2⟩ := wr_r g1
  cases x with
  | none => exact fun ls H locs hl hz hP hD hS => lv_astoreN C.1 C.2.1 hd hl h1 (congrArg (_ :: ·) (mput1_ok lo _)) (fun ls hl => hn _ _ _ _ _ g2 ls H locs hl hz hP hD hS)
  | some a => exact fun ls H locs hl hz hP hD hS => lv_astore C.1 C.2.1 hd hl h1 (congrArg (_ :: ·) (mput1_ok lo _)) (fun ls hl => hn _ _ _ _ _ g2 ls H locs hl hz hP hD hS)
theorem ms_iinc {k : Nat} {n : Int} (C : mCx p l s m args meth c cc nL own D cy z r0 A) (hd : decode cc pc = .ok (.iinc k n, 3))  (hn : ∀ lo st S cs sl, g rest lo st S cs sl → JJ p l e R s m args below meth c Q nL D cy z r0 A (pc + 3) lo st S cs sl)  (h : mstep ev ini nL R.cells R.slots tb xh xc g ret pc (.iinc k n) rest lo st S cs sl) : JJ p l e R s m args below meth c Q nL D cy z r0 A pc lo st S cs sl := by
  obtain ⟨v, hv, g1⟩ := po_of h
  obtain ⟨x, r, e9, g2⟩ := pi_of g1
  cases e9
  obtain ⟨h1, g3⟩ := wr_i g2
  refine fun ls H locs hl hz hP hD hS => ?_
  obtain ⟨k9, hk9⟩ := List.getElem?_of_mem (show (k, Value.int x) ∈ mlv lo from List.mem_map.mpr ⟨(k, .inl x), mget_in hv, rfl⟩)
  exact lv_iinc C.1 C.2.1 hd hl hk9 rfl h1 (congrArg (_ :: ·) (mput1_ok lo _)) (fun ls hl => hn _ _ _ _ _ g3 ls H locs hl hz hP hD hS)
theorem ms_iadd  (C : mCx p l s m args meth c cc nL own D cy z r0 A) (hd : decode cc pc = .ok (.iadd, 1))  (hn : ∀ lo st S cs sl, g rest lo st S cs sl → JJ p l e R s m args below meth c Q nL D cy z r0 A (pc + 1) lo st S cs sl)  (h : mstep ev ini nL R.cells R.slots tb xh xc g ret pc (.iadd) rest lo st S cs sl) : JJ p l e R s m args below meth c Q nL D cy z r0 A pc lo st S cs sl := by
  obtain ⟨y, st, rfl, g1⟩ := pi_of h
  obtain ⟨x, st, rfl, g2⟩ := pi_of g1
  exact fun ls H locs hl hz hP hD hS => lv_iadd C.1 C.2.1 hd (hn _ _ _ _ _ g2 ls H locs hl hz hP hD hS)
theorem ms_isub  (C : mCx p l s m args meth c cc nL own D cy z r0 A) (hd : decode cc pc = .ok (.isub, 1))  (hn : ∀ lo st S cs sl, g rest lo st S cs sl → JJ p l e R s m args below meth c Q nL D cy z r0 A (pc + 1) lo st S cs sl)  (h : mstep ev ini nL R.cells R.slots tb xh xc g ret pc (.isub) rest lo st S cs sl) : JJ p l e R s m args below meth c Q nL D cy z r0 A pc lo st S cs sl := by
  obtain ⟨y, st, rfl, g1⟩ := pi_of h
  obtain ⟨x, st, rfl, g2⟩ := pi_of g1
  exact fun ls H locs hl hz hP hD hS => lv_isub C.1 C.2.1 hd (hn _ _ _ _ _ g2 ls H locs hl hz hP hD hS)
theorem ms_imul  (C : mCx p l s m args meth c cc nL own D cy z r0 A) (hd : decode cc pc = .ok (.imul, 1))  (hn : ∀ lo st S cs sl, g rest lo st S cs sl → JJ p l e R s m args below meth c Q nL D cy z r0 A (pc + 1) lo st S cs sl)  (h : mstep ev ini nL R.cells R.slots tb xh xc g ret pc (.imul) rest lo st S cs sl) : JJ p l e R s m args below meth c Q nL D cy z r0 A pc lo st S cs sl := by
  obtain ⟨y, st, rfl, g1⟩ := pi_of h
  obtain ⟨x, st, rfl, g2⟩ := pi_of g1
  exact fun ls H locs hl hz hP hD hS => lv_imul C.1 C.2.1 hd (hn _ _ _ _ _ g2 ls H locs hl hz hP hD hS)
theorem ms_iand  (C : mCx p l s m args meth c cc nL own D cy z r0 A) (hd : decode cc pc = .ok (.iand, 1))  (hn : ∀ lo st S cs sl, g rest lo st S cs sl → JJ p l e R s m args below meth c Q nL D cy z r0 A (pc + 1) lo st S cs sl)  (h : mstep ev ini nL R.cells R.slots tb xh xc g ret pc (.iand) rest lo st S cs sl) : JJ p l e R s m args below meth c Q nL D cy z r0 A pc lo st S cs sl := by
  obtain ⟨y, st, rfl, g1⟩ := pi_of h
  obtain ⟨x, st, rfl, g2⟩ := pi_of g1
  exact fun ls H locs hl hz hP hD hS => lv_iand C.1 C.2.1 hd (hn _ _ _ _ _ g2 ls H locs hl hz hP hD hS)
theorem ms_ior  (C : mCx p l s m args meth c cc nL own D cy z r0 A) (hd : decode cc pc = .ok (.ior, 1))  (hn : ∀ lo st S cs sl, g rest lo st S cs sl → JJ p l e R s m args below meth c Q nL D cy z r0 A (pc + 1) lo st S cs sl)  (h : mstep ev ini nL R.cells R.slots tb xh xc g ret pc (.ior) rest lo st S cs sl) : JJ p l e R s m args below meth c Q nL D cy z r0 A pc lo st S cs sl := by
  obtain ⟨y, st, rfl, g1⟩ := pi_of h
  obtain ⟨x, st, rfl, g2⟩ := pi_of g1
  exact fun ls H locs hl hz hP hD hS => lv_ior C.1 C.2.1 hd (hn _ _ _ _ _ g2 ls H locs hl hz hP hD hS)
theorem ms_ixor  (C : mCx p l s m args meth c cc nL own D cy z r0 A) (hd : decode cc pc = .ok (.ixor, 1))  (hn : ∀ lo st S cs sl, g rest lo st S cs sl → JJ p l e R s m args below meth c Q nL D cy z r0 A (pc + 1) lo st S cs sl)  (h : mstep ev ini nL R.cells R.slots tb xh xc g ret pc (.ixor) rest lo st S cs sl) : JJ p l e R s m args below meth c Q nL D cy z r0 A pc lo st S cs sl := by
  obtain ⟨y, st, rfl, g1⟩ := pi_of h
  obtain ⟨x, st, rfl, g2⟩ := pi_of g1
  exact fun ls H locs hl hz hP hD hS => lv_ixor C.1 C.2.1 hd (hn _ _ _ _ _ g2 ls H locs hl hz hP hD hS)
theorem ms_ishl  (C : mCx p l s m args meth c cc nL own D cy z r0 A) (hd : decode cc pc = .ok (.ishl, 1))  (hn : ∀ lo st S cs sl, g rest lo st S cs sl → JJ p l e R s m args below meth c Q nL D cy z r0 A (pc + 1) lo st S cs sl)  (h : mstep ev ini nL R.cells R.slots tb xh xc g ret pc (.ishl) rest lo st S cs sl) : JJ p l e R s m args below meth c Q nL D cy z r0 A pc lo st S cs sl := by
  obtain ⟨y, st, rfl, g1⟩ := pi_of h
  obtain ⟨x, st, rfl, g2⟩ := pi_of g1
  exact fun ls H locs hl hz hP hD hS => lv_ishl C.1 C.2.1 hd (hn _ _ _ _ _ g2 ls H locs hl hz hP hD hS)
theorem ms_ishr  (C : mCx p l s m args meth c cc nL own D cy z r0 A) (hd : decode cc pc = .ok (.ishr, 1))  (hn : ∀ lo st S cs sl, g rest lo st S cs sl → JJ p l e R s m args below meth c Q nL D cy z r0 A (pc + 1) lo st S cs sl)  (h : mstep ev ini nL R.cells R.slots tb xh xc g ret pc (.ishr) rest lo st S cs sl) : JJ p l e R s m args below meth c Q nL D cy z r0 A pc lo st S cs sl := by
  obtain ⟨y, st, rfl, g1⟩ := pi_of h
  obtain ⟨x, st, rfl, g2⟩ := pi_of g1
  exact fun ls H locs hl hz hP hD hS => lv_ishr C.1 C.2.1 hd (hn _ _ _ _ _ g2 ls H locs hl hz hP hD hS)
theorem ms_iushr  (C : mCx p l s m args meth c cc nL own D cy z r0 A) (hd : decode cc pc = .ok (.iushr, 1))  (hn : ∀ lo st S cs sl, g rest lo st S cs sl → JJ p l e R s m args below meth c Q nL D cy z r0 A (pc + 1) lo st S cs sl)  (h : mstep ev ini nL R.cells R.slots tb xh xc g ret pc (.iushr) rest lo st S cs sl) : JJ p l e R s m args below meth c Q nL D cy z r0 A pc lo st S cs sl := by
  obtain ⟨y, st, rfl, g1⟩ := pi_of h
  obtain ⟨x, st, rfl, g2⟩ := pi_of g1
  exact fun ls H locs hl hz hP hD hS => lv_iushr C.1 C.2.1 hd rfl (hn _ _ _ _ _ g2 ls H locs hl hz hP hD hS)
theorem ms_idiv  (C : mCx p l s m args meth c cc nL own D cy z r0 A) (hd : decode cc pc = .ok (.idiv, 1))  (hn : ∀ lo st S cs sl, g rest lo st S cs sl → JJ p l e R s m args below meth c Q nL D cy z r0 A (pc + 1) lo st S cs sl)  (h : mstep ev ini nL R.cells R.slots tb xh xc g ret pc (.idiv) rest lo st S cs sl) : JJ p l e R s m args below meth c Q nL D cy z r0 A pc lo st S cs sl := by
  obtain ⟨y, st, rfl, g1⟩ := pi_of h
  obtain ⟨x, st, rfl, h1, g2⟩ := pi_of g1
  exact fun ls H locs hl hz hP hD hS => lv_idiv C.1 C.2.1 hd h1 (hn _ _ _ _ _ g2 ls H locs hl hz hP hD hS)
theorem ms_irem  (C : mCx p l s m args meth c cc nL own D cy z r0 A) (hd : decode cc pc = .ok (.irem, 1))  (hn : ∀ lo st S cs sl, g rest lo st S cs sl → JJ p l e R s m args below meth c Q nL D cy z r0 A (pc + 1) lo st S cs sl)  (h : mstep ev ini nL R.cells R.slots tb xh xc g ret pc (.irem) rest lo st S cs sl) : JJ p l e R s m args below meth c Q nL D cy z r0 A pc lo st S cs sl := by
  obtain ⟨y, st, rfl, g1⟩ := pi_of h
  obtain ⟨x, st, rfl, h1, g2⟩ := pi_of g1
  exact fun ls H locs hl hz hP hD hS => lv_irem C.1 C.2.1 hd h1 (hn _ _ _ _ _ g2 ls H locs hl hz hP hD hS)
theorem ms_ladd  (C : mCx p l s m args meth c cc nL own D cy z r0 A) (hd : decode cc pc = .ok (.ladd, 1))  (hn : ∀ lo st S cs sl, g rest lo st S cs sl → JJ p l e R s m args below meth c Q nL D cy z r0 A (pc + 1) lo st S cs sl)  (h : mstep ev ini nL R.cells R.slots tb xh xc g ret pc (.ladd) rest lo st S cs sl) : JJ p l e R s m args below meth c Q nL D cy z r0 A pc lo st S cs sl := by
  obtain ⟨y, st, rfl, g1⟩ := pj_of h
  obtain ⟨x, st, rfl, g2⟩ := pj_of g1
  exact fun ls H locs hl hz hP hD hS => lv_ladd C.1 C.2.1 hd (hn _ _ _ _ _ g2 ls H locs hl hz hP hD hS)
theorem ms_lsub  (C : mCx p l s m args meth c cc nL own D cy z r0 A) (hd : decode cc pc = .ok (.lsub, 1))  (hn : ∀ lo st S cs sl, g rest lo st S cs sl → JJ p l e R s m args below meth c Q nL D cy z r0 A (pc + 1) lo st S cs sl)  (h : mstep ev ini nL R.cells R.slots tb xh xc g ret pc (.lsub) rest lo st S cs sl) : JJ p l e R s m args below meth c Q nL D cy z r0 A pc lo st S cs sl := by
  obtain ⟨y, st, rfl, g1⟩ := pj_of h
  obtain ⟨x, st, rfl, g2⟩ := pj_of g1
  exact fun ls H locs hl hz hP hD hS => lv_lsub C.1 C.2.1 hd (hn _ _ _ _ _ g2 ls H locs hl hz hP hD hS)
theorem ms_lmul  (C : mCx p l s m args meth c cc nL own D cy z r0 A) (hd : decode cc pc = .ok (.lmul, 1))  (hn : ∀ lo st S cs sl, g rest lo st S cs sl → JJ p l e R s m args below meth c Q nL D cy z r0 A (pc + 1) lo st S cs sl)  (h : mstep ev ini nL R.cells R.slots tb xh xc g ret pc (.lmul) rest lo st S cs sl) : JJ p l e R s m args below meth c Q nL D cy z r0 A pc lo st S cs sl := by
  obtain ⟨y, st, rfl, g1⟩ := pj_of h
  obtain ⟨x, st, rfl, g2⟩ := pj_of g1
  exact fun ls H locs hl hz hP hD hS => lv_lmul C.1 C.2.1 hd (hn _ _ _ _ _ g2 ls H locs hl hz hP hD hS)
theorem ms_land  (C : mCx p l s m args meth c cc nL own D cy z r0 A) (hd : decode cc pc = .ok (.land, 1))  (hn : ∀ lo st S cs sl, g rest lo st S cs sl → JJ p l e R s m args below meth c Q nL D cy z r0 A (pc + 1) lo st S cs sl)  (h : mstep ev ini nL R.cells R.slots tb xh xc g ret pc (.land) rest lo st S cs sl) : JJ p l e R s m args below meth c Q nL D cy z r0 A pc lo st S cs sl := by
  obtain ⟨y, st, rfl, g1⟩ := pj_of h
  obtain ⟨x, st, rfl, g2⟩ := pj_of g1
  exact fun ls H locs hl hz hP hD hS => lv_land C.1 C.2.1 hd (hn _ _ _ _ _ g2 ls H locs hl hz hP hD hS)
theorem ms_lor  (C : mCx p l s m args meth c cc nL own D cy z r0 A) (hd : decode cc pc = .ok (.lor, 1))  (hn : ∀ lo st S cs sl, g rest lo st S cs sl → JJ p l e R s m args below meth c Q nL D cy z r0 A (pc + 1) lo st S cs sl)  (h : mstep ev ini nL R.cells R.slots tb xh xc g ret pc (.lor) rest lo st S cs sl) : JJ p l e R s m args below meth c Q nL D cy z r0 A pc lo st S cs sl := by
  obtain ⟨y, st, rfl, g1⟩ := pj_of h
  obtain ⟨x, st, rfl, g2⟩ := pj_of g1
  exact fun ls H locs hl hz hP hD hS => lv_lor C.1 C.2.1 hd (hn _ _ _ _ _ g2 ls H locs hl hz hP hD hS)
theorem ms_ldiv  (C : mCx p l s m args meth c cc nL own D cy z r0 A) (hd : decode cc pc = .ok (.ldiv, 1))  (hn : ∀ lo st S cs sl, g rest lo st S cs sl → JJ p l e R s m args below meth c Q nL D cy z r0 A (pc + 1) lo st S cs sl)  (h : mstep ev ini nL R.cells R.slots tb xh xc g ret pc (.ldiv) rest lo st S cs sl) : JJ p l e R s m args below meth c Q nL D cy z r0 A pc lo st S cs sl := by
  obtain ⟨y, st, rfl, g1⟩ := pj_of h
  obtain ⟨x, st, rfl, h1, g2⟩ := pj_of g1
  exact fun ls H locs hl hz hP hD hS => lv_ldiv C.1 C.2.1 hd h1 (hn _ _ _ _ _ g2 ls H locs hl hz hP hD hS)
theorem ms_lrem  (C : mCx p l s m args meth c cc nL own D cy z r0 A) (hd : decode cc pc = .ok (.lrem, 1))  (hn : ∀ lo st S cs sl, g rest lo st S cs sl → JJ p l e R s m args below meth c Q nL D cy z r0 A (pc + 1) lo st S cs sl)  (h : mstep ev ini nL R.cells R.slots tb xh xc g ret pc (.lrem) rest lo st S cs sl) : JJ p l e R s m args below meth c Q nL D cy z r0 A pc lo st S cs sl := by
  obtain ⟨y, st, rfl, g1⟩ := pj_of h
  obtain ⟨x, st, rfl, h1, g2⟩ := pj_of g1
  exact fun ls H locs hl hz hP hD hS => lv_lrem C.1 C.2.1 hd h1 (hn _ _ _ _ _ g2 ls H locs hl hz hP hD hS)
theorem ms_lcmp  (C : mCx p l s m args meth c cc nL own D cy z r0 A) (hd : decode cc pc = .ok (.lcmp, 1))  (hn : ∀ lo st S cs sl, g rest lo st S cs sl → JJ p l e R s m args below meth c Q nL D cy z r0 A (pc + 1) lo st S cs sl)  (h : mstep ev ini nL R.cells R.slots tb xh xc g ret pc (.lcmp) rest lo st S cs sl) : JJ p l e R s m args below meth c Q nL D cy z r0 A pc lo st S cs sl := by
  obtain ⟨y, st, rfl, g1⟩ := pj_of h
  obtain ⟨x, st, rfl, g2⟩ := pj_of g1
  exact fun ls H locs hl hz hP hD hS => W.lcmp C.1 C.2.1 hd (hn _ _ _ _ _ g2 ls H locs hl hz hP hD hS)
theorem ms_lshl  (C : mCx p l s m args meth c cc nL own D cy z r0 A) (hd : decode cc pc = .ok (.lshl, 1))  (hn : ∀ lo st S cs sl, g rest lo st S cs sl → JJ p l e R s m args below meth c Q nL D cy z r0 A (pc + 1) lo st S cs sl)  (h : mstep ev ini nL R.cells R.slots tb xh xc g ret pc (.lshl) rest lo st S cs sl) : JJ p l e R s m args below meth c Q nL D cy z r0 A pc lo st S cs sl := by
  obtain ⟨y, st, rfl, g1⟩ := pi_of h
  obtain ⟨x, st, rfl, g2⟩ := pj_of g1
  exact fun ls H locs hl hz hP hD hS => lv_lshl C.1 C.2.1 hd rfl (hn _ _ _ _ _ g2 ls H locs hl hz hP hD hS)
theorem ms_lshr  (C : mCx p l s m args meth c cc nL own D cy z r0 A) (hd : decode cc pc = .ok (.lshr, 1))  (hn : ∀ lo st S cs sl, g rest lo st S cs sl → JJ p l e R s m args below meth c Q nL D cy z r0 A (pc + 1) lo st S cs sl)  (h : mstep ev ini nL R.cells R.slots tb xh xc g ret pc (.lshr) rest lo st S cs sl) : JJ p l e R s m args below meth c Q nL D cy z r0 A pc lo st S cs sl := by
  obtain ⟨y, st, rfl, g1⟩ := pi_of h
  obtain ⟨x, st, rfl, g2⟩ := pj_of g1
  exact fun ls H locs hl hz hP hD hS => lv_lshr C.1 C.2.1 hd rfl (hn _ _ _ _ _ g2 ls H locs hl hz hP hD hS)
theorem ms_ineg  (C : mCx p l s m args meth c cc nL own D cy z r0 A) (hd : decode cc pc = .ok (.ineg, 1))  (hn : ∀ lo st S cs sl, g rest lo st S cs sl → JJ p l e R s m args below meth c Q nL D cy z r0 A (pc + 1) lo st S cs sl)  (h : mstep ev ini nL R.cells R.slots tb xh xc g ret pc (.ineg) rest lo st S cs sl) : JJ p l e R s m args below meth c Q nL D cy z r0 A pc lo st S cs sl := by
  obtain ⟨x, st, rfl, g1⟩ := pi_of h
  exact fun ls H locs hl hz hP hD hS => lv_ineg C.1 C.2.1 hd (hn _ _ _ _ _ g1 ls H locs hl hz hP hD hS)
theorem ms_lneg  (C : mCx p l s m args meth c cc nL own D cy z r0 A) (hd : decode cc pc = .ok (.lneg, 1))  (hn : ∀ lo st S cs sl, g rest lo st S cs sl → JJ p l e R s m args below meth c Q nL D cy z r0 A (pc + 1) lo st S cs sl)  (h : mstep ev ini nL R.cells R.slots tb xh xc g ret pc (.lneg) rest lo st S cs sl) : JJ p l e R s m args below meth c Q nL D cy z r0 A pc lo st S cs sl := by
  obtain ⟨x, st, rfl, g1⟩ := pj_of h
  exact fun ls H locs hl hz hP hD hS => lv_lneg C.1 C.2.1 hd (hn _ _ _ _ _ g1 ls H locs hl hz hP hD hS)
theorem ms_i2l  (C : mCx p l s m args meth c cc nL own D cy z r0 A) (hd : decode cc pc = .ok (.i2l, 1))  (hn : ∀ lo st S cs sl, g rest lo st S cs sl → JJ p l e R s m args below meth c Q nL D cy z r0 A (pc + 1) lo st S cs sl)  (h : mstep ev ini nL R.cells R.slots tb xh xc g ret pc (.i2l) rest lo st S cs sl) : JJ p l e R s m args below meth c Q nL D cy z r0 A pc lo st S cs sl := by
  obtain ⟨x, st, rfl, g1⟩ := pi_of h
  exact fun ls H locs hl hz hP hD hS => lv_i2l C.1 C.2.1 hd rfl (hn _ _ _ _ _ g1 ls H locs hl hz hP hD hS)
theorem ms_i2b  (C : mCx p l s m args meth c cc nL own D cy z r0 A) (hd : decode cc pc = .ok (.i2b, 1))  (hn : ∀ lo st S cs sl, g rest lo st S cs sl → JJ p l e R s m args below meth c Q nL D cy z r0 A (pc + 1) lo st S cs sl)  (h : mstep ev ini nL R.cells R.slots tb xh xc g ret pc (.i2b) rest lo st S cs sl) : JJ p l e R s m args below meth c Q nL D cy z r0 A pc lo st S cs sl := by
  obtain ⟨x, st, rfl, g1⟩ := pi_of h
  exact fun ls H locs hl hz hP hD hS => lv_i2b C.1 C.2.1 hd rfl (hn _ _ _ _ _ g1 ls H locs hl hz hP hD hS)
theorem ms_i2s  (C : mCx p l s m args meth c cc nL own D cy z r0 A) (hd : decode cc pc = .ok (.i2s, 1))  (hn : ∀ lo st S cs sl, g rest lo st S cs sl → JJ p l e R s m args below meth c Q nL D cy z r0 A (pc + 1) lo st S cs sl)  (h : mstep ev ini nL R.cells R.slots tb xh xc g ret pc (.i2s) rest lo st S cs sl) : JJ p l e R s m args below meth c Q nL D cy z r0 A pc lo st S cs sl := by
  obtain ⟨x, st, rfl, g1⟩ := pi_of h
  exact fun ls H locs hl hz hP hD hS => lv_i2s C.1 C.2.1 hd rfl (hn _ _ _ _ _ g1 ls H locs hl hz hP hD hS)
theorem ms_l2i  (C : mCx p l s m args meth c cc nL own D cy z r0 A) (hd : decode cc pc = .ok (.l2i, 1))  (hn : ∀ lo st S cs sl, g rest lo st S cs sl → JJ p l e R s m args below meth c Q nL D cy z r0 A (pc + 1) lo st S cs sl)  (h : mstep ev ini nL R.cells R.slots tb xh xc g ret pc (.l2i) rest lo st S cs sl) : JJ p l e R s m args below meth c Q nL D cy z r0 A pc lo st S cs sl := by
  obtain ⟨x, st, rfl, g1⟩ := pj_of h
  exact fun ls H locs hl hz hP hD hS => lv_l2i C.1 C.2.1 hd rfl (hn _ _ _ _ _ g1 ls H locs hl hz hP hD hS)
theorem ms_dup  (C : mCx p l s m args meth c cc nL own D cy z r0 A) (hd : decode cc pc = .ok (.dup, 1))  (hn : ∀ lo st S cs sl, g rest lo st S cs sl → JJ p l e R s m args below meth c Q nL D cy z r0 A (pc + 1) lo st S cs sl)  (h : mstep ev ini nL R.cells R.slots tb xh xc g ret pc (.dup) rest lo st S cs sl) : JJ p l e R s m args below meth c Q nL D cy z r0 A pc lo st S cs sl := by
  obtain ⟨v, st, rfl, g1⟩ := pv_of h
  split at g1
  · rename_i e1
    have e2 : (toV v).category = 1 := (mcat_ok v).trans (Nat.eq_of_beq_eq_true e1)
    exact fun ls H locs hl hz hP hD hS => lv_dup C.1 C.2.1 hd e2 (hn _ _ _ _ _ g1 ls H locs hl hz hP hD hS)
  · exact g1.elim
theorem ms_pop  (C : mCx p l s m args meth c cc nL own D cy z r0 A) (hd : decode cc pc = .ok (.pop, 1))  (hn : ∀ lo st S cs sl, g rest lo st S cs sl → JJ p l e R s m args below meth c Q nL D cy z r0 A (pc + 1) lo st S cs sl)  (h : mstep ev ini nL R.cells R.slots tb xh xc g ret pc (.pop) rest lo st S cs sl) : JJ p l e R s m args below meth c Q nL D cy z r0 A pc lo st S cs sl := by
  obtain ⟨v, st, rfl, g1⟩ := pv_of h
  split at g1
  · rename_i e1
    have e2 : (toV v).category = 1 := (mcat_ok v).trans (Nat.eq_of_beq_eq_true e1)
    exact fun ls H locs hl hz hP hD hS => lv_pop C.1 C.2.1 hd e2 (hn _ _ _ _ _ g1 ls H locs hl hz hP hD hS)
  · exact g1.elim
theorem ms_dup_x1  (C : mCx p l s m args meth c cc nL own D cy z r0 A) (hd : decode cc pc = .ok (.dup_x1, 1))  (hn : ∀ lo st S cs sl, g rest lo st S cs sl → JJ p l e R s m args below meth c Q nL D cy z r0 A (pc + 1) lo st S cs sl)  (h : mstep ev ini nL R.cells R.slots tb xh xc g ret pc (.dup_x1) rest lo st S cs sl) : JJ p l e R s m args below meth c Q nL D cy z r0 A pc lo st S cs sl := by
  obtain ⟨v, st, rfl, g1⟩ := pv_of h
  obtain ⟨w, st, rfl, g2⟩ := pv_of g1
  split at g2
  · rename_i e1
    rw [Bool.and_eq_true] at e1
    have e2 : (toV v).category = 1 := (mcat_ok v).trans (Nat.eq_of_beq_eq_true e1.1)
    have e3 : (toV w).category = 1 := (mcat_ok w).trans (Nat.eq_of_beq_eq_true e1.2)
    exact fun ls H locs hl hz hP hD hS => lv_dup_x1 C.1 C.2.1 hd e2 e3 (hn _ _ _ _ _ g2 ls H locs hl hz hP hD hS)
  · exact g2.elim
theorem ms_dup2  (C : mCx p l s m args meth c cc nL own D cy z r0 A) (hd : decode cc pc = .ok (.dup2, 1))  (hn : ∀ lo st S cs sl, g rest lo st S cs sl → JJ p l e R s m args below meth c Q nL D cy z r0 A (pc + 1) lo st S cs sl)  (h : mstep ev ini nL R.cells R.slots tb xh xc g ret pc (.dup2) rest lo st S cs sl) : JJ p l e R s m args below meth c Q nL D cy z r0 A pc lo st S cs sl := by
  obtain ⟨v, st, rfl, g1⟩ := pv_of h
  obtain ⟨w, st, rfl, g2⟩ := pv_of g1
  split at g2
  · rename_i e1
    rw [Bool.and_eq_true] at e1
    have e2 : (toV v).category = 1 := (mcat_ok v).trans (Nat.eq_of_beq_eq_true e1.1)
    have e3 : (toV w).category = 1 := (mcat_ok w).trans (Nat.eq_of_beq_eq_true e1.2)
    exact fun ls H locs hl hz hP hD hS => lv_dup2_11 C.1 C.2.1 hd e2 e3 (hn _ _ _ _ _ g2 ls H locs hl hz hP hD hS)
  · exact g2.elim
theorem ms_goto {off : Int} (C : mCx p l s m args meth c cc nL own D cy z r0 A) (hd : decode cc pc = .ok (.goto off, 3))   (hj : ∀ t lo st S cs sl, g (seek tb t) lo st S cs sl → JJ p l e R s m args below meth c Q nL D cy z r0 A t lo st S cs sl) (h0 : 0 ≤ (pc : Int) + off)  (h : mstep ev ini nL R.cells R.slots tb xh xc g ret pc (.goto off) rest lo st S cs sl) : JJ p l e R s m args below meth c Q nL D cy z r0 A pc lo st S cs sl := by
  exact fun ls H locs hl hz hP hD hS => lv_goto C.1 C.2.1 hd (jt_ok h0) (hj _ _ _ _ _ _ h ls H locs hl hz hP hD hS)
theorem ms_if_eq {off : Int} (C : mCx p l s m args meth c cc nL own D cy z r0 A) (hd : decode cc pc = .ok (.ifCond .eq off, 3))  (hn : ∀ lo st S cs sl, g rest lo st S cs sl → JJ p l e R s m args below meth c Q nL D cy z r0 A (pc + 3) lo st S cs sl) (hj : ∀ t lo st S cs sl, g (seek tb t) lo st S cs sl → JJ p l e R s m args below meth c Q nL D cy z r0 A t lo st S cs sl) (h0 : 0 ≤ (pc : Int) + off)  (h : mstep ev ini nL R.cells R.slots tb xh xc g ret pc (.ifCond .eq off) rest lo st S cs sl) : JJ p l e R s m args below meth c Q nL D cy z r0 A pc lo st S cs sl := by
  obtain ⟨x, st, rfl, g1⟩ := pi_of h
  exact fun ls H locs hl hz hP hD hS => lv_if_eq C.1 C.2.1 hd (jt_ok h0) (fun q => hj _ _ _ _ _ _ (g1.1 q) ls H locs hl hz hP hD hS) (fun q => hn _ _ _ _ _ (g1.2 q) ls H locs hl hz hP hD hS)
theorem ms_icmp_eq {off : Int} (C : mCx p l s m args meth c cc nL own D cy z r0 A) (hd : decode cc pc = .ok (.if_icmp .eq off, 3))  (hn : ∀ lo st S cs sl, g rest lo st S cs sl → JJ p l e R s m args below meth c Q nL D cy z r0 A (pc + 3) lo st S cs sl) (hj : ∀ t lo st S cs sl, g (seek tb t) lo st S cs sl → JJ p l e R s m args below meth c Q nL D cy z r0 A t lo st S cs sl) (h0 : 0 ≤ (pc : Int) + off)  (h : mstep ev ini nL R.cells R.slots tb xh xc g ret pc (.if_icmp .eq off) rest lo st S cs sl) : JJ p l e R s m args below meth c Q nL D cy z r0 A pc lo st S cs sl := by
  obtain ⟨y, st, rfl, g1⟩ := pi_of h
  obtain ⟨x, st, rfl, g2⟩ := pi_of g1
  exact fun ls H locs hl hz hP hD hS => lv_icmp_eq C.1 C.2.1 hd (jt_ok h0) (fun q => hj _ _ _ _ _ _ (g2.1 q) ls H locs hl hz hP hD hS) (fun q => hn _ _ _ _ _ (g2.2 q) ls H locs hl hz hP hD hS)
theorem ms_if_ne {off : Int} (C : mCx p l s m args meth c cc nL own D cy z r0 A) (hd : decode cc pc = .ok (.ifCond .ne off, 3))  (hn : ∀ lo st S cs sl, g rest lo st S cs sl → JJ p l e R s m args below meth c Q nL D cy z r0 A (pc + 3) lo st S cs sl) (hj : ∀ t lo st S cs sl, g (seek tb t) lo st S cs sl → JJ p l e R s m args below meth c Q nL D cy z r0 A t lo st S cs sl) (h0 : 0 ≤ (pc : Int) + off)  (h : mstep ev ini nL R.cells R.slots tb xh xc g ret pc (.ifCond .ne off) rest lo st S cs sl) : JJ p l e R s m args below meth c Q nL D cy z r0 A pc lo st S cs sl := by
  obtain ⟨x, st, rfl, g1⟩ := pi_of h
  exact fun ls H locs hl hz hP hD hS => lv_if_ne C.1 C.2.1 hd (jt_ok h0) (fun q => hj _ _ _ _ _ _ (g1.1 q) ls H locs hl hz hP hD hS) (fun q => hn _ _ _ _ _ (g1.2 q) ls H locs hl hz hP hD hS)
theorem ms_icmp_ne {off : Int} (C : mCx p l s m args meth c cc nL own D cy z r0 A) (hd : decode cc pc = .ok (.if_icmp .ne off, 3))  (hn : ∀ lo st S cs sl, g rest lo st S cs sl → JJ p l e R s m args below meth c Q nL D cy z r0 A (pc + 3) lo st S cs sl) (hj : ∀ t lo st S cs sl, g (seek tb t) lo st S cs sl → JJ p l e R s m args below meth c Q nL D cy z r0 A t lo st S cs sl) (h0 : 0 ≤ (pc : Int) + off)  (h : mstep ev ini nL R.cells R.slots tb xh xc g ret pc (.if_icmp .ne off) rest lo st S cs sl) : JJ p l e R s m args below meth c Q nL D cy z r0 A pc lo st S cs sl := by
  obtain ⟨y, st, rfl, g1⟩ := pi_of h
  obtain ⟨x, st, rfl, g2⟩ := pi_of g1
  exact fun ls H locs hl hz hP hD hS => lv_icmp_ne C.1 C.2.1 hd (jt_ok h0) (fun q => hj _ _ _ _ _ _ (g2.1 q) ls H locs hl hz hP hD hS) (fun q => hn _ _ _ _ _ (g2.2 q) ls H locs hl hz hP hD hS)
theorem ms_if_lt {off : Int} (C : mCx p l s m args meth c cc nL own D cy z r0 A) (hd : decode cc pc = .ok (.ifCond .lt off, 3))  (hn : ∀ lo st S cs sl, g rest lo st S cs sl → JJ p l e R s m args below meth c Q nL D cy z r0 A (pc + 3) lo st S cs sl) (hj : ∀ t lo st S cs sl, g (seek tb t) lo st S cs sl → JJ p l e R s m args below meth c Q nL D cy z r0 A t lo st S cs sl) (h0 : 0 ≤ (pc : Int) + off)  (h : mstep ev ini nL R.cells R.slots tb xh xc g ret pc (.ifCond .lt off) rest lo st S cs sl) : JJ p l e R s m args below meth c Q nL D cy z r0 A pc lo st S cs sl := by
  obtain ⟨x, st, rfl, g1⟩ := pi_of h
  exact fun ls H locs hl hz hP hD hS => lv_if_lt C.1 C.2.1 hd (jt_ok h0) (fun q => hj _ _ _ _ _ _ (g1.1 q) ls H locs hl hz hP hD hS) (fun q => hn _ _ _ _ _ (g1.2 q) ls H locs hl hz hP hD hS)
theorem ms_icmp_lt {off : Int} (C : mCx p l s m args meth c cc nL own D cy z r0 A) (hd : decode cc pc = .ok (.if_icmp .lt off, 3))  (hn : ∀ lo st S cs sl, g rest lo st S cs sl → JJ p l e R s m args below meth c Q nL D cy z r0 A (pc + 3) lo st S cs sl) (hj : ∀ t lo st S cs sl, g (seek tb t) lo st S cs sl → JJ p l e R s m args below meth c Q nL D cy z r0 A t lo st S cs sl) (h0 : 0 ≤ (pc : Int) + off)  (h : mstep ev ini nL R.cells R.slots tb xh xc g ret pc (.if_icmp .lt off) rest lo st S cs sl) : JJ p l e R s m args below meth c Q nL D cy z r0 A pc lo st S cs sl := by
  obtain ⟨y, st, rfl, g1⟩ := pi_of h
  obtain ⟨x, st, rfl, g2⟩ := pi_of g1
  exact fun ls H locs hl hz hP hD hS => lv_icmp_lt C.1 C.2.1 hd (jt_ok h0) (fun q => hj _ _ _ _ _ _ (g2.1 q) ls H locs hl hz hP hD hS) (fun q => hn _ _ _ _ _ (g2.2 q) ls H locs hl hz hP hD hS)
theorem ms_if_ge {off : Int} (C : mCx p l s m args meth c cc nL own D cy z r0 A) (hd : decode cc pc = .ok (.ifCond .ge off, 3))  (hn : ∀ lo st S cs sl, g rest lo st S cs sl → JJ p l e R s m args below meth c Q nL D cy z r0 A (pc + 3) lo st S cs sl) (hj : ∀ t lo st S cs sl, g (seek tb t) lo st S cs sl → JJ p l e R s m args below meth c Q nL D cy z r0 A t lo st S cs sl) (h0 : 0 ≤ (pc : Int) + off)  (h : mstep ev ini nL R.cells R.slots tb xh xc g ret pc (.ifCond .ge off) rest lo st S cs sl) : JJ p l e R s m args below meth c Q nL D cy z r0 A pc lo st S cs sl := by
  obtain ⟨x, st, rfl, g1⟩ := pi_of h
  exact fun ls H locs hl hz hP hD hS => lv_if_ge C.1 C.2.1 hd (jt_ok h0) (fun q => hj _ _ _ _ _ _ (g1.1 q) ls H locs hl hz hP hD hS) (fun q => hn _ _ _ _ _ (g1.2 q) ls H locs hl hz hP hD hS)
theorem ms_icmp_ge {off : Int} (C : mCx p l s m args meth c cc nL own D cy z r0 A) (hd : decode cc pc = .ok (.if_icmp .ge off, 3))  (hn : ∀ lo st S cs sl, g rest lo st S cs sl → JJ p l e R s m args below meth c Q nL D cy z r0 A (pc + 3) lo st S cs sl) (hj : ∀ t lo st S cs sl, g (seek tb t) lo st S cs sl → JJ p l e R s m args below meth c Q nL D cy z r0 A t lo st S cs sl) (h0 : 0 ≤ (pc : Int) + off)  (h : mstep ev ini nL R.cells R.slots tb xh xc g ret pc (.if_icmp .ge off) rest lo st S cs sl) : JJ p l e R s m args below meth c Q nL D cy z r0 A pc lo st S cs sl := by
  obtain ⟨y, st, rfl, g1⟩ := pi_of h
  obtain ⟨x, st, rfl, g2⟩ := pi_of g1
  exact fun ls H locs hl hz hP hD hS => lv_icmp_ge C.1 C.2.1 hd (jt_ok h0) (fun q => hj _ _ _ _ _ _ (g2.1 q) ls H locs hl hz hP hD hS) (fun q => hn _ _ _ _ _ (g2.2 q) ls H locs hl hz hP hD hS)
theorem ms_if_gt {off : Int} (C : mCx p l s m args meth c cc nL own D cy z r0 A) (hd : decode cc pc = .ok (.ifCond .gt off, 3))  (hn : ∀ lo st S cs sl, g rest lo st S cs sl → JJ p l e R s m args below meth c Q nL D cy z r0 A (pc + 3) lo st S cs sl) (hj : ∀ t lo st S cs sl, g (seek tb t) lo st S cs sl → JJ p l e R s m args below meth c Q nL D cy z r0 A t lo st S cs sl) (h0 : 0 ≤ (pc : Int) + off)  (h : mstep ev ini nL R.cells R.slots tb xh xc g ret pc (.ifCond .gt off) rest lo st S cs sl) : JJ p l e R s m args below meth c Q nL D cy z r0 A pc lo st S cs sl := by
  obtain ⟨x, st, rfl, g1⟩ := pi_of h
  exact fun ls H locs hl hz hP hD hS => lv_if_gt C.1 C.2.1 hd (jt_ok h0) (fun q => hj _ _ _ _ _ _ (g1.1 q) ls H locs hl hz hP hD hS) (fun q => hn _ _ _ _ _ (g1.2 q) ls H locs hl hz hP hD hS)
theorem ms_icmp_gt {off : Int} (C : mCx p l s m args meth c cc nL own D cy z r0 A) (hd : decode cc pc = .ok (.if_icmp .gt off, 3))  (hn : ∀ lo st S cs sl, g rest lo st S cs sl → JJ p l e R s m args below meth c Q nL D cy z r0 A (pc + 3) lo st S cs sl) (hj : ∀ t lo st S cs sl, g (seek tb t) lo st S cs sl → JJ p l e R s m args below meth c Q nL D cy z r0 A t lo st S cs sl) (h0 : 0 ≤ (pc : Int) + off)  (h : mstep ev ini nL R.cells R.slots tb xh xc g ret pc (.if_icmp .gt off) rest lo st S cs sl) : JJ p l e R s m args below meth c Q nL D cy z r0 A pc lo st S cs sl := by
  obtain ⟨y, st, rfl, g1⟩ := pi_of h
  obtain ⟨x, st, rfl, g2⟩ := pi_of g1
  exact fun ls H locs hl hz hP hD hS => lv_icmp_gt C.1 C.2.1 hd (jt_ok h0) (fun q => hj _ _ _ _ _ _ (g2.1 q) ls H locs hl hz hP hD hS) (fun q => hn _ _ _ _ _ (g2.2 q) ls H locs hl hz hP hD hS)
theorem ms_if_le {off : Int} (C : mCx p l s m args meth c cc nL own D cy z r0 A) (hd : decode cc pc = .ok (.ifCond .le off, 3))  (hn : ∀ lo st S cs sl, g rest lo st S cs sl → JJ p l e R s m args below meth c Q nL D cy z r0 A (pc + 3) lo st S cs sl) (hj : ∀ t lo st S cs sl, g (seek tb t) lo st S cs sl → JJ p l e R s m args below meth c Q nL D cy z r0 A t lo st S cs sl) (h0 : 0 ≤ (pc : Int) + off)  (h : mstep ev ini nL R.cells R.slots tb xh xc g ret pc (.ifCond .le off) rest lo st S cs sl) : JJ p l e R s m args below meth c Q nL D cy z r0 A pc lo st S cs sl := by
  obtain ⟨x, st, rfl, g1⟩ := pi_of h
  exact fun ls H locs hl hz hP hD hS => lv_if_le C.1 C.2.1 hd (jt_ok h0) (fun q => hj _ _ _ _ _ _ (g1.1 q) ls H locs hl hz hP hD hS) (fun q => hn _ _ _ _ _ (g1.2 q) ls H locs hl hz hP hD hS)
theorem ms_icmp_le {off : Int} (C : mCx p l s m args meth c cc nL own D cy z r0 A) (hd : decode cc pc = .ok (.if_icmp .le off, 3))  (hn : ∀ lo st S cs sl, g rest lo st S cs sl → JJ p l e R s m args below meth c Q nL D cy z r0 A (pc + 3) lo st S cs sl) (hj : ∀ t lo st S cs sl, g (seek tb t) lo st S cs sl → JJ p l e R s m args below meth c Q nL D cy z r0 A t lo st S cs sl) (h0 : 0 ≤ (pc : Int) + off)  (h : mstep ev ini nL R.cells R.slots tb xh xc g ret pc (.if_icmp .le off) rest lo st S cs sl) : JJ p l e R s m args below meth c Q nL D cy z r0 A pc lo st S cs sl := by
  obtain ⟨y, st, rfl, g1⟩ := pi_of h
  obtain ⟨x, st, rfl, g2⟩ := pi_of g1
  exact fun ls H locs hl hz hP hD hS => lv_icmp_le C.1 C.2.1 hd (jt_ok h0) (fun q => hj _ _ _ _ _ _ (g2.1 q) ls H locs hl hz hP hD hS) (fun q => hn _ _ _ _ _ (g2.2 q) ls H locs hl hz hP hD hS)
theorem ms_acmp_eq {off : Int} (C : mCx p l s m args meth c cc nL own D cy z r0 A) (hd : decode cc pc = .ok (.if_acmp .eq off, 3))  (hn : ∀ lo st S cs sl, g rest lo st S cs sl → JJ p l e R s m args below meth c Q nL D cy z r0 A (pc + 3) lo st S cs sl) (hj : ∀ t lo st S cs sl, g (seek tb t) lo st S cs sl → JJ p l e R s m args below meth c Q nL D cy z r0 A t lo st S cs sl) (h0 : 0 ≤ (pc : Int) + off)  (h : mstep ev ini nL R.cells R.slots tb xh xc g ret pc (.if_acmp .eq off) rest lo st S cs sl) : JJ p l e R s m args below meth c Q nL D cy z r0 A pc lo st S cs sl := by
  obtain ⟨y, st, rfl, g1⟩ := pr_of h
  obtain ⟨x, st, rfl, g2⟩ := pr_of g1
  exact fun ls H locs hl hz hP hD hS => lv_acmp_eq C.1 C.2.1 hd (jt_ok h0) (fun q => hj _ _ _ _ _ _ (g2.1 q) ls H locs hl hz hP hD hS) (fun q => hn _ _ _ _ _ (g2.2 q) ls H locs hl hz hP hD hS)
theorem ms_acmp_ne {off : Int} (C : mCx p l s m args meth c cc nL own D cy z r0 A) (hd : decode cc pc = .ok (.if_acmp .ne off, 3))  (hn : ∀ lo st S cs sl, g rest lo st S cs sl → JJ p l e R s m args below meth c Q nL D cy z r0 A (pc + 3) lo st S cs sl) (hj : ∀ t lo st S cs sl, g (seek tb t) lo st S cs sl → JJ p l e R s m args below meth c Q nL D cy z r0 A t lo st S cs sl) (h0 : 0 ≤ (pc : Int) + off)  (h : mstep ev ini nL R.cells R.slots tb xh xc g ret pc (.if_acmp .ne off) rest lo st S cs sl) : JJ p l e R s m args below meth c Q nL D cy z r0 A pc lo st S cs sl := by
  obtain ⟨y, st, rfl, g1⟩ := pr_of h
  obtain ⟨x, st, rfl, g2⟩ := pr_of g1
  exact fun ls H locs hl hz hP hD hS => lv_acmp_ne C.1 C.2.1 hd (jt_ok h0) (fun q => hj _ _ _ _ _ _ (g2.1 q) ls H locs hl hz hP hD hS) (fun q => hn _ _ _ _ _ (g2.2 q) ls H locs hl hz hP hD hS)
theorem ms_ifnull {off : Int} (C : mCx p l s m args meth c cc nL own D cy z r0 A) (hd : decode cc pc = .ok (.ifnull off, 3))  (hn : ∀ lo st S cs sl, g rest lo st S cs sl → JJ p l e R s m args below meth c Q nL D cy z r0 A (pc + 3) lo st S cs sl) (hj : ∀ t lo st S cs sl, g (seek tb t) lo st S cs sl → JJ p l e R s m args below meth c Q nL D cy z r0 A t lo st S cs sl) (h0 : 0 ≤ (pc : Int) + off)  (h : mstep ev ini nL R.cells R.slots tb xh xc g ret pc (.ifnull off) rest lo st S cs sl) : JJ p l e R s m args below meth c Q nL D cy z r0 A pc lo st S cs sl := by
  obtain ⟨x, st, rfl, g1⟩ := pr_of h
  cases x with
  | none => exact fun ls H locs hl hz hP hD hS => lv_ifnullN C.1 C.2.1 hd (jt_ok h0) (hj _ _ _ _ _ _ (g1.1 rfl) ls H locs hl hz hP hD hS)
  | some a => exact fun ls H locs hl hz hP hD hS => lv_ifnull C.1 C.2.1 hd (hn _ _ _ _ _ (g1.2 a rfl) ls H locs hl hz hP hD hS)
theorem ms_ifnonnull {off : Int} (C : mCx p l s m args meth c cc nL own D cy z r0 A) (hd : decode cc pc = .ok (.ifnonnull off, 3))  (hn : ∀ lo st S cs sl, g rest lo st S cs sl → JJ p l e R s m args below meth c Q nL D cy z r0 A (pc + 3) lo st S cs sl) (hj : ∀ t lo st S cs sl, g (seek tb t) lo st S cs sl → JJ p l e R s m args below meth c Q nL D cy z r0 A t lo st S cs sl) (h0 : 0 ≤ (pc : Int) + off)  (h : mstep ev ini nL R.cells R.slots tb xh xc g ret pc (.ifnonnull off) rest lo st S cs sl) : JJ p l e R s m args below meth c Q nL D cy z r0 A pc lo st S cs sl := by
  obtain ⟨x, st, rfl, g1⟩ := pr_of h
  cases x with
  | none => exact fun ls H locs hl hz hP hD hS => lv_ifnonnullN C.1 C.2.1 hd (hn _ _ _ _ _ (g1.2 rfl) ls H locs hl hz hP hD hS)
  | some a => exact fun ls H locs hl hz hP hD hS => lv_ifnonnull C.1 C.2.1 hd (jt_ok h0) (hj _ _ _ _ _ _ (g1.1 a rfl) ls H locs hl hz hP hD hS)
theorem mat {k : Nat} {a : Nat} (h : isO S k a) : ∃ q0 : Nat, (mW cy S)[q0]? = some (a, mE cy S a) := va_pl_get (X := []) h.1

theorem ms_iaload  (C : mCx p l s m args meth c cc nL own D cy z r0 A) (hd : decode cc pc = .ok (.iaload, 1))  (hn : ∀ lo st S cs sl, g rest lo st S cs sl → JJ p l e R s m args below meth c Q nL D cy z r0 A (pc + 1) lo st S cs sl)  (h : mstep ev ini nL R.cells R.slots tb xh xc g ret pc (.iaload) rest lo st S cs sl) : JJ p l e R s m args below meth c Q nL D cy z r0 A pc lo st S cs sl := by
  obtain ⟨i, st, rfl, g1⟩ := pi_of h
  obtain ⟨o, st, rfl, g2⟩ := pr_of g1
  obtain ⟨a, rfl, g3⟩ := pa_of g2
  refine fun ls H locs hl hz hP hD hS => ?_
  obtain ⟨v, hv9, hg9⟩ := g3
  have k9 := hn _ _ _ _ _ hg9 ls H locs hl hz hP hD hS
  rcases hv9 with ⟨h1, h2, rfl⟩ | ⟨h1, h2, rfl⟩
  · obtain ⟨q0, hq⟩ := mat (cy := cy) h1
    rw [mE_a h1.2 (by decide), mRow_I (by rw [h1.2]; decide) (by rw [h1.2]; decide)] at hq
    exact va_iald C.1 C.2.1 C.2.2.2.2.2.1 hP q0 1 hq rfl h2 hd k9
  · rw [h1, hz.2]
    exact va_ti C.1 C.2.1 C.2.2.2.2.2.2.2.1.2.2.2.1 hS h2 rfl hd k9
theorem ms_saload  (C : mCx p l s m args meth c cc nL own D cy z r0 A) (hd : decode cc pc = .ok (.saload, 1))  (hn : ∀ lo st S cs sl, g rest lo st S cs sl → JJ p l e R s m args below meth c Q nL D cy z r0 A (pc + 1) lo st S cs sl)  (h : mstep ev ini nL R.cells R.slots tb xh xc g ret pc (.saload) rest lo st S cs sl) : JJ p l e R s m args below meth c Q nL D cy z r0 A pc lo st S cs sl := by
  obtain ⟨i, st, rfl, g1⟩ := pi_of h
  obtain ⟨o, st, rfl, g2⟩ := pr_of g1
  obtain ⟨a, rfl, h1, h2, g3⟩ := pa_of g2
  refine fun ls H locs hl hz hP hD hS => ?_
  obtain ⟨q0, hq⟩ := mat (cy := cy) h1
  rw [mE_a h1.2 (by decide), mRow_I (by rw [h1.2]; decide) (by rw [h1.2]; decide)] at hq
  exact va_sald C.1 C.2.1 C.2.2.2.2.2.1 hP q0 3 hq rfl h2 hd (hn _ _ _ _ _ g3 ls H locs hl hz hP hD hS)
theorem ms_laload  (C : mCx p l s m args meth c cc nL own D cy z r0 A) (hd : decode cc pc = .ok (.laload, 1))  (hn : ∀ lo st S cs sl, g rest lo st S cs sl → JJ p l e R s m args below meth c Q nL D cy z r0 A (pc + 1) lo st S cs sl)  (h : mstep ev ini nL R.cells R.slots tb xh xc g ret pc (.laload) rest lo st S cs sl) : JJ p l e R s m args below meth c Q nL D cy z r0 A pc lo st S cs sl := by
  obtain ⟨i, st, rfl, g1⟩ := pi_of h
  obtain ⟨o, st, rfl, g2⟩ := pr_of g1
  obtain ⟨a, rfl, h1, h2, g3⟩ := pa_of g2
  refine fun ls H locs hl hz hP hD hS => ?_
  obtain ⟨q0, hq⟩ := mat (cy := cy) h1
  rw [mE_a h1.2 (by decide), mRow_J h1.2] at hq
  exact va_lald C.1 C.2.1 C.2.2.2.2.2.1 hP q0 2 hq rfl h2 hd (hn _ _ _ _ _ g3 ls H locs hl hz hP hD hS)
theorem ms_baload  (C : mCx p l s m args meth c cc nL own D cy z r0 A) (hd : decode cc pc = .ok (.baload, 1))  (hn : ∀ lo st S cs sl, g rest lo st S cs sl → JJ p l e R s m args below meth c Q nL D cy z r0 A (pc + 1) lo st S cs sl)  (h : mstep ev ini nL R.cells R.slots tb xh xc g ret pc (.baload) rest lo st S cs sl) : JJ p l e R s m args below meth c Q nL D cy z r0 A pc lo st S cs sl := by
  obtain ⟨i, st, rfl, g1⟩ := pi_of h
  obtain ⟨o, st, rfl, g2⟩ := pr_of g1
  obtain ⟨a, rfl, h1, h2, g3⟩ := pa_of g2
  refine fun ls H locs hl hz hP hD hS => ?_
  rcases h1 with h1 | h1
  · obtain ⟨q0, hq⟩ := mat (cy := cy) h1
    rw [mE_a h1.2 (by decide), mRow_I (by rw [h1.2]; decide) (by rw [h1.2]; decide)] at hq
    exact va_bald C.1 C.2.1 C.2.2.2.2.2.1 hP q0 0 hq rfl h2 hd (hn _ _ _ _ _ g3 ls H locs hl hz hP hD hS)
  · obtain ⟨q0, hq⟩ := mat (cy := cy) h1
    rw [mE_a h1.2 (by decide), mRow_I (by rw [h1.2]; decide) (by rw [h1.2]; decide)] at hq
    exact va_zald C.1 C.2.1 C.2.2.2.2.2.1 hP q0 4 hq rfl h2 hd (hn _ _ _ _ _ g3 ls H locs hl hz hP hD hS)
theorem ms_iastore  (C : mCx p l s m args meth c cc nL own D cy z r0 A) (hd : decode cc pc = .ok (.iastore, 1))  (hn : ∀ lo st S cs sl, g rest lo st S cs sl → JJ p l e R s m args below meth c Q nL D cy z r0 A (pc + 1) lo st S cs sl)  (h : mstep ev ini nL R.cells R.slots tb xh xc g ret pc (.iastore) rest lo st S cs sl) : JJ p l e R s m args below meth c Q nL D cy z r0 A pc lo st S cs sl := by
  obtain ⟨x, st, rfl, g1⟩ := pi_of h
  obtain ⟨i, st, rfl, g2⟩ := pi_of g1
  obtain ⟨o, st, rfl, g3⟩ := pr_of g2
  obtain ⟨a, rfl, h1, h2, g4⟩ := pa_of g3
  refine fun ls H locs hl hz hP hD hS => ?_
  obtain ⟨q0, hq⟩ := mat (cy := cy) h1
  have hq2 := hq
  rw [mE_a (S := S) rfl (by rw [h1.2]; decide), mRow_I (by rw [h1.2]; decide) (by rw [h1.2]; decide)] at hq
  refine va_iast C.1 C.2.1 C.2.2.2.2.2.1 hP hD hS q0 1 hq (by rw [h1.2]; rfl) h2 hd (fun H1 locs1 hP1 hD1 hS1 => ?_)
  rw [mW_rI hD h1.1 (by rw [h1.2]; decide) (by rw [h1.2]; decide) (by rw [h1.2]; decide) hq] at hP1 hD1
  exact hn _ _ _ _ _ g4 ls H1 locs1 hl hz hP1 hD1 hS1
theorem ms_bastore  (C : mCx p l s m args meth c cc nL own D cy z r0 A) (hd : decode cc pc = .ok (.bastore, 1))  (hn : ∀ lo st S cs sl, g rest lo st S cs sl → JJ p l e R s m args below meth c Q nL D cy z r0 A (pc + 1) lo st S cs sl)  (h : mstep ev ini nL R.cells R.slots tb xh xc g ret pc (.bastore) rest lo st S cs sl) : JJ p l e R s m args below meth c Q nL D cy z r0 A pc lo st S cs sl := by
  obtain ⟨x, st, rfl, g1⟩ := pi_of h
  obtain ⟨i, st, rfl, g2⟩ := pi_of g1
  obtain ⟨o, st, rfl, g3⟩ := pr_of g2
  obtain ⟨a, rfl, g5⟩ := pa_of g3
  refine fun ls H locs hl hz hP hD hS => ?_
  rcases g5 with ⟨h1, h2, g4⟩ | ⟨h1, h2, g4⟩
  · obtain ⟨q0, hq⟩ := mat (cy := cy) h1
    rw [mE_a (S := S) rfl (by rw [h1.2]; decide), mRow_I (by rw [h1.2]; decide) (by rw [h1.2]; decide)] at hq
    refine va_bast C.1 C.2.1 C.2.2.2.2.2.1 hP hD hS q0 0 hq (by rw [h1.2]; rfl) h2 hd (fun H1 locs1 hP1 hD1 hS1 => ?_)
    rw [mW_rI hD h1.1 (by rw [h1.2]; decide) (by rw [h1.2]; decide) (by rw [h1.2]; decide) hq] at hP1 hD1
    exact hn _ _ _ _ _ g4 ls H1 locs1 hl hz hP1 hD1 hS1
  · obtain ⟨q0, hq⟩ := mat (cy := cy) h1
    rw [mE_a (S := S) rfl (by rw [h1.2]; decide), mRow_I (by rw [h1.2]; decide) (by rw [h1.2]; decide)] at hq
    refine va_zast C.1 C.2.1 C.2.2.2.2.2.1 hP hD hS q0 4 hq (by rw [h1.2]; rfl) h2 hd (fun H1 locs1 hP1 hD1 hS1 => ?_)
    rw [mW_rI hD h1.1 (by rw [h1.2]; decide) (by rw [h1.2]; decide) (by rw [h1.2]; decide) hq] at hP1 hD1
    exact hn _ _ _ _ _ g4 ls H1 locs1 hl hz hP1 hD1 hS1
theorem ms_sastore  (C : mCx p l s m args meth c cc nL own D cy z r0 A) (hd : decode cc pc = .ok (.sastore, 1))  (hn : ∀ lo st S cs sl, g rest lo st S cs sl → JJ p l e R s m args below meth c Q nL D cy z r0 A (pc + 1) lo st S cs sl)  (h : mstep ev ini nL R.cells R.slots tb xh xc g ret pc (.sastore) rest lo st S cs sl) : JJ p l e R s m args below meth c Q nL D cy z r0 A pc lo st S cs sl := by
  obtain ⟨x, st, rfl, g1⟩ := pi_of h
  obtain ⟨i, st, rfl, g2⟩ := pi_of g1
  obtain ⟨o, st, rfl, g3⟩ := pr_of g2
  obtain ⟨a, rfl, h1, h2, g4⟩ := pa_of g3
  refine fun ls H locs hl hz hP hD hS => ?_
  obtain ⟨q0, hq⟩ := mat (cy := cy) h1
  have hq2 := hq
  rw [mE_a (S := S) rfl (by rw [h1.2]; decide), mRow_I (by rw [h1.2]; decide) (by rw [h1.2]; decide)] at hq
  refine va_sast C.1 C.2.1 C.2.2.2.2.2.1 hP hD hS q0 3 hq (by rw [h1.2]; rfl) h2 hd (fun H1 locs1 hP1 hD1 hS1 => ?_)
  rw [mW_rI hD h1.1 (by rw [h1.2]; decide) (by rw [h1.2]; decide) (by rw [h1.2]; decide) hq] at hP1 hD1
  exact hn _ _ _ _ _ g4 ls H1 locs1 hl hz hP1 hD1 hS1
theorem ms_lastore  (C : mCx p l s m args meth c cc nL own D cy z r0 A) (hd : decode cc pc = .ok (.lastore, 1))  (hn : ∀ lo st S cs sl, g rest lo st S cs sl → JJ p l e R s m args below meth c Q nL D cy z r0 A (pc + 1) lo st S cs sl)  (h : mstep ev ini nL R.cells R.slots tb xh xc g ret pc (.lastore) rest lo st S cs sl) : JJ p l e R s m args below meth c Q nL D cy z r0 A pc lo st S cs sl := by
  obtain ⟨x, st, rfl, g1⟩ := pj_of h
  obtain ⟨i, st, rfl, g2⟩ := pi_of g1
  obtain ⟨o, st, rfl, g3⟩ := pr_of g2
  obtain ⟨a, rfl, h1, h2, g4⟩ := pa_of g3
  refine fun ls H locs hl hz hP hD hS => ?_
  obtain ⟨q0, hq⟩ := mat (cy := cy) h1
  have hq2 := hq
  rw [mE_a (S := S) rfl (by rw [h1.2]; decide), mRow_J h1.2] at hq
  refine va_last C.1 C.2.1 C.2.2.2.2.2.1 hP hD hS q0 2 hq (by rw [h1.2]; rfl) h2 hd (fun H1 locs1 hP1 hD1 hS1 => ?_)
  rw [mW_rJ hD h1.1 (by rw [h1.2]; decide) h1.2 hq] at hP1 hD1
  exact hn _ _ _ _ _ g4 ls H1 locs1 hl hz hP1 hD1 hS1
/-- what a field's entry n in the class own means: the code and the type; the words that say so -/
def fOK (own : String) (n : Nat) (f : Nat × Nat × Nat) : Prop :=
  ∃ (Cn : String) (T : u_T) (N : Nat) (ty0 : Nat → FieldType), vwCl[f.1 / 100]? = some (Cn, T, N) ∧ f.1 % 100 < N ∧ f.1 / 100 < 16 ∧ (∀ w ∈ u_ws Cn T N, w ∈ lw_good) ∧ (∀ k, k < N → parseFieldDescriptor (T k).2.2.1 = some (ty0 k)) ∧ (∀ a, a < N → ∀ b, b < N → a ≠ b → (T a).2.1 ≠ (T b).2.1) ∧
    (mFt (f.1 / 100))[f.1 % 100]? = some (if f.2.1 = 3 then 0 else f.2.1) ∧ (mFt (f.1 / 100)).length = N ∧ ((f.2.1 = 0 ∧ ty0 (f.1 % 100) = .int) ∨ (f.2.1 = 3 ∧ ty0 (f.1 % 100) = .boolean) ∨ (f.2.1 = 2 ∧ ty0 (f.1 % 100) = .long) ∨ (f.2.1 = 1 ∧ ((∃ q, ty0 (f.1 % 100) = .object q) ∨ ∃ q, ty0 (f.1 % 100) = .array q))) ∧ (f.2.2 = 1 → (T (f.1 % 100)).2.2.2 = false) ∧ (f.2.2 = 2 → (T (f.1 % 100)).2.2.2 = true ∧ (T (f.1 % 100)).1 = own ∧ Cond.fieldLink own n (T (f.1 % 100)).1 (T (f.1 % 100)).2.1 (T (f.1 % 100)).2.2.1 ∈ lw_good) ∧
    ((∃ ref, (ref = (T (f.1 % 100)).1 ∨ Cond.sameField ref (T (f.1 % 100)).1 (T (f.1 % 100)).2.1 (T (f.1 % 100)).2.2.1 ∈ lw_good) ∧ Cond.fieldLink own n ref (T (f.1 % 100)).2.1 (T (f.1 % 100)).2.2.1 ∈ lw_good) ∨ ∃ host, Cond.fieldLinkNest own n (T (f.1 % 100)).1 (T (f.1 % 100)).2.1 (T (f.1 % 100)).2.2.1 host ∈ lw_bad)
theorem bad_onT {w : Cond} (h : w ∈ lw_bad) : w.onTables = true := by
  have h1 := (List.mem_filter.mp h).2
  cases w <;> first | rfl | (simp [isBad] at h1)
theorem msame {C1 C2 nm d : String} (hts : ∀ w ∈ lw_good, w.before args s = true) (h : C1 = C2 ∨ Cond.sameField C1 C2 nm d ∈ lw_good) : ∀ x, s.fieldFound? C2 nm d = some x → s.fieldFound? C1 nm d = some x := by
  rcases h with h | h
  · subst h
    exact fun _ h9 => h9
  · exact fun x hx => u_same (hts _ h) x hx
theorem f_div (n : Nat) : 100 * (n / 100) + n % 100 = n := Nat.div_add_mod n 100
theorem ms_getfield {n : Nat} (C : mCx p l s m args meth c cc nL own D cy z r0 A) (hd : decode cc pc = .ok (.getfield n, 3)) (hF : ∀ q ∈ ev.1, fOK own q.1 q.2) (hn : ∀ lo st S cs sl, g rest lo st S cs sl → JJ p l e R s m args below meth c Q nL D cy z r0 A (pc + 3) lo st S cs sl) (h : mstep ev ini nL R.cells R.slots tb xh xc g ret pc (.getfield n) rest lo st S cs sl) : JJ p l e R s m args below meth c Q nL D cy z r0 A pc lo st S cs sl := by
  obtain ⟨f, hf, g1⟩ := po_of h
  obtain ⟨o, st, rfl, g2⟩ := pr_of g1
  obtain ⟨a, rfl, h1, g3⟩ := pa_of g2
  obtain ⟨Cn, T, N, ty0, f1, f2, f3, f4, f5, f6, f7, f8, f9, f10, f11, f12⟩ := hF _ (look_in hf)
  refine fun ls H locs hl hz hP hD hS => ?_
  obtain ⟨q0, hq⟩ := mat (cy := cy) h1
  rw [mE_o h1.2 f3] at hq
  have hv := mFv_get (S := S) (k := f.1 / 100) (a := a) (mFt (f.1 / 100)) 0 (f.1 % 100) _ f7
  rw [Nat.zero_add, f_div] at hv
  have hm : toV (mread S f.2.1 f.1 a) = mV S (if f.2.1 = 3 then 0 else f.2.1) f.1 a := by
    rcases f9 with ⟨e1, -⟩ | ⟨e1, -⟩ | ⟨e1, -⟩ | ⟨e1, -⟩ <;> (rw [e1]; rfl)
  dsimp only at hv
  rw [← hm] at hv
  rcases f12 with ⟨ref, hsm, f12⟩ | ⟨host, f12⟩
  · exact va_get (D := D) (ci := f.1 / 100) (v := toV (mread S f.2.1 f.1 a)) (C := Cn) (T := T) (N := N) C.1 C.2.1 C.2.2.2.2.1 f4 C.2.2.2.1 C.2.2.2.2.2.1 hP q0 hq f1 (f.1 % 100) f2 (C.2.2.2.2.1 _ f12) (msame C.2.2.2.2.1 hsm) hv hd (hn _ _ _ _ _ g3 ls H locs hl hz hP hD hS)
  · exact va_getN (D := D) (ci := f.1 / 100) (v := toV (mread S f.2.1 f.1 a)) (C := Cn) (T := T) (N := N) C.1 C.2.1 C.2.2.2.2.1 f4 C.2.2.2.1 C.2.2.2.2.2.1 hP q0 hq f1 (f.1 % 100) f2 (va_Nw.use (bad_onT f12) (C.2.2.2.2.2.2.2.2.1 _ f12)) (fun _ h9 => h9) hv hd (hn _ _ _ _ _ g3 ls H locs hl hz hP hD hS)

theorem ms_putI {n f a : Nat} {x : Int32} (C : mCx p l s m args meth c cc nL own D cy z r0 A) (hd : decode cc pc = .ok (.putfield n, 3)) {w : Nat} (hF : fOK own n (f, 0, w)) (hw : w = 1 ∨ w = 2 ∧ meth.name = "<init>") (hn : ∀ lo st S cs sl, g rest lo st S cs sl → JJ p l e R s m args below meth c Q nL D cy z r0 A (pc + 3) lo st S cs sl) (h1 : isO S (f / 100) a) (h : g rest lo st (sI S f a x) cs sl) : JJ p l e R s m args below meth c Q nL D cy z r0 A pc lo (.inl x :: .inr (.inr (some a)) :: st) S cs sl := by
  obtain ⟨Cn, T, N, ty0, f1, f2, f3, f4, f5, f6, f7, f8, f9, f10, f11, f12⟩ := hF
  dsimp only at f1 f2 f3 f7 f8 f9 f10 f11 f12
  have f9 : ty0 (f % 100) = .int := by
    rcases f9 with ⟨e1, e2⟩ | ⟨e1, e2⟩ | ⟨e1, e2⟩ | ⟨e1, e2⟩ <;> first | exact e2 | exact absurd e1 (by decide)
  refine fun ls H locs hl hz hP hD hS => ?_
  obtain ⟨q0, hq⟩ := mat (cy := cy) h1
  rw [mE_o h1.2 f3] at hq
  obtain ⟨ft, hft⟩ : ∃ ft, ft = ty0 (f % 100) := ⟨_, rfl⟩
  rw [← hft] at f9
  have hd5 := f5 _ f2
  rw [← hft] at hd5
  have hset := fun (hD0 : va_D A (mW cy S)) => mW_sI (v := x) hD0 h1.1 h1.2 f3 (n := f % 100) f7 hq
  rw [f_div] at hset
  have hlen : f % 100 < (mFv S (f / 100) a 0 (mFt (f / 100))).length := by rw [mFv_len, f8]; exact f2
  have kk : ∀ (H1 : Heap) (locs1 : List Loc), va_P D vwCl ((mW cy S).set q0 (a, .inr (f / 100, (mFv S (f / 100) a 0 (mFt (f / 100))).set (f % 100) (.int x)))) H1 → va_D A ((mW cy S).set q0 (a, .inr (f / 100, (mFv S (f / 100) a 0 (mFt (f / 100))).set (f % 100) (.int x)))) → va_S A s.heap H1 locs1 → W p l e R s m args below meth c H1 locs1 cs sl Q (F0 m (pc + 3) ls (st.map toV)) := by
    intro H1 locs1 hP1 hD1 hS1
    rw [hset hD] at hP1 hD1
    exact hn _ _ _ _ _ h ls H1 locs1 hl hz hP1 hD1 hS1
  rcases hw with hw | ⟨hw, hin⟩
  · rcases f12 with ⟨ref, hsm, f12⟩ | ⟨host, f12⟩
    · exact va_put (D := D) (ci := f / 100) (v := .int x) (ty := ft) (C := Cn) (T := T) (N := N) C.1 C.2.1 C.2.2.2.2.1 f4 ty0 f5 f6 C.2.2.2.1 C.2.2.2.2.2.1 hP hD hS q0 hq f1 (f % 100) f2 (C.2.2.2.2.1 _ f12) (msame C.2.2.2.2.1 hsm) (f10 hw) hd5 (by rw [f9]; rfl) (by rw [f9]; rfl) hlen hd kk
    · exact va_putN (D := D) (ci := f / 100) (v := .int x) (ty := ft) (C := Cn) (T := T) (N := N) C.1 C.2.1 C.2.2.2.2.1 f4 ty0 f5 f6 C.2.2.2.1 C.2.2.2.2.2.1 hP hD hS q0 hq f1 (f % 100) f2 (va_Nw.use (bad_onT f12) (C.2.2.2.2.2.2.2.2.1 _ f12)) (fun _ h9 => h9) (f10 hw) hd5 (by rw [f9]; rfl) (by rw [f9]; rfl) hlen hd kk
  · exact va_putF (D := D) (ci := f / 100) (v := .int x) (ty := ft) (C := Cn) (T := T) (N := N) C.1 C.2.1 C.2.2.2.2.1 f4 ty0 f5 f6 C.2.2.2.1 C.2.2.2.2.2.1 hP hD hS q0 hq f1 (f % 100) f2 (C.2.2.2.2.1 _ (f11 hw).2.2) (fun _ h9 => h9) (f11 hw).1 hin (f11 hw).2.1 hd5 (by rw [f9]; rfl) (by rw [f9]; rfl) hlen hd kk

theorem ms_putZ {n f a : Nat} {x : Int32} (hx : x = 0 ∨ x = 1) (C : mCx p l s m args meth c cc nL own D cy z r0 A) (hd : decode cc pc = .ok (.putfield n, 3)) {w : Nat} (hF : fOK own n (f, 3, w)) (hw : w = 1 ∨ w = 2 ∧ meth.name = "<init>") (hn : ∀ lo st S cs sl, g rest lo st S cs sl → JJ p l e R s m args below meth c Q nL D cy z r0 A (pc + 3) lo st S cs sl) (h1 : isO S (f / 100) a) (h : g rest lo st (sI S f a x) cs sl) : JJ p l e R s m args below meth c Q nL D cy z r0 A pc lo (.inl x :: .inr (.inr (some a)) :: st) S cs sl := by
  obtain ⟨Cn, T, N, ty0, f1, f2, f3, f4, f5, f6, f7, f8, f9, f10, f11, f12⟩ := hF
  dsimp only at f1 f2 f3 f7 f8 f9 f10 f11 f12
  have f9 : ty0 (f % 100) = .boolean := by
    rcases f9 with ⟨e1, e2⟩ | ⟨e1, e2⟩ | ⟨e1, e2⟩ | ⟨e1, e2⟩ <;> first | exact e2 | exact absurd e1 (by decide)
  refine fun ls H locs hl hz hP hD hS => ?_
  obtain ⟨q0, hq⟩ := mat (cy := cy) h1
  rw [mE_o h1.2 f3] at hq
  obtain ⟨ft, hft⟩ : ∃ ft, ft = ty0 (f % 100) := ⟨_, rfl⟩
  rw [← hft] at f9
  have hd5 := f5 _ f2
  rw [← hft] at hd5
  have hb1 : narrow .boolean (.int x) = .int x := by rcases hx with rfl | rfl <;> decide
  have hb2 : fits .boolean (.int x) = true := by rcases hx with rfl | rfl <;> decide
  have hset := fun (hD0 : va_D A (mW cy S)) => mW_sI (v := x) hD0 h1.1 h1.2 f3 (n := f % 100) f7 hq
  rw [f_div] at hset
  have hlen : f % 100 < (mFv S (f / 100) a 0 (mFt (f / 100))).length := by rw [mFv_len, f8]; exact f2
  have kk : ∀ (H1 : Heap) (locs1 : List Loc), va_P D vwCl ((mW cy S).set q0 (a, .inr (f / 100, (mFv S (f / 100) a 0 (mFt (f / 100))).set (f % 100) (.int x)))) H1 → va_D A ((mW cy S).set q0 (a, .inr (f / 100, (mFv S (f / 100) a 0 (mFt (f / 100))).set (f % 100) (.int x)))) → va_S A s.heap H1 locs1 → W p l e R s m args below meth c H1 locs1 cs sl Q (F0 m (pc + 3) ls (st.map toV)) := by
    intro H1 locs1 hP1 hD1 hS1
    rw [hset hD] at hP1 hD1
    exact hn _ _ _ _ _ h ls H1 locs1 hl hz hP1 hD1 hS1
  rcases hw with hw | ⟨hw, hin⟩
  · rcases f12 with ⟨ref, hsm, f12⟩ | ⟨host, f12⟩
    · exact va_put (D := D) (ci := f / 100) (v := .int x) (ty := ft) (C := Cn) (T := T) (N := N) C.1 C.2.1 C.2.2.2.2.1 f4 ty0 f5 f6 C.2.2.2.1 C.2.2.2.2.2.1 hP hD hS q0 hq f1 (f % 100) f2 (C.2.2.2.2.1 _ f12) (msame C.2.2.2.2.1 hsm) (f10 hw) hd5 (by rw [f9]; exact hb1) (by rw [f9]; exact hb2) hlen hd kk
    · exact va_putN (D := D) (ci := f / 100) (v := .int x) (ty := ft) (C := Cn) (T := T) (N := N) C.1 C.2.1 C.2.2.2.2.1 f4 ty0 f5 f6 C.2.2.2.1 C.2.2.2.2.2.1 hP hD hS q0 hq f1 (f % 100) f2 (va_Nw.use (bad_onT f12) (C.2.2.2.2.2.2.2.2.1 _ f12)) (fun _ h9 => h9) (f10 hw) hd5 (by rw [f9]; exact hb1) (by rw [f9]; exact hb2) hlen hd kk
  · exact va_putF (D := D) (ci := f / 100) (v := .int x) (ty := ft) (C := Cn) (T := T) (N := N) C.1 C.2.1 C.2.2.2.2.1 f4 ty0 f5 f6 C.2.2.2.1 C.2.2.2.2.2.1 hP hD hS q0 hq f1 (f % 100) f2 (C.2.2.2.2.1 _ (f11 hw).2.2) (fun _ h9 => h9) (f11 hw).1 hin (f11 hw).2.1 hd5 (by rw [f9]; exact hb1) (by rw [f9]; exact hb2) hlen hd kk

theorem ms_putR {n f a : Nat} {x : Option Nat} (C : mCx p l s m args meth c cc nL own D cy z r0 A) (hd : decode cc pc = .ok (.putfield n, 3)) {w : Nat} (hF : fOK own n (f, 1, w)) (hw : w = 1 ∨ w = 2 ∧ meth.name = "<init>") (hn : ∀ lo st S cs sl, g rest lo st S cs sl → JJ p l e R s m args below meth c Q nL D cy z r0 A (pc + 3) lo st S cs sl) (h1 : isO S (f / 100) a) (h : g rest lo st (sR S f a x) cs sl) : JJ p l e R s m args below meth c Q nL D cy z r0 A pc lo (.inr (.inr x) :: .inr (.inr (some a)) :: st) S cs sl := by
  obtain ⟨Cn, T, N, ty0, f1, f2, f3, f4, f5, f6, f7, f8, f9, f10, f11, f12⟩ := hF
  dsimp only at f1 f2 f3 f7 f8 f9 f10 f11 f12
  have f9 : (∃ q, ty0 (f % 100) = .object q) ∨ ∃ q, ty0 (f % 100) = .array q := by
    rcases f9 with ⟨e1, e2⟩ | ⟨e1, e2⟩ | ⟨e1, e2⟩ | ⟨e1, e2⟩ <;> first | exact e2 | exact absurd e1 (by decide)
  refine fun ls H locs hl hz hP hD hS => ?_
  obtain ⟨q0, hq⟩ := mat (cy := cy) h1
  rw [mE_o h1.2 f3] at hq
  obtain ⟨ft, hft⟩ : ∃ ft, ft = ty0 (f % 100) := ⟨_, rfl⟩
  rw [← hft] at f9
  have hd5 := f5 _ f2
  rw [← hft] at hd5
  have hb1 : narrow ft (va_rf x) = va_rf x := by rcases f9 with ⟨q9, e9⟩ | ⟨q9, e9⟩ <;> rw [e9] <;> cases x <;> rfl
  have hb2 : fits ft (va_rf x) = true := by rcases f9 with ⟨q9, e9⟩ | ⟨q9, e9⟩ <;> rw [e9] <;> cases x <;> rfl
  have hset := fun (hD0 : va_D A (mW cy S)) => mW_sR (v := x) hD0 h1.1 h1.2 f3 (n := f % 100) f7 hq
  rw [f_div] at hset
  have hlen : f % 100 < (mFv S (f / 100) a 0 (mFt (f / 100))).length := by rw [mFv_len, f8]; exact f2
  have kk : ∀ (H1 : Heap) (locs1 : List Loc), va_P D vwCl ((mW cy S).set q0 (a, .inr (f / 100, (mFv S (f / 100) a 0 (mFt (f / 100))).set (f % 100) (va_rf x)))) H1 → va_D A ((mW cy S).set q0 (a, .inr (f / 100, (mFv S (f / 100) a 0 (mFt (f / 100))).set (f % 100) (va_rf x)))) → va_S A s.heap H1 locs1 → W p l e R s m args below meth c H1 locs1 cs sl Q (F0 m (pc + 3) ls (st.map toV)) := by
    intro H1 locs1 hP1 hD1 hS1
    rw [hset hD] at hP1 hD1
    exact hn _ _ _ _ _ h ls H1 locs1 hl hz hP1 hD1 hS1
  rcases hw with hw | ⟨hw, hin⟩
  · rcases f12 with ⟨ref, hsm, f12⟩ | ⟨host, f12⟩
    · exact va_put (D := D) (ci := f / 100) (v := va_rf x) (ty := ft) (C := Cn) (T := T) (N := N) C.1 C.2.1 C.2.2.2.2.1 f4 ty0 f5 f6 C.2.2.2.1 C.2.2.2.2.2.1 hP hD hS q0 hq f1 (f % 100) f2 (C.2.2.2.2.1 _ f12) (msame C.2.2.2.2.1 hsm) (f10 hw) hd5 hb1 hb2 hlen hd kk
    · exact va_putN (D := D) (ci := f / 100) (v := va_rf x) (ty := ft) (C := Cn) (T := T) (N := N) C.1 C.2.1 C.2.2.2.2.1 f4 ty0 f5 f6 C.2.2.2.1 C.2.2.2.2.2.1 hP hD hS q0 hq f1 (f % 100) f2 (va_Nw.use (bad_onT f12) (C.2.2.2.2.2.2.2.2.1 _ f12)) (fun _ h9 => h9) (f10 hw) hd5 hb1 hb2 hlen hd kk
  · exact va_putF (D := D) (ci := f / 100) (v := va_rf x) (ty := ft) (C := Cn) (T := T) (N := N) C.1 C.2.1 C.2.2.2.2.1 f4 ty0 f5 f6 C.2.2.2.1 C.2.2.2.2.2.1 hP hD hS q0 hq f1 (f % 100) f2 (C.2.2.2.2.1 _ (f11 hw).2.2) (fun _ h9 => h9) (f11 hw).1 hin (f11 hw).2.1 hd5 hb1 hb2 hlen hd kk

theorem ms_putJ {n f a : Nat} {x : Int64} (C : mCx p l s m args meth c cc nL own D cy z r0 A) (hd : decode cc pc = .ok (.putfield n, 3)) {w : Nat} (hF : fOK own n (f, 2, w)) (hw : w = 1 ∨ w = 2 ∧ meth.name = "<init>") (hn : ∀ lo st S cs sl, g rest lo st S cs sl → JJ p l e R s m args below meth c Q nL D cy z r0 A (pc + 3) lo st S cs sl) (h1 : isO S (f / 100) a) (h : g rest lo st (sJ S f a x) cs sl) : JJ p l e R s m args below meth c Q nL D cy z r0 A pc lo (.inr (.inl x) :: .inr (.inr (some a)) :: st) S cs sl := by
  obtain ⟨Cn, T, N, ty0, f1, f2, f3, f4, f5, f6, f7, f8, f9, f10, f11, f12⟩ := hF
  dsimp only at f1 f2 f3 f7 f8 f9 f10 f11 f12
  have f9 : ty0 (f % 100) = .long := by
    rcases f9 with ⟨e1, e2⟩ | ⟨e1, e2⟩ | ⟨e1, e2⟩ | ⟨e1, e2⟩ <;> first | exact e2 | exact absurd e1 (by decide)
  refine fun ls H locs hl hz hP hD hS => ?_
  obtain ⟨q0, hq⟩ := mat (cy := cy) h1
  rw [mE_o h1.2 f3] at hq
  obtain ⟨ft, hft⟩ : ∃ ft, ft = ty0 (f % 100) := ⟨_, rfl⟩
  rw [← hft] at f9
  have hd5 := f5 _ f2
  rw [← hft] at hd5
  have hset := fun (hD0 : va_D A (mW cy S)) => mW_sJ (v := x) hD0 h1.1 h1.2 f3 (n := f % 100) f7 hq
  rw [f_div] at hset
  have hlen : f % 100 < (mFv S (f / 100) a 0 (mFt (f / 100))).length := by rw [mFv_len, f8]; exact f2
  have kk : ∀ (H1 : Heap) (locs1 : List Loc), va_P D vwCl ((mW cy S).set q0 (a, .inr (f / 100, (mFv S (f / 100) a 0 (mFt (f / 100))).set (f % 100) (.long x)))) H1 → va_D A ((mW cy S).set q0 (a, .inr (f / 100, (mFv S (f / 100) a 0 (mFt (f / 100))).set (f % 100) (.long x)))) → va_S A s.heap H1 locs1 → W p l e R s m args below meth c H1 locs1 cs sl Q (F0 m (pc + 3) ls (st.map toV)) := by
    intro H1 locs1 hP1 hD1 hS1
    rw [hset hD] at hP1 hD1
    exact hn _ _ _ _ _ h ls H1 locs1 hl hz hP1 hD1 hS1
  rcases hw with hw | ⟨hw, hin⟩
  · rcases f12 with ⟨ref, hsm, f12⟩ | ⟨host, f12⟩
    · exact va_put (D := D) (ci := f / 100) (v := .long x) (ty := ft) (C := Cn) (T := T) (N := N) C.1 C.2.1 C.2.2.2.2.1 f4 ty0 f5 f6 C.2.2.2.1 C.2.2.2.2.2.1 hP hD hS q0 hq f1 (f % 100) f2 (C.2.2.2.2.1 _ f12) (msame C.2.2.2.2.1 hsm) (f10 hw) hd5 (by rw [f9]; rfl) (by rw [f9]; rfl) hlen hd kk
    · exact va_putN (D := D) (ci := f / 100) (v := .long x) (ty := ft) (C := Cn) (T := T) (N := N) C.1 C.2.1 C.2.2.2.2.1 f4 ty0 f5 f6 C.2.2.2.1 C.2.2.2.2.2.1 hP hD hS q0 hq f1 (f % 100) f2 (va_Nw.use (bad_onT f12) (C.2.2.2.2.2.2.2.2.1 _ f12)) (fun _ h9 => h9) (f10 hw) hd5 (by rw [f9]; rfl) (by rw [f9]; rfl) hlen hd kk
  · exact va_putF (D := D) (ci := f / 100) (v := .long x) (ty := ft) (C := Cn) (T := T) (N := N) C.1 C.2.1 C.2.2.2.2.1 f4 ty0 f5 f6 C.2.2.2.1 C.2.2.2.2.2.1 hP hD hS q0 hq f1 (f % 100) f2 (C.2.2.2.2.1 _ (f11 hw).2.2) (fun _ h9 => h9) (f11 hw).1 hin (f11 hw).2.1 hd5 (by rw [f9]; rfl) (by rw [f9]; rfl) hlen hd kk

end MSOUND
