/-! ===== RUNS AND CONTRACTS ===== -/
def ilen (i : Instr) : Nat := match i with
  | .iconst _ => 1
  | .bipush _ => 2
  | .sipush _ => 3
  | .lconst _ => 1
  | .aconst_null => 1
  | .iload_n _ => 1
  | .iload _ => 2
  | .lload_n _ => 1
  | .lload _ => 2
  | .aload_n _ => 1
  | .aload _ => 2
  | .istore_n _ => 1
  | .istore _ => 2
  | .lstore_n _ => 1
  | .lstore _ => 2
  | .astore_n _ => 1
  | .astore _ => 2
  | .iinc _ _ => 3
  | .iadd => 1
  | .isub => 1
  | .imul => 1
  | .iand => 1
  | .ior => 1
  | .ixor => 1
  | .ishl => 1
  | .ishr => 1
  | .iushr => 1
  | .idiv => 1
  | .irem => 1
  | .ladd => 1
  | .lsub => 1
  | .lmul => 1
  | .land => 1
  | .lor => 1
  | .ldiv => 1
  | .lrem => 1
  | .lcmp => 1
  | .lshl => 1
  | .lshr => 1
  | .ineg => 1
  | .lneg => 1
  | .i2l => 1
  | .i2b => 1
  | .i2s => 1
  | .l2i => 1
  | .dup => 1
  | .pop => 1
  | .dup_x1 => 1
  | .dup2 => 1
  | .goto _ => 3
  | .ifCond .eq _ => 3
  | .if_icmp .eq _ => 3
  | .ifCond .ne _ => 3
  | .if_icmp .ne _ => 3
  | .ifCond .lt _ => 3
  | .if_icmp .lt _ => 3
  | .ifCond .ge _ => 3
  | .if_icmp .ge _ => 3
  | .ifCond .gt _ => 3
  | .if_icmp .gt _ => 3
  | .ifCond .le _ => 3
  | .if_icmp .le _ => 3
  | .if_acmp .eq _ => 3
  | .if_acmp .ne _ => 3
  | .ifnull _ => 3
  | .ifnonnull _ => 3
  | .iaload => 1
  | .saload => 1
  | .laload => 1
  | .baload => 1
  | .iastore => 1
  | .bastore => 1
  | .sastore => 1
  | .lastore => 1
  | .getfield _ => 3
  | .putfield _ => 3
  | .arraylength => 1
  | .new _ => 3
  | .ldc _ => 2
  | .ldc_w _ => 3
  | .ldc2_w _ => 3
  | .invokevirtual _ => 3
  | .invokespecial _ => 3
  | .invokestatic _ => 3
  | .newarray _ => 2
  | .ireturn => 1
  | .lreturn => 1
  | .areturn => 1
  | .return_ => 1
  | .anewarray _ => 3
  | .aaload => 1
  | .aastore => 1
  | .checkcast _ => 3
  | .getstatic _ => 3
  | .athrow => 1
  | .multianewarray _ _ => 4
  | .tableswitch _ _ _ _ => 136
  | _ => 0
/-- where an instruction may jump to isn't below 0 -/
def jok (pc : Nat) (i : Instr) : Bool := match i with
  | .goto off => decide (0 ≤ (pc : Int) + off)
  | .ifCond _ off => decide (0 ≤ (pc : Int) + off)
  | .if_icmp _ off => decide (0 ≤ (pc : Int) + off)
  | .if_acmp _ off => decide (0 ≤ (pc : Int) + off)
  | .ifnull off => decide (0 ≤ (pc : Int) + off)
  | .ifnonnull off => decide (0 ≤ (pc : Int) + off)
  | .tableswitch d l h os => decide (0 ≤ (pc : Int) + d) && os.toList.all (fun o => decide (0 ≤ (pc : Int) + o)) && decide (h - l + 1 = os.size)
  | _ => true
/-- the table is the code's: each instruction at its place, one behind the other -/
def chk (cc : ByteArray) : CD → Bool
  | [] => true
  | q :: r => decide (decode cc q.1 = .ok (q.2, ilen q.2)) && jok q.1 q.2 && (match r with
    | [] => true
    | q2 :: _ => Nat.beq q2.1 (q.1 + ilen q.2)) && chk cc r
theorem chk_suf {cc : ByteArray} : ∀ {tb r : CD}, chk cc tb = true → r <:+ tb → chk cc r = true
  | [], r, h, hs => by
    rw [List.suffix_nil.mp hs]
    exact h
  | q :: t, r, h, hs => by
    rcases List.suffix_cons_iff.mp hs with e | e
    · rw [e]
      exact h
    · have h2 : chk cc t = true := by
        unfold chk at h
        exact (Bool.and_eq_true _ _ ▸ h).2
      exact chk_suf h2 e
theorem chk_at {cc : ByteArray} {q : Nat × Instr} {r : CD} (h : chk cc (q :: r) = true) : decode cc q.1 = .ok (q.2, ilen q.2) ∧ jok q.1 q.2 = true ∧ ∀ q2 r2, r = q2 :: r2 → q2.1 = q.1 + ilen q.2 := by
  unfold chk at h
  rw [Bool.and_eq_true, Bool.and_eq_true, Bool.and_eq_true] at h
  refine ⟨of_decide_eq_true h.1.1.1, h.1.1.2, fun q2 r2 e => ?_⟩
  have h3 := h.1.2
  rw [e] at h3
  exact Nat.eq_of_beq_eq_true h3
theorem seek_suf : ∀ (tb : CD) (i : Nat), seek tb i <:+ tb
  | [], _ => List.suffix_refl _
  | q :: t, i => by
    unfold seek
    split
    · exact List.suffix_refl _
    · exact (seek_suf t i).trans (List.suffix_cons q t)
theorem seek_hd : ∀ {tb : CD} {i : Nat} {q : Nat × Instr} {r : CD}, seek tb i = q :: r → q.1 = i
  | [], _, _, _, h => by simp [seek] at h
  | q0 :: t, i, q, r, h => by
    unfold seek at h
    split at h
    · rename_i e
      cases h
      exact Nat.eq_of_beq_eq_true e
    · exact seek_hd h

section MRUN
variable {p : Program} {l : Launch} {e : Env} {R : Room} {s : State} {m : MethodId} {args : Array Value} {below : List Frame} {meth : Method} {c : Code} {Q : State → Prop} {cc : ByteArray} {nL : Nat} {own : String} {D : va_G} {cy : Nat → ClassId} {z : Nat} {r0 : Nat × Nat} {A : Nat → Prop} {ev : EV} {ini : Bool} {tb : CD} {xh : Nat → Nat → Option CD} {xc : Nat → MM → Nat → Nat → Prop} {g : CD → KT} {ret : Option MV → MM → Nat → Nat → Prop} {pc : Nat} {rest : CD} {lo : List (Nat × MV)} {st : List MV} {S : MM} {cs sl : Nat}
/-- what the entries of a class and of a method mean here -/
def eOK (p : Program) (l : Launch) (e : Env) (R : Room) (s : State) (m : MethodId) (args : Array Value) (below : List Frame) (meth : Method) (c : Code) (Q : State → Prop) (cc : ByteArray) (nL : Nat) (own : String) (D : va_G) (cy : Nat → ClassId) (z : Nat) (r0 : Nat × Nat) (A : Nat → Prop) (xc : Nat → MM → Nat → Nat → Prop) (ev : EV) (ini : Bool) : Prop :=
  (∀ q ∈ ev.1, fOK own q.1 q.2) ∧ (∀ q ∈ ev.2.1, nOK own q.1 q.2) ∧ (∀ q ∈ ev.2.2.1, aOK own q.1 q.2) ∧ (∀ q ∈ ev.2.2.2.1, Cond.constant own q.1 q.2 ∈ lw_good) ∧ (∀ q ∈ ev.2.2.2.2.1, Cond.constantLong own q.1 q.2 ∈ lw_good) ∧ (∀ q ∈ ev.2.2.2.2.2.1, cOK p l e R s m args below meth c Q cc nL D cy z r0 A q) ∧ (∀ q ∈ ev.2.2.2.2.2.2.1, kOK own q.1 q.2) ∧ (∀ q ∈ ev.2.2.2.2.2.2.2.1, gOK own q.1 q.2) ∧ (∀ q ∈ ev.2.2.2.2.2.2.2.2, xOK p l e R s m args below meth c Q cc nL D cy z r0 A xc q) ∧ (ini = true → meth.name = "<init>")
/-- what is left to do at a return -/
def rOK (p : Program) (l : Launch) (e : Env) (R : Room) (s : State) (m : MethodId) (args : Array Value) (below : List Frame) (meth : Method) (c : Code) (Q : State → Prop) (cc : ByteArray) (nL : Nat) (D : va_G) (cy : Nat → ClassId) (z : Nat) (r0 : Nat × Nat) (A : Nat → Prop) (ret : Option MV → MM → Nat → Nat → Prop) : Prop :=
  ∀ (pc : Nat) (lo : List (Nat × MV)) (rv : Option MV) (S : MM) (cs sl : Nat), (match rv with
    | none => decode cc pc = .ok (.return_, 1)
    | some (.inl _) => decode cc pc = .ok (.ireturn, 1)
    | some (.inr (.inl _)) => decode cc pc = .ok (.lreturn, 1)
    | some (.inr (.inr _)) => decode cc pc = .ok (.areturn, 1)) → ret rv S cs sl → JJ p l e R s m args below meth c Q nL D cy z r0 A pc lo rv.toList S cs sl

theorem isThr_of {rest : CD} {ic : Nat} (h : isThr rest ic = true) : ∃ q1 q2 q3 r, rest = (q1, .dup) :: (q2, .invokespecial ic) :: (q3, .athrow) :: r := by
  unfold isThr at h
  split at h
  · rename_i k _ _
    have e1 := Nat.eq_of_beq_eq_true h
    rw [e1]
    exact ⟨_, _, _, _, rfl⟩
  · cases h
theorem aC : ∀ t ∈ ([.int, .byte, .long, .short, .boolean] : List FieldType), Cond.arrayClass t ∈ lw_good := by decide +kernel

theorem ms_putfield {n : Nat} (C : mCx p l s m args meth c cc nL own D cy z r0 A) (hd : decode cc pc = .ok (.putfield n, 3)) (hF : ∀ q ∈ ev.1, fOK own q.1 q.2) (hini : ini = true → meth.name = "<init>") (hn : ∀ lo st S cs sl, g rest lo st S cs sl → JJ p l e R s m args below meth c Q nL D cy z r0 A (pc + 3) lo st S cs sl) (h : mstep ev ini nL R.cells R.slots tb xh xc g ret pc (.putfield n) rest lo st S cs sl) : JJ p l e R s m args below meth c Q nL D cy z r0 A pc lo st S cs sl := by
  obtain ⟨f, hf, hw, g1⟩ := po_of h
  obtain ⟨v, st, rfl, g2⟩ := pv_of g1
  obtain ⟨o, st, rfl, g3⟩ := pr_of g2
  obtain ⟨a, rfl, h1, g4⟩ := pa_of g3
  obtain ⟨f, t, w⟩ := f
  have hF1 := hF _ (look_in hf)
  dsimp only at hw h1 g4 hF1
  have hw2 : w = 1 ∨ w = 2 ∧ meth.name = "<init>" := by
    split at hw
    · exact Or.inl rfl
    · exact Or.inr ⟨rfl, hini hw⟩
    · exact hw.elim
  unfold putf at g4
  split at g4
  · exact ms_putI C hd hF1 hw2 hn h1 g4
  · exact ms_putZ g4.1 C hd hF1 hw2 hn h1 g4.2
  · exact ms_putR C hd hF1 hw2 hn h1 g4
  · exact ms_putJ C hd hF1 hw2 hn h1 g4
  · exact g4.elim

set_option maxHeartbeats 4000000 in
theorem mstep_ok {i : Instr} (C : mCx p l s m args meth c cc nL own D cy z r0 A) (E : eOK p l e R s m args below meth c Q cc nL own D cy z r0 A xc ev ini) (hr : rOK p l e R s m args below meth c Q cc nL D cy z r0 A ret) (hch : chk cc ((pc, i) :: rest) = true) (hx : ∀ E lo S cs sl, (match xh pc E with | some h => ∀ q, g h lo [.inr (.inr (some q))] S cs sl | none => xc E S cs sl) → XJ p l e R s m args below meth c Q nL D cy z r0 A pc E lo S cs sl) (hd : decode cc pc = .ok (i, ilen i)) (hk : jok pc i = true) (hn : ∀ lo st S cs sl, g rest lo st S cs sl → JJ p l e R s m args below meth c Q nL D cy z r0 A (pc + ilen i) lo st S cs sl) (hj : ∀ t lo st S cs sl, g (seek tb t) lo st S cs sl → JJ p l e R s m args below meth c Q nL D cy z r0 A t lo st S cs sl) (h : mstep ev ini nL R.cells R.slots tb xh xc g ret pc i rest lo st S cs sl) : JJ p l e R s m args below meth c Q nL D cy z r0 A pc lo st S cs sl := by
  cases i
  case iconst n => exact ms_iconst C hd hn h
  case bipush n => exact ms_bipush C hd hn h
  case sipush n => exact ms_sipush C hd hn h
  case lconst n => exact ms_lconst C hd hn h
  case aconst_null  => exact ms_aconst_null C hd hn h
  case iload_n k => exact ms_iload_n C hd hn h
  case iload k => exact ms_iload C hd hn h
  case lload_n k => exact ms_lload_n C hd hn h
  case lload k => exact ms_lload C hd hn h
  case aload_n k => exact ms_aload_n C hd hn h
  case aload k => exact ms_aload C hd hn h
  case istore_n k => exact ms_istore_n C hd hn h
  case istore k => exact ms_istore C hd hn h
  case lstore_n k => exact ms_lstore_n C hd hn h
  case lstore k => exact ms_lstore C hd hn h
  case astore_n k => exact ms_astore_n C hd hn h
  case astore k => exact ms_astore C hd hn h
  case iinc k n => exact ms_iinc C hd hn h
  case iadd  => exact ms_iadd C hd hn h
  case isub  => exact ms_isub C hd hn h
  case imul  => exact ms_imul C hd hn h
  case iand  => exact ms_iand C hd hn h
  case ior  => exact ms_ior C hd hn h
  case ixor  => exact ms_ixor C hd hn h
  case ishl  => exact ms_ishl C hd hn h
  case ishr  => exact ms_ishr C hd hn h
  case iushr  => exact ms_iushr C hd hn h
  case idiv  => exact ms_idiv C hd hn h
  case irem  => exact ms_irem C hd hn h
  case ladd  => exact ms_ladd C hd hn h
  case lsub  => exact ms_lsub C hd hn h
  case lmul  => exact ms_lmul C hd hn h
  case land  => exact ms_land C hd hn h
  case lor  => exact ms_lor C hd hn h
  case ldiv  => exact ms_ldiv C hd hn h
  case lrem  => exact ms_lrem C hd hn h
  case lcmp  => exact ms_lcmp C hd hn h
  case lshl  => exact ms_lshl C hd hn h
  case lshr  => exact ms_lshr C hd hn h
  case ineg  => exact ms_ineg C hd hn h
  case lneg  => exact ms_lneg C hd hn h
  case i2l  => exact ms_i2l C hd hn h
  case i2b  => exact ms_i2b C hd hn h
  case i2s  => exact ms_i2s C hd hn h
  case l2i  => exact ms_l2i C hd hn h
  case dup  => exact ms_dup C hd hn h
  case pop  => exact ms_pop C hd hn h
  case dup_x1  => exact ms_dup_x1 C hd hn h
  case dup2  => exact ms_dup2 C hd hn h
  case goto off => exact ms_goto C hd hj (of_decide_eq_true hk) h
  case ifnull off => exact ms_ifnull C hd hn hj (of_decide_eq_true hk) h
  case ifnonnull off => exact ms_ifnonnull C hd hn hj (of_decide_eq_true hk) h
  case iaload  => exact ms_iaload C hd hn h
  case saload  => exact ms_saload C hd hn h
  case laload  => exact ms_laload C hd hn h
  case baload  => exact ms_baload C hd hn h
  case iastore  => exact ms_iastore C hd hn h
  case bastore  => exact ms_bastore C hd hn h
  case sastore  => exact ms_sastore C hd hn h
  case lastore  => exact ms_lastore C hd hn h
  case ifCond cnd off =>
    cases cnd
    case eq => exact ms_if_eq C hd hn hj (of_decide_eq_true hk) h
    case ne => exact ms_if_ne C hd hn hj (of_decide_eq_true hk) h
    case lt => exact ms_if_lt C hd hn hj (of_decide_eq_true hk) h
    case ge => exact ms_if_ge C hd hn hj (of_decide_eq_true hk) h
    case gt => exact ms_if_gt C hd hn hj (of_decide_eq_true hk) h
    case le => exact ms_if_le C hd hn hj (of_decide_eq_true hk) h
  case if_icmp cnd off =>
    cases cnd
    case eq => exact ms_icmp_eq C hd hn hj (of_decide_eq_true hk) h
    case ne => exact ms_icmp_ne C hd hn hj (of_decide_eq_true hk) h
    case lt => exact ms_icmp_lt C hd hn hj (of_decide_eq_true hk) h
    case ge => exact ms_icmp_ge C hd hn hj (of_decide_eq_true hk) h
    case gt => exact ms_icmp_gt C hd hn hj (of_decide_eq_true hk) h
    case le => exact ms_icmp_le C hd hn hj (of_decide_eq_true hk) h
  case if_acmp cnd off =>
    cases cnd
    case eq => exact ms_acmp_eq C hd hn hj (of_decide_eq_true hk) h
    case ne => exact ms_acmp_ne C hd hn hj (of_decide_eq_true hk) h
  case getfield n => exact ms_getfield C hd E.1 hn h
  case putfield n => exact ms_putfield C hd E.1 E.2.2.2.2.2.2.2.2.2 hn h
  case arraylength => exact ms_arraylength C hd hn h
  case new n =>
    have h9 : (match look ev.2.2.2.2.2.2.2.2 n with
      | some E => (match isThr rest E.2 && Nat.ble (msum st) 8 with
        | true => xc E.1 S (cs + 1) (sl + 6)
        | false => False)
      | none => po (look ev.2.1 n) fun k => cs + 1 ≤ R.cells ∧ sl + (mFt k).length ≤ R.slots ∧ ∀ a, a ∉ mL S → g rest lo (.inr (.inr (some a)) :: st) (nO S a k) (cs + 1) (sl + (mFt k).length)) := h
    cases hL : look ev.2.2.2.2.2.2.2.2 n with
    | none =>
      rw [hL] at h9
      exact ms_new1 C hd E.2.1 hn h9
    | some v =>
      rw [hL] at h9
      dsimp only at h9
      split at h9
      · rename_i hb
        rw [Bool.and_eq_true] at hb
        obtain ⟨q1, q2, q3, r9, e1⟩ := isThr_of hb.1
        subst e1
        obtain ⟨a1, a2, a3⟩ := chk_at hch
        have c1 := chk_suf hch (List.suffix_cons _ _)
        obtain ⟨b1, b2, b3⟩ := chk_at c1
        have c2 := chk_suf c1 (List.suffix_cons _ _)
        obtain ⟨d1, d2, d3⟩ := chk_at c2
        have c3 := chk_suf c2 (List.suffix_cons _ _)
        obtain ⟨f1, f2, f3⟩ := chk_at c3
        have p1 : q1 = pc + 3 := a3 _ _ rfl
        have p2 : q2 = q1 + 1 := b3 _ _ rfl
        have p3 : q3 = q2 + 3 := d3 _ _ rfl
        subst p1
        subst p2
        subst p3
        exact E.2.2.2.2.2.2.2.2.1 (n, v) (look_in hL) pc lo st S cs sl hd b1 d1 f1 (Nat.le_of_ble_eq_true hb.2) h9
      · exact h9.elim
  case aaload => exact ms_aaload C hd hn h
  case aastore => exact ms_aastore C hd hn h
  case anewarray n => exact ms_anewarray C hd E.2.2.1 hn h
  case multianewarray n d => exact ms_multianewarray C hd E.2.2.1 hn h
  case tableswitch d l1 h1 os =>
    have hk9 : (decide (0 ≤ (pc : Int) + d) && os.toList.all (fun o => decide (0 ≤ (pc : Int) + o)) && decide (h1 - l1 + 1 = os.size)) = true := hk
    rw [Bool.and_eq_true, Bool.and_eq_true, List.all_eq_true] at hk9
    exact ms_tableswitch C hd ⟨of_decide_eq_true hk9.1.1, fun o ho => of_decide_eq_true (hk9.1.2 o ho), of_decide_eq_true hk9.2⟩ hj h
  case checkcast n => exact ms_checkcast C hd E.2.2.2.2.2.2.1 hn h
  case getstatic n => exact ms_getstatic C hd E.2.2.2.2.2.2.2.1 hn h
  case newarray t =>
    cases t
    case int => exact ms_newarray_int C hd (aC .int (by simp)) hn h
    case byte => exact ms_newarray_byte C hd (aC .byte (by simp)) hn h
    case long => exact ms_newarray_long C hd (aC .long (by simp)) hn h
    case short => exact ms_newarray_short C hd (aC .short (by simp)) hn h
    case boolean => exact ms_newarray_boolean C hd (aC .boolean (by simp)) hn h
    all_goals exact False.elim h
  case ldc n => exact ms_ldc C hd E.2.2.2.1 E.2.2.2.2.2.2.2.1 hn h
  case ldc_w n => exact ms_ldc_w C hd E.2.2.2.1 hn h
  case ldc2_w n => exact ms_ldc2_w C hd E.2.2.2.2.1 hn h
  case invokevirtual n => exact ms_invokevirtual hd E.2.2.2.2.2.1 hn hx h
  case invokespecial n => exact ms_invokespecial hd E.2.2.2.2.2.1 hn hx h
  case invokestatic n => exact ms_invokestatic hd E.2.2.2.2.2.1 hn hx h
  case ireturn =>
    obtain ⟨x, r9, rfl, h1, g1⟩ := pi_of h
    subst h1
    exact hr pc lo (some (.inl x)) S cs sl hd g1
  case lreturn =>
    obtain ⟨x, r9, rfl, h1, g1⟩ := pj_of h
    subst h1
    exact hr pc lo (some (.inr (.inl x))) S cs sl hd g1
  case areturn =>
    obtain ⟨x, r9, rfl, h1, g1⟩ := pr_of h
    subst h1
    exact hr pc lo (some (.inr (.inr x))) S cs sl hd g1
  case return_ =>
    obtain ⟨h1, g1⟩ := h
    subst h1
    exact hr pc lo none S cs sl hd g1
  all_goals exact False.elim h
theorem pick_in {lo : List (Nat × MV)} : ∀ {ks : List Nat} {q : Nat × MV}, q ∈ pick lo ks → q ∈ lo
  | [], q, h => absurd h List.not_mem_nil
  | i :: ks, q, h => by
    unfold pick at h
    split at h
    · rename_i v e
      rcases List.mem_cons.mp h with h | h
      · rw [h]
        exact mget_in e
      · exact pick_in h
    · exact pick_in h
theorem JJ_pick {ks : List Nat} (h : JJ p l e R s m args below meth c Q nL D cy z r0 A pc (pick lo ks) st S cs sl) : JJ p l e R s m args below meth c Q nL D cy z r0 A pc lo st S cs sl := fun ls H locs hl hz hP hD hS => h ls H locs ⟨hl.1, hl.2.1, fun q hq => by
  obtain ⟨x, hx, e9⟩ := List.mem_map.mp hq
  rw [← e9]
  exact hl.2.2 _ (List.mem_map.mpr ⟨x, pick_in hx, rfl⟩)⟩ hz hP hD hS
/-- a run from here to the cuts, where what the cuts say is known -/
theorem go_ok {cu : Nat → Option (List Nat × KT)} (C : mCx p l s m args meth c cc nL own D cy z r0 A) (E : eOK p l e R s m args below meth c Q cc nL own D cy z r0 A xc ev ini) (hr : rOK p l e R s m args below meth c Q cc nL D cy z r0 A ret) (ht : chk cc tb = true) (hX : ∀ pc E lo S cs sl, xh pc E = none → xc E S cs sl → XJ p l e R s m args below meth c Q nL D cy z r0 A pc E lo S cs sl) (hH : ∀ pc E h, xh pc E = some h → h <:+ tb ∧ ∀ lo S cs sl, (∀ q r, h = q :: r → ∀ a, JJ p l e R s m args below meth c Q nL D cy z r0 A q.1 lo [.inr (.inr (some a))] S cs sl) → h ≠ [] → XJ p l e R s m args below meth c Q nL D cy z r0 A pc E lo S cs sl) (hcu : ∀ pc I, cu pc = some I → ∀ lo st S cs sl, I.2 lo st S cs sl → JJ p l e R s m args below meth c Q nL D cy z r0 A pc lo st S cs sl) :
    ∀ (n : Nat) (q : Nat × Instr) (r : CD) (lo : List (Nat × MV)) (st : List MV) (S : MM) (cs sl : Nat), (q :: r) <:+ tb → go ev ini nL R.cells R.slots tb xh xc cu ret n (q :: r) lo st S cs sl → JJ p l e R s m args below meth c Q nL D cy z r0 A q.1 lo st S cs sl
  | 0, q, r, lo, st, S, cs, sl, _, h => h.elim
  | n + 1, q, r, lo, st, S, cs, sl, hs, h => by
    obtain ⟨h1, h2, h3⟩ := chk_at (chk_suf ht hs)
    have hg : ∀ (x : CD) (pc9 : Nat), x <:+ tb → (∀ q2 r2, x = q2 :: r2 → q2.1 = pc9) → ∀ lo st S cs sl, nxt cu (go ev ini nL R.cells R.slots tb xh xc cu ret n) x lo st S cs sl → JJ p l e R s m args below meth c Q nL D cy z r0 A pc9 lo st S cs sl := by
      intro x pc9 hx hp lo st S cs sl h
      match x, hx, hp, h with
      | [], hx, hp, h => exact h.elim
      | q2 :: r2, hx, hp, h =>
        have e1 := hp q2 r2 rfl
        have h9 : (match cu q2.1 with
          | some I => (fun lo st S cs sl => I.2 (pick lo I.1) st S cs sl)
          | none => go ev ini nL R.cells R.slots tb xh xc cu ret n (q2 :: r2)) lo st S cs sl := h
        rw [← e1]
        revert h9
        cases e2 : cu q2.1 with
        | some I => exact fun h9 => JJ_pick (hcu _ I e2 _ _ _ _ _ h9)
        | none => exact fun h9 => go_ok C E hr ht hX hH hcu n q2 r2 _ _ _ _ _ hx h9
    have hx : ∀ E lo S cs sl, (match xh q.1 E with | some h => ∀ a, nxt cu (go ev ini nL R.cells R.slots tb xh xc cu ret n) h lo [.inr (.inr (some a))] S cs sl | none => xc E S cs sl) → XJ p l e R s m args below meth c Q nL D cy z r0 A q.1 E lo S cs sl := by
      intro E9 lo S cs sl h9
      cases e9 : xh q.1 E9 with
      | none =>
        rw [e9] at h9
        exact hX _ _ _ _ _ _ e9 h9
      | some h8 =>
        rw [e9] at h9
        obtain ⟨s1, s2⟩ := hH _ _ _ e9
        refine s2 lo S cs sl (fun q2 r2 e8 a => ?_) (fun e8 => ?_)
        · exact hg h8 q2.1 s1 (fun q3 r3 e7 => by rw [e8] at e7; cases e7; rfl) _ _ _ _ _ (h9 a)
        · subst e8
          exact h9 0
    exact mstep_ok (i := q.2) C E hr (chk_suf ht hs) hx h1 h2 (hg r _ ((List.suffix_cons q r).trans hs) h3) (fun t => hg (seek tb t) t (seek_suf tb t) (fun q2 r2 e9 => seek_hd e9)) h

end MRUN
