/-! ===== METHODS THAT THROW, AND METHODS THAT CATCH ===== -/
def mXC (D : va_G) (cy : Nat → ClassId) (A : Nat → Prop) (sp : Sp) (av : List MV) (S : MM) : String → State → State → Prop := fun E st t =>
  ∃ (k : Nat) (S' : MM), E = xname k ∧ sp.2.2.2.2 av S k S' ∧ (mZ S' = mZ S ∧ mQ S' = mQ S) ∧ va_P D vwCl (mW cy S') t.heap ∧ va_D A (mW cy S') ∧ va_F A st t
/-- METHOD y, whose code the word w tells, KEEPS THE SPEC sp, throws with it -/
def CtX (l : Launch) (y : MethodName) (w : Cond) (rt : Option FieldType) (fr lc : Nat) (sp : Sp) : Prop :=
  ∀ (D : va_G) (cy : Nat → ClassId) (av : List MV) (S : MM) (sz : Nat), sp.1 av S →
    vx_Met l y (w :: lw_good) { frames := fr, cells := sp.2.1 av S, slots := sp.2.2.1 av S, locals := lc } (va_Pc (av.map toV) (mOK D cy S sz)) (mQc D cy (mA S sz) rt sp av S) (mXC D cy (mA S sz) sp av S) (sp.2.1 av S) (sp.2.2.1 av S) (mA S sz)
/-- what a body owes at a throw that leaves it -/
def mthr (sp : Sp) (av : List MV) (S0 : MM) : Nat → MM → Nat → Nat → Prop := fun E S cs sl => sp.2.2.2.2 av S0 E S ∧ cs ≤ sp.2.1 av S0 ∧ sl ≤ sp.2.2.1 av S0
def xnum (E : Nat) : Nat := match E with
  | 1 => 1
  | 2 => 2
  | 3 => 3
  | _ => 0
theorem xname_num (E : Nat) : xname E = xname (xnum E) := by
  unfold xnum
  split <;> first | rfl | (rename_i h1 h2 h3; unfold xname; split <;> first | (exact absurd rfl h1) | (exact absurd rfl h2) | (exact absurd rfl h3) | rfl)
theorem xnum_lt (E : Nat) : xnum E < 4 := by
  unfold xnum
  split <;> decide
theorem xname_ne {a b : Nat} (h : xnum a ≠ xnum b) : xname a ≠ xname b := by
  rw [xname_num a, xname_num b]
  have ha := xnum_lt a
  have hb := xnum_lt b
  generalize xnum a = x at h ha ⊢
  generalize xnum b = y at h hb ⊢
  have k : ∀ x, x < 4 → ∀ y, y < 4 → x ≠ y → xname x ≠ xname y := by decide
  exact k x ha y hb h
/-- the handlers of a method: a row of its table and its exception's number -/
abbrev XR : Type := (Nat × Nat × Nat × Nat) × Nat
def xhs (tb : CD) : List XR → Nat → Nat → Option CD
  | [], _, _ => none
  | q :: r, pc, E => match Nat.ble q.1.1 pc && Nat.blt pc q.1.2.1 && Nat.beq (xnum q.2) (xnum E) with
    | true => some (seek tb q.1.2.2.1)
    | false => xhs tb r pc E
theorem cstE : ∀ E, E < 4 → Cond.castable (xname E) (xname E) ∈ lw_bad := by decide +kernel
section MTHR
variable {p : Program} {l : Launch} {e : Env} {R : Room} {s : State} {m : MethodId} {args : Array Value} {below : List Frame} {meth : Method} {c : Code} {Q : State → Prop} {cc : ByteArray} {nL : Nat} {own : String} {D : va_G} {cy : Nat → ClassId} {z : Nat} {r0 : Nat × Nat} {A : Nat → Prop}
theorem xhs_ok (C : mCx p l s m args meth c cc nL own D cy z r0 A) {tb : CD} {pc E : Nat} : ∀ (hx pre : List XR) {h : CD}, c.exceptionTable.toList = tableOf ((pre ++ hx).map (·.1)) → (∀ q ∈ pre ++ hx, q.1.2.2.2 ≠ 0 ∧ Cond.classLink own q.1.2.2.2 (xname q.2) ∈ lw_good) → (∀ q ∈ pre, (Nat.ble q.1.1 pc && Nat.blt pc q.1.2.1 && Nat.beq (xnum q.2) (xnum E)) = false) → xhs tb hx pc E = some h → h <:+ tb ∧ ∀ lo S cs sl, (∀ q r, h = q :: r → ∀ a, JJ p l e R s m args below meth c Q nL D cy z r0 A q.1 lo [.inr (.inr (some a))] S cs sl) → h ≠ [] → XJ p l e R s m args below meth c Q nL D cy z r0 A pc E lo S cs sl
  | [], _, h, _, _, _, h4 => by cases h4
  | q :: hx, pre, h, h1, h2, h3, h4 => by
    unfold xhs at h4
    split at h4
    · rename_i hq
      cases h4
      refine ⟨seek_suf tb _, fun lo S cs sl hk hne => ?_⟩
      intro ls H locs a ce rest hl hz hP hD hS hce hv hcl
      rw [Bool.and_eq_true, Bool.and_eq_true] at hq
      have hE : xname q.2 = xname E := by rw [xname_num q.2, xname_num E, Nat.eq_of_beq_eq_true hq.2]
      obtain ⟨n0, n1⟩ := h2 q (by simp)
      rw [hE] at n1
      have hcov : ∀ (w : XR), covers (⟨w.1.1, w.1.2.1, w.1.2.2.1, w.1.2.2.2⟩ : ExceptionTableEntry) pc = (Nat.ble w.1.1 pc && Nat.blt pc w.1.2.1) := fun w => by
        show (decide (w.1.1 ≤ pc) && decide (pc < w.1.2.1)) = _
        congr 1
        · rw [Bool.eq_iff_iff, decide_eq_true_iff, Nat.ble_eq]
        · rw [Bool.eq_iff_iff, decide_eq_true_iff, Nat.blt_eq]
      refine vx_catch (own := own) (name := xname E) (E := xname E) C.2.2.2.1 (tableOf (pre.map (·.1))) ⟨q.1.1, q.1.2.1, q.1.2.2.1, q.1.2.2.2⟩ (tableOf (hx.map (·.1))) ?_ ?_ ?_ n0 (C.2.2.2.2.1 _ n1) ?_ hce hv hcl ?_
      · rw [h1]
        unfold tableOf
        simp
      · intro w hw
        obtain ⟨w1, hw1, rfl⟩ := List.mem_map.mp hw
        obtain ⟨w2, hw2, rfl⟩ := List.mem_map.mp hw1
        by_cases hc9 : (Nat.ble w2.1.1 pc && Nat.blt pc w2.1.2.1) = true
        · have hb := h3 w2 hw2
          rw [hc9, Bool.true_and] at hb
          obtain ⟨m0, m1⟩ := h2 w2 (List.mem_append_left _ hw2)
          refine Or.inr ⟨m0, xname w2.2, C.2.2.2.2.1 _ m1, C.2.2.2.2.2.2.2.2.2.2.2.2.2 _ (xname_in _) _ (xname_in _) (xname_ne (fun e9 => ?_))⟩
          rw [e9] at hb
          exact absurd hb (by simp)
        · refine Or.inl ?_
          rw [hcov w2]
          exact Bool.not_eq_true _ ▸ hc9
      · rw [hcov q, Bool.and_eq_true]
        exact hq.1
      · have hb := C.2.2.2.2.2.2.2.2.1 _ (cstE (xnum E) (xnum_lt E))
        rw [← xname_num] at hb
        exact va_Nw.use rfl hb
      · match hsk : seek tb q.1.2.2.1, hk, hne with
        | [], _, hne => exact absurd rfl hne
        | q9 :: r9, hk, _ =>
          have e1 := seek_hd hsk
          have := hk q9 r9 rfl a ls H locs hl hz hP hD hS
          rw [e1] at this
          exact this
    · rename_i hq
      refine xhs_ok C hx (pre ++ [q]) (by rw [h1]; simp) (fun w hw => h2 w (by simpa using hw)) (fun w hw => ?_) h4
      rcases List.mem_append.mp hw with hw | hw
      · exact h3 w hw
      · rw [List.mem_singleton.mp hw]
        exact Bool.not_eq_true _ ▸ hq
/-- behind a call that may throw -/
theorem mbackX (C : mCx p l s m args meth c cc nL own D cy z r0 A) {sp : Sp} {av : List MV} {S : MM} {H : Heap} {locs : List Loc} {cs sl pc : Nat} {ls : Array Slot} {st0 : List Value} {a : Array Value} {rest : List MV} {lo : List (Nat × MV)} {rt : Option FieldType} (hz : mZ S = z ∧ mQ S = r0) (hP : va_P D vwCl (mW cy S) H) (hD : va_D A (mW cy S)) (hS : va_S A s.heap H locs) (hl : lv_has ls nL (mlv lo))
    (hr : vx_Run p l e R s m args below meth c H locs cs sl (sp.2.1 av S) (sp.2.2.1 av S) (F0 m pc ls st0) (rest.map toV) (mQc D cy (mA S H.size) rt sp av S a) (mXC D cy (mA S H.size) sp av S) (mA S H.size))
    (kk : ∀ r S', rkOK (rkOf rt) r → sp.2.2.2.1 av S r S' → JJ p l e R s m args below meth c Q nL D cy z r0 A (pc + 3) lo (r.toList ++ rest) S' (cs + sp.2.1 av S) (sl + sp.2.2.1 av S))
    (kx : ∀ E S', sp.2.2.2.2 av S E S' → XJ p l e R s m args below meth c Q nL D cy z r0 A pc E lo S' (cs + sp.2.1 av S) (sl + sp.2.2.1 av S)) : W p l e R s m args below meth c H locs cs sl Q (F0 m pc ls st0) := by
  have hAB : ∀ q, mA S H.size q → A q := fun q hq => by
    rcases hq with hq | hq
    · obtain ⟨k, hk⟩ := va_pl_get (X := []) (f := mE cy S) hq
      exact hD.2 k _ hk
    · exact C.2.2.2.2.2.2.1 q (Nat.le_trans hS.1 hq)
  intro T hT X
  rcases hr T hT X with ⟨v, st₀, t, T', L, h0, X', hL, e1, e2, ⟨⟨r, S', hv, hrt, hp, hz1, hP1, hD1⟩, hF⟩, st⟩ | ⟨q, st₀, t, T', L, E, ce, h0, X', hL, e1, e2, ⟨k, S', hE, hp, hz1, hP1, hD1, hF⟩, hce, hcv, hcl, st⟩
  · cases hv
    obtain ⟨-, -, k3⟩ := vx_keep h0 e1 hS (fun q _ => hAB q) hAB hL hF
    rw [← e1] at hP1
    obtain ⟨t2, a1, b1⟩ := kk r S' (rk_of hrt) hp ls T'.heap (locs ++ L) hl ⟨hz1.1.trans hz.1, hz1.2.trans hz.2⟩ hP1 (hD1.weaken (fun _ q _ hq => hAB _ hq)) k3 T' rfl X'
    refine ⟨t2, st t2 ?_, b1⟩
    have e9 : (r.toList ++ rest).map toV = (r.map toV).toList ++ rest.map toV := by
      rw [List.map_append]
      cases r <;> rfl
    rw [e9] at a1
    exact a1
  · subst hE
    obtain ⟨-, -, k3⟩ := vx_keep h0 e1 hS (fun q _ => hAB q) hAB hL hF
    rw [← e1] at hP1
    obtain ⟨t2, a1, b1⟩ := kx k S' hp ls T'.heap (locs ++ L) q ce (rest.map toV) hl ⟨hz1.1.trans hz.1, hz1.2.trans hz.2⟩ hP1 (hD1.weaken (fun _ q _ hq => hAB _ hq)) k3 (by rw [e1]; exact hce) hcv hcl T' rfl X'
    exact ⟨t2, st.trans a1, b1⟩
theorem goodV {n : Nat} {own : String} {y : MethodName} {w : Cond} (hw : ∀ x ∈ ([.methodLink own n y, .instanceMethod y, .selects y.cls y y, .initialized y.cls, w] : List Cond), x ∈ lw_good) : GoodIn lw_good (wsV own n y.cls y (w :: lw_good)) := good_all (fun x hx => by
  unfold wsV at hx
  rcases List.mem_append.mp hx with h9 | h9
  · exact hw x (by
      simp only [List.mem_cons, List.not_mem_nil, or_false] at h9 ⊢
      rcases h9 with h9 | h9 | h9 | h9
      · exact Or.inl h9
      · exact Or.inr (Or.inl h9)
      · exact Or.inr (Or.inr (Or.inl h9))
      · exact Or.inr (Or.inr (Or.inr (Or.inl h9))))
  · rcases List.mem_cons.mp h9 with h9 | h9
    · rw [h9]
      exact hw _ (by simp)
    · exact h9)
/-- a virtual call of a method that may throw -/
theorem cOKx_V (C : mCx p l s m args meth c cc nL own D cy z r0 A) {y : MethodName} {bytes : ByteArray} {maxL : Nat} {ret : Option FieldType} {fr lc n n1 k : Nat} {sp : Sp} {T : u_T} {N : Nat} (hM : CtX l y (Cond.code y bytes maxL ret) ret fr lc sp)
    (hw : ∀ w ∈ ([.methodLink own n y, .instanceMethod y, .selects y.cls y y, .initialized y.cls, .code y bytes maxL ret] : List Cond), w ∈ lw_good) (hd : y.cls ≠ "java/lang/invoke/MethodHandle" ∧ y.cls ≠ "java/lang/invoke/VarHandle" ∧ (parseMethodDescriptor y.desc).map (fun d => d.parameters.length) = some n1) (hR : fr + 1 ≤ R.frames ∧ 8 + (maxL + 11) + lc ≤ R.locals)
    (hk : vwCl[k]? = some (y.cls, T, N)) (hk16 : k < 16) (hrecv : ∀ av S, sp.1 av S → ∃ a vs, av = .inr (.inr (some a)) :: vs ∧ isO S k a) : cOKo p l e R s m args below meth c Q cc nL D cy z r0 A (n, 0, n1 + 1, rkOf ret, sp) := by
  intro pc lo av rest S cs sl i hi hdec hlen hsum hpre hc hs kk kx
  dsimp only at hi hlen hpre hc hs kk kx
  obtain ⟨a, vs, rfl, hO⟩ := hrecv av S hpre
  have hi : i = .invokevirtual n := by
    rcases hi with ⟨-, h⟩ | ⟨h, -⟩ | ⟨h, -⟩
    · exact h
    · exact absurd h (by decide)
    · exact absurd h (by decide)
  subst hi
  intro ls H locs hl hz hP hD hS
  obtain ⟨q0, hq⟩ := mat (cy := cy) hO
  rw [mE_o hO.2 hk16] at hq
  have hrc := va_recv C.2.2.2.2.2.1 hP hk hq
  have hst : ((Sum.inr (Sum.inr (some a)) :: vs : List MV).reverse ++ rest).map toV = (vs.map toV).reverse ++ (Value.ref a :: rest.map toV) := by
    rw [List.map_append, List.map_reverse, List.map_cons, List.reverse_cons, List.append_assoc]
    rfl
  rw [hst]
  exact mbackX C hz hP hD hS hl (vx_runV (As := vs.map toV) (rest := rest.map toV) ⟨C.1, C.2.1, C.2.2.1, C.2.2.2.1, C.2.2.2.2.1⟩ (hM D cy _ S H.size hpre) (cwV n1 C.2.2.2.2.1 (goodV hw) rfl rfl rfl ⟨rfl, hd⟩ hR) ⟨mPc_blind, hrc, mpre C hz hP hD hS⟩ rfl (by rw [List.length_map]; simpa using hlen) hl.1 rfl (lv_room (by rw [toV_cat]; exact hsum)) hdec ⟨hc, hs⟩) kk kx
theorem cOKx_VW (C : mCx p l s m args meth c cc nL own D cy z r0 A) {y : MethodName} {bytes : ByteArray} {maxL : Nat} {ret : Option FieldType} {hh : List (Nat × Nat × Nat × Nat)} {fr lc n n1 k : Nat} {sp : Sp} {T : u_T} {N : Nat} (hM : CtX l y (Cond.codeWith y bytes maxL ret hh) ret fr lc sp)
    (hw : ∀ w ∈ ([.methodLink own n y, .instanceMethod y, .selects y.cls y y, .initialized y.cls, .codeWith y bytes maxL ret hh] : List Cond), w ∈ lw_good) (hd : y.cls ≠ "java/lang/invoke/MethodHandle" ∧ y.cls ≠ "java/lang/invoke/VarHandle" ∧ (parseMethodDescriptor y.desc).map (fun d => d.parameters.length) = some n1) (hR : fr + 1 ≤ R.frames ∧ 8 + (maxL + 11) + lc ≤ R.locals)
    (hk : vwCl[k]? = some (y.cls, T, N)) (hk16 : k < 16) (hrecv : ∀ av S, sp.1 av S → ∃ a vs, av = .inr (.inr (some a)) :: vs ∧ isO S k a) : cOKo p l e R s m args below meth c Q cc nL D cy z r0 A (n, 0, n1 + 1, rkOf ret, sp) := by
  intro pc lo av rest S cs sl i hi hdec hlen hsum hpre hc hs kk kx
  dsimp only at hi hlen hpre hc hs kk kx
  obtain ⟨a, vs, rfl, hO⟩ := hrecv av S hpre
  have hi : i = .invokevirtual n := by
    rcases hi with ⟨-, h⟩ | ⟨h, -⟩ | ⟨h, -⟩
    · exact h
    · exact absurd h (by decide)
    · exact absurd h (by decide)
  subst hi
  intro ls H locs hl hz hP hD hS
  obtain ⟨q0, hq⟩ := mat (cy := cy) hO
  rw [mE_o hO.2 hk16] at hq
  have hrc := va_recv C.2.2.2.2.2.1 hP hk hq
  have hst : ((Sum.inr (Sum.inr (some a)) :: vs : List MV).reverse ++ rest).map toV = (vs.map toV).reverse ++ (Value.ref a :: rest.map toV) := by
    rw [List.map_append, List.map_reverse, List.map_cons, List.reverse_cons, List.append_assoc]
    rfl
  rw [hst]
  exact mbackX C hz hP hD hS hl (vx_runVX (hh := hh) (As := vs.map toV) (rest := rest.map toV) ⟨C.1, C.2.1, C.2.2.1, C.2.2.2.1, C.2.2.2.2.1⟩ (hM D cy _ S H.size hpre) (vx_cwVW n1 C.2.2.2.2.1 (goodV hw) rfl rfl rfl ⟨rfl, hd⟩ hR) ⟨mPc_blind, hrc, mpre C hz hP hD hS⟩ rfl (by rw [List.length_map]; simpa using hlen) hl.1 rfl (lv_room (by rw [toV_cat]; exact hsum)) hdec ⟨hc, hs⟩) kk kx
/-- static calls -/
theorem cOKx_S (C : mCx p l s m args meth c cc nL own D cy z r0 A) {y : MethodName} {bytes : ByteArray} {maxL : Nat} {ret : Option FieldType} {fr lc n n1 : Nat} {sp : Sp} (hM : CtX l y (Cond.code y bytes maxL ret) ret fr lc sp)
    (hw : ∀ w ∈ ([.methodLink own n y, .static y, .initialized y.cls, .code y bytes maxL ret] : List Cond), w ∈ lw_good) (hd : y.cls ≠ "java/lang/invoke/MethodHandle" ∧ y.cls ≠ "java/lang/invoke/VarHandle" ∧ (parseMethodDescriptor y.desc).map (fun d => d.parameters.length) = some n1) (hR : fr + 1 ≤ R.frames ∧ 8 + (maxL + 11) + lc ≤ R.locals) : cOKo p l e R s m args below meth c Q cc nL D cy z r0 A (n, 2, n1, rkOf ret, sp) := by
  intro pc lo av rest S cs sl i hi hdec hlen hsum hpre hc hs kk kx
  dsimp only at hi hlen hpre hc hs kk kx
  have hi : i = .invokestatic n := by
    rcases hi with ⟨h, -⟩ | ⟨h, -⟩ | ⟨-, h⟩
    · exact absurd h (by decide)
    · exact absurd h (by decide)
    · exact h
  subst hi
  intro ls H locs hl hz hP hD hS
  have ok : ∀ w ∈ ([.methodLink own n y, .static y, .initialized y.cls, .code y bytes maxL ret] : List Cond), w.before args s = true := fun w h => C.2.2.2.2.1 w (hw w h)
  have hG : GoodIn lw_good (Cond.code y bytes maxL ret :: lw_good) := good_all (fun w h9 => by
    rcases List.mem_cons.mp h9 with h9 | h9
    · rw [h9]
      exact hw _ (by simp)
    · exact h9)
  have hst : (av.reverse ++ rest).map toV = (av.map toV).reverse ++ rest.map toV := by
    rw [List.map_append, List.map_reverse]
  rw [hst]
  exact mbackX C hz hP hD hS hl (vx_runS (As := av.map toV) (rest := rest.map toV) (rm := { frames := fr, cells := sp.2.1 av S, slots := sp.2.2.1 av S, locals := lc }) ⟨C.1, C.2.1, C.2.2.1, C.2.2.2.1, C.2.2.2.2.1⟩ (hM D cy _ S H.size hpre) ⟨callB_of n1 C.2.2.2.2.1 hG rfl rfl rfl (ok _ (by simp)) (ok _ (by simp)) hd hR, ok _ (by simp)⟩ ⟨mPc_blind, mpre C hz hP hD hS⟩ rfl (by rw [List.length_map]; exact hlen) hl.1 rfl (lv_room (by rw [toV_cat]; exact hsum)) hdec ⟨hc, hs⟩) kk kx
theorem cOKx_SW (C : mCx p l s m args meth c cc nL own D cy z r0 A) {y : MethodName} {bytes : ByteArray} {maxL : Nat} {ret : Option FieldType} {hh : List (Nat × Nat × Nat × Nat)} {fr lc n n1 : Nat} {sp : Sp} (hM : CtX l y (Cond.codeWith y bytes maxL ret hh) ret fr lc sp)
    (hw : ∀ w ∈ ([.methodLink own n y, .static y, .initialized y.cls, .codeWith y bytes maxL ret hh] : List Cond), w ∈ lw_good) (hd : y.cls ≠ "java/lang/invoke/MethodHandle" ∧ y.cls ≠ "java/lang/invoke/VarHandle" ∧ (parseMethodDescriptor y.desc).map (fun d => d.parameters.length) = some n1) (hR : fr + 1 ≤ R.frames ∧ 8 + (maxL + 11) + lc ≤ R.locals) : cOKo p l e R s m args below meth c Q cc nL D cy z r0 A (n, 2, n1, rkOf ret, sp) := by
  intro pc lo av rest S cs sl i hi hdec hlen hsum hpre hc hs kk kx
  dsimp only at hi hlen hpre hc hs kk kx
  have hi : i = .invokestatic n := by
    rcases hi with ⟨h, -⟩ | ⟨h, -⟩ | ⟨-, h⟩
    · exact absurd h (by decide)
    · exact absurd h (by decide)
    · exact h
  subst hi
  intro ls H locs hl hz hP hD hS
  have hG : GoodIn lw_good (va_wsS own n y (Cond.codeWith y bytes maxL ret hh :: lw_good)) := good_all (fun w h9 => by
    unfold va_wsS at h9
    rcases List.mem_append.mp h9 with h9 | h9
    · exact hw w (by
        simp only [List.mem_cons, List.not_mem_nil, or_false] at h9 ⊢
        rcases h9 with h9 | h9 | h9 <;> simp [h9])
    · rcases List.mem_cons.mp h9 with h9 | h9
      · rw [h9]
        exact hw _ (by simp)
      · exact h9)
  have hst : (av.reverse ++ rest).map toV = (av.map toV).reverse ++ rest.map toV := by
    rw [List.map_append, List.map_reverse]
  rw [hst]
  exact mbackX C hz hP hD hS hl (vx_runSX (hh := hh) (As := av.map toV) (rest := rest.map toV) (rm := { frames := fr, cells := sp.2.1 av S, slots := sp.2.2.1 av S, locals := lc }) ⟨C.1, C.2.1, C.2.2.1, C.2.2.2.1, C.2.2.2.2.1⟩ (hM D cy _ S H.size hpre) (vx_cwSW n1 C.2.2.2.2.1 hG rfl rfl rfl hd hR) ⟨mPc_blind, mpre C hz hP hD hS⟩ rfl (by rw [List.length_map]; exact hlen) hl.1 rfl (lv_room (by rw [toV_cat]; exact hsum)) hdec ⟨hc, hs⟩) kk kx
end MTHR
/-- what an entry of a throw means: the class's entry, the exception's number, its constructor's entry -/
def tOK (own : String) (q : Nat × Nat × Nat) : Prop := Cond.classLink own q.1 (xname q.2.1) ∈ lw_good ∧ Cond.initialized (xname q.2.1) ∈ lw_good ∧ Bundle.fit (xname q.2.1) = true ∧ (∀ w ∈ vx_at0 own q.2.2 (xname q.2.1) ["java/lang/RuntimeException", "java/lang/Exception"], w ∈ lw_good ∨ w ∈ lw_bad) ∧ (∀ w ∈ Cond.classLink own q.1 (xname q.2.1) :: Cond.initialized (xname q.2.1) :: vx_at0 own q.2.2 (xname q.2.1) ["java/lang/RuntimeException", "java/lang/Exception"], vx_ot w = true)
set_option maxHeartbeats 4000000 in
/-- a body that may throw (no handlers), or catch (it lets nothing out) -/
theorem goX {l : Launch} {y : MethodName} {w : Cond} {cc : ByteArray} {nL : Nat} {rt : Option FieldType} {fr lc : Nat} {sp : Sp} (hlt : l.stackTraces = false) (ev : EV) (ini : Bool) (tb : CD) (hx : List XR) (inv : List MV → MM → Nat → Option (List Nat × (Nat → KT))) (hi : ini = true → y.name = "<init>") (ht : chk cc tb = true) (h00 : ∃ i r, tb = (0, i) :: r)
    (hE1 : ∀ q ∈ ev.1, fOK y.cls q.1 q.2) (hE2 : ∀ q ∈ ev.2.1, nOK y.cls q.1 q.2) (hEa : ∀ q ∈ ev.2.2.1, aOK y.cls q.1 q.2) (hE3 : ∀ q ∈ ev.2.2.2.1, Cond.constant y.cls q.1 q.2 ∈ lw_good) (hE4 : ∀ q ∈ ev.2.2.2.2.1, Cond.constantLong y.cls q.1 q.2 ∈ lw_good)
    (hE5 : ∀ (p : Program) (e : Env) (R : Room) (s : State) (m : MethodId) (args : Array Value) (below : List Frame) (meth : Method) (c : Code) (Q : State → Prop) (D : va_G) (cy : Nat → ClassId) (z : Nat) (r : Nat × Nat) (A : Nat → Prop), mCx p l s m args meth c cc nL y.cls D cy z r A → R.frames = fr → R.locals = lc → ∀ q ∈ ev.2.2.2.2.2.1, cOK p l e R s m args below meth c Q cc nL D cy z r A q)
    (hE6 : ∀ q ∈ ev.2.2.2.2.2.2.1, kOK y.cls q.1 q.2) (hE7 : ∀ q ∈ ev.2.2.2.2.2.2.2.1, gOK y.cls q.1 q.2) (hE8 : ∀ q ∈ ev.2.2.2.2.2.2.2.2, tOK y.cls q ∧ 6 ≤ fr ∧ 89 ≤ lc)
    (hxr : ∀ q ∈ hx, q.1.2.2.2 ≠ 0 ∧ Cond.classLink y.cls q.1.2.2.2 (xname q.2) ∈ lw_good) (hx0 : hx = [] ∨ ∀ av S E S', ¬ sp.2.2.2.2 av S E S')
    (hent : ∀ av S, sp.1 av S → msum av ≤ nL ∧ ∃ n, go ev ini nL (sp.2.1 av S) (sp.2.2.1 av S) tb (xhs tb hx) (mthr sp av S) (cuE (inv av S)) (mret rt sp av S) n tb (mloc 0 av) [] S 0 0)
    (hcut : ∀ av S, sp.1 av S → ∀ pc I, inv av S pc = some I → ∀ k lo st S1 cs sl, I.2 k lo st S1 cs sl → ∃ n, go ev ini nL (sp.2.1 av S) (sp.2.2.1 av S) tb (xhs tb hx) (mthr sp av S) (cuB (inv av S) k) (mret rt sp av S) n (seek tb pc) lo st S1 cs sl)
    (D : va_G) (cy : Nat → ClassId) (av : List MV) (S : MM) (sz : Nat) (hpre : sp.1 av S) (p : Program) (e : Env) (s : State) (m : MethodId) (args : Array Value) (below : List Frame) (meth : Method) (c : Code) (s₁ : State) (B : BodyLoose p l y (headSpec (w :: lw_good) { frames := fr, cells := sp.2.1 av S, slots := sp.2.2.1 av S, locals := lc }) cc nL rt e s m args below meth c s₁) (hml : c.maxLocals = nL) (htab : c.exceptionTable.toList = tableOf (hx.map (·.1))) (hv : va_Pc (av.map toV) (mOK D cy S sz) args s) :
    W p l e { frames := fr, cells := sp.2.1 av S, slots := sp.2.2.1 av S, locals := lc } s m args below meth c s.heap [] 0 0 (vx_MQ below (mQc D cy (mA S sz) rt sp av S) (mXC D cy (mA S sz) sp av S) args s (sp.2.1 av S) (sp.2.2.1 av S) (mA S sz)) (entryFrame m args nL) := by
  obtain ⟨rfl, rfl, hP, hD0, hK, hSt, hBad, hAO⟩ := hv
  have hts := atoms_spec (ws := w :: lw_good) B.pre
  have hown : s.vm.findClass y.cls = some m.cls := findClass_of_methodNamed B.named
  have hD : va_D (mA S s.heap.size) (mW cy S) := ⟨hD0.1, fun k q hk => Or.inl (by
    obtain ⟨a, ha, e1⟩ := List.mem_map.mp (List.mem_of_getElem? hk)
    rw [← e1]
    exact ha)⟩
  have C : mCx p l s m (av.map toV).toArray meth c cc nL y.cls D cy (mZ S) (mQ S) (mA S s.heap.size) := ⟨B.exec, B.bytes, hml, hown, fun w hw => hts w (List.mem_cons_of_mem _ hw), hK, fun q hq => Or.inr hq, hSt, hBad, B.notSynchronized, hAO⟩
  have hlocks := B.notSynchronized
  have hrr := B.returns
  have hr : rOK p l e { frames := fr, cells := sp.2.1 av S, slots := sp.2.2.1 av S, locals := lc } s m (av.map toV).toArray below meth c (vx_MQ below (mQc D cy (mA S s.heap.size) rt sp av S) (mXC D cy (mA S s.heap.size) sp av S) (av.map toV).toArray s (sp.2.1 av S) (sp.2.2.1 av S) (mA S s.heap.size)) cc nL D cy (mZ S) (mQ S) (mA S s.heap.size) (mret rt sp av S) := by
    intro pc lo rv S1 cs sl hd hm ls H locs hl hz1 hP1 hD1 hS1
    obtain ⟨m1, m2, m3, m4⟩ := hm
    refine vx_ret ?_
    refine W.widen m3 m4 ?_
    have hq : ∀ t : State, t.heap = H → s.WarmedH t.vm → mQc D cy (mA S s.heap.size) rt sp av S (av.map toV).toArray s (.returned (rv.map toV)) t := fun t ht _ => ⟨⟨rv, S1, rfl, m1, m2, hz1, by rw [ht]; exact hP1, hD1⟩, hS1.F ht⟩
    have m1' := m1
    unfold rtOK at m1'
    split at m1'
    · exact W.vret B.exec B.bytes hrr hq hS1.2.2 hd
    · exact W.iret B.exec B.bytes hrr hq hS1.2.2 hd
    · exact W.zret B.exec B.bytes hrr (by rcases m1' with rfl | rfl <;> decide) hq hS1.2.2 hd
    · exact W.lret B.exec B.bytes hrr hq hS1.2.2 hd
    · exact W.aret B.exec B.bytes hrr (Or.inl ⟨_, rfl⟩) (va_rf_or _) hq hS1.2.2 hd
    · exact W.aret B.exec B.bytes hrr (Or.inr ⟨_, rfl⟩) (va_rf_or _) hq hS1.2.2 hd
    · exact m1'.elim
  have hX : ∀ pc E lo S1 cs sl, xhs tb hx pc E = none → mthr sp av S E S1 cs sl → XJ p l e { frames := fr, cells := sp.2.1 av S, slots := sp.2.2.1 av S, locals := lc } s m (av.map toV).toArray below meth c (vx_MQ below (mQc D cy (mA S s.heap.size) rt sp av S) (mXC D cy (mA S s.heap.size) sp av S) (av.map toV).toArray s (sp.2.1 av S) (sp.2.2.1 av S) (mA S s.heap.size)) nL D cy (mZ S) (mQ S) (mA S s.heap.size) pc E lo S1 cs sl := by
    intro pc E lo S1 cs sl _ hm ls H locs q ce rest hl hz1 hP1 hD1 hS1 hce hcv hcl
    rcases hx0 with hx0 | hx0
    · subst hx0
      exact vx_out (fun x hx9 => by rw [htab] at hx9; cases hx9) hlocks hce hcv hcl (fun t ht _ => ⟨E, S1, rfl, hm.1, hz1, by rw [ht]; exact hP1, hD1, hS1.F ht⟩) hS1.2.2 hm.2.1 hm.2.2
    · exact absurd hm.1 (hx0 _ _ _ _)
  have hT : ∀ q ∈ ev.2.2.2.2.2.2.2.2, xOK p l e { frames := fr, cells := sp.2.1 av S, slots := sp.2.2.1 av S, locals := lc } s m (av.map toV).toArray below meth c (vx_MQ below (mQc D cy (mA S s.heap.size) rt sp av S) (mXC D cy (mA S s.heap.size) sp av S) (av.map toV).toArray s (sp.2.1 av S) (sp.2.2.1 av S) (mA S s.heap.size)) cc nL D cy (mZ S) (mQ S) (mA S s.heap.size) (mthr sp av S) q := by
    intro q hq pc lo st S1 cs sl d0 d3 d4 d7 hsum hm ls H locs hl hz1 hP1 hD1 hS1
    rcases hx0 with hx0 | hx0
    · subst hx0
      obtain ⟨⟨t1, t2, t3, t4, t5⟩, tf, tl⟩ := hE8 q hq
      refine vx_throw0 (names := ["java/lang/RuntimeException", "java/lang/Exception"]) C.1 C.2.1 hlt C.2.2.2.1 t3 (by decide) (C.2.2.2.2.1 _ t1) (C.2.2.2.2.1 _ t2) (fun w9 hw9 => ?_) t5 C.2.2.2.2.2.2.2.1.1 C.2.2.2.2.2.2.2.1.2.1 hS1 (hl.1.trans hml.symm) d0 d3 d4 d7 (fun x hx9 => by rw [htab] at hx9; cases hx9) (by show 5 < fr; omega) ?_ hm.2.1 hm.2.2 hlocks (fun t _ h1 h2 => ?_) hS1.2.2 hm.2.1 hm.2.2
      · rcases t4 w9 hw9 with h | h
        · exact C.2.2.2.2.1 _ h
        · exact va_Nw.use (bad_onT h) (hBad _ h)
      · show ((st.map toV).map fun v => v.category).sum + 81 ≤ lc
        rw [toV_cat]
        omega
      · exact ⟨q.2.1, S1, rfl, hm.1, hz1, hP1.kept (fun k x hx9 => h2 x.1 ((hP1 k x hx9).lt)), hD1, Nat.le_trans hS1.1 h1, fun a h3 h4 => (h2 a (Nat.lt_of_lt_of_le h3 hS1.1)).trans (hS1.2.1 a h3 h4)⟩
    · exact absurd hm.1 (hx0 _ _ _ _)
  have E : eOK p l e { frames := fr, cells := sp.2.1 av S, slots := sp.2.2.1 av S, locals := lc } s m (av.map toV).toArray below meth c (vx_MQ below (mQc D cy (mA S s.heap.size) rt sp av S) (mXC D cy (mA S s.heap.size) sp av S) (av.map toV).toArray s (sp.2.1 av S) (sp.2.2.1 av S) (mA S s.heap.size)) cc nL y.cls D cy (mZ S) (mQ S) (mA S s.heap.size) (mthr sp av S) ev ini :=
    ⟨hE1, hE2, hEa, hE3, hE4, hE5 _ _ _ _ _ _ _ _ _ _ _ _ _ _ _ C rfl rfl, hE6, hE7, hT, fun h => (name_of_methodNamed B.named B.method).1.trans (hi h)⟩
  have hH := fun (pc E : Nat) (h : CD) (h9 : xhs tb hx pc E = some h) => xhs_ok (l := l) (e := e) (R := { frames := fr, cells := sp.2.1 av S, slots := sp.2.2.1 av S, locals := lc }) (below := below) (Q := vx_MQ below (mQc D cy (mA S s.heap.size) rt sp av S) (mXC D cy (mA S s.heap.size) sp av S) (av.map toV).toArray s (sp.2.1 av S) (sp.2.2.1 av S) (mA S s.heap.size)) C hx [] (by simpa using htab) (by simpa using hxr) (fun _ h8 => absurd h8 List.not_mem_nil) h9
  have cuts : ∀ (k : Nat) (pc : Nat) (I : List Nat × (Nat → KT)), inv av S pc = some I → ∀ lo st S1 cs sl, I.2 k lo st S1 cs sl → JJ p l e { frames := fr, cells := sp.2.1 av S, slots := sp.2.2.1 av S, locals := lc } s m (av.map toV).toArray below meth c (vx_MQ below (mQc D cy (mA S s.heap.size) rt sp av S) (mXC D cy (mA S s.heap.size) sp av S) (av.map toV).toArray s (sp.2.1 av S) (sp.2.2.1 av S) (mA S s.heap.size)) nL D cy (mZ S) (mQ S) (mA S s.heap.size) pc lo st S1 cs sl := by
    intro k
    induction k using Nat.strongRecOn with
    | _ k ih =>
      intro pc I hI lo st S1 cs sl h
      obtain ⟨n, h1⟩ := hcut av S hpre pc I hI k lo st S1 cs sl h
      match hq : seek tb pc, h1 with
      | [], h1 => cases n <;> exact h1.elim
      | q :: r9, h1 =>
        have e1 := seek_hd hq
        have hs : (q :: r9) <:+ tb := by
          rw [← hq]
          exact seek_suf tb pc
        rw [← e1]
        refine go_ok C E hr ht hX hH (fun pc2 I2 h2 lo st S1 cs sl h3 => ?_) n q r9 lo st S1 cs sl hs h1
        unfold cuB at h2
        cases h4 : inv av S pc2 with
        | none =>
          rw [h4] at h2
          cases h2
        | some I4 =>
          rw [h4] at h2
          cases h2
          obtain ⟨k2, hk2, h5⟩ := h3
          exact ih k2 hk2 pc2 I4 h4 lo st S1 cs sl h5
  obtain ⟨hlen, n, h1⟩ := hent av S hpre
  obtain ⟨i0, r9, h0⟩ := h00
  have hl := lv_entry (av.map toV) (n := nL) (by rw [sl_len]; exact hlen)
  rw [lg_entry_eq]
  generalize (lg_sl (av.map toV) ++ List.replicate (nL - (lg_sl (av.map toV)).length) Slot.unset).toArray = ls at hl ⊢
  rw [mloc_ok] at hl
  have h2 : go ev ini nL (sp.2.1 av S) (sp.2.2.1 av S) tb (xhs tb hx) (mthr sp av S) (cuE (inv av S)) (mret rt sp av S) n ((0, i0) :: r9) (mloc 0 av) [] S 0 0 := by
    rw [← h0]
    exact h1
  exact go_ok C E hr ht hX hH (fun pc2 I2 h2 lo st S1 cs sl h3 => by
    unfold cuE at h2
    cases h4 : inv av S pc2 with
    | none =>
      rw [h4] at h2
      cases h2
    | some I4 =>
      rw [h4] at h2
      cases h2
      obtain ⟨k2, h5⟩ := h3
      exact cuts k2 pc2 I4 h4 lo st S1 cs sl h5) n (0, i0) r9 (mloc 0 av) [] S 0 0 (by rw [h0]; exact List.suffix_refl _) h2 ls s.heap [] hl ⟨rfl, rfl⟩ hP hD va_S.rf
theorem CtX.of {l : Launch} {y : MethodName} {cc : ByteArray} {nL : Nat} {rt : Option FieldType} {fr lc : Nat} {sp : Sp} (hlt : l.stackTraces = false) (ev : EV) (ini : Bool) (tb : CD) (inv : List MV → MM → Nat → Option (List Nat × (Nat → KT))) (hy : plainName y.cls = true) (hi : ini = true → y.name = "<init>") (ht : chk cc tb = true) (h00 : ∃ i r, tb = (0, i) :: r)
    (hE1 : ∀ q ∈ ev.1, fOK y.cls q.1 q.2) (hE2 : ∀ q ∈ ev.2.1, nOK y.cls q.1 q.2) (hEa : ∀ q ∈ ev.2.2.1, aOK y.cls q.1 q.2) (hE3 : ∀ q ∈ ev.2.2.2.1, Cond.constant y.cls q.1 q.2 ∈ lw_good) (hE4 : ∀ q ∈ ev.2.2.2.2.1, Cond.constantLong y.cls q.1 q.2 ∈ lw_good)
    (hE5 : ∀ (p : Program) (e : Env) (R : Room) (s : State) (m : MethodId) (args : Array Value) (below : List Frame) (meth : Method) (c : Code) (Q : State → Prop) (D : va_G) (cy : Nat → ClassId) (z : Nat) (r : Nat × Nat) (A : Nat → Prop), mCx p l s m args meth c cc nL y.cls D cy z r A → R.frames = fr → R.locals = lc → ∀ q ∈ ev.2.2.2.2.2.1, cOK p l e R s m args below meth c Q cc nL D cy z r A q)
    (hE6 : ∀ q ∈ ev.2.2.2.2.2.2.1, kOK y.cls q.1 q.2) (hE7 : ∀ q ∈ ev.2.2.2.2.2.2.2.1, gOK y.cls q.1 q.2) (hE8 : ∀ q ∈ ev.2.2.2.2.2.2.2.2, tOK y.cls q ∧ 6 ≤ fr ∧ 89 ≤ lc)
    (hent : ∀ av S, sp.1 av S → msum av ≤ nL ∧ ∃ n, go ev ini nL (sp.2.1 av S) (sp.2.2.1 av S) tb (xhs tb []) (mthr sp av S) (cuE (inv av S)) (mret rt sp av S) n tb (mloc 0 av) [] S 0 0)
    (hcut : ∀ av S, sp.1 av S → ∀ pc I, inv av S pc = some I → ∀ k lo st S1 cs sl, I.2 k lo st S1 cs sl → ∃ n, go ev ini nL (sp.2.1 av S) (sp.2.2.1 av S) tb (xhs tb []) (mthr sp av S) (cuB (inv av S) k) (mret rt sp av S) n (seek tb pc) lo st S1 cs sl) : CtX l y (Cond.code y cc nL rt) rt fr lc sp :=
  fun D cy av S sz hpre => vx_ofW hy rfl (fun p e s m args below meth c s₁ B hml htab hv => goX hlt ev ini tb [] inv hi ht h00 hE1 hE2 hEa hE3 hE4 hE5 hE6 hE7 hE8 (fun _ h => absurd h List.not_mem_nil) (Or.inl rfl) hent hcut D cy av S sz hpre p e s m args below meth c s₁ B hml (by
    cases h9 : c.exceptionTable.toList with
    | nil => rfl
    | cons x r => exact (htab x (by rw [h9]; exact List.mem_cons_self)).elim) hv)
theorem CtX.ofH {l : Launch} {y : MethodName} {cc : ByteArray} {nL : Nat} {rt : Option FieldType} {fr lc : Nat} {sp : Sp} (hlt : l.stackTraces = false) (ev : EV) (ini : Bool) (tb : CD) (hx : List XR) (inv : List MV → MM → Nat → Option (List Nat × (Nat → KT))) (hy : plainName y.cls = true) (hi : ini = true → y.name = "<init>") (ht : chk cc tb = true) (h00 : ∃ i r, tb = (0, i) :: r)
    (hE1 : ∀ q ∈ ev.1, fOK y.cls q.1 q.2) (hE2 : ∀ q ∈ ev.2.1, nOK y.cls q.1 q.2) (hEa : ∀ q ∈ ev.2.2.1, aOK y.cls q.1 q.2) (hE3 : ∀ q ∈ ev.2.2.2.1, Cond.constant y.cls q.1 q.2 ∈ lw_good) (hE4 : ∀ q ∈ ev.2.2.2.2.1, Cond.constantLong y.cls q.1 q.2 ∈ lw_good)
    (hE5 : ∀ (p : Program) (e : Env) (R : Room) (s : State) (m : MethodId) (args : Array Value) (below : List Frame) (meth : Method) (c : Code) (Q : State → Prop) (D : va_G) (cy : Nat → ClassId) (z : Nat) (r : Nat × Nat) (A : Nat → Prop), mCx p l s m args meth c cc nL y.cls D cy z r A → R.frames = fr → R.locals = lc → ∀ q ∈ ev.2.2.2.2.2.1, cOK p l e R s m args below meth c Q cc nL D cy z r A q)
    (hE6 : ∀ q ∈ ev.2.2.2.2.2.2.1, kOK y.cls q.1 q.2) (hE7 : ∀ q ∈ ev.2.2.2.2.2.2.2.1, gOK y.cls q.1 q.2) (hE8 : ev.2.2.2.2.2.2.2.2 = [])
    (hxr : ∀ q ∈ hx, q.1.2.2.2 ≠ 0 ∧ Cond.classLink y.cls q.1.2.2.2 (xname q.2) ∈ lw_good) (hx0 : ∀ av S E S', ¬ sp.2.2.2.2 av S E S')
    (hent : ∀ av S, sp.1 av S → msum av ≤ nL ∧ ∃ n, go ev ini nL (sp.2.1 av S) (sp.2.2.1 av S) tb (xhs tb hx) (mthr sp av S) (cuE (inv av S)) (mret rt sp av S) n tb (mloc 0 av) [] S 0 0)
    (hcut : ∀ av S, sp.1 av S → ∀ pc I, inv av S pc = some I → ∀ k lo st S1 cs sl, I.2 k lo st S1 cs sl → ∃ n, go ev ini nL (sp.2.1 av S) (sp.2.2.1 av S) tb (xhs tb hx) (mthr sp av S) (cuB (inv av S) k) (mret rt sp av S) n (seek tb pc) lo st S1 cs sl) : CtX l y (Cond.codeWith y cc nL rt (hx.map (·.1))) rt fr lc sp :=
  fun D cy av S sz hpre => vx_ofWH hy rfl (fun p e s m args below meth c s₁ B hml hv => goX hlt ev ini tb hx inv hi ht h00 hE1 hE2 hEa hE3 hE4 hE5 hE6 hE7 (fun _ h => by rw [hE8] at h; exact absurd h List.not_mem_nil) hxr (Or.inr hx0) hent hcut D cy av S sz hpre p e s m args below meth c s₁ B hml (vx_table (x := y) B (atoms_spec (ws := Cond.codeWith y cc nL rt (hx.map (fun q : XR => q.1)) :: lw_good) B.pre _ List.mem_cons_self)) hv)
