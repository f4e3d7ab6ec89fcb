/-! ===== CONTRACTS OUT OF RUNS, CALLS OUT OF CONTRACTS ===== -/
/-- which cells a method may change -/
def mA (S : MM) (sz : Nat) : Nat → Prop := fun q => q ∈ mL S ∨ sz ≤ q
/-- the memory S lies in U's heap, and all else that a method rests on -/
def mOK (D : va_G) (cy : Nat → ClassId) (S : MM) (sz : Nat) (U : State) : Prop :=
  U.heap.size = sz ∧ va_P D vwCl (mW cy S) U.heap ∧ va_D (fun _ => True) (mW cy S) ∧ va_K D vwCl (mtys cy) U ∧ mSt (mZ S) (mQ S) (mA S sz) U U.heap ∧ (∀ w ∈ lw_bad, va_Nw w U) ∧ (∀ Cn ∈ mAOs, va_AO Cn U) ∧ mXt U
/-- the result is of the method's type -/
def rtOK (rt : Option FieldType) (rv : Option MV) : Prop := match rt, rv with
  | none, none => True
  | some .int, some (.inl _) => True
  | some .boolean, some (.inl x) => x = 0 ∨ x = 1
  | some .long, some (.inr (.inl _)) => True
  | some (.object _), some (.inr (.inr _)) => True
  | some (.array _), some (.inr (.inr _)) => True
  | _, _ => False
/-- the kind of a method's result -/
def rkOf (rt : Option FieldType) : Nat := match rt with
  | none => 0
  | some .int => 1
  | some .boolean => 1
  | some .long => 2
  | _ => 3
theorem rk_of {rt : Option FieldType} {r : Option MV} (h : rtOK rt r) : rkOK (rkOf rt) r := by
  unfold rtOK at h
  split at h
  · rfl
  · exact ⟨_, rfl⟩
  · exact ⟨_, rfl⟩
  · exact ⟨_, rfl⟩
  · exact ⟨_, rfl⟩
  · exact ⟨_, rfl⟩
  · exact h.elim
def mQc (D : va_G) (cy : Nat → ClassId) (A : Nat → Prop) (rt : Option FieldType) (sp : Sp) (av : List MV) (S : MM) : Array Value → State → Outcome → State → Prop := fun _ st oc t =>
  (∃ (r : Option MV) (S' : MM), oc = .returned (r.map toV) ∧ rtOK rt r ∧ sp.2.2.2.1 av S r S' ∧ (mZ S' = mZ S ∧ mQ S' = mQ S) ∧ va_P D vwCl (mW cy S') t.heap ∧ va_D A (mW cy S')) ∧ va_F A st t
/-- METHOD y (code cc, nL locals, result rt, frames fr and locals' words lc below it) KEEPS THE SPEC sp -/
def Ct (l : Launch) (y : MethodName) (cc : ByteArray) (nL : Nat) (rt : Option FieldType) (fr lc : Nat) (sp : Sp) : Prop :=
  ∀ (D : va_G) (cy : Nat → ClassId) (av : List MV) (S : MM) (sz : Nat), sp.1 av S →
    Met l y (Cond.code y cc nL rt :: lw_good) { frames := fr, cells := sp.2.1 av S, slots := sp.2.2.1 av S, locals := lc } (va_Pc (av.map toV) (mOK D cy S sz)) (mQc D cy (mA S sz) rt sp av S) (sp.2.1 av S) (sp.2.2.1 av S) (mA S sz)
/-- what a body owes at a return -/
def mret (rt : Option FieldType) (sp : Sp) (av : List MV) (S0 : MM) : Option MV → MM → Nat → Nat → Prop := fun rv S cs sl => rtOK rt rv ∧ sp.2.2.2.1 av S0 rv S ∧ cs ≤ sp.2.1 av S0 ∧ sl ≤ sp.2.2.1 av S0
theorem bad_warm {w : Cond} (h : w ∈ lw_bad) {s U : State} (hW : s.WarmedH U.vm) (hz : va_Nw w s) : va_Nw w U := by
  have h1 := (List.mem_filter.mp h).2
  cases w <;> first | exact va_Nw.warmM hW hz | exact va_Nw.warmF hW hz | exact va_Nw.warmC hW hz | exact va_Nw.warmD hW hz | (simp [isBad] at h1)
theorem good_all {ws : List Cond} (h : ∀ w ∈ ws, w ∈ lw_good) : GoodIn lw_good ws := fun w hw => ⟨h w hw, good_of_word (List.mem_filter.mp (h w hw)).2⟩
theorem toV_cat (rest : List MV) : ((rest.map toV).map fun v => v.category).sum = msum rest := by
  induction rest with
  | nil => rfl
  | cons v r ih =>
    show (toV v).category + _ = mcat v + msum r
    rw [mcat_ok]
    exact congrArg (mcat v + ·) ih
theorem mPc_blind {D : va_G} {cy : Nat → ClassId} {S : MM} {sz : Nat} {vs : List Value} : FrameBlind (va_Pc vs (mOK D cy S sz)) := fun a U g mk q => by
  obtain ⟨q0, q1, qP, qD, qK, qS, qB, qA, qX⟩ := q
  exact ⟨q0, q1, qP, qD, va_K.moved (u := U) (U := U.calling g mk a) (Vm.Alike.refl U.vm) qK, mSt.moved (u := U) (U := U.calling g mk a) (Vm.Alike.refl U.vm) qS, fun w hw => va_Nw.same (bad_onT hw) (show U.vm = (U.calling g mk a).vm from rfl) (qB w hw), fun Cn hC => va_AO.moved (u := U) (U := U.calling g mk a) (Vm.Alike.refl U.vm) (qA Cn hC), mXt.moved (u := U) (U := U.calling g mk a) (Vm.Alike.refl U.vm) qX⟩
section MCON
variable {p : Program} {l : Launch} {e : Env} {R : Room} {s : State} {m : MethodId} {args : Array Value} {below : List Frame} {meth : Method} {c : Code} {Q : State → Prop} {cc : ByteArray} {nL : Nat} {own : String} {D : va_G} {cy : Nat → ClassId} {z : Nat} {r0 : Nat × Nat} {A : Nat → Prop}
/-- the callee's start holds -/
theorem mpre (C : mCx p l s m args meth c cc nL own D cy z r0 A) {S : MM} {H : Heap} {locs : List Loc} (hz : mZ S = z ∧ mQ S = r0) (hP : va_P D vwCl (mW cy S) H) (hD : va_D A (mW cy S)) (hS : va_S A s.heap H locs) {vs : List Value} : ∀ U : State, U.heap = H → s.WarmedH U.vm → va_Pc vs (mOK D cy S H.size) vs.toArray U := by
  intro U hU hW
  have hAB : ∀ q, mA S H.size q → A q := fun q hq => by
    rcases hq with hq | hq
    · obtain ⟨k, hk⟩ := va_pl_get (X := []) (f := mE cy S) hq
      exact hD.2 k _ hk
    · exact C.2.2.2.2.2.2.1 q (Nat.le_trans hS.1 hq)
  refine ⟨rfl, by rw [hU], by rw [hU]; exact hP, hD.weaken (fun _ _ _ _ => trivial), va_K.moved hW.alike C.2.2.2.2.2.1, ?_, fun w hw => bad_warm hw hW (C.2.2.2.2.2.2.2.2.1 w hw), fun Cn hC => va_AO.moved hW.alike (C.2.2.2.2.2.2.2.2.2.2.1 Cn hC), mXt.moved hW.alike C.2.2.2.2.2.2.2.2.2.2.2⟩
  rw [hU, hz.1, hz.2]
  exact mSt.moved hW.alike ((C.2.2.2.2.2.2.2.1.kept hS.2.1).narrow hAB)
/-- behind a call -/
theorem mback (C : mCx p l s m args meth c cc nL own D cy z r0 A) {sp : Sp} {av : List MV} {S : MM} {H : Heap} {locs : List Loc} {cs sl pc : Nat} {ls : Array Slot} {st0 : List Value} {a : Array Value} {rest : List MV} {lo : List (Nat × MV)} {rt : Option FieldType} (hz : mZ S = z ∧ mQ S = r0) (hP : va_P D vwCl (mW cy S) H) (hD : va_D A (mW cy S)) (hS : va_S A s.heap H locs) (hl : lv_has ls nL (mlv lo))
    (hr : va_Run p l e R s m args below meth c H locs cs sl (sp.2.1 av S) (sp.2.2.1 av S) (F0 m pc ls st0) (rest.map toV) (mQc D cy (mA S H.size) rt sp av S a) (mA S H.size))
    (kk : ∀ r S', rkOK (rkOf rt) r → sp.2.2.2.1 av S r S' → JJ p l e R s m args below meth c Q nL D cy z r0 A (pc + 3) lo (r.toList ++ rest) S' (cs + sp.2.1 av S) (sl + sp.2.2.1 av S)) : W p l e R s m args below meth c H locs cs sl Q (F0 m pc ls st0) := by
  have hAB : ∀ q, mA S H.size q → A q := fun q hq => by
    rcases hq with hq | hq
    · obtain ⟨k, hk⟩ := va_pl_get (X := []) (f := mE cy S) hq
      exact hD.2 k _ hk
    · exact C.2.2.2.2.2.2.1 q (Nat.le_trans hS.1 hq)
  intro T hT X
  obtain ⟨v, st₀, t, T', L, h0, X', hL, e1, e2, ⟨⟨r, S', hv, hrt, hp, hz1, hP1, hD1⟩, hzz, hk⟩, st⟩ := hr T hT X
  cases hv
  rw [h0] at hzz hk
  rw [← e1] at hP1
  have hS1 : va_S A s.heap T'.heap (locs ++ L) := ⟨Nat.le_trans hS.1 (by rw [e1]; exact hzz), fun q h1 h2 => by rw [e1, hk q (Nat.lt_of_lt_of_le h1 hS.1) (fun z => h2 (hAB q z))]; exact hS.2.1 q h1 h2, fun q hq => by
      rcases List.mem_append.mp hq with h | h
      · exact hS.2.2 q h
      · exact hAB _ (hL q h)⟩
  obtain ⟨t2, a1, b1⟩ := kk r S' (rk_of hrt) hp ls T'.heap (locs ++ L) hl ⟨hz1.1.trans hz.1, hz1.2.trans hz.2⟩ hP1 (hD1.weaken (fun _ q _ hq => hAB _ hq)) hS1 T' rfl X'
  refine ⟨t2, st t2 ?_, b1⟩
  have e9 : (r.toList ++ rest).map toV = (r.map toV).toList ++ rest.map toV := by
    rw [List.map_append]
    cases r <;> rfl
  rw [e9] at a1
  exact a1
/-- a virtual call of a method that keeps its spec -/
theorem cOK_V (C : mCx p l s m args meth c cc nL own D cy z r0 A) {y : MethodName} {bytes : ByteArray} {maxL : Nat} {ret : Option FieldType} {fr lc n n1 k : Nat} {sp : Sp} {T : u_T} {N : Nat} (hM : Ct l y bytes maxL ret fr lc sp)
    (hw : ∀ w ∈ ([.methodLink own n y, .instanceMethod y, .selects y.cls y y, .initialized y.cls, .code y bytes maxL ret] : List Cond), w ∈ lw_good) (hd : y.cls ≠ "java/lang/invoke/MethodHandle" ∧ y.cls ≠ "java/lang/invoke/VarHandle" ∧ (parseMethodDescriptor y.desc).map (fun d => d.parameters.length) = some n1) (hR : fr + 1 ≤ R.frames ∧ 8 + (maxL + 11) + lc ≤ R.locals)
    (hk : vwCl[k]? = some (y.cls, T, N)) (hk16 : k < 16) (hrecv : ∀ av S, sp.1 av S → ∃ a vs, av = .inr (.inr (some a)) :: vs ∧ isO S k a) : cOKo p l e R s m args below meth c Q cc nL D cy z r0 A (n, 0, n1 + 1, rkOf ret, sp) := by
  intro pc lo av rest S cs sl i hi hdec hlen hsum hpre hc hs kk kx
  dsimp only at hi hlen hpre hc hs kk
  obtain ⟨a, vs, rfl, hO⟩ := hrecv av S hpre
  have hi : i = .invokevirtual n := by
    rcases hi with ⟨-, h⟩ | ⟨h, -⟩ | ⟨h, -⟩
    · exact h
    · exact absurd h (by decide)
    · exact absurd h (by decide)
  subst hi
  intro ls H locs hl hz hP hD hS
  have hG : GoodIn lw_good (wsV own n y.cls y (Cond.code y bytes maxL ret :: lw_good)) := good_all (fun w hw9 => by
    unfold wsV at hw9
    rcases List.mem_append.mp hw9 with h9 | h9
    · exact hw w (by
        simp only [List.mem_cons, List.not_mem_nil, or_false] at h9 ⊢
        rcases h9 with h9 | h9 | h9 | h9
        · exact Or.inl h9
        · exact Or.inr (Or.inl h9)
        · exact Or.inr (Or.inr (Or.inl h9))
        · exact Or.inr (Or.inr (Or.inr (Or.inl h9))))
    · rcases List.mem_cons.mp h9 with h9 | h9
      · rw [h9]
        exact hw _ (by simp)
      · exact h9)
  obtain ⟨q0, hq⟩ := mat (cy := cy) hO
  rw [mE_o hO.2 hk16] at hq
  have hrc := va_recv C.2.2.2.2.2.1 hP hk hq
  have hst : ((Sum.inr (Sum.inr (some a)) :: vs : List MV).reverse ++ rest).map toV = (vs.map toV).reverse ++ (Value.ref a :: rest.map toV) := by
    rw [List.map_append, List.map_reverse, List.map_cons, List.reverse_cons, List.append_assoc]
    rfl
  rw [hst]
  exact mback C hz hP hD hS hl (va_runV (As := vs.map toV) (rest := rest.map toV) ⟨C.1, C.2.1, C.2.2.1, C.2.2.2.1, C.2.2.2.2.1⟩ (hM D cy _ S H.size hpre) (cwV n1 C.2.2.2.2.1 hG rfl rfl rfl ⟨rfl, hd⟩ hR) ⟨mPc_blind, hrc, mpre C hz hP hD hS⟩ rfl (by rw [List.length_map]; simpa using hlen) hl.1 rfl (lv_room (by rw [toV_cat]; exact hsum)) hdec ⟨hc, hs⟩) kk
/-- a static call -/
theorem cOK_S (C : mCx p l s m args meth c cc nL own D cy z r0 A) {y : MethodName} {bytes : ByteArray} {maxL : Nat} {ret : Option FieldType} {fr lc n n1 : Nat} {sp : Sp} (hM : Ct l y bytes maxL ret fr lc sp)
    (hw : ∀ w ∈ ([.methodLink own n y, .static y, .initialized y.cls, .code y bytes maxL ret] : List Cond), w ∈ lw_good) (hd : y.cls ≠ "java/lang/invoke/MethodHandle" ∧ y.cls ≠ "java/lang/invoke/VarHandle" ∧ (parseMethodDescriptor y.desc).map (fun d => d.parameters.length) = some n1) (hR : fr + 1 ≤ R.frames ∧ 8 + (maxL + 11) + lc ≤ R.locals) : cOKo p l e R s m args below meth c Q cc nL D cy z r0 A (n, 2, n1, rkOf ret, sp) := by
  intro pc lo av rest S cs sl i hi hdec hlen hsum hpre hc hs kk kx
  dsimp only at hi hlen hpre hc hs kk
  have hi : i = .invokestatic n := by
    rcases hi with ⟨h, -⟩ | ⟨h, -⟩ | ⟨-, h⟩
    · exact absurd h (by decide)
    · exact absurd h (by decide)
    · exact h
  subst hi
  intro ls H locs hl hz hP hD hS
  have ok : ∀ w ∈ ([.methodLink own n y, .static y, .initialized y.cls, .code y bytes maxL ret] : List Cond), w.before args s = true := fun w h => C.2.2.2.2.1 w (hw w h)
  have hG : GoodIn lw_good (Cond.code y bytes maxL ret :: lw_good) := good_all (fun w h9 => by
    rcases List.mem_cons.mp h9 with h9 | h9
    · rw [h9]
      exact hw _ (by simp)
    · exact h9)
  have hst : (av.reverse ++ rest).map toV = (av.map toV).reverse ++ rest.map toV := by
    rw [List.map_append, List.map_reverse]
  rw [hst]
  exact mback C hz hP hD hS hl (va_runS (As := av.map toV) (rest := rest.map toV) (rm := { frames := fr, cells := sp.2.1 av S, slots := sp.2.2.1 av S, locals := lc }) ⟨C.1, C.2.1, C.2.2.1, C.2.2.2.1, C.2.2.2.2.1⟩ (hM D cy _ S H.size hpre) ⟨callB_of n1 C.2.2.2.2.1 hG rfl rfl rfl (ok _ (by simp)) (ok _ (by simp)) hd hR, ok _ (by simp)⟩ ⟨mPc_blind, mpre C hz hP hD hS⟩ rfl (by rw [List.length_map]; exact hlen) hl.1 rfl (lv_room (by rw [toV_cat]; exact hsum)) hdec ⟨hc, hs⟩) kk
/-- a constructor's call, the link plain or of a nest mate -/
theorem cOK_I (C : mCx p l s m args meth c cc nL own D cy z r0 A) {y : MethodName} {bytes : ByteArray} {maxL : Nat} {fr lc n n1 : Nat} {sp : Sp} (hM : Ct l y bytes maxL none fr lc sp)
    (hw : ∀ w ∈ ([.instanceMethod y, .initialized y.cls, .code y bytes maxL none] : List Cond), w ∈ lw_good) (hlk : Cond.methodLink own n y ∈ lw_good ∨ ∃ host, Cond.methodLinkNest own n y host ∈ lw_bad) (hy : y.name = "<init>") (hd : y.cls ≠ "java/lang/invoke/MethodHandle" ∧ y.cls ≠ "java/lang/invoke/VarHandle" ∧ (parseMethodDescriptor y.desc).map (fun d => d.parameters.length) = some n1) (hR : fr + 1 ≤ R.frames ∧ 8 + (maxL + 11) + lc ≤ R.locals)
    (hrecv : ∀ av S, sp.1 av S → ∃ a vs, av = .inr (.inr (some a)) :: vs) : cOKo p l e R s m args below meth c Q cc nL D cy z r0 A (n, 1, n1 + 1, 0, sp) := by
  intro pc lo av rest S cs sl i hi hdec hlen hsum hpre hc hs kk kx
  dsimp only at hi hlen hpre hc hs kk
  obtain ⟨a, vs, rfl⟩ := hrecv av S hpre
  have hi : i = .invokespecial n := by
    rcases hi with ⟨h, -⟩ | ⟨-, h⟩ | ⟨h, -⟩
    · exact absurd h (by decide)
    · exact h
    · exact absurd h (by decide)
  subst hi
  intro ls H locs hl hz hP hD hS
  have ok : ∀ w ∈ ([.instanceMethod y, .initialized y.cls, .code y bytes maxL none] : List Cond), w.before args s = true := fun w h => C.2.2.2.2.1 w (hw w h)
  have hG : GoodIn lw_good (Cond.code y bytes maxL none :: lw_good) := good_all (fun w h9 => by
    rcases List.mem_cons.mp h9 with h9 | h9
    · rw [h9]
      exact hw _ (by simp)
    · exact h9)
  have hst : ((Sum.inr (Sum.inr (some a)) :: vs : List MV).reverse ++ rest).map toV = (vs.map toV).reverse ++ (Value.ref a :: rest.map toV) := by
    rw [List.map_append, List.map_reverse, List.map_cons, List.reverse_cons, List.append_assoc]
    rfl
  rw [hst]
  have hvl : (vs.map toV).length = n1 := by
    rw [List.length_map]
    simpa using hlen
  rcases hlk with hlk | ⟨host, hlk⟩
  · exact mback (rt := none) C hz hP hD hS hl (va_runI (As := vs.map toV) (rest := rest.map toV) (b := a) ⟨C.1, C.2.1, C.2.2.1, C.2.2.2.1, C.2.2.2.2.1⟩ (hM D cy _ S H.size hpre) (cwI n1 C.2.2.2.2.1 hG rfl rfl rfl (ok _ (by simp)) (C.2.2.2.2.1 _ hlk) (ok _ (by simp)) hy hd hR) ⟨mPc_blind, mpre C hz hP hD hS⟩ rfl hvl hl.1 rfl (lv_room (by rw [toV_cat]; exact hsum)) hdec ⟨hc, hs⟩) kk
  · exact mback (rt := none) C hz hP hD hS hl (va_runIN (As := vs.map toV) (rest := rest.map toV) (b := a) ⟨C.1, C.2.1, C.2.2.1, C.2.2.2.1, C.2.2.2.2.1⟩ (hM D cy _ S H.size hpre) ⟨va_cnB n1 C.2.2.2.2.1 hG rfl rfl rfl (C.2.2.2.2.2.2.2.2.1 _ hlk) (ok _ (by simp)) hd hR, hy, ok _ (by simp)⟩ ⟨mPc_blind, mpre C hz hP hD hS⟩ rfl hvl hl.1 rfl (lv_room (by rw [toV_cat]; exact hsum)) hdec ⟨hc, hs⟩) kk
/-- Object's constructor -/
def spObj : Sp := (fun av _ => ∃ a, av = [.inr (.inr (some a))], fun _ _ => 0, fun _ _ => 0, fun _ S r S' => r = none ∧ S' = S, fun _ _ _ _ => False)
theorem cOK_obj (C : mCx p l s m args meth c cc nL own D cy z r0 A) {n : Nat} (hw : ∀ w ∈ ([.methodLink own n Lib.objectInit, .instanceMethod Lib.objectInit, .code Lib.objectInit ⟨#[0xb1]⟩ 1 none] : List Cond), w ∈ lw_good) (hR : 1 ≤ R.frames ∧ 20 ≤ R.locals) : cOKo p l e R s m args below meth c Q cc nL D cy z r0 A (n, 1, 1, 0, spObj) := by
  intro pc lo av rest S cs sl i hi hdec hlen hsum hpre hc hs kk kx
  dsimp only at hi hlen hpre hc hs kk
  obtain ⟨a, rfl⟩ := hpre
  have hi : i = .invokespecial n := by
    rcases hi with ⟨h, -⟩ | ⟨-, h⟩ | ⟨h, -⟩
    · exact absurd h (by decide)
    · exact h
    · exact absurd h (by decide)
  subst hi
  intro ls H locs hl hz hP hD hS
  have ok : ∀ w ∈ ([.methodLink own n Lib.objectInit, .instanceMethod Lib.objectInit, .code Lib.objectInit ⟨#[0xb1]⟩ 1 none] : List Cond), w.before args s = true := fun w h => C.2.2.2.2.1 w (hw w h)
  refine W.objInit C.1 C.2.1 C.2.2.2.1 (ok _ (by simp)) (ok _ (by simp)) (ok _ (by simp)) rfl (hl.1.trans C.2.2.1.symm) rfl hdec hR.1 ?_ (kk none S rfl ⟨rfl, rfl⟩ ls H locs hl hz hP hD hS)
  have h8 := lv_room (m := m) (pc := pc) (ls := ls) (rest := rest.map toV) (st := rest.map toV) (by rw [toV_cat]; exact hsum)
  exact Nat.le_trans (Nat.add_le_add_right h8 12) hR.2
end MCON
/-! a body keeps its spec -/
def cuE (inv : Nat → Option (List Nat × (Nat → KT))) : Nat → Option (List Nat × KT) := fun pc => match inv pc with
  | some I => some (I.1, fun lo st S cs sl => ∃ k, I.2 k lo st S cs sl)
  | none => none
def cuB (inv : Nat → Option (List Nat × (Nat → KT))) (b : Nat) : Nat → Option (List Nat × KT) := fun pc => match inv pc with
  | some I => some (I.1, fun lo st S cs sl => ∃ k, k < b ∧ I.2 k lo st S cs sl)
  | none => none
/-- the locals at the entry -/
def mloc : Nat → List MV → List (Nat × MV)
  | _, [] => []
  | i, v :: vs => (i, v) :: mloc (i + mcat v) vs
theorem mloc_ok : ∀ (vs : List MV) (i : Nat), lv_args i (vs.map toV) = mlv (mloc i vs)
  | [], _ => rfl
  | v :: vs, i => by
    have e1 : (if (toV v).category = 2 then i + 2 else i + 1) = i + mcat v := by
      rw [mcat_ok]
      match v with
      | .inl x => rfl
      | .inr (.inl x) => rfl
      | .inr (.inr x) => rfl
    show (i, toV v) :: lv_args (if (toV v).category = 2 then i + 2 else i + 1) (vs.map toV) = _
    rw [e1, mloc_ok vs]
    rfl
theorem sl_len : ∀ (vs : List MV), (lg_sl (vs.map toV)).length = msum vs
  | [] => rfl
  | v :: vs => by
    have e2 := sl_len vs
    unfold lg_sl at e2 ⊢
    rw [List.map_cons, List.flatMap_cons, List.length_append, e2]
    show _ = mcat v + msum vs
    congr 1
    match v with
    | .inl x => rfl
    | .inr (.inl x) => rfl
    | .inr (.inr none) => rfl
    | .inr (.inr (some a)) => rfl
set_option maxHeartbeats 4000000 in
theorem Ct.of {l : Launch} {y : MethodName} {cc : ByteArray} {nL : Nat} {rt : Option FieldType} {fr lc : Nat} {sp : Sp} (ev : EV) (ini : Bool) (tb : CD) (inv : List MV → MM → Nat → Option (List Nat × (Nat → KT))) (hy : plainName y.cls = true) (hi : ini = true → y.name = "<init>") (ht : chk cc tb = true) (h00 : ∃ i r, tb = (0, i) :: r)
    (hE1 : ∀ q ∈ ev.1, fOK y.cls q.1 q.2) (hE2 : ∀ q ∈ ev.2.1, nOK y.cls q.1 q.2) (hEa : ∀ q ∈ ev.2.2.1, aOK y.cls q.1 q.2) (hE3 : ∀ q ∈ ev.2.2.2.1, Cond.constant y.cls q.1 q.2 ∈ lw_good) (hE4 : ∀ q ∈ ev.2.2.2.2.1, Cond.constantLong y.cls q.1 q.2 ∈ lw_good)
    (hE5 : ∀ (p : Program) (e : Env) (R : Room) (s : State) (m : MethodId) (args : Array Value) (below : List Frame) (meth : Method) (c : Code) (Q : State → Prop) (D : va_G) (cy : Nat → ClassId) (z : Nat) (r : Nat × Nat) (A : Nat → Prop), mCx p l s m args meth c cc nL y.cls D cy z r A → R.frames = fr → R.locals = lc → ∀ q ∈ ev.2.2.2.2.2.1, cOK p l e R s m args below meth c Q cc nL D cy z r A q)
    (hE6 : ∀ q ∈ ev.2.2.2.2.2.2.1, kOK y.cls q.1 q.2) (hE7 : ∀ q ∈ ev.2.2.2.2.2.2.2.1, gOK y.cls q.1 q.2) (hE8 : ev.2.2.2.2.2.2.2.2 = [])
    (hent : ∀ av S, sp.1 av S → msum av ≤ nL ∧ ∃ n, go ev ini nL (sp.2.1 av S) (sp.2.2.1 av S) tb (fun _ _ => none) (fun _ _ _ _ => False) (cuE (inv av S)) (mret rt sp av S) n tb (mloc 0 av) [] S 0 0)
    (hcut : ∀ av S, sp.1 av S → ∀ pc I, inv av S pc = some I → ∀ k lo st S1 cs sl, I.2 k lo st S1 cs sl → ∃ n, go ev ini nL (sp.2.1 av S) (sp.2.2.1 av S) tb (fun _ _ => none) (fun _ _ _ _ => False) (cuB (inv av S) k) (mret rt sp av S) n (seek tb pc) lo st S1 cs sl) : Ct l y cc nL rt fr lc sp := by
  intro D cy av S sz hpre
  refine Met.ofW (cc := cc) (maxL := nL) (ret := rt) hy rfl ?_
  intro p e s m args below meth c s₁ B hml hv
  obtain ⟨rfl, rfl, hP, hD0, hK, hSt, hBad, hAO⟩ := hv
  have hts := atoms_spec (ws := Cond.code y cc nL rt :: lw_good) B.pre
  have hown : s.vm.findClass y.cls = some m.cls := findClass_of_methodNamed B.named
  have hD : va_D (mA S s.heap.size) (mW cy S) := ⟨hD0.1, fun k q hk => Or.inl (by
    obtain ⟨a, ha, e1⟩ := List.mem_map.mp (List.mem_of_getElem? hk)
    rw [← e1]
    exact ha)⟩
  have C : mCx p l s m (av.map toV).toArray meth c cc nL y.cls D cy (mZ S) (mQ S) (mA S s.heap.size) := ⟨B.exec, B.bytes, hml, hown, fun w hw => hts w (List.mem_cons_of_mem _ hw), hK, fun q hq => Or.inr hq, hSt, hBad, B.notSynchronized, hAO⟩
  have hlocks := B.notSynchronized
  have hrr := B.returns
  have hr : rOK p l e { frames := fr, cells := sp.2.1 av S, slots := sp.2.2.1 av S, locals := lc } s m (av.map toV).toArray below meth c (MQ below (mQc D cy (mA S s.heap.size) rt sp av S) (av.map toV).toArray s (sp.2.1 av S) (sp.2.2.1 av S) (mA S s.heap.size)) cc nL D cy (mZ S) (mQ S) (mA S s.heap.size) (mret rt sp av S) := by
    intro pc lo rv S1 cs sl hd hm ls H locs hl hz1 hP1 hD1 hS1
    obtain ⟨m1, m2, m3, m4⟩ := hm
    refine W.widen m3 m4 ?_
    have hq : ∀ t : State, t.heap = H → s.WarmedH t.vm → mQc D cy (mA S s.heap.size) rt sp av S (av.map toV).toArray s (.returned (rv.map toV)) t := fun t ht _ => ⟨⟨rv, S1, rfl, m1, m2, hz1, by rw [ht]; exact hP1, hD1⟩, hS1.F ht⟩
    have m1' := m1
    unfold rtOK at m1'
    split at m1'
    · exact W.vret B.exec B.bytes hrr hq hS1.2.2 hd
    · exact W.iret B.exec B.bytes hrr hq hS1.2.2 hd
    · exact W.zret B.exec B.bytes hrr (by rcases m1' with rfl | rfl <;> decide) hq hS1.2.2 hd
    · exact W.lret B.exec B.bytes hrr hq hS1.2.2 hd
    · exact W.aret B.exec B.bytes hrr (Or.inl ⟨_, rfl⟩) (va_rf_or _) hq hS1.2.2 hd
    · exact W.aret B.exec B.bytes hrr (Or.inr ⟨_, rfl⟩) (va_rf_or _) hq hS1.2.2 hd
    · exact m1'.elim
  have E : eOK p l e { frames := fr, cells := sp.2.1 av S, slots := sp.2.2.1 av S, locals := lc } s m (av.map toV).toArray below meth c (MQ below (mQc D cy (mA S s.heap.size) rt sp av S) (av.map toV).toArray s (sp.2.1 av S) (sp.2.2.1 av S) (mA S s.heap.size)) cc nL y.cls D cy (mZ S) (mQ S) (mA S s.heap.size) (fun _ _ _ _ => False) ev ini :=
    ⟨hE1, hE2, hEa, hE3, hE4, hE5 _ _ _ _ _ _ _ _ _ _ _ _ _ _ _ C rfl rfl, hE6, hE7, fun q hq => by rw [hE8] at hq; exact absurd hq List.not_mem_nil, fun h => (name_of_methodNamed B.named B.method).1.trans (hi h)⟩
  have cuts : ∀ (k : Nat) (pc : Nat) (I : List Nat × (Nat → KT)), inv av S pc = some I → ∀ lo st S1 cs sl, I.2 k lo st S1 cs sl → JJ p l e { frames := fr, cells := sp.2.1 av S, slots := sp.2.2.1 av S, locals := lc } s m (av.map toV).toArray below meth c (MQ below (mQc D cy (mA S s.heap.size) rt sp av S) (av.map toV).toArray s (sp.2.1 av S) (sp.2.2.1 av S) (mA S s.heap.size)) nL D cy (mZ S) (mQ S) (mA S s.heap.size) pc lo st S1 cs sl := by
    intro k
    induction k using Nat.strongRecOn with
    | _ k ih =>
      intro pc I hI lo st S1 cs sl h
      obtain ⟨n, h1⟩ := hcut av S hpre pc I hI k lo st S1 cs sl h
      match hq : seek tb pc, h1 with
      | [], h1 => cases n <;> exact h1.elim
      | q :: r9, h1 =>
        have e1 := seek_hd hq
        have hs : (q :: r9) <:+ tb := by
          rw [← hq]
          exact seek_suf tb pc
        rw [← e1]
        refine go_ok C E hr ht (fun _ _ _ _ _ _ _ h9 => h9.elim) (fun _ _ _ h9 => by cases h9) (fun pc2 I2 h2 lo st S1 cs sl h3 => ?_) n q r9 lo st S1 cs sl hs h1
        unfold cuB at h2
        cases h4 : inv av S pc2 with
        | none =>
          rw [h4] at h2
          cases h2
        | some I4 =>
          rw [h4] at h2
          cases h2
          obtain ⟨k2, hk2, h5⟩ := h3
          exact ih k2 hk2 pc2 I4 h4 lo st S1 cs sl h5
  obtain ⟨hlen, n, h1⟩ := hent av S hpre
  obtain ⟨i0, r9, h0⟩ := h00
  have hl := lv_entry (av.map toV) (n := nL) (by rw [sl_len]; exact hlen)
  rw [lg_entry_eq]
  generalize (lg_sl (av.map toV) ++ List.replicate (nL - (lg_sl (av.map toV)).length) Slot.unset).toArray = ls at hl ⊢
  rw [mloc_ok] at hl
  have h2 : go ev ini nL (sp.2.1 av S) (sp.2.2.1 av S) tb (fun _ _ => none) (fun _ _ _ _ => False) (cuE (inv av S)) (mret rt sp av S) n ((0, i0) :: r9) (mloc 0 av) [] S 0 0 := by
    rw [← h0]
    exact h1
  exact go_ok C E hr ht (fun _ _ _ _ _ _ _ h9 => h9.elim) (fun _ _ _ h9 => by cases h9) (fun pc2 I2 h2 lo st S1 cs sl h3 => by
    unfold cuE at h2
    cases h4 : inv av S pc2 with
    | none =>
      rw [h4] at h2
      cases h2
    | some I4 =>
      rw [h4] at h2
      cases h2
      obtain ⟨k2, h5⟩ := h3
      exact cuts k2 pc2 I4 h4 lo st S1 cs sl h5) n (0, i0) r9 (mloc 0 av) [] S 0 0 (by rw [h0]; exact List.suffix_refl _) h2 ls s.heap [] hl ⟨rfl, rfl⟩ hP hD va_S.rf
