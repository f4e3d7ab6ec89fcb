/-! ===== The claim ===== -/
/-! THE CLAIM OUT OF ONE WALK OF THE LAW'S BODY. Your part is whole_start (and what it stands on); all else here is the same for every law, but numbers. -/
abbrev R_law : String := RL
theorem lw_flags {l : Launch} (h : l.flags = flags0) : l.stackTraces = false := by
  unfold Launch.stackTraces
  rw [h]
  decide +kernel
def lw_P (b : Addr) (xs : List Int32) (args : Array Value) (s : State) : Prop := args = #[.ref b] ∧ s.IntsAt b xs ∧ xs.length ≤ 384 ∧ (Jvm.Cond.and given_1 narrow_1).before args s = true
def lw_Q (_ : Array Value) (s : State) (o : Outcome) (t : State) : Prop := o = .returned (some (.int 1)) ∧ Framed s o t [] 600128 7301098
def lw_Z (below : List Frame) (a : Array Value) (s : State) : State → Prop := fun t => ∃ o, t.status = .running ∧ Ended t below o ∧ lw_Q a s o t
/-- the law's own end, with 1 on the stack, nothing written that was there before, its room as the claim has it -/
theorem lw_ret {p : Program} {l : Launch} {e : Env} {s : State} {m : MethodId} {below : List Frame} {meth : Method} {c : Code} {b : Nat} (hx : p.tables.exec = Jvm.exec) (hb : c.code = code) (hr : meth.sig.returnType = ret) (hlocks : meth.locks = false) {pc : Nat} {H : Heap} {ls : Array Slot} (hdg : decode code pc = .ok (.ireturn, 1)) : W p l e room_1 s m #[Value.ref b] below meth c H [] 600128 7301098 (lw_Z below #[Value.ref b] s) (F0 m pc ls [.int 1]) := by
  intro T hT X
  obtain ⟨fs, hret, hrun, hended, hW, hframe⟩ := X.leave (v := some (.int 1)) (hlocks := hlocks) (fun h => by rw [hr] at h; cases h)
  have hmeth' : T.vm.method? m = some meth := X.method'
  refine ⟨T.setFrames fs, ?_, .returned (some (.int 1)), hrun, hended, rfl, ⟨_, rfl⟩, hW, hframe⟩
  jvm_step X.here [X.here.top, hx, hb, hdg, hmeth', hr, ret, narrow_b1]
  (try refine ⟨rfl, ?_⟩); (try refine ⟨rfl, ?_⟩)
  first | (intro acts; rw [hret _ acts rfl rfl rfl]) | rw [hret _ _ rfl rfl rfl]
  exact Steps.refl _
set_option maxRecDepth 100000 in
set_option maxHeartbeats 4000000 in
theorem lw_cut {b : Nat} {A : List Int32} {pc : Nat} {I : List Nat × (Nat → KT)} (hI : invL b A pc = some I) {k : Nat} {lo : List (Nat × MV)} {st : List MV} {S1 : MM} {cs sl : Nat} (h : I.2 k lo st S1 cs sl) : GoL k b A pc lo st S1 cs sl := by
  have hm := look_in hI
  rcases List.mem_cons.1 hm with e | hm
  · obtain ⟨rfl, rfl⟩ := Prod.mk.inj e
    exact lwc_lp h
  rcases List.mem_cons.1 hm with e | hm
  · obtain ⟨rfl, rfl⟩ := Prod.mk.inj e
    exact lwc_fd h
  rcases List.mem_cons.1 hm with e | hm
  · obtain ⟨rfl, rfl⟩ := Prod.mk.inj e
    exact lwc_en h
  rcases List.mem_cons.1 hm with e | hm
  · obtain ⟨rfl, rfl⟩ := Prod.mk.inj e
    exact lwc_in h
  rcases List.mem_cons.1 hm with e | hm
  · obtain ⟨rfl, rfl⟩ := Prod.mk.inj e
    exact lwc_dl h
  rcases List.mem_cons.1 hm with e | hm
  · obtain ⟨rfl, rfl⟩ := Prod.mk.inj e
    exact lwc_un h
  rcases List.mem_cons.1 hm with e | hm
  · obtain ⟨rfl, rfl⟩ := Prod.mk.inj e
    exact lwc_len h
  rcases List.mem_cons.1 hm with e | hm
  · obtain ⟨rfl, rfl⟩ := Prod.mk.inj e
    exact lwc_at h
  rcases List.mem_cons.1 hm with e | hm
  · obtain ⟨rfl, rfl⟩ := Prod.mk.inj e
    exact lwc_li h
  rcases List.mem_cons.1 hm with e | hm
  · obtain ⟨rfl, rfl⟩ := Prod.mk.inj e
    exact lwc_fi h
  rcases List.mem_cons.1 hm with e | hm
  · obtain ⟨rfl, rfl⟩ := Prod.mk.inj e
    exact lwc_bl h
  rcases List.mem_cons.1 hm with e | hm
  · obtain ⟨rfl, rfl⟩ := Prod.mk.inj e
    exact lwc_ev h
  rcases List.mem_cons.1 hm with e | hm
  · obtain ⟨rfl, rfl⟩ := Prod.mk.inj e
    exact lwc_hd h
  rcases List.mem_cons.1 hm with e | hm
  · obtain ⟨rfl, rfl⟩ := Prod.mk.inj e
    exact lwc_rl h
  rcases List.mem_cons.1 hm with e | hm
  · obtain ⟨rfl, rfl⟩ := Prod.mk.inj e
    exact lwc_cr h
  rcases List.mem_cons.1 hm with e | hm
  · obtain ⟨rfl, rfl⟩ := Prod.mk.inj e
    exact lwc_mk h
  rcases List.mem_cons.1 hm with e | hm
  · obtain ⟨rfl, rfl⟩ := Prod.mk.inj e
    exact lwc_vi h
  rcases List.mem_cons.1 hm with e | hm
  · obtain ⟨rfl, rfl⟩ := Prod.mk.inj e
    exact lwc_vw h
  rcases List.mem_cons.1 hm with e | hm
  · obtain ⟨rfl, rfl⟩ := Prod.mk.inj e
    exact lwc_df h
  rcases List.mem_cons.1 hm with e | hm
  · obtain ⟨rfl, rfl⟩ := Prod.mk.inj e
    exact lwc_hk h
  rcases List.mem_cons.1 hm with e | hm
  · obtain ⟨rfl, rfl⟩ := Prod.mk.inj e
    exact lwc_an h
  rcases List.mem_cons.1 hm with e | hm
  · obtain ⟨rfl, rfl⟩ := Prod.mk.inj e
    exact lwc_pl h
  rcases List.mem_cons.1 hm with e | hm
  · obtain ⟨rfl, rfl⟩ := Prod.mk.inj e
    exact lwc_ac h
  rcases List.mem_cons.1 hm with e | hm
  · obtain ⟨rfl, rfl⟩ := Prod.mk.inj e
    exact lwc_sd h
  rcases List.mem_cons.1 hm with e | hm
  · obtain ⟨rfl, rfl⟩ := Prod.mk.inj e
    exact lwc_tk h
  rcases List.mem_cons.1 hm with e | hm
  · obtain ⟨rfl, rfl⟩ := Prod.mk.inj e
    exact lwc_ld h
  rcases List.mem_cons.1 hm with e | hm
  · obtain ⟨rfl, rfl⟩ := Prod.mk.inj e
    exact lwc_sy h
  rcases List.mem_cons.1 hm with e | hm
  · obtain ⟨rfl, rfl⟩ := Prod.mk.inj e
    exact lwc_al h
  rcases List.mem_cons.1 hm with e | hm
  · obtain ⟨rfl, rfl⟩ := Prod.mk.inj e
    exact lwc_oc h
  rcases List.mem_cons.1 hm with e | hm
  · obtain ⟨rfl, rfl⟩ := Prod.mk.inj e
    exact lwc_ft h
  rcases List.mem_cons.1 hm with e | hm
  · obtain ⟨rfl, rfl⟩ := Prod.mk.inj e
    exact lwc_cx h
  rcases List.mem_cons.1 hm with e | hm
  · obtain ⟨rfl, rfl⟩ := Prod.mk.inj e
    exact lwc_nx h
  cases hm
/-- what holds at the law's entry: the machine, the code, the tables' words (any of lw_tbl by 'hts w (by decide +kernel)'), the script of L ints xs at the cell b, what the Statement gives of the start (any of its parts by flat_of_before) -/
def lw_At (p : Program) (s : State) (m : MethodId) (meth : Method) (c : Code) (b L : Nat) (xs : Nat → Int32) : Prop :=
  p.tables.exec = Jvm.exec ∧ c.code = code ∧ meth.sig.returnType = ret ∧ c.maxLocals = 8 ∧ s.vm.findClass R_law = some m.cls ∧ (∀ w ∈ lw_tbl, w.before #[Value.ref b] s = true) ∧ va_X b L xs s s.heap ∧ b < s.heap.size ∧ meth.locks = false ∧ (Jvm.Cond.and given_1 narrow_1).before #[Value.ref b] s = true
/-- from the entry, for every script of at most 384 ints, the law comes to its end with true -/
theorem whole_start {p : Program} {e : Env} {s : State} {m : MethodId} {below : List Frame} {meth : Method} {c : Code} (l : Launch) (hlt : l.stackTraces = false) {b L : Nat} {xs : Nat → Int32} (hL : L ≤ 384) (C0 : lw_At p s m meth c b L xs) : W p l e room_1 s m #[Value.ref b] below meth c s.heap [] 0 0 (lw_Z below #[Value.ref b] s) (entryFrame m ([Value.ref b] : List Value).toArray 8) := by
  obtain ⟨hx, hb, hr0, hml, hown, hts, hX0, hbl, hlocks, hgv⟩ := C0
  obtain ⟨D, cy, hK⟩ := st_K hts
  obtain ⟨z, r, hSt⟩ := st_S hts hgv
  obtain ⟨hBad, hAO, hXt⟩ := st_X hts hgv
  have C : mCx p l s m #[Value.ref b] meth c code 8 RL D cy z r (fun q : Nat => s.heap.size ≤ q) := ⟨hx, hb, hml, hown, fun w hw => hts w (List.mem_filter.1 hw).1, hK, fun q h => h, hSt, hBad, hlocks, hAO, hXt⟩
  obtain ⟨A, lA, gA⟩ : ∃ A : List Int32, A.length = L ∧ ∀ j, j < L → A.getD j 0 = xs j := ⟨(List.range L).map xs, by rw [List.length_map, List.length_range], fun j hj => by
    rw [List.getD_eq_getElem?_getD, List.getElem?_map, List.getElem?_range hj]; rfl⟩
  have sX : va_X b A.length (fun j => A.getD j 0) s s.heap := by
    obtain ⟨scr, h1, h2, h3, h4, h5⟩ := hX0
    exact ⟨scr, h1, h2, h3, by rw [lA]; exact h4, fun j hj => by
      show scr.slots[j]? = some (.int (A.getD j 0))
      rw [gA j (by omega)]; exact h5 j (by omega)⟩
  have sA : ¬ (fun q : Nat => s.heap.size ≤ q) b := Nat.not_le.mpr hbl
  have hA : A.length ≤ 384 := by omega
  have hr : rOK p l e room_1 s m #[Value.ref b] below meth c (lw_Z below #[Value.ref b] s) code 8 D cy z r (fun q : Nat => s.heap.size ≤ q) retL := by
    intro pc lo rv S1 cs sl hd hm ls H locs hl hz1 hP1 hD1 hS1
    obtain ⟨rfl, m3, m4⟩ := hm
    refine va_forget (fun q hq => hS1.2.2 q hq) ?_
    refine W.widen m3 m4 ?_
    exact lw_ret hx hb hr0 hlocks hd
  have hXx : ∀ pc E lo S cs sl, xhs tL_law [] pc E = none → (fun (_ : Nat) (_ : MM) (_ _ : Nat) => False) E S cs sl → XJ p l e room_1 s m #[Value.ref b] below meth c (lw_Z below #[Value.ref b] s) 8 D cy z r (fun q : Nat => s.heap.size ≤ q) pc E lo S cs sl := fun _ _ _ _ _ _ _ h => h.elim
  have hH : ∀ pc E h, xhs tL_law [] pc E = some h → h <:+ tL_law ∧ ∀ lo S cs sl, (∀ q r9, h = q :: r9 → ∀ a, JJ p l e room_1 s m #[Value.ref b] below meth c (lw_Z below #[Value.ref b] s) 8 D cy z r (fun q : Nat => s.heap.size ≤ q) q.1 lo [.inr (.inr (some a))] S cs sl) → h ≠ [] → XJ p l e room_1 s m #[Value.ref b] below meth c (lw_Z below #[Value.ref b] s) 8 D cy z r (fun q : Nat => s.heap.size ≤ q) pc E lo S cs sl := fun pc E h h9 => by
    have h9 : (none : Option CD) = some h := h9
    cases h9
  have E : eOK p l e room_1 s m #[Value.ref b] below meth c (lw_Z below #[Value.ref b] s) code 8 RL D cy z r (fun q : Nat => s.heap.size ≤ q) (fun _ _ _ _ => False) evLw false :=
    ⟨fLw_ok, nLw_ok, aLw_ok, iLw_ok, lLw_ok, lw_calls hlt p e room_1 s m #[Value.ref b] below meth c (lw_Z below #[Value.ref b] s) D cy z r (fun q : Nat => s.heap.size ≤ q) C rfl rfl, qLw_ok, gLw_ok, fun _ h => absurd h List.not_mem_nil, fun h => by cases h⟩
  have cuts : ∀ (k : Nat) (pc : Nat) (I : List Nat × (Nat → KT)), invL b A pc = some I → ∀ lo st S1 cs sl, I.2 k lo st S1 cs sl → JJ p l e room_1 s m #[Value.ref b] below meth c (lw_Z below #[Value.ref b] s) 8 D cy z r (fun q : Nat => s.heap.size ≤ q) pc lo st S1 cs sl := by
    intro k
    induction k using Nat.strongRecOn with
    | _ k ih =>
      intro pc I hI lo st S1 cs sl h
      obtain ⟨n, h1⟩ := lw_cut hI h
      match hq : seek tL_law pc, h1 with
      | [], h1 => cases n <;> exact h1.elim
      | q :: r9, h1 =>
        have e1 := seek_hd hq
        have hs : (q :: r9) <:+ tL_law := by
          rw [← hq]
          exact seek_suf tL_law pc
        rw [← e1]
        refine goS_ok C sX hbl sA E hr kL_law hXx hH (fun pc2 I2 h2 lo st S1 cs sl h3 => ?_) n q r9 lo st S1 cs sl hs h1
        unfold cuB at h2
        cases h4 : invL b A pc2 with
        | none =>
          rw [h4] at h2
          cases h2
        | some I4 =>
          rw [h4] at h2
          cases h2
          obtain ⟨k2, hk2, h5⟩ := h3
          exact ih k2 hk2 pc2 I4 h4 lo st S1 cs sl h5
  obtain ⟨n, h1⟩ := lwc_st (r := b) (A := A) (S0 := (([] : List Nat), (fun _ => 0), (fun _ _ => 0), (fun _ _ => none), (fun _ _ => 0), (fun _ => 0), (fun _ _ => 0), (fun _ _ => 0), (fun _ _ => none), z, r)) hA
  have hl := lv_entry ([Value.ref b] : List Value) (n := 8) (Nat.le_of_ble_eq_true rfl)
  rw [lg_entry_eq]
  generalize (lg_sl ([Value.ref b] : List Value) ++ List.replicate (8 - (lg_sl ([Value.ref b] : List Value)).length) Slot.unset).toArray = ls at hl ⊢
  have hP : va_P D vwCl (mW cy (([] : List Nat), (fun _ => 0), (fun _ _ => 0), (fun _ _ => none), (fun _ _ => 0), (fun _ => 0), (fun _ _ => 0), (fun _ _ => 0), (fun _ _ => none), z, r)) s.heap := fun k q h => by cases h
  have hD : va_D (fun q : Nat => s.heap.size ≤ q) (mW cy (([] : List Nat), (fun _ => 0), (fun _ _ => 0), (fun _ _ => none), (fun _ _ => 0), (fun _ => 0), (fun _ _ => 0), (fun _ _ => 0), (fun _ _ => none), z, r)) := ⟨(fun i j p q h => by cases h), (fun k q h => by cases h)⟩
  obtain ⟨q0, r9, h0, e0⟩ : ∃ q0 r9, seek tL_law 0 = q0 :: r9 ∧ q0.1 = 0 := ⟨_, _, rfl, rfl⟩
  rw [h0] at h1
  have J := goS_ok C sX hbl sA E hr kL_law hXx hH (fun pc2 I2 h2 lo st S1 cs sl h3 => by
    unfold cuE at h2
    cases h4 : invL b A pc2 with
    | none =>
      rw [h4] at h2
      cases h2
    | some I4 =>
      rw [h4] at h2
      cases h2
      obtain ⟨k2, h5⟩ := h3
      exact cuts k2 pc2 I4 h4 lo st S1 cs sl h5) n q0 r9 [(0, .inr (.inr (some b)))] [] _ 0 0 (by rw [← h0]; exact seek_suf tL_law 0) h1 ls s.heap [] hl ⟨rfl, rfl⟩ hP hD va_S.rf
  rw [e0] at J
  exact J
set_option maxHeartbeats 4000000 in
theorem lw_walk (l : Launch) (hlt : l.stackTraces = false) (b : Addr) (xs : List Int32) : MetFree l x (headSpec (Jvm.Cond.code x code maxLocals ret :: tables_1) room_1) (lw_P b xs) (fun _ _ _ _ _ => True) lw_Q := by
  refine MetFree.of_bodyS (code := code) (maxLocals := maxLocals) (ret := ret) (by decide) ?_ ?_
  · intro args s m h hn
    obtain ⟨meth, c, h1, h2, h3, h4, h5, h6, -, -⟩ := Cond.code_spec hn (atoms_spec (ws := Jvm.Cond.code x code maxLocals ret :: tables_1) h _ List.mem_cons_self)
    exact ⟨meth, c, h1, h2, h3, h4, h5, h6⟩
  · intro p e s m args below meth c s₁ B hml0 hP _
    obtain ⟨rfl, hx, hbd, hgv⟩ := hP
    obtain ⟨scr, harrAt, hlist, hof, hsmall⟩ := hx
    obtain ⟨hcb, hkn, -, -⟩ := State.arrayAt?_spec harrAt
    have hown : s.vm.findClass R_law = some m.cls := findClass_of_methodNamed B.named
    have hts0 : ∀ c ∈ (Jvm.Cond.code x code maxLocals ret :: tables_1), c.before #[Value.ref b] s = true := atoms_spec (ws := Jvm.Cond.code x code maxLocals ret :: tables_1) B.pre
    have hts : ∀ w ∈ lw_tbl, w.before #[Value.ref b] s = true := k2_hts_sels lw_privs (fun w hw => hts0 w (List.mem_cons_of_mem _ hw)) lw_privs_ok
    have hml : c.maxLocals = 8 := B.maxLocals_eq (hts0 _ List.mem_cons_self)
    have X₀ : Stand p l e room_1 s m #[Value.ref b] below meth c s₁ [] 0 0 := Stand.of_body B
    have hh0 : s₁.heap = s.heap := by rw [B.state]; rfl
    have hsz : scr.slots.size = xs.length := by rw [← Array.length_toList, hlist, List.length_map]
    have hval : ∀ j : Nat, j < xs.length → scr.slots[j]? = some (.int (xs.getD j 0)) := fun j hj => by
      rw [← Array.getElem?_toList, hlist]
      simp [hj]
    have hbl : b < s.heap.size := (Array.getElem?_eq_some_iff.mp hcb).1
    have hX : va_X b xs.length (fun j => xs.getD j 0) s s.heap := ⟨scr, hcb, hof, hkn, hsz, hval⟩
    have K : W p l e room_1 s m #[Value.ref b] below meth c s₁.heap [] 0 0 (lw_Z below #[Value.ref b] s) (entryFrame m ([Value.ref b] : List Value).toArray 8) := by
      rw [hh0]
      exact whole_start l hlt hbd ⟨B.exec, B.bytes, B.returns, hml, hown, hts, hX, hbl, B.notSynchronized, hgv⟩
    obtain ⟨t, a1, o, b1, b2, b3⟩ := K s₁ rfl X₀
    exact ⟨t, o, a1, b1, b2, b3⟩
theorem lw_pre_spec {args : Array Value} {s : State} (h : (Jvm.Cond.and given_1 narrow_1).before args s = true) (hr : rest_1_c.before args s = true) : ∃ (b : Addr) (xs : List Int32), lw_P b xs args s := by
  have hs := flat_of_before _ h
  have hq := flat_of_before _ hr
  have hc : (Cond.count 1).before args s = true := hs _ (by decide +kernel)
  have harr : (Cond.arrayOf (.arg 0) .int).before args s = true := hs _ (by decide +kernel)
  have hle : (Cond.le (.length (.arg 0)) (.int 384)).before args s = true := hs _ (by decide +kernel)
  have hlen : (Cond.isInt (.length (.arg 0))).before args s = true := hq _ (by decide +kernel)
  have hall : (Cond.all (.arg 0) (.isInt (.elem (.arg 0) (.index 0)))).before args s = true := hq _ (by decide +kernel)
  obtain ⟨b, xs, hb, hx⟩ := State.ints_of_pre rfl harr hlen hall
  have hsm : xs.length < 2 ^ 31 := hx.choose_spec.2.2.2
  have hev : (Term.length (.arg 0)).eval args s none [] s = some (.int xs.length.toInt32) := hx.length_eval hb
  have hv := Cond.le_ints hev (show (Term.int 384).eval args s none [] s = some (.int 384) from rfl)
  have hd : xs.length.toInt32 ≤ 384 := by
    simpa [Cond.before, Cond.holds, hv] using hle
  have hN : xs.length ≤ 384 := (Int32.ofNat_le_ofNat hsm (by decide)).mp (show Int32.ofNat xs.length ≤ Int32.ofNat 384 from hd)
  exact ⟨b, xs, Cond.one_arg hc (show args[0]? = some (.ref b) from hb), hx, hN, h⟩
theorem lw_comes (l : Launch) (hlt : l.stackTraces = false) : Comes l x (Jvm.Cond.code x code maxLocals ret :: tables_1) room_1 (fun tb e args s => Calls_1 tb e args s ∧ rest_1 tb e args s ∧ Pre_1 tb e args s)
    (fun _ _ args s o t => lw_Q args s o t) := by
  intro p e ha hc hk s m args below hf hfit hheap happ hpre
  obtain ⟨b, xs, hP⟩ := lw_pre_spec hpre.2.2 hpre.2.1
  obtain ⟨k, o, h1, h2, h3, hQ⟩ := lw_walk l hlt b xs p e ha hc hk s m args below hf ((Spec.applies_iff_loose hf).mp happ).1 hP trivial
  exact ⟨k, o, h1, h2, h3, hQ⟩
theorem lw_frame {s t : State} {o : Outcome} {args : Array Value} (h : Framed s o t [] 600128 7301098) :
    Framed s o t (fieldLocs frame_1_writes args s ++ arrayLocs frame_1_arrays args s ++ staticLocs frame_1_statics s) 600128 7301098 := h
theorem lw_limb (L : Cond) (hL : ∀ (args : Array Value) (s t : State), L.after args s (.returned (some (.int 1))) t = true) :
    ArmFor flags0 classFile x code maxLocals ret World_1 tables_1 room_1 Calls_1 rest_1 Pre_1
      (fun tb e a s o t => postC L tb e a s o t ∧ Framed s o t (fieldLocs frame_1_writes a s ++ arrayLocs frame_1_arrays a s ++ staticLocs frame_1_statics s) 600128 7301098) := by
  intro l hfl _ _ p e ha hc hk s m args below hf hfit hheap happ hpre
  obtain ⟨k, o, h1, h2, h3, rfl, hF⟩ := lw_comes l (lw_flags hfl) p e ha hc hk s m args below hf hfit hheap happ hpre
  exact ⟨k, _, h1, h2, h3, hL args s _, lw_frame hF⟩
theorem i_vc : Claimed_1_1 ∧ Claimed_1_2 := ⟨lw_limb limb_1_1 (fun args s t => by simp [limb_1_1, Cond.after, Cond.holds, Cond.value]), lw_limb limb_1_2 (fun args s t => Cond.after_iff.mpr (by
  first | (rw [show limb_1_2 = Cond.eq .result (.int 1) from rfl, Cond.eq_ints (x := 1) (y := 1) rfl rfl]; simp; done) | (simp [limb_1_2, Cond.value, Term.eval]; done)))⟩
