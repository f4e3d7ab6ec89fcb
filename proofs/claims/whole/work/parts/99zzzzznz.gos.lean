/-! ===== The engine once more, for the law: it reads its script, which lies outside of the memory ===== -/
def mstepS (b : Nat) (B : List Int32) (ev : EV) (ini : Bool) (nL Rc Rs : Nat) (tb : CD) (xh : Nat → Nat → Option CD) (xc : Nat → MM → Nat → Nat → Prop) (g : CD → KT) (ret : Option MV → MM → Nat → Nat → Prop) (pc : Nat) (i : Instr) (rest : CD) : KT := match i with
  | .iaload => fun lo st S cs sl => pi st fun i st => pr st fun o st => pa o fun a => ∃ v, (a = b ∧ vp_in i B.length ∧ v = B.getD i.toNatClampNeg 0) ∧ g rest lo (.inl v :: st) S cs sl
  | .arraylength => fun lo st S cs sl => pr st fun o st => pa o fun a => ∃ v, (a = b ∧ v = Int32.ofNat B.length) ∧ g rest lo (.inl v :: st) S cs sl
  | j => mstep ev ini nL Rc Rs tb xh xc g ret pc j rest
def goS (b : Nat) (B : List Int32) (ev : EV) (ini : Bool) (nL Rc Rs : Nat) (tb : CD) (xh : Nat → Nat → Option CD) (xc : Nat → MM → Nat → Nat → Prop) (cu : Nat → Option (List Nat × KT)) (ret : Option MV → MM → Nat → Nat → Prop) : Nat → CD → KT
  | 0, _ => fun _ _ _ _ _ => False
  | _ + 1, [] => fun _ _ _ _ _ => False
  | n + 1, q :: rest => mstepS b B ev ini nL Rc Rs tb xh xc (nxt cu (goS b B ev ini nL Rc Rs tb xh xc cu ret n)) ret q.1 q.2 rest
section GOS
variable {p : Program} {l : Launch} {e : Env} {R : Room} {s : State} {m : MethodId} {args : Array Value} {below : List Frame} {meth : Method} {c : Code} {Q : State → Prop} {cc : ByteArray} {nL : Nat} {own : String} {D : va_G} {cy : Nat → ClassId} {z : Nat} {r0 : Nat × Nat} {A : Nat → Prop} {ev : EV} {ini : Bool} {tb : CD} {xh : Nat → Nat → Option CD} {xc : Nat → MM → Nat → Nat → Prop} {ret : Option MV → MM → Nat → Nat → Prop} {b : Nat} {B : List Int32}
theorem mstepS_o {Rc Rs pc : Nat} {g : CD → KT} {i : Instr} {rest : CD} (h1 : i ≠ .iaload) (h2 : i ≠ .arraylength) : mstepS b B ev ini nL Rc Rs tb xh xc g ret pc i rest = mstep ev ini nL Rc Rs tb xh xc g ret pc i rest := by
  cases i <;> first | rfl | exact absurd rfl h1 | exact absurd rfl h2
theorem ms_sld {pc cs sl : Nat} {g : CD → KT} {rest : CD} {lo : List (Nat × MV)} {st : List MV} {S : MM} (C : mCx p l s m args meth c cc nL own D cy z r0 A) (hX : va_X b B.length (fun j => B.getD j 0) s s.heap) (hb : b < s.heap.size) (hbA : ¬ A b) (hd : decode cc pc = .ok (.iaload, 1)) (hn : ∀ lo st S cs sl, g rest lo st S cs sl → JJ p l e R s m args below meth c Q nL D cy z r0 A (pc + 1) lo st S cs sl) (h : mstepS b B ev ini nL R.cells R.slots tb xh xc g ret pc .iaload rest lo st S cs sl) : JJ p l e R s m args below meth c Q nL D cy z r0 A pc lo st S cs sl := by
  obtain ⟨i, st, rfl, g1⟩ := pi_of h
  obtain ⟨o, st, rfl, g2⟩ := pr_of g1
  obtain ⟨a, rfl, g3⟩ := pa_of g2
  obtain ⟨v, ⟨e1, h2, e2⟩, hg9⟩ := g3
  intro ls H locs hl hz hP hD hS
  have k9 := hn _ _ _ _ _ hg9 ls H locs hl hz hP hD hS
  rw [e2] at k9
  rw [e1]
  exact va_sld C.1 C.2.1 hX hb hbA hS h2 hd k9
theorem ms_slen {pc cs sl : Nat} {g : CD → KT} {rest : CD} {lo : List (Nat × MV)} {st : List MV} {S : MM} (C : mCx p l s m args meth c cc nL own D cy z r0 A) (hX : va_X b B.length (fun j => B.getD j 0) s s.heap) (hb : b < s.heap.size) (hbA : ¬ A b) (hd : decode cc pc = .ok (.arraylength, 1)) (hn : ∀ lo st S cs sl, g rest lo st S cs sl → JJ p l e R s m args below meth c Q nL D cy z r0 A (pc + 1) lo st S cs sl) (h : mstepS b B ev ini nL R.cells R.slots tb xh xc g ret pc .arraylength rest lo st S cs sl) : JJ p l e R s m args below meth c Q nL D cy z r0 A pc lo st S cs sl := by
  obtain ⟨o, st, rfl, g1⟩ := pr_of h
  obtain ⟨a, rfl, g2⟩ := pa_of g1
  obtain ⟨v, ⟨e1, e2⟩, hg9⟩ := g2
  intro ls H locs hl hz hP hD hS
  have k9 := hn _ _ _ _ _ hg9 ls H locs hl hz hP hD hS
  rw [e2] at k9
  rw [e1]
  exact va_slen C.1 C.2.1 hX hb hbA hS hd k9
theorem goS_ok {cu : Nat → Option (List Nat × KT)} (C : mCx p l s m args meth c cc nL own D cy z r0 A) (sX : va_X b B.length (fun j => B.getD j 0) s s.heap) (sb : b < s.heap.size) (sA : ¬ A b) (E : eOK p l e R s m args below meth c Q cc nL own D cy z r0 A xc ev ini) (hr : rOK p l e R s m args below meth c Q cc nL D cy z r0 A ret) (ht : chk cc tb = true) (hX : ∀ pc E lo S cs sl, xh pc E = none → xc E S cs sl → XJ p l e R s m args below meth c Q nL D cy z r0 A pc E lo S cs sl) (hH : ∀ pc E h, xh pc E = some h → h <:+ tb ∧ ∀ lo S cs sl, (∀ q r, h = q :: r → ∀ a, JJ p l e R s m args below meth c Q nL D cy z r0 A q.1 lo [.inr (.inr (some a))] S cs sl) → h ≠ [] → XJ p l e R s m args below meth c Q nL D cy z r0 A pc E lo S cs sl) (hcu : ∀ pc I, cu pc = some I → ∀ lo st S cs sl, I.2 lo st S cs sl → JJ p l e R s m args below meth c Q nL D cy z r0 A pc lo st S cs sl) :
    ∀ (n : Nat) (q : Nat × Instr) (r : CD) (lo : List (Nat × MV)) (st : List MV) (S : MM) (cs sl : Nat), (q :: r) <:+ tb → goS b B ev ini nL R.cells R.slots tb xh xc cu ret n (q :: r) lo st S cs sl → JJ p l e R s m args below meth c Q nL D cy z r0 A q.1 lo st S cs sl
  | 0, q, r, lo, st, S, cs, sl, _, h => h.elim
  | n + 1, q, r, lo, st, S, cs, sl, hs, h => by
    obtain ⟨h1, h2, h3⟩ := chk_at (chk_suf ht hs)
    have hg : ∀ (x : CD) (pc9 : Nat), x <:+ tb → (∀ q2 r2, x = q2 :: r2 → q2.1 = pc9) → ∀ lo st S cs sl, nxt cu (goS b B ev ini nL R.cells R.slots tb xh xc cu ret n) x lo st S cs sl → JJ p l e R s m args below meth c Q nL D cy z r0 A pc9 lo st S cs sl := by
      intro x pc9 hx hp lo st S cs sl h
      match x, hx, hp, h with
      | [], hx, hp, h => exact h.elim
      | q2 :: r2, hx, hp, h =>
        have e1 := hp q2 r2 rfl
        have h9 : (match cu q2.1 with
          | some I => (fun lo st S cs sl => I.2 (pick lo I.1) st S cs sl)
          | none => goS b B ev ini nL R.cells R.slots tb xh xc cu ret n (q2 :: r2)) lo st S cs sl := h
        rw [← e1]
        revert h9
        cases e2 : cu q2.1 with
        | some I => exact fun h9 => JJ_pick (hcu _ I e2 _ _ _ _ _ h9)
        | none => exact fun h9 => goS_ok C sX sb sA E hr ht hX hH hcu n q2 r2 _ _ _ _ _ hx h9
    have hx : ∀ E lo S cs sl, (match xh q.1 E with | some h => ∀ a, nxt cu (goS b B ev ini nL R.cells R.slots tb xh xc cu ret n) h lo [.inr (.inr (some a))] S cs sl | none => xc E S cs sl) → XJ p l e R s m args below meth c Q nL D cy z r0 A q.1 E lo S cs sl := by
      intro E9 lo S cs sl h9
      cases e9 : xh q.1 E9 with
      | none =>
        rw [e9] at h9
        exact hX _ _ _ _ _ _ e9 h9
      | some h8 =>
        rw [e9] at h9
        obtain ⟨s1, s2⟩ := hH _ _ _ e9
        refine s2 lo S cs sl (fun q2 r2 e8 a => ?_) (fun e8 => ?_)
        · exact hg h8 q2.1 s1 (fun q3 r3 e7 => by rw [e8] at e7; cases e7; rfl) _ _ _ _ _ (h9 a)
        · subst e8
          exact h9 0
    have hn := hg r _ ((List.suffix_cons q r).trans hs) h3
    have h : mstepS b B ev ini nL R.cells R.slots tb xh xc (nxt cu (goS b B ev ini nL R.cells R.slots tb xh xc cu ret n)) ret q.1 q.2 r lo st S cs sl := h
    by_cases e1 : q.2 = .iaload
    · rw [e1] at h1 hn h
      exact ms_sld C sX sb sA h1 hn h
    · by_cases e2 : q.2 = .arraylength
      · rw [e2] at h1 hn h
        exact ms_slen C sX sb sA h1 hn h
      · rw [mstepS_o e1 e2] at h
        exact mstep_ok (i := q.2) C E hr (chk_suf ht hs) hx h1 h2 hn (fun t => hg (seek tb t) t (seek_suf tb t) (fun q2 r2 e9 => seek_hd e9)) h
end GOS
