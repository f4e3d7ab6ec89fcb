/-! ===== WeaveText$Bytes ===== -/
/-- the object a with its row d holds the bytes B -/
def By (S : MM) (a d : Nat) (B : List Nat) : Prop := isO S 2 a ∧ mR S 200 a = some d ∧ isO S 16 d ∧ mI S 201 a = nI B.length ∧ B.length ≤ mN S d ∧ mN S d ≤ 32768 ∧ 64 ≤ mN S d ∧ ∀ j, j < B.length → eI S d j &&& 255 = nI (B.getD j 0)
def bAt (B : List Nat) (p : Int32) : Int32 := if p < 0 then 0 else nI (B.getD p.toNatClampNeg 0)
def tX1_get_26 : CD := (26, .ireturn) :: []
def tX1_get_25 : CD := (25, .iand) :: tX1_get_26
def tX1_get_22 : CD := (22, .sipush 255) :: tX1_get_25
def tX1_get_21 : CD := (21, .baload) :: tX1_get_22
def tX1_get_20 : CD := (20, .iload_n 1) :: tX1_get_21
def tX1_get_17 : CD := (17, .getfield 9) :: tX1_get_20
def tX1_get_16 : CD := (16, .aload_n 0) :: tX1_get_17
def tX1_get_13 : CD := (13, .goto 13) :: tX1_get_16
def tX1_get_12 : CD := (12, .iconst 0) :: tX1_get_13
def tX1_get_9 : CD := (9, .if_icmp .lt 7) :: tX1_get_12
def tX1_get_6 : CD := (6, .getfield 15) :: tX1_get_9
def tX1_get_5 : CD := (5, .aload_n 0) :: tX1_get_6
def tX1_get_4 : CD := (4, .iload_n 1) :: tX1_get_5
def tX1_get_1 : CD := (1, .ifCond .lt 11) :: tX1_get_4
def tX1_get_0 : CD := (0, .iload_n 1) :: tX1_get_1
abbrev tX1_get : CD := tX1_get_0
set_option maxRecDepth 100000 in
theorem kX1_get : chk cX1_get tX1_get = true := by decide +kernel
theorem eX1_get_0 {ev : EV} {ini : Bool} {nL Rc Rs : Nat} {cu : Nat → Option KT} {ret : Option MV → MM → Nat → Nat → Prop} {n : Nat} : go ev ini nL Rc Rs tX1_get cu ret (n + 1) tX1_get_0 = mstep ev ini nL Rc Rs tX1_get (nxt cu (go ev ini nL Rc Rs tX1_get cu ret n)) ret 0 (.iload_n 1) tX1_get_1 := rfl
theorem xX1_get_0 {cu : Nat → Option KT} {g : CD → KT} : nxt cu g tX1_get_0 = match cu 0 with
  | some I => I
  | none => g tX1_get_0 := rfl
theorem eX1_get_1 {ev : EV} {ini : Bool} {nL Rc Rs : Nat} {cu : Nat → Option KT} {ret : Option MV → MM → Nat → Nat → Prop} {n : Nat} : go ev ini nL Rc Rs tX1_get cu ret (n + 1) tX1_get_1 = mstep ev ini nL Rc Rs tX1_get (nxt cu (go ev ini nL Rc Rs tX1_get cu ret n)) ret 1 (.ifCond .lt 11) tX1_get_4 := rfl
theorem xX1_get_1 {cu : Nat → Option KT} {g : CD → KT} : nxt cu g tX1_get_1 = match cu 1 with
  | some I => I
  | none => g tX1_get_1 := rfl
theorem jX1_get_1 : seek tX1_get (jt 1 (11)) = tX1_get_12 := rfl
theorem eX1_get_4 {ev : EV} {ini : Bool} {nL Rc Rs : Nat} {cu : Nat → Option KT} {ret : Option MV → MM → Nat → Nat → Prop} {n : Nat} : go ev ini nL Rc Rs tX1_get cu ret (n + 1) tX1_get_4 = mstep ev ini nL Rc Rs tX1_get (nxt cu (go ev ini nL Rc Rs tX1_get cu ret n)) ret 4 (.iload_n 1) tX1_get_5 := rfl
theorem xX1_get_4 {cu : Nat → Option KT} {g : CD → KT} : nxt cu g tX1_get_4 = match cu 4 with
  | some I => I
  | none => g tX1_get_4 := rfl
theorem eX1_get_5 {ev : EV} {ini : Bool} {nL Rc Rs : Nat} {cu : Nat → Option KT} {ret : Option MV → MM → Nat → Nat → Prop} {n : Nat} : go ev ini nL Rc Rs tX1_get cu ret (n + 1) tX1_get_5 = mstep ev ini nL Rc Rs tX1_get (nxt cu (go ev ini nL Rc Rs tX1_get cu ret n)) ret 5 (.aload_n 0) tX1_get_6 := rfl
theorem xX1_get_5 {cu : Nat → Option KT} {g : CD → KT} : nxt cu g tX1_get_5 = match cu 5 with
  | some I => I
  | none => g tX1_get_5 := rfl
theorem eX1_get_6 {ev : EV} {ini : Bool} {nL Rc Rs : Nat} {cu : Nat → Option KT} {ret : Option MV → MM → Nat → Nat → Prop} {n : Nat} : go ev ini nL Rc Rs tX1_get cu ret (n + 1) tX1_get_6 = mstep ev ini nL Rc Rs tX1_get (nxt cu (go ev ini nL Rc Rs tX1_get cu ret n)) ret 6 (.getfield 15) tX1_get_9 := rfl
theorem xX1_get_6 {cu : Nat → Option KT} {g : CD → KT} : nxt cu g tX1_get_6 = match cu 6 with
  | some I => I
  | none => g tX1_get_6 := rfl
theorem eX1_get_9 {ev : EV} {ini : Bool} {nL Rc Rs : Nat} {cu : Nat → Option KT} {ret : Option MV → MM → Nat → Nat → Prop} {n : Nat} : go ev ini nL Rc Rs tX1_get cu ret (n + 1) tX1_get_9 = mstep ev ini nL Rc Rs tX1_get (nxt cu (go ev ini nL Rc Rs tX1_get cu ret n)) ret 9 (.if_icmp .lt 7) tX1_get_12 := rfl
theorem xX1_get_9 {cu : Nat → Option KT} {g : CD → KT} : nxt cu g tX1_get_9 = match cu 9 with
  | some I => I
  | none => g tX1_get_9 := rfl
theorem jX1_get_9 : seek tX1_get (jt 9 (7)) = tX1_get_16 := rfl
theorem eX1_get_12 {ev : EV} {ini : Bool} {nL Rc Rs : Nat} {cu : Nat → Option KT} {ret : Option MV → MM → Nat → Nat → Prop} {n : Nat} : go ev ini nL Rc Rs tX1_get cu ret (n + 1) tX1_get_12 = mstep ev ini nL Rc Rs tX1_get (nxt cu (go ev ini nL Rc Rs tX1_get cu ret n)) ret 12 (.iconst 0) tX1_get_13 := rfl
theorem xX1_get_12 {cu : Nat → Option KT} {g : CD → KT} : nxt cu g tX1_get_12 = match cu 12 with
  | some I => I
  | none => g tX1_get_12 := rfl
theorem eX1_get_13 {ev : EV} {ini : Bool} {nL Rc Rs : Nat} {cu : Nat → Option KT} {ret : Option MV → MM → Nat → Nat → Prop} {n : Nat} : go ev ini nL Rc Rs tX1_get cu ret (n + 1) tX1_get_13 = mstep ev ini nL Rc Rs tX1_get (nxt cu (go ev ini nL Rc Rs tX1_get cu ret n)) ret 13 (.goto 13) tX1_get_16 := rfl
theorem xX1_get_13 {cu : Nat → Option KT} {g : CD → KT} : nxt cu g tX1_get_13 = match cu 13 with
  | some I => I
  | none => g tX1_get_13 := rfl
theorem jX1_get_13 : seek tX1_get (jt 13 (13)) = tX1_get_26 := rfl
theorem eX1_get_16 {ev : EV} {ini : Bool} {nL Rc Rs : Nat} {cu : Nat → Option KT} {ret : Option MV → MM → Nat → Nat → Prop} {n : Nat} : go ev ini nL Rc Rs tX1_get cu ret (n + 1) tX1_get_16 = mstep ev ini nL Rc Rs tX1_get (nxt cu (go ev ini nL Rc Rs tX1_get cu ret n)) ret 16 (.aload_n 0) tX1_get_17 := rfl
theorem xX1_get_16 {cu : Nat → Option KT} {g : CD → KT} : nxt cu g tX1_get_16 = match cu 16 with
  | some I => I
  | none => g tX1_get_16 := rfl
theorem eX1_get_17 {ev : EV} {ini : Bool} {nL Rc Rs : Nat} {cu : Nat → Option KT} {ret : Option MV → MM → Nat → Nat → Prop} {n : Nat} : go ev ini nL Rc Rs tX1_get cu ret (n + 1) tX1_get_17 = mstep ev ini nL Rc Rs tX1_get (nxt cu (go ev ini nL Rc Rs tX1_get cu ret n)) ret 17 (.getfield 9) tX1_get_20 := rfl
theorem xX1_get_17 {cu : Nat → Option KT} {g : CD → KT} : nxt cu g tX1_get_17 = match cu 17 with
  | some I => I
  | none => g tX1_get_17 := rfl
theorem eX1_get_20 {ev : EV} {ini : Bool} {nL Rc Rs : Nat} {cu : Nat → Option KT} {ret : Option MV → MM → Nat → Nat → Prop} {n : Nat} : go ev ini nL Rc Rs tX1_get cu ret (n + 1) tX1_get_20 = mstep ev ini nL Rc Rs tX1_get (nxt cu (go ev ini nL Rc Rs tX1_get cu ret n)) ret 20 (.iload_n 1) tX1_get_21 := rfl
theorem xX1_get_20 {cu : Nat → Option KT} {g : CD → KT} : nxt cu g tX1_get_20 = match cu 20 with
  | some I => I
  | none => g tX1_get_20 := rfl
theorem eX1_get_21 {ev : EV} {ini : Bool} {nL Rc Rs : Nat} {cu : Nat → Option KT} {ret : Option MV → MM → Nat → Nat → Prop} {n : Nat} : go ev ini nL Rc Rs tX1_get cu ret (n + 1) tX1_get_21 = mstep ev ini nL Rc Rs tX1_get (nxt cu (go ev ini nL Rc Rs tX1_get cu ret n)) ret 21 (.baload) tX1_get_22 := rfl
theorem xX1_get_21 {cu : Nat → Option KT} {g : CD → KT} : nxt cu g tX1_get_21 = match cu 21 with
  | some I => I
  | none => g tX1_get_21 := rfl
theorem eX1_get_22 {ev : EV} {ini : Bool} {nL Rc Rs : Nat} {cu : Nat → Option KT} {ret : Option MV → MM → Nat → Nat → Prop} {n : Nat} : go ev ini nL Rc Rs tX1_get cu ret (n + 1) tX1_get_22 = mstep ev ini nL Rc Rs tX1_get (nxt cu (go ev ini nL Rc Rs tX1_get cu ret n)) ret 22 (.sipush 255) tX1_get_25 := rfl
theorem xX1_get_22 {cu : Nat → Option KT} {g : CD → KT} : nxt cu g tX1_get_22 = match cu 22 with
  | some I => I
  | none => g tX1_get_22 := rfl
theorem eX1_get_25 {ev : EV} {ini : Bool} {nL Rc Rs : Nat} {cu : Nat → Option KT} {ret : Option MV → MM → Nat → Nat → Prop} {n : Nat} : go ev ini nL Rc Rs tX1_get cu ret (n + 1) tX1_get_25 = mstep ev ini nL Rc Rs tX1_get (nxt cu (go ev ini nL Rc Rs tX1_get cu ret n)) ret 25 (.iand) tX1_get_26 := rfl
theorem xX1_get_25 {cu : Nat → Option KT} {g : CD → KT} : nxt cu g tX1_get_25 = match cu 25 with
  | some I => I
  | none => g tX1_get_25 := rfl
theorem eX1_get_26 {ev : EV} {ini : Bool} {nL Rc Rs : Nat} {cu : Nat → Option KT} {ret : Option MV → MM → Nat → Nat → Prop} {n : Nat} : go ev ini nL Rc Rs tX1_get cu ret (n + 1) tX1_get_26 = mstep ev ini nL Rc Rs tX1_get (nxt cu (go ev ini nL Rc Rs tX1_get cu ret n)) ret 26 (.ireturn) [] := rfl
theorem xX1_get_26 {cu : Nat → Option KT} {g : CD → KT} : nxt cu g tX1_get_26 = match cu 26 with
  | some I => I
  | none => g tX1_get_26 := rfl
def sp_get : Sp := (fun av S => ∃ a p d B, av = [.inr (.inr (some a)), .inl p] ∧ By S a d B, fun _ _ => 0, fun _ _ => 0, fun av S r S' => S' = S ∧ ∀ a p d B, av = [.inr (.inr (some a)), .inl p] → By S a d B → r = some (.inl (bAt B p)))
def ev_get : EV := (fX1, [], [], [], [], [])
theorem c_X1_get (l : Launch) : Ct l yX1_get cX1_get 2 (some .int) 0 0 sp_get := by
  refine Ct.of ev_get false tX1_get (fun _ _ _ => none) (by decide) (by decide) kX1_get ⟨_, _, rfl⟩ fX1_ok (fun _ h => absurd h List.not_mem_nil) (fun _ h => absurd h List.not_mem_nil) (fun _ h => absurd h List.not_mem_nil) (fun _ _ _ _ _ _ _ _ _ _ _ _ _ _ _ _ _ _ _ h => absurd h List.not_mem_nil) ?_ (fun _ _ _ _ _ h => by cases h)
  rintro av S ⟨a, p, d, B, rfl, hB⟩
  refine ⟨Nat.le_of_ble_eq_true rfl, 30, ?_⟩
  simp only [ev_get, fX1, eX1_get_0, xX1_get_0, eX1_get_1, xX1_get_1, jX1_get_1, eX1_get_4, xX1_get_4, eX1_get_5, xX1_get_5, eX1_get_6, xX1_get_6, eX1_get_9, xX1_get_9, jX1_get_9, eX1_get_12, xX1_get_12, eX1_get_13, xX1_get_13, jX1_get_13, eX1_get_16, xX1_get_16, eX1_get_17, xX1_get_17, eX1_get_20, xX1_get_20, eX1_get_21, xX1_get_21, eX1_get_22, xX1_get_22, eX1_get_25, xX1_get_25, eX1_get_26, xX1_get_26, mstep, mcal, cuE, cuB, mloc, mcat, mget, mput1, mput2, po, pi, pj, pr, pa, pv, look, wr, putf, mread, msum]
  obtain ⟨h1, h2, h3, h4, h5, h6, h7, h8⟩ := id hB
  have hpost : ∀ v : Int32, (∀ d' B', By S a d' B' → v = bAt B' p) → mret (some FieldType.int) sp_get [Sum.inr (Sum.inr (some a)), Sum.inl p] S (some (Sum.inl v)) S 0 0 := fun v hv => ⟨trivial, ⟨rfl, fun a' p' d' B' e hB' => by cases e; rw [hv d' B' hB']⟩, Nat.le_refl _, Nat.le_refl _⟩
  refine ⟨fun hp => ⟨trivial, hpost _ (fun d' B' hB' => ?_)⟩, fun hp => ⟨h1, fun hlt => ⟨h1, ?_⟩, fun hge => ⟨trivial, hpost _ (fun d' B' hB' => ?_)⟩⟩⟩
  · rw [bAt, if_pos hp]; rfl
  · obtain ⟨j, hj, rfl⟩ := nI_of hp
    rw [h2]
    rw [h4] at hlt
    have hjl : j < B.length := (nI_ltI hj (by omega)).mp hlt
    refine ⟨Or.inl h3, ?_, trivial, hpost _ (fun d' B' hB' => ?_)⟩
    · exact vp_in_nI (by omega) (by omega)
    · obtain ⟨g1, g2, g3, g4, g5, g6, g7, g8⟩ := hB'
      have e1 : d' = d := Option.some.inj (g2.symm.trans h2)
      subst e1
      have e2 : B'.length = B.length := (nI_eq (by omega) (by omega)).mp (g4.symm.trans h4)
      rw [bAt, if_neg hp, nI_clamp hj]
      exact g8 j (by omega)
  · obtain ⟨j, hj, rfl⟩ := nI_of hp
    obtain ⟨g1, g2, g3, g4, g5, g6, g7, g8⟩ := hB'
    rw [g4] at hge
    have hjl : B'.length ≤ j := Nat.le_of_not_lt fun q => hge ((nI_ltI hj (by omega)).mpr q)
    rw [bAt, if_neg hp, nI_clamp hj, show B'.getD j 0 = 0 by simp [List.getD_eq_getElem?_getD, List.getElem?_eq_none hjl]]
    rfl
