/-! ===== The law: its entry, its start ===== -/
def Q00 : Ab := ((fun _ => e0), (fun _ => T0), (fun _ => []), (fun _ _ _ => 0), [], (fun _ => []), 0, 0, (fun _ => none), (fun _ => 0), [], [], (fun _ => none), (fun _ => none))
theorem LIv0 : LIv Q00 R0 := by
  refine ⟨⟨rfl, rfl, rfl, rfl, rfl, rfl, rfl, rfl, rfl, rfl, rfl, rfl⟩, fun i p h => ?_, fun i p h => ?_, fun n hn => ⟨e0_gt, fun s hs => absurd hs (Nat.not_lt_zero _), Nat.zero_le _, rfl, fun k e c h => ?_⟩, fun _ => ⟨fun p hp k hk => absurd hk (Nat.not_lt_zero _), fun i hi hf => ?_⟩⟩
  · cases (show (none : Option Nat) = some p from h)
  · cases (show (none : Option Nat) = some p from h)
  · have h : ([] : List (Nat × Nat))[k]? = some e := h
    rw [List.getElem?_nil] at h
    cases h
  · have h7 : 7 ≤ ([] : List Nat).length := hf.1
    exact absurd h7 (by decide)
theorem LIk0 : LIk kz0 kzI := ⟨by decide, fun p hp => by
  have e : kz0 (30 + p) = 0 := if_pos ⟨by omega, by omega⟩
  rw [e]; exact ⟨Or.inl rfl, by decide⟩, by decide, by decide, by decide, by decide, by decide, by decide, ⟨by decide, by decide⟩, by decide⟩
theorem FO.nw {S : MM} {F : Nat → Nat × Nat} {q : Nat} (h : FO S F) (hq : q ∉ mL S) : F q = (0, 0) := by
  by_cases e : F q = (0, 0)
  · exact e
  · exact absurd (h q e) hq
set_option maxRecDepth 100000 in
set_option maxHeartbeats 4000000 in
theorem lwc_st {r : Nat} {A : List Int32} {S0 : MM} (hA : A.length ≤ 384) : ∃ n, goS r A evLw false 8 600128 7301098 tL_law (xhs tL_law []) (fun _ _ _ _ => False) (cuE (invL r A)) retL n (seek tL_law 0) [(0, .inr (.inr (some r)))] [] S0 0 0 := by
  refine ⟨300, ?_⟩
  show (0 + 1 ≤ 600128 ∧ 0 + 15 ≤ 7301098 ∧ ∀ q_1, q_1 ∉ mL S0 → (1 = 1 ∧ (∃ (F_2 : Nat → Nat × Nat), (isO (nO S0 q_1 12) 12 q_1 ∧ FO (nO S0 q_1 12) F_2 ∧ (∀ b, ¬ cO (F_2 b).1)) ∧ 0 + 1 + 140 ≤ 600128 ∧ 0 + 15 + 8844 ≤ 7301098 ∧ (∀ (S_3 : MM), (xiP (nO S0 q_1 12) S_3 F_2 q_1) → (0 + 1 + 140 + 1 ≤ 600128 ∧ 0 + 15 + 8844 + 52 ≤ 7301098 ∧ ∀ q_4, q_4 ∉ mL S_3 → (1 = 1 ∧ (∃ (F_5 : Nat → Nat × Nat), (isO (nO S_3 q_4 15) 15 q_4 ∧ FO (nO S_3 q_4 15) F_5 ∧ ∀ f, f ∈ mF5 → mI (nO S_3 q_4 15) f q_4 = 0) ∧ 0 + 1 + 140 + 1 + 215 ≤ 600128 ∧ 0 + 15 + 8844 + 52 + 1431400 ≤ 7301098 ∧ (∀ (S_6 : MM), (miP (nO S_3 q_4 15) S_6 F_5 q_4) → (¬ (1 : Int32) < 0 ∧ (1 : Int32).toNatClampNeg * 8 ≤ 536870912 ∧ 0 + 1 + 140 + 1 + 215 + 1 ≤ 600128 ∧ 0 + 15 + 8844 + 52 + 1431400 + (1 : Int32).toNatClampNeg ≤ 7301098 ∧ ∀ q_7, q_7 ∉ mL S_6 → (∃ k1, I_lp r A k1 [(0, .inr (.inr (some r))), (1, .inr (.inr (some q_1))), (2, .inr (.inr (some q_4))), (3, .inr (.inr (some q_7))), (4, .inl (0 : Int32))] [] (nA S_6 q_7 18 (1 : Int32).toNatClampNeg) (0 + 1 + 140 + 1 + 215 + 1) (0 + 15 + 8844 + 52 + 1431400 + (1 : Int32).toNatClampNeg)))))))))))
  refine ⟨by decide, by decide, fun t ht => ⟨rfl, fun _ => (0, 0), ⟨⟨List.mem_append_right _ List.mem_cons_self, va_up_self _ _ _⟩, fun b hb => absurd rfl hb, fun b hb => hb.1 rfl⟩, by decide, by decide, fun S3 h3 => ?_⟩⟩
  obtain ⟨F1, X, w1, w2, w3⟩ := h3
  refine ⟨by decide, by decide, fun m hm => ⟨rfl, F1, ⟨⟨List.mem_append_right _ List.mem_cons_self, va_up_self _ _ _⟩, fun b hb => List.mem_append_left _ (w1.fo b hb), fun f hf => if_pos rfl⟩, by decide, by decide, fun S6 h6 => ?_⟩⟩
  obtain ⟨F2, z, Y, v1, v2, v3⟩ := h6
  refine ⟨by decide, by decide, by decide, by decide, fun o ho => ⟨302, ?_⟩⟩
  rw [show (1 : Int32).toNatClampNeg = 1 from by decide]
  have hm0 : F1 m = (0, 0) := w1.fo.nw hm
  have ho0 : F2 o = (0, 0) := FO.nw (v1 12) ho
  have k1 : Keep (fun c => c = m) S3 (nO S3 m 15) := Keep.nO Keep.rf hm
  have k2 : Keep (fun b => ¬ cO (F1 b).1) S3 S6 := (k1.tr v3).mono (fun b _ e q => by
    have e : b = m := e
    rw [e, hm0] at q
    exact q.1 rfl)
  have f2 : ∀ b, b ∈ mL S3 → F2 b = F1 b := fun b hb => v2 b (List.mem_append_left _ hb) (fun e => hm (e ▸ hb))
  have wt : WT S6 F2 t X kz0 Q00 := WT.kpR w1 k2 f2 (v1 12)
  have k3 : Keep (fun c => c = o) S6 (nA S6 o 18 1) := Keep.nA Keep.rf ho
  have fo : FO (nA S6 o 18 1) F2 := fun b hb => List.mem_append_left _ (v1 12 b hb)
  have wt7 : WT (nA S6 o 18 1) F2 t X kz0 Q00 := wt.kpR (k3.mono (fun b _ e q => by
    have e : b = o := e
    rw [e, ho0] at q
    exact q.1 rfl)) (fun _ _ => rfl) fo
  have md7 : MD (nA S6 o 18 1) F2 m z Y R0 kzI := v1.kpW k3 (fun b hb e => by
    have e : b = o := e
    rw [e, ho0] at hb
    exact absurd hb (by decide)) (fun _ _ => rfl) fo
  refine ⟨0, t, m, o, F2, X, kz0, Q00, z, Y, R0, kzI, rfl, by decide, hA, ⟨⟨wt7, md7, ⟨⟨List.mem_append_right _ List.mem_cons_self, va_up_self _ _ _⟩, va_up_self _ _ _, by rw [ho0]⟩, rfl, rfl⟩, LIv0, LIk0, ?_, ?_⟩, rfl, rfl⟩
  · unfold cB
    omega
  · unfold zB
    omega
set_option maxRecDepth 100000 in
set_option maxHeartbeats 4000000 in
theorem st_K {s : State} {args : Array Value} (hts : ∀ w ∈ lw_tbl, w.before args s = true) : ∃ (D : va_G) (cy : Nat → ClassId), va_K D vwCl (mtys cy) s := by
  have tg : ∀ w ∈ lw_good, w.before args s = true := fun w hw => hts w (List.mem_filter.1 hw).1
  obtain ⟨c0, i0, k0⟩ := u_known (C := RJx4a65c) (T := TJx4a65c) (N := 3) (n := 3) tg igJx4a65c (hts (.instantiable RJx4a65c 3) (List.mem_of_getElem? (i := 237) (by decide +kernel)))
  obtain ⟨c1, i1, k1⟩ := u_known (C := RX0) (T := TX0) (N := 3) (n := 3) tg igX0 (hts (.instantiable RX0 3) (List.mem_of_getElem? (i := 231) (by decide +kernel)))
  obtain ⟨c2, i2, k2⟩ := u_known (C := RX1) (T := TX1) (N := 3) (n := 3) tg igX1 (hts (.instantiable RX1 3) (List.mem_of_getElem? (i := 161) (by decide +kernel)))
  obtain ⟨c3, i3, k3⟩ := u_known (C := RX2) (T := TX2) (N := 3) (n := 3) tg igX2 (hts (.instantiable RX2 3) (List.mem_of_getElem? (i := 416) (by decide +kernel)))
  obtain ⟨c4, i4, k4⟩ := u_known (C := RX3) (T := TX3) (N := 2) (n := 2) tg igX3 (hts (.instantiable RX3 2) (List.mem_of_getElem? (i := 1037) (by decide +kernel)))
  obtain ⟨c5, i5, k5⟩ := u_known (C := RX4) (T := TX4) (N := 16) (n := 16) tg igX4 (hts (.instantiable RX4 16) (List.mem_of_getElem? (i := 229) (by decide +kernel)))
  obtain ⟨c6, i6, k6⟩ := u_known (C := RX5) (T := TX5) (N := 12) (n := 12) tg igX5 (hts (.instantiable RX5 12) (List.mem_of_getElem? (i := 223) (by decide +kernel)))
  obtain ⟨c7, i7, k7⟩ := u_known (C := RX6) (T := TX6) (N := 6) (n := 6) tg igX6 (hts (.instantiable RX6 6) (List.mem_of_getElem? (i := 188) (by decide +kernel)))
  obtain ⟨c8, i8, k8⟩ := u_known (C := RX7) (T := TX7) (N := 5) (n := 5) tg igX7 (hts (.instantiable RX7 5) (List.mem_of_getElem? (i := 454) (by decide +kernel)))
  obtain ⟨c9, i9, k9⟩ := u_known (C := RX8) (T := TX8) (N := 20) (n := 20) tg igX8 (hts (.instantiable RX8 20) (List.mem_of_getElem? (i := 534) (by decide +kernel)))
  obtain ⟨c10, i10, k10⟩ := u_known (C := RX9) (T := TX9) (N := 15) (n := 15) tg igX9 (hts (.instantiable RX9 15) (List.mem_of_getElem? (i := 480) (by decide +kernel)))
  obtain ⟨c11, i11, k11⟩ := u_known (C := RX10) (T := TX10) (N := 6) (n := 6) tg igX10 (hts (.instantiable RX10 6) (List.mem_of_getElem? (i := 217) (by decide +kernel)))
  obtain ⟨c12, i12, k12⟩ := u_known (C := RX11) (T := TX11) (N := 15) (n := 15) tg igX11 (hts (.instantiable RX11 15) (List.mem_of_getElem? (i := 153) (by decide +kernel)))
  obtain ⟨c13, i13, k13⟩ := u_known (C := RX12) (T := TX12) (N := 27) (n := 27) tg igX12 (hts (.instantiable RX12 27) (List.mem_of_getElem? (i := 1642) (by decide +kernel)))
  obtain ⟨c14, i14, k14⟩ := u_known (C := RX13) (T := TX13) (N := 2) (n := 2) tg igX13 (hts (.instantiable RX13 2) (List.mem_of_getElem? (i := 1626) (by decide +kernel)))
  obtain ⟨c15, i15, k15⟩ := u_known (C := RX14) (T := TX14) (N := 52) (n := 52) tg igX14 (hts (.instantiable RX14 52) (List.mem_of_getElem? (i := 1615) (by decide +kernel)))
  have pA : ∀ ty ∈ ([.int, .byte, .long, .short, .boolean] : List FieldType), ∃ cA, ArrOfT s cA ty ∧ s.vm.findClass ("[" ++ ty.toString) = some cA := fun ty ht => by
    obtain ⟨c, k, comp, h1, h2, h3⟩ := Cond.arrayClass_spec (tg _ (aC ty ht))
    exact ⟨c, fun n z => ⟨(fun k h => by cases h), k, h2, comp, h3⟩, h1⟩
  have oA : ∀ C : String, (Cond.arrayOver (.object C)).before args s = true → ∃ cA, ArrOfT s cA (.object C) ∧ va_RA s cA (.object C) := fun C h => by
    obtain ⟨comp, c, k, h1, -, h3, h4, h5⟩ := Cond.arrayOver_spec h
    exact ⟨c, fun n z => ⟨(fun k h => by cases h), k, h3, comp, h4⟩, k, comp, h3, h4, h1, h5⟩
  have gA : ∀ t : FieldType, va_AOA t s → ∃ cA, ArrOfT s cA (.array t) ∧ s.vm.findClass ("[" ++ (FieldType.array t).toString) = some cA := fun t h => by
    obtain ⟨comp, c, k, h1, h3, h4, h5⟩ := h.at
    exact ⟨c, fun n z => ⟨(fun k h => by cases h), k, h3, comp, h4⟩, h5⟩
  obtain ⟨a0, b0, d0⟩ := pA .byte (by decide)
  obtain ⟨a1, b1, d1⟩ := pA .int (by decide)
  obtain ⟨a2, b2, d2⟩ := pA .long (by decide)
  obtain ⟨a3, b3, d3⟩ := pA .short (by decide)
  obtain ⟨a4, b4, d4⟩ := pA .boolean (by decide)
  obtain ⟨a5, b5, d5⟩ := oA RX0 (hts (.arrayOver (.object RX0)) (List.mem_of_getElem? (i := 363) (by decide +kernel)))
  obtain ⟨a6, b6, d6⟩ := oA RX1 (hts (.arrayOver (.object RX1)) (List.mem_of_getElem? (i := 184) (by decide +kernel)))
  obtain ⟨a7, b7, d7⟩ := oA RX4 (hts (.arrayOver (.object RX4)) (List.mem_of_getElem? (i := 216) (by decide +kernel)))
  obtain ⟨a8, b8, d8⟩ := oA RX10 (hts (.arrayOver (.object RX10)) (List.mem_of_getElem? (i := 186) (by decide +kernel)))
  obtain ⟨a9, b9, d9⟩ := oA RX12 (hts (.arrayOver (.object RX12)) (List.mem_of_getElem? (i := 1621) (by decide +kernel)))
  obtain ⟨a10, b10, d10⟩ := oA "java/lang/Object" (hts (.arrayOver (.object "java/lang/Object")) (List.mem_of_getElem? (i := 1003) (by decide +kernel)))
  obtain ⟨a11, b11, d11⟩ := gA .byte (hts (.arrayOver (.array .byte)) (List.mem_of_getElem? (i := 1624) (by decide +kernel)))
  obtain ⟨a12, b12, d12⟩ := gA .int (hts (.arrayOver (.array .int)) (List.mem_of_getElem? (i := 413) (by decide +kernel)))
  refine ⟨(fun k => [c0, c1, c2, c3, c4, c5, c6, c7, c8, c9, c10, c11, c12, c13, c14, c15].getD k c0, fun k => [i0, i1, i2, i3, i4, i5, i6, i7, i8, i9, i10, i11, i12, i13, i14, i15].getD k i0), fun k => [a0, a1, a2, a3, a4, a5, a6, a7, a8, a9, a10, a11, a12].getD (k - 16) a0, ?_, ?_⟩
  · intro k q hq
    match k, hq with
    | 0, hq => cases hq; exact k0
    | 1, hq => cases hq; exact k1
    | 2, hq => cases hq; exact k2
    | 3, hq => cases hq; exact k3
    | 4, hq => cases hq; exact k4
    | 5, hq => cases hq; exact k5
    | 6, hq => cases hq; exact k6
    | 7, hq => cases hq; exact k7
    | 8, hq => cases hq; exact k8
    | 9, hq => cases hq; exact k9
    | 10, hq => cases hq; exact k10
    | 11, hq => cases hq; exact k11
    | 12, hq => cases hq; exact k12
    | 13, hq => cases hq; exact k13
    | 14, hq => cases hq; exact k14
    | 15, hq => cases hq; exact k15
    | k + 16, hq => first | cases hq | simp [vwCl] at hq
  · intro k q hq
    match k, hq with
    | 0, hq => cases hq; exact ⟨b0, d0⟩
    | 1, hq => cases hq; exact ⟨b1, d1⟩
    | 2, hq => cases hq; exact ⟨b2, d2⟩
    | 3, hq => cases hq; exact ⟨b3, d3⟩
    | 4, hq => cases hq; exact ⟨b4, d4⟩
    | 5, hq => cases hq; exact ⟨b5, d5⟩
    | 6, hq => cases hq; exact ⟨b6, d6⟩
    | 7, hq => cases hq; exact ⟨b7, d7⟩
    | 8, hq => cases hq; exact ⟨b8, d8⟩
    | 9, hq => cases hq; exact ⟨b9, d9⟩
    | 10, hq => cases hq; exact ⟨b10, d10⟩
    | 11, hq => cases hq; exact ⟨b11, d11⟩
    | 12, hq => cases hq; exact ⟨b12, d12⟩
    | k + 13, hq => first | cases hq | simp [mtys] at hq
set_option maxRecDepth 100000 in
set_option maxHeartbeats 4000000 in
theorem st_S {s : State} {args : Array Value} (hts : ∀ w ∈ lw_tbl, w.before args s = true) (hgv : (Jvm.Cond.and given_1 narrow_1).before args s = true) : ∃ (z : Nat) (r : Nat × Nat), mSt z r (fun q : Nat => s.heap.size ≤ q) s s.heap := by
  have hs := flat_of_before _ hgv
  have hA : ∀ a : Nat, a < s.heap.size → ¬ (fun q : Nat => s.heap.size ≤ q) a := fun a h => Nat.not_le.mpr h
  have h1 : vx_Zq Bundle.tN "UNASSIGNED_STACK" Bundle.steD (fun q : Nat => s.heap.size ≤ q) s s.heap := vx_Zqof (hts (.laysStatic Bundle.tN "UNASSIGNED_STACK" Bundle.steD) (List.mem_of_getElem? (i := 730) (by decide +kernel))) (hts (.initialized Bundle.tN) (List.mem_of_getElem? (i := 139) (by decide +kernel))) (hs (.isRef (.static Bundle.tN "UNASSIGNED_STACK" Bundle.steD)) (by decide +kernel)) hA
  have h2 : vx_Zq Bundle.tN "SUPPRESSED_SENTINEL" Bundle.listD (fun q : Nat => s.heap.size ≤ q) s s.heap := vx_Zqof (hts (.laysStatic Bundle.tN "SUPPRESSED_SENTINEL" Bundle.listD) (List.mem_of_getElem? (i := 732) (by decide +kernel))) (hts (.initialized Bundle.tN) (List.mem_of_getElem? (i := 139) (by decide +kernel))) (hs (.isRef (.static Bundle.tN "SUPPRESSED_SENTINEL" Bundle.listD)) (by decide +kernel)) hA
  have el : ∀ j : Nat, j < 16 → (Term.elem (.static RX1 "REMAINDERS" "[I") (.int (Int32.ofNat j))).eval args s none [] s = some (.int (mRem j)) := fun j hj => by
    have k : ∀ j : Nat, j < 16 → Cond.eq (Term.elem (.static RX1 "REMAINDERS" "[I") (.int (Int32.ofNat j))) (.int (mRem j)) ∈ flatC (Jvm.Cond.and given_1 narrow_1) := by decide +kernel
    exact va_eqt (hs _ (k j hj))
  obtain ⟨r1, e1, t1⟩ := va_Tof (tm := .static RX1 "REMAINDERS" "[I") (ty := .int) (N := 16) (f := fun j => .int (mRem j)) (by decide) (hs (.arrayOf (.static RX1 "REMAINDERS" "[I") .int) (by decide +kernel)) (va_eqt (hs (.eq (.length (.static RX1 "REMAINDERS" "[I")) (.int 16)) (by decide +kernel))) el hA
  obtain ⟨z, e2, t2⟩ := va_Tof (tm := .static RJx4a65c "DEFAULTCAPACITY_EMPTY_ELEMENTDATA" "[Ljava/lang/Object;") (ty := .object "java/lang/Object") (N := 0) (f := fun _ => .null) (by decide) (hs (.arrayOf (.static RJx4a65c "DEFAULTCAPACITY_EMPTY_ELEMENTDATA" "[Ljava/lang/Object;") (.object "java/lang/Object")) (by decide +kernel)) (va_eqt (hs (.eq (.length (.static RJx4a65c "DEFAULTCAPACITY_EMPTY_ELEMENTDATA" "[Ljava/lang/Object;")) (.int 0)) (by decide +kernel))) (fun j hj => absurd hj (Nat.not_lt_zero _)) hA
  obtain ⟨mi, h7⟩ := va_Mi.of (hs (.isRef (.mirror "[Ljava/lang/Object;")) (by decide +kernel))
  exact ⟨z, (r1, mi), h1, h2, va_Zof (hts (.laysStatic RX1 "REMAINDERS" "[I") (List.mem_of_getElem? (i := 1354) (by decide +kernel))) (hts (.initialized RX1) (List.mem_of_getElem? (i := 122) (by decide +kernel))) e1 hA, t1, va_Zof (hts (.laysStatic RJx4a65c "DEFAULTCAPACITY_EMPTY_ELEMENTDATA" "[Ljava/lang/Object;") (List.mem_of_getElem? (i := 249) (by decide +kernel))) (hts (.initialized RJx4a65c) (List.mem_of_getElem? (i := 130) (by decide +kernel))) e2 hA, t2, h7⟩
theorem st_X {s : State} {args : Array Value} (hts : ∀ w ∈ lw_tbl, w.before args s = true) (hgv : (Jvm.Cond.and given_1 narrow_1).before args s = true) : (∀ w ∈ lw_bad, va_Nw w s) ∧ (∀ Cn ∈ mAOs, va_AO Cn s) ∧ mXt s := by
  have hs := flat_of_before _ hgv
  refine ⟨fun w hw => va_Nw.of (bad_onT hw) (hts w (List.mem_filter.1 hw).1), ?_, (hts (.arrayOver (.array .byte)) (List.mem_of_getElem? (i := 1624) (by decide +kernel))), (hts (.arrayOver (.array .int)) (List.mem_of_getElem? (i := 413) (by decide +kernel))), fun a ha b hb hab => ?_⟩
  · have k : ∀ Cn ∈ mAOs, Cond.arrayOver (.object Cn) ∈ lw_tbl := by decide +kernel
    exact fun Cn hC => va_AO.of (hts _ (k Cn hC))
  · have k : ∀ a ∈ xns, ∀ b ∈ xns, a ≠ b → Cond.not (.castable a b) ∈ flatC (Jvm.Cond.and given_1 narrow_1) := by decide +kernel
    exact va_Nc.of (hs _ (k a ha b hb hab))
