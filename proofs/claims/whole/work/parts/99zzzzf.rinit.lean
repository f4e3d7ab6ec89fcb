/-! ===== The reference: its constructor ===== -/
def T_rgi2 : TR := fun Rc Rs av S cs sl K _Kx => match av with
  | [.inr (.inr g_o)] => pa g_o fun g => (∃ (F : Nat → Nat × Nat) (i : Nat), (isO S 13 g ∧ FO S F ∧ (∀ f, (f = 1300 ∨ f = 1301 ∨ f = 1302 ∨ f = 1326) → mI S f g = 0)) ∧ cs + 42 ≤ Rc ∧ sl + 271540 ≤ Rs ∧ (∀ (S' : MM), (giQ2 S S' F i g) → K none S' (cs + 42) (sl + 271540)))
  | _ => False
def sp_rgi2 (g : Nat) (F : Nat → Nat × Nat) (i : Nat) : Sp := (fun av S => av = [.inr (.inr (some g))] ∧ (isO S 13 g ∧ FO S F ∧ (∀ f, (f = 1300 ∨ f = 1301 ∨ f = 1302 ∨ f = 1326) → mI S f g = 0)), fun _ S => 42, fun _ S => 271540, fun _ S rv S' => rv = none ∧ (giQ2 S S' F i g), fun _ _ _ _ => False)
set_option maxRecDepth 100000 in
set_option maxHeartbeats 2000000 in
theorem c_rgi2 (l : Launch) : ∀ (g : Nat) (F : Nat → Nat × Nat) (i : Nat), Ct l yX12_init cX12_init 1 none 1 20 (sp_rgi2 g F i) := by
  intro g F i
  refine Ct.of (fX12, nX12, aX12, iX12, lX12, [(3, 1, 1, 0, T_obj)], qX12, gX12, []) true tX12_init (fun _ S => look [(12, ([0], I_gx 3 1 16 97 g i F S)), (20, ([0], I_gx 4 2 32 96 g i F S)), (32, ([0], I_gx 5 19 176 95 g i F S)), (41, ([0], I_gx 6 20 8368 94 g i F S)), (50, ([0], I_gx 7 21 16560 93 g i F S)), (58, ([0], I_gx 8 22 147632 92 g i F S)), (67, ([0], I_gx 9 23 155824 91 g i F S)), (76, ([0], I_gx 10 24 164016 90 g i F S)), (85, ([0], I_gx 11 25 172208 89 g i F S)), (94, ([0], I_gx 12 26 180400 88 g i F S)), (103, ([0], I_gx 13 27 188592 87 g i F S)), (112, ([0], I_gx 14 28 196784 86 g i F S)), (121, ([0], I_gx 15 29 204976 85 g i F S)), (130, ([0], I_gx 16 30 213168 84 g i F S)), (135, ([0], I_gx 17 30 213168 83 g i F S)), (144, ([0], I_gx 18 31 221360 82 g i F S)), (153, ([0], I_gx 19 32 229552 81 g i F S)), (162, ([0], I_gx 20 33 237744 80 g i F S)), (171, ([0], I_gx 21 34 245936 79 g i F S)), (183, ([0], I_gx 22 39 246964 78 g i F S)), (192, ([0], I_gx 23 40 255156 77 g i F S)), (201, ([0], I_gx 24 41 263348 76 g i F S))]) (by decide) (by decide) kX12_init ⟨_, _, rfl⟩ fX12_ok nX12_ok aX12_ok iX12_ok lX12_ok (fun p e R s m args below meth c Q D cy z r A C hR1 hR2 => List.forall_mem_cons.mpr ⟨cOK_use (fun _ _ _ _ _ _ _ _ h => ⟨spObj, cOK_obj C vX12_init_3 ⟨by rw [hR1]; decide, by rw [hR2]; decide⟩, T_obj_ok h⟩), fun _ h => absurd h List.not_mem_nil⟩) qX12_ok gX12_ok rfl ?_ ?_
  · rintro _ S ⟨rfl, hp⟩
    refine ⟨Nat.le_of_ble_eq_true rfl, 300, ?_⟩
    show (1 = 1 ∧ (True ∧ 0 ≤ 42 ∧ 0 ≤ 271540 ∧ ((¬ (16 : Int32) < 0 ∧ (16 : Int32).toNatClampNeg * 8 ≤ 536870912 ∧ 0 + 1 ≤ 42 ∧ 0 + (16 : Int32).toNatClampNeg ≤ 271540 ∧ ∀ q_2, q_2 ∉ mL S → (true = true ∧ (isO (nA S q_2 17 (16 : Int32).toNatClampNeg) 13 g ∧ (∃ k1, I_gx 3 1 16 97 g i F S k1 [(0, .inr (.inr (some g)))] [] (sR (nA S q_2 17 (16 : Int32).toNatClampNeg) 1303 g (some q_2)) (0 + 1) (0 + (16 : Int32).toNatClampNeg))))))))
    obtain ⟨h1, h2, h5⟩ := hp
    have h0 : gX S F i g 2 S (fun b => if b = g then (i, 1) else F b) (fun _ => g) := ⟨⟨⟨h1, if_pos rfl, rfl⟩, fun j a b _ => absurd a (by omega), fun a => absurd a (by decide), fun a => absurd a (by decide), fun a => absurd a (by decide), h5⟩, fun b hb => ?_, fun c _ hc => if_neg hc, Keep.rf⟩
    · refine ⟨rfl, trivial, by decide, by decide, by decide, by decide, by decide, by decide, fun q hq => ?_⟩
      obtain ⟨F2, y2, h6⟩ := h0.row (k := 2) (K := 17) (N := Int32.toNatClampNeg 16) hq (by decide) (by decide) (by decide) (by decide) (by decide) (by decide) (by decide)
      exact ⟨by trivial, isO_nA h1 hq, 97, F2, y2, rfl, h6, rfl, rfl, rfl, rfl⟩
    · by_cases c : b = g
      · rw [c]; exact h1.1
      · have hb : (if b = g then (i, 1) else F b) ≠ (0, 0) := hb
        rw [if_neg c] at hb
        exact h2 b hb
  · intro av S hpre pc I hI k lo st S1 cs sl h
    obtain ⟨rfl, hp⟩ := hpre
    have hm := look_in hI
    simp only [List.mem_cons, List.not_mem_nil, or_false] at hm
    rcases hm with hm | hm | hm | hm | hm | hm | hm | hm | hm | hm | hm | hm | hm | hm | hm | hm | hm | hm | hm | hm | hm | hm
    · cases hm
      obtain ⟨F1, y, rfl, hX, rfl, rfl, rfl, rfl⟩ := h
      refine ⟨300, ?_⟩
      show (¬ (16 : Int32) < 0 ∧ (16 : Int32).toNatClampNeg * 8 ≤ 536870912 ∧ 1 + 1 ≤ 42 ∧ 16 + (16 : Int32).toNatClampNeg ≤ 271540 ∧ ∀ q_1, q_1 ∉ mL S1 → (true = true ∧ (isO (nA S1 q_1 17 (16 : Int32).toNatClampNeg) 13 g ∧ (∃ k1, k1 < 97 ∧ I_gx 4 2 32 96 g i F S k1 [(0, .inr (.inr (some g)))] [] (sR (nA S1 q_1 17 (16 : Int32).toNatClampNeg) 1304 g (some q_1)) (1 + 1) (16 + (16 : Int32).toNatClampNeg)))))
      refine ⟨by decide, by decide, by decide, by decide, fun q hq => ?_⟩
      obtain ⟨F2, y2, h6⟩ := hX.row (k := 3) (K := 17) (N := Int32.toNatClampNeg 16) hq (by decide) (by decide) (by decide) (by decide) (by decide) (by decide) (by decide)
      exact ⟨by trivial, isO_nA hX.1.1.1 hq, 96, by decide, F2, y2, rfl, h6, rfl, rfl, rfl, rfl⟩
    · cases hm
      obtain ⟨F1, y, rfl, hX, rfl, rfl, rfl, rfl⟩ := h
      refine ⟨300, ?_⟩
      show (¬ (16 : Int32) < 0 ∧ ¬ (8 : Int32) < 0 ∧ (16 : Int32).toNatClampNeg * 8 ≤ 536870912 ∧ (8 : Int32).toNatClampNeg * 8 ≤ 536870912 ∧ 2 + (1 + (16 : Int32).toNatClampNeg) ≤ 42 ∧ 32 + ((16 : Int32).toNatClampNeg + (16 : Int32).toNatClampNeg * (8 : Int32).toNatClampNeg) ≤ 271540 ∧ ∀ q_1 (r_2 : Nat → Nat), (q_1 ∉ mL S1 ∧ (∀ i, i < (16 : Int32).toNatClampNeg → r_2 i ∉ mL S1 ∧ r_2 i ≠ q_1) ∧ ∀ i j, i < (16 : Int32).toNatClampNeg → j < (16 : Int32).toNatClampNeg → r_2 i = r_2 j → i = j) → (true = true ∧ (isO (nG S1 q_1 r_2 (16 : Int32).toNatClampNeg (8 : Int32).toNatClampNeg) 13 g ∧ (∃ k1, k1 < 96 ∧ I_gx 5 19 176 95 g i F S k1 [(0, .inr (.inr (some g)))] [] (sR (nG S1 q_1 r_2 (16 : Int32).toNatClampNeg (8 : Int32).toNatClampNeg) 1305 g (some q_1)) (2 + 1 + (16 : Int32).toNatClampNeg) (32 + (16 : Int32).toNatClampNeg + (16 : Int32).toNatClampNeg * (8 : Int32).toNatClampNeg)))))
      refine ⟨by decide, by decide, by decide, by decide, by decide, by decide, fun q r hq => ?_⟩
      obtain ⟨F2, y2, h6⟩ := hX.grid (k := 4) (bs := 100) (n := Int32.toNatClampNeg 16) (m := Int32.toNatClampNeg 8) hq.1 hq.2.1 hq.2.2 (by decide) (by decide) (by decide) (by decide) (by decide) (by decide)
      exact ⟨by trivial, (Keep.nG (P := fun _ => False) Keep.rf hq.1 (fun s hs => (hq.2.1 s hs).1)).isO hX.1.1.1, 95, by decide, F2, y2, rfl, h6, rfl, rfl, rfl, rfl⟩
    · cases hm
      obtain ⟨F1, y, rfl, hX, rfl, rfl, rfl, rfl⟩ := h
      refine ⟨300, ?_⟩
      show (¬ (8192 : Int32) < 0 ∧ (8192 : Int32).toNatClampNeg * 8 ≤ 536870912 ∧ 19 + 1 ≤ 42 ∧ 176 + (8192 : Int32).toNatClampNeg ≤ 271540 ∧ ∀ q_1, q_1 ∉ mL S1 → (True ∧ (isO (nA S1 q_1 17 (8192 : Int32).toNatClampNeg) 13 g ∧ (∃ k1, k1 < 95 ∧ I_gx 6 20 8368 94 g i F S k1 [(0, .inr (.inr (some g)))] [] (sR (nA S1 q_1 17 (8192 : Int32).toNatClampNeg) 1306 g (some q_1)) (19 + 1) (176 + (8192 : Int32).toNatClampNeg)))))
      refine ⟨by decide, by decide, by decide, by decide, fun q hq => ?_⟩
      obtain ⟨F2, y2, h6⟩ := hX.row (k := 5) (K := 17) (N := Int32.toNatClampNeg 8192) hq (by decide) (by decide) (by decide) (by decide) (by decide) (by decide) (by decide)
      exact ⟨by trivial, isO_nA hX.1.1.1 hq, 94, by decide, F2, y2, rfl, h6, rfl, rfl, rfl, rfl⟩
    · cases hm
      obtain ⟨F1, y, rfl, hX, rfl, rfl, rfl, rfl⟩ := h
      refine ⟨300, ?_⟩
      show (¬ (8192 : Int32) < 0 ∧ (8192 : Int32).toNatClampNeg * 8 ≤ 536870912 ∧ 20 + 1 ≤ 42 ∧ 8368 + (8192 : Int32).toNatClampNeg ≤ 271540 ∧ ∀ q_1, q_1 ∉ mL S1 → (True ∧ (isO (nA S1 q_1 17 (8192 : Int32).toNatClampNeg) 13 g ∧ (∃ k1, k1 < 94 ∧ I_gx 7 21 16560 93 g i F S k1 [(0, .inr (.inr (some g)))] [] (sR (nA S1 q_1 17 (8192 : Int32).toNatClampNeg) 1307 g (some q_1)) (20 + 1) (8368 + (8192 : Int32).toNatClampNeg)))))
      refine ⟨by decide, by decide, by decide, by decide, fun q hq => ?_⟩
      obtain ⟨F2, y2, h6⟩ := hX.row (k := 6) (K := 17) (N := Int32.toNatClampNeg 8192) hq (by decide) (by decide) (by decide) (by decide) (by decide) (by decide) (by decide)
      exact ⟨by trivial, isO_nA hX.1.1.1 hq, 93, by decide, F2, y2, rfl, h6, rfl, rfl, rfl, rfl⟩
    · cases hm
      obtain ⟨F1, y, rfl, hX, rfl, rfl, rfl, rfl⟩ := h
      refine ⟨300, ?_⟩
      show (¬ (131072 : Int32) < 0 ∧ (131072 : Int32).toNatClampNeg * 8 ≤ 536870912 ∧ 21 + 1 ≤ 42 ∧ 16560 + (131072 : Int32).toNatClampNeg ≤ 271540 ∧ ∀ q_1, q_1 ∉ mL S1 → (True ∧ (isO (nA S1 q_1 19 (131072 : Int32).toNatClampNeg) 13 g ∧ (∃ k1, k1 < 93 ∧ I_gx 8 22 147632 92 g i F S k1 [(0, .inr (.inr (some g)))] [] (sR (nA S1 q_1 19 (131072 : Int32).toNatClampNeg) 1308 g (some q_1)) (21 + 1) (16560 + (131072 : Int32).toNatClampNeg)))))
      refine ⟨by decide, by decide, by decide, by decide, fun q hq => ?_⟩
      obtain ⟨F2, y2, h6⟩ := hX.row (k := 7) (K := 19) (N := Int32.toNatClampNeg 131072) hq (by decide) (by decide) (by decide) (by decide) (by decide) (by decide) (by decide)
      exact ⟨by trivial, isO_nA hX.1.1.1 hq, 92, by decide, F2, y2, rfl, h6, rfl, rfl, rfl, rfl⟩
    · cases hm
      obtain ⟨F1, y, rfl, hX, rfl, rfl, rfl, rfl⟩ := h
      refine ⟨300, ?_⟩
      show (¬ (8192 : Int32) < 0 ∧ (8192 : Int32).toNatClampNeg * 8 ≤ 536870912 ∧ 22 + 1 ≤ 42 ∧ 147632 + (8192 : Int32).toNatClampNeg ≤ 271540 ∧ ∀ q_1, q_1 ∉ mL S1 → (True ∧ (isO (nA S1 q_1 20 (8192 : Int32).toNatClampNeg) 13 g ∧ (∃ k1, k1 < 92 ∧ I_gx 9 23 155824 91 g i F S k1 [(0, .inr (.inr (some g)))] [] (sR (nA S1 q_1 20 (8192 : Int32).toNatClampNeg) 1309 g (some q_1)) (22 + 1) (147632 + (8192 : Int32).toNatClampNeg)))))
      refine ⟨by decide, by decide, by decide, by decide, fun q hq => ?_⟩
      obtain ⟨F2, y2, h6⟩ := hX.row (k := 8) (K := 20) (N := Int32.toNatClampNeg 8192) hq (by decide) (by decide) (by decide) (by decide) (by decide) (by decide) (by decide)
      exact ⟨by trivial, isO_nA hX.1.1.1 hq, 91, by decide, F2, y2, rfl, h6, rfl, rfl, rfl, rfl⟩
    · cases hm
      obtain ⟨F1, y, rfl, hX, rfl, rfl, rfl, rfl⟩ := h
      refine ⟨300, ?_⟩
      show (¬ (8192 : Int32) < 0 ∧ (8192 : Int32).toNatClampNeg * 8 ≤ 536870912 ∧ 23 + 1 ≤ 42 ∧ 155824 + (8192 : Int32).toNatClampNeg ≤ 271540 ∧ ∀ q_1, q_1 ∉ mL S1 → (True ∧ (isO (nA S1 q_1 17 (8192 : Int32).toNatClampNeg) 13 g ∧ (∃ k1, k1 < 91 ∧ I_gx 10 24 164016 90 g i F S k1 [(0, .inr (.inr (some g)))] [] (sR (nA S1 q_1 17 (8192 : Int32).toNatClampNeg) 1310 g (some q_1)) (23 + 1) (155824 + (8192 : Int32).toNatClampNeg)))))
      refine ⟨by decide, by decide, by decide, by decide, fun q hq => ?_⟩
      obtain ⟨F2, y2, h6⟩ := hX.row (k := 9) (K := 17) (N := Int32.toNatClampNeg 8192) hq (by decide) (by decide) (by decide) (by decide) (by decide) (by decide) (by decide)
      exact ⟨by trivial, isO_nA hX.1.1.1 hq, 90, by decide, F2, y2, rfl, h6, rfl, rfl, rfl, rfl⟩
    · cases hm
      obtain ⟨F1, y, rfl, hX, rfl, rfl, rfl, rfl⟩ := h
      refine ⟨300, ?_⟩
      show (¬ (8192 : Int32) < 0 ∧ (8192 : Int32).toNatClampNeg * 8 ≤ 536870912 ∧ 24 + 1 ≤ 42 ∧ 164016 + (8192 : Int32).toNatClampNeg ≤ 271540 ∧ ∀ q_1, q_1 ∉ mL S1 → (True ∧ (isO (nA S1 q_1 17 (8192 : Int32).toNatClampNeg) 13 g ∧ (∃ k1, k1 < 90 ∧ I_gx 11 25 172208 89 g i F S k1 [(0, .inr (.inr (some g)))] [] (sR (nA S1 q_1 17 (8192 : Int32).toNatClampNeg) 1311 g (some q_1)) (24 + 1) (164016 + (8192 : Int32).toNatClampNeg)))))
      refine ⟨by decide, by decide, by decide, by decide, fun q hq => ?_⟩
      obtain ⟨F2, y2, h6⟩ := hX.row (k := 10) (K := 17) (N := Int32.toNatClampNeg 8192) hq (by decide) (by decide) (by decide) (by decide) (by decide) (by decide) (by decide)
      exact ⟨by trivial, isO_nA hX.1.1.1 hq, 89, by decide, F2, y2, rfl, h6, rfl, rfl, rfl, rfl⟩
    · cases hm
      obtain ⟨F1, y, rfl, hX, rfl, rfl, rfl, rfl⟩ := h
      refine ⟨300, ?_⟩
      show (¬ (8192 : Int32) < 0 ∧ (8192 : Int32).toNatClampNeg * 8 ≤ 536870912 ∧ 25 + 1 ≤ 42 ∧ 172208 + (8192 : Int32).toNatClampNeg ≤ 271540 ∧ ∀ q_1, q_1 ∉ mL S1 → (True ∧ (isO (nA S1 q_1 17 (8192 : Int32).toNatClampNeg) 13 g ∧ (∃ k1, k1 < 89 ∧ I_gx 12 26 180400 88 g i F S k1 [(0, .inr (.inr (some g)))] [] (sR (nA S1 q_1 17 (8192 : Int32).toNatClampNeg) 1312 g (some q_1)) (25 + 1) (172208 + (8192 : Int32).toNatClampNeg)))))
      refine ⟨by decide, by decide, by decide, by decide, fun q hq => ?_⟩
      obtain ⟨F2, y2, h6⟩ := hX.row (k := 11) (K := 17) (N := Int32.toNatClampNeg 8192) hq (by decide) (by decide) (by decide) (by decide) (by decide) (by decide) (by decide)
      exact ⟨by trivial, isO_nA hX.1.1.1 hq, 88, by decide, F2, y2, rfl, h6, rfl, rfl, rfl, rfl⟩
    · cases hm
      obtain ⟨F1, y, rfl, hX, rfl, rfl, rfl, rfl⟩ := h
      refine ⟨300, ?_⟩
      show (¬ (8192 : Int32) < 0 ∧ (8192 : Int32).toNatClampNeg * 8 ≤ 536870912 ∧ 26 + 1 ≤ 42 ∧ 180400 + (8192 : Int32).toNatClampNeg ≤ 271540 ∧ ∀ q_1, q_1 ∉ mL S1 → (True ∧ (isO (nA S1 q_1 17 (8192 : Int32).toNatClampNeg) 13 g ∧ (∃ k1, k1 < 88 ∧ I_gx 13 27 188592 87 g i F S k1 [(0, .inr (.inr (some g)))] [] (sR (nA S1 q_1 17 (8192 : Int32).toNatClampNeg) 1313 g (some q_1)) (26 + 1) (180400 + (8192 : Int32).toNatClampNeg)))))
      refine ⟨by decide, by decide, by decide, by decide, fun q hq => ?_⟩
      obtain ⟨F2, y2, h6⟩ := hX.row (k := 12) (K := 17) (N := Int32.toNatClampNeg 8192) hq (by decide) (by decide) (by decide) (by decide) (by decide) (by decide) (by decide)
      exact ⟨by trivial, isO_nA hX.1.1.1 hq, 87, by decide, F2, y2, rfl, h6, rfl, rfl, rfl, rfl⟩
    · cases hm
      obtain ⟨F1, y, rfl, hX, rfl, rfl, rfl, rfl⟩ := h
      refine ⟨300, ?_⟩
      show (¬ (8192 : Int32) < 0 ∧ (8192 : Int32).toNatClampNeg * 8 ≤ 536870912 ∧ 27 + 1 ≤ 42 ∧ 188592 + (8192 : Int32).toNatClampNeg ≤ 271540 ∧ ∀ q_1, q_1 ∉ mL S1 → (True ∧ (isO (nA S1 q_1 17 (8192 : Int32).toNatClampNeg) 13 g ∧ (∃ k1, k1 < 87 ∧ I_gx 14 28 196784 86 g i F S k1 [(0, .inr (.inr (some g)))] [] (sR (nA S1 q_1 17 (8192 : Int32).toNatClampNeg) 1314 g (some q_1)) (27 + 1) (188592 + (8192 : Int32).toNatClampNeg)))))
      refine ⟨by decide, by decide, by decide, by decide, fun q hq => ?_⟩
      obtain ⟨F2, y2, h6⟩ := hX.row (k := 13) (K := 17) (N := Int32.toNatClampNeg 8192) hq (by decide) (by decide) (by decide) (by decide) (by decide) (by decide) (by decide)
      exact ⟨by trivial, isO_nA hX.1.1.1 hq, 86, by decide, F2, y2, rfl, h6, rfl, rfl, rfl, rfl⟩
    · cases hm
      obtain ⟨F1, y, rfl, hX, rfl, rfl, rfl, rfl⟩ := h
      refine ⟨300, ?_⟩
      show (¬ (8192 : Int32) < 0 ∧ (8192 : Int32).toNatClampNeg * 8 ≤ 536870912 ∧ 28 + 1 ≤ 42 ∧ 196784 + (8192 : Int32).toNatClampNeg ≤ 271540 ∧ ∀ q_1, q_1 ∉ mL S1 → (True ∧ (isO (nA S1 q_1 17 (8192 : Int32).toNatClampNeg) 13 g ∧ (∃ k1, k1 < 86 ∧ I_gx 15 29 204976 85 g i F S k1 [(0, .inr (.inr (some g)))] [] (sR (nA S1 q_1 17 (8192 : Int32).toNatClampNeg) 1315 g (some q_1)) (28 + 1) (196784 + (8192 : Int32).toNatClampNeg)))))
      refine ⟨by decide, by decide, by decide, by decide, fun q hq => ?_⟩
      obtain ⟨F2, y2, h6⟩ := hX.row (k := 14) (K := 17) (N := Int32.toNatClampNeg 8192) hq (by decide) (by decide) (by decide) (by decide) (by decide) (by decide) (by decide)
      exact ⟨by trivial, isO_nA hX.1.1.1 hq, 85, by decide, F2, y2, rfl, h6, rfl, rfl, rfl, rfl⟩
    · cases hm
      obtain ⟨F1, y, rfl, hX, rfl, rfl, rfl, rfl⟩ := h
      refine ⟨300, ?_⟩
      show (¬ (8192 : Int32) < 0 ∧ (8192 : Int32).toNatClampNeg * 8 ≤ 536870912 ∧ 29 + 1 ≤ 42 ∧ 204976 + (8192 : Int32).toNatClampNeg ≤ 271540 ∧ ∀ q_1, q_1 ∉ mL S1 → (True ∧ (isO (nA S1 q_1 20 (8192 : Int32).toNatClampNeg) 13 g ∧ (∃ k1, k1 < 85 ∧ I_gx 16 30 213168 84 g i F S k1 [(0, .inr (.inr (some g)))] [] (sR (nA S1 q_1 20 (8192 : Int32).toNatClampNeg) 1316 g (some q_1)) (29 + 1) (204976 + (8192 : Int32).toNatClampNeg)))))
      refine ⟨by decide, by decide, by decide, by decide, fun q hq => ?_⟩
      obtain ⟨F2, y2, h6⟩ := hX.row (k := 15) (K := 20) (N := Int32.toNatClampNeg 8192) hq (by decide) (by decide) (by decide) (by decide) (by decide) (by decide) (by decide)
      exact ⟨by trivial, isO_nA hX.1.1.1 hq, 84, by decide, F2, y2, rfl, h6, rfl, rfl, rfl, rfl⟩
    · cases hm
      obtain ⟨F1, y, rfl, hX, rfl, rfl, rfl, rfl⟩ := h
      refine ⟨300, ?_⟩
      show (True ∧ (isO S1 13 g ∧ (∃ k1, k1 < 84 ∧ I_gx 17 30 213168 83 g i F S k1 [(0, .inr (.inr (some g)))] [] (sI S1 1317 g (-1 : Int32)) 30 213168)))
      exact ⟨trivial, hX.1.1.1, 83, by decide, F1, y, rfl, hX.i17, rfl, rfl, rfl, rfl⟩
    · cases hm
      obtain ⟨F1, y, rfl, hX, rfl, rfl, rfl, rfl⟩ := h
      refine ⟨300, ?_⟩
      show (¬ (8192 : Int32) < 0 ∧ (8192 : Int32).toNatClampNeg * 8 ≤ 536870912 ∧ 30 + 1 ≤ 42 ∧ 213168 + (8192 : Int32).toNatClampNeg ≤ 271540 ∧ ∀ q_1, q_1 ∉ mL S1 → (True ∧ (isO (nA S1 q_1 17 (8192 : Int32).toNatClampNeg) 13 g ∧ (∃ k1, k1 < 83 ∧ I_gx 18 31 221360 82 g i F S k1 [(0, .inr (.inr (some g)))] [] (sR (nA S1 q_1 17 (8192 : Int32).toNatClampNeg) 1318 g (some q_1)) (30 + 1) (213168 + (8192 : Int32).toNatClampNeg)))))
      refine ⟨by decide, by decide, by decide, by decide, fun q hq => ?_⟩
      obtain ⟨F2, y2, h6⟩ := hX.row (k := 17) (K := 17) (N := Int32.toNatClampNeg 8192) hq (by decide) (by decide) (by decide) (by decide) (by decide) (by decide) (by decide)
      exact ⟨by trivial, isO_nA hX.1.1.1 hq, 82, by decide, F2, y2, rfl, h6, rfl, rfl, rfl, rfl⟩
    · cases hm
      obtain ⟨F1, y, rfl, hX, rfl, rfl, rfl, rfl⟩ := h
      refine ⟨300, ?_⟩
      show (¬ (8192 : Int32) < 0 ∧ (8192 : Int32).toNatClampNeg * 8 ≤ 536870912 ∧ 31 + 1 ≤ 42 ∧ 221360 + (8192 : Int32).toNatClampNeg ≤ 271540 ∧ ∀ q_1, q_1 ∉ mL S1 → (True ∧ (isO (nA S1 q_1 17 (8192 : Int32).toNatClampNeg) 13 g ∧ (∃ k1, k1 < 82 ∧ I_gx 19 32 229552 81 g i F S k1 [(0, .inr (.inr (some g)))] [] (sR (nA S1 q_1 17 (8192 : Int32).toNatClampNeg) 1319 g (some q_1)) (31 + 1) (221360 + (8192 : Int32).toNatClampNeg)))))
      refine ⟨by decide, by decide, by decide, by decide, fun q hq => ?_⟩
      obtain ⟨F2, y2, h6⟩ := hX.row (k := 18) (K := 17) (N := Int32.toNatClampNeg 8192) hq (by decide) (by decide) (by decide) (by decide) (by decide) (by decide) (by decide)
      exact ⟨by trivial, isO_nA hX.1.1.1 hq, 81, by decide, F2, y2, rfl, h6, rfl, rfl, rfl, rfl⟩
    · cases hm
      obtain ⟨F1, y, rfl, hX, rfl, rfl, rfl, rfl⟩ := h
      refine ⟨300, ?_⟩
      show (¬ (8192 : Int32) < 0 ∧ (8192 : Int32).toNatClampNeg * 8 ≤ 536870912 ∧ 32 + 1 ≤ 42 ∧ 229552 + (8192 : Int32).toNatClampNeg ≤ 271540 ∧ ∀ q_1, q_1 ∉ mL S1 → (True ∧ (isO (nA S1 q_1 17 (8192 : Int32).toNatClampNeg) 13 g ∧ (∃ k1, k1 < 81 ∧ I_gx 20 33 237744 80 g i F S k1 [(0, .inr (.inr (some g)))] [] (sR (nA S1 q_1 17 (8192 : Int32).toNatClampNeg) 1320 g (some q_1)) (32 + 1) (229552 + (8192 : Int32).toNatClampNeg)))))
      refine ⟨by decide, by decide, by decide, by decide, fun q hq => ?_⟩
      obtain ⟨F2, y2, h6⟩ := hX.row (k := 19) (K := 17) (N := Int32.toNatClampNeg 8192) hq (by decide) (by decide) (by decide) (by decide) (by decide) (by decide) (by decide)
      exact ⟨by trivial, isO_nA hX.1.1.1 hq, 80, by decide, F2, y2, rfl, h6, rfl, rfl, rfl, rfl⟩
    · cases hm
      obtain ⟨F1, y, rfl, hX, rfl, rfl, rfl, rfl⟩ := h
      refine ⟨300, ?_⟩
      show (¬ (8192 : Int32) < 0 ∧ (8192 : Int32).toNatClampNeg * 8 ≤ 536870912 ∧ 33 + 1 ≤ 42 ∧ 237744 + (8192 : Int32).toNatClampNeg ≤ 271540 ∧ ∀ q_1, q_1 ∉ mL S1 → (True ∧ (isO (nA S1 q_1 17 (8192 : Int32).toNatClampNeg) 13 g ∧ (∃ k1, k1 < 80 ∧ I_gx 21 34 245936 79 g i F S k1 [(0, .inr (.inr (some g)))] [] (sR (nA S1 q_1 17 (8192 : Int32).toNatClampNeg) 1321 g (some q_1)) (33 + 1) (237744 + (8192 : Int32).toNatClampNeg)))))
      refine ⟨by decide, by decide, by decide, by decide, fun q hq => ?_⟩
      obtain ⟨F2, y2, h6⟩ := hX.row (k := 20) (K := 17) (N := Int32.toNatClampNeg 8192) hq (by decide) (by decide) (by decide) (by decide) (by decide) (by decide) (by decide)
      exact ⟨by trivial, isO_nA hX.1.1.1 hq, 79, by decide, F2, y2, rfl, h6, rfl, rfl, rfl, rfl⟩
    · cases hm
      obtain ⟨F1, y, rfl, hX, rfl, rfl, rfl, rfl⟩ := h
      refine ⟨300, ?_⟩
      show (¬ (4 : Int32) < 0 ∧ ¬ (256 : Int32) < 0 ∧ (4 : Int32).toNatClampNeg * 8 ≤ 536870912 ∧ (256 : Int32).toNatClampNeg * 8 ≤ 536870912 ∧ 34 + (1 + (4 : Int32).toNatClampNeg) ≤ 42 ∧ 245936 + ((4 : Int32).toNatClampNeg + (4 : Int32).toNatClampNeg * (256 : Int32).toNatClampNeg) ≤ 271540 ∧ ∀ q_1 (r_2 : Nat → Nat), (q_1 ∉ mL S1 ∧ (∀ i, i < (4 : Int32).toNatClampNeg → r_2 i ∉ mL S1 ∧ r_2 i ≠ q_1) ∧ ∀ i j, i < (4 : Int32).toNatClampNeg → j < (4 : Int32).toNatClampNeg → r_2 i = r_2 j → i = j) → (true = true ∧ (isO (nG S1 q_1 r_2 (4 : Int32).toNatClampNeg (256 : Int32).toNatClampNeg) 13 g ∧ (∃ k1, k1 < 79 ∧ I_gx 22 39 246964 78 g i F S k1 [(0, .inr (.inr (some g)))] [] (sR (nG S1 q_1 r_2 (4 : Int32).toNatClampNeg (256 : Int32).toNatClampNeg) 1322 g (some q_1)) (34 + 1 + (4 : Int32).toNatClampNeg) (245936 + (4 : Int32).toNatClampNeg + (4 : Int32).toNatClampNeg * (256 : Int32).toNatClampNeg)))))
      refine ⟨by decide, by decide, by decide, by decide, by decide, by decide, fun q r hq => ?_⟩
      obtain ⟨F2, y2, h6⟩ := hX.grid (k := 21) (bs := 120) (n := Int32.toNatClampNeg 4) (m := Int32.toNatClampNeg 256) hq.1 hq.2.1 hq.2.2 (by decide) (by decide) (by decide) (by decide) (by decide) (by decide)
      exact ⟨by trivial, (Keep.nG (P := fun _ => False) Keep.rf hq.1 (fun s hs => (hq.2.1 s hs).1)).isO hX.1.1.1, 78, by decide, F2, y2, rfl, h6, rfl, rfl, rfl, rfl⟩
    · cases hm
      obtain ⟨F1, y, rfl, hX, rfl, rfl, rfl, rfl⟩ := h
      refine ⟨300, ?_⟩
      show (¬ (8192 : Int32) < 0 ∧ (8192 : Int32).toNatClampNeg * 8 ≤ 536870912 ∧ 39 + 1 ≤ 42 ∧ 246964 + (8192 : Int32).toNatClampNeg ≤ 271540 ∧ ∀ q_1, q_1 ∉ mL S1 → (true = true ∧ (isO (nA S1 q_1 20 (8192 : Int32).toNatClampNeg) 13 g ∧ (∃ k1, k1 < 78 ∧ I_gx 23 40 255156 77 g i F S k1 [(0, .inr (.inr (some g)))] [] (sR (nA S1 q_1 20 (8192 : Int32).toNatClampNeg) 1323 g (some q_1)) (39 + 1) (246964 + (8192 : Int32).toNatClampNeg)))))
      refine ⟨by decide, by decide, by decide, by decide, fun q hq => ?_⟩
      obtain ⟨F2, y2, h6⟩ := hX.row (k := 22) (K := 20) (N := Int32.toNatClampNeg 8192) hq (by decide) (by decide) (by decide) (by decide) (by decide) (by decide) (by decide)
      exact ⟨by trivial, isO_nA hX.1.1.1 hq, 77, by decide, F2, y2, rfl, h6, rfl, rfl, rfl, rfl⟩
    · cases hm
      obtain ⟨F1, y, rfl, hX, rfl, rfl, rfl, rfl⟩ := h
      refine ⟨300, ?_⟩
      show (¬ (8192 : Int32) < 0 ∧ (8192 : Int32).toNatClampNeg * 8 ≤ 536870912 ∧ 40 + 1 ≤ 42 ∧ 255156 + (8192 : Int32).toNatClampNeg ≤ 271540 ∧ ∀ q_1, q_1 ∉ mL S1 → (true = true ∧ (isO (nA S1 q_1 17 (8192 : Int32).toNatClampNeg) 13 g ∧ (∃ k1, k1 < 77 ∧ I_gx 24 41 263348 76 g i F S k1 [(0, .inr (.inr (some g)))] [] (sR (nA S1 q_1 17 (8192 : Int32).toNatClampNeg) 1324 g (some q_1)) (40 + 1) (255156 + (8192 : Int32).toNatClampNeg)))))
      refine ⟨by decide, by decide, by decide, by decide, fun q hq => ?_⟩
      obtain ⟨F2, y2, h6⟩ := hX.row (k := 23) (K := 17) (N := Int32.toNatClampNeg 8192) hq (by decide) (by decide) (by decide) (by decide) (by decide) (by decide) (by decide)
      exact ⟨by trivial, isO_nA hX.1.1.1 hq, 76, by decide, F2, y2, rfl, h6, rfl, rfl, rfl, rfl⟩
    · cases hm
      obtain ⟨F1, y, rfl, hX, rfl, rfl, rfl, rfl⟩ := h
      refine ⟨300, ?_⟩
      show (¬ (8192 : Int32) < 0 ∧ (8192 : Int32).toNatClampNeg * 8 ≤ 536870912 ∧ 41 + 1 ≤ 42 ∧ 263348 + (8192 : Int32).toNatClampNeg ≤ 271540 ∧ ∀ q_1, q_1 ∉ mL S1 → (true = true ∧ (isO (nA S1 q_1 17 (8192 : Int32).toNatClampNeg) 13 g ∧ (([] : List MV) = [] ∧ mret none (sp_rgi2 g F i) [.inr (.inr (some g))] S none (sR (nA S1 q_1 17 (8192 : Int32).toNatClampNeg) 1325 g (some q_1)) (41 + 1) (263348 + (8192 : Int32).toNatClampNeg)))))
      refine ⟨by decide, by decide, by decide, by decide, fun q hq => ?_⟩
      obtain ⟨F2, y2, h6⟩ := hX.row (k := 24) (K := 17) (N := Int32.toNatClampNeg 8192) hq (by decide) (by decide) (by decide) (by decide) (by decide) (by decide) (by decide)
      exact ⟨by trivial, isO_nA hX.1.1.1 hq, rfl, trivial, ⟨rfl, F2, y2, h6⟩, Nat.le_refl _, Nat.le_refl _⟩
theorem u_rgi2 (l : Launch) : Us l yX12_init cX12_init 1 none 1 20 98 T_rgi2 := by
  intro Rc Rs av S cs sl K Kx h
  unfold T_rgi2 at h
  split at h
  · rename_i g_o
    obtain ⟨g, rfl, h_1⟩ := pa_of h
    obtain ⟨F, i, hp, hc, hs, hk⟩ := h_1
    refine ⟨(sp_rgi2 g F i), c_rgi2 l g F i, fun _ _ h9 => ⟨_, _, h9.1⟩, ⟨rfl, hp⟩, hc, hs, fun S' h8 => by
      obtain ⟨-, h8⟩ := h8
      exact hk _ h8, fun _ _ q => q.elim⟩
  · exact h.elim

theorem gX.rp {S S1 : MM} {F F1 : Nat → Nat × Nat} {i g : Nat} {y : Nat → Nat} (h : gX S F i g 25 S1 F1 y) : RP S1 F1 i y e0 T0 (fun _ _ => 0) [] := by
  have hg := h.rg
  obtain ⟨⟨⟨a1, a2, rfl⟩, b, c, d, e, f⟩, -⟩ := h
  refine ⟨hg, fun o ho => ?_, f 1326 (by decide), by decide, fun k hk => absurd hk (Nat.not_lt_zero k)⟩
  obtain ⟨d1, d2, d3, d4, d5⟩ := d (by decide) o ho
  exact ⟨d1, d2, d3, d4, fun j hj => ⟨by rw [d5]; rfl, by show 0 < 2147483648; decide⟩⟩
def kzI (k : Nat) : Nat := if k = 9 ∨ k = 24 then 64 else 16
def mF5 : List Nat := [1502, 1508, 1510, 1513, 1514]
/-- an object being made: the fields of D are there, jp of the graphs -/
def mX (S : MM) (F : Nat → Nat × Nat) (t : Nat) (D : List Nat) (jp : Nat) (S1 : MM) (F1 : Nat → Nat × Nat) (z : Nat → Nat) (Y : Nat → Nat → Nat) : Prop := (isO S1 15 t ∧ F1 t = (100, 1)) ∧ (∀ k, k ∈ D → k ∈ mdL → mR S1 (1500 + k) t = some (z k) ∧ F1 (z k) = (100, 100 + k) ∧ isO S1 (mdK k) (z k) ∧ mN S1 (z k) = mdN kzI k ∧ eI S1 (z k) = (fun _ => 0) ∧ (k = 3 → eR S1 (z k) = fun _ => none) ∧ z k ∉ mL S) ∧ (∀ k, k ∈ D → otK k → mdO S1 F1 t z k) ∧ (∀ p, p < jp → eR S1 (z 0) p = some (Y p 0) ∧ RP S1 F1 (101 + p) (Y p) e0 T0 (fun _ _ => 0) []) ∧ (∀ f, f ∈ mF5 → mI S1 f t = 0) ∧ FO S1 F1 ∧ (∀ c, c ∈ mL S → c ≠ t → F1 c = F c) ∧ Keep (fun c => c = t) S S1 ∧ (0 < jp → 0 ∈ D) ∧ ∀ i, i ∈ D → i < 60
section MX
variable {S S1 S2 S3 : MM} {F F1 F2 : Nat → Nat × Nat} {t jp : Nat} {D : List Nat} {z z2 : Nat → Nat} {Y : Nat → Nat → Nat}
theorem mX.mv (h : mX S F t D jp S1 F1 z Y) (hk : Keep (fun b => b = t) S1 S2) (hR : ∀ k, k ∈ D → mR S2 (1500 + k) t = mR S1 (1500 + k) t) (hI : ∀ f, f ∈ mF5 → mI S2 f t = mI S1 f t) (hf : ∀ b, b ∈ mL S1 → F2 b = F1 b) (hFO : FO S2 F2) (hz : ∀ i, i ∈ D → z2 i = z i ∧ z2 (70 + i) = z (70 + i)) : mX S F t D jp S2 F2 z2 Y := by
  obtain ⟨⟨a1, a2⟩, a3, a4, a5, a6, a7, a8, a9, a10, a11⟩ := h
  have nt : ∀ {x o v}, F1 x = (o, v) → (o, v) ≠ (100, 1) → ¬ x = t := fun {x o v} e hv q => hv (by rw [← e, q, a2])
  refine ⟨⟨hk.isO a1, (hf t a1.1).trans a2⟩, fun k k1 k2 => ?_, fun k k1 k2 => ?_, fun p hp => ?_, fun f hf => (hI f hf).trans (a6 f hf), hFO, fun c hc hct => (hf c (a9.1 c hc).1).trans (a8 c hc hct), a9.tr hk, a10, a11⟩
  · obtain ⟨b1, b2, b3, b4, b5, b6, b7⟩ := a3 k k1 k2
    have kk := hk.2.1 _ b3.1 (nt b2 (by intro e; injection e with _ e; omega))
    rw [(hz k k1).1]
    exact ⟨(hR k k1).trans b1, (hf _ b3.1).trans b2, hk.isO b3, (hk.1 _ b3.1).2.2.trans b4, kk.2.2.2.1.trans b5, fun e => kk.2.2.2.2.2.trans (b6 e), b7⟩
  · obtain ⟨b1, b2, b3, B, b4⟩ := a4 k k1 k2
    unfold mdO
    rw [(hz k k1).1, (hz k k1).2]
    exact ⟨(hR k k1).trans b1, (hf _ b4.1.1).trans b2, (hf _ b4.2.2.1.1).trans b3, B, b4.kp hk (nt b2 (by intro e; injection e with e _; omega)) (nt b3 (by intro e; injection e with e _; omega))⟩
  · have m0 := a10 (by omega)
    obtain ⟨c1, c2⟩ := a5 p hp
    have b := a3 0 m0 (by decide)
    rw [(hz 0 m0).1, (hk.2.1 _ b.2.2.1.1 (nt b.2.1 (by decide))).2.2.2.2.2]
    exact ⟨c1, c2.keep hk (fun b hb q => by
      have q : b = t := q
      rw [q, a2] at hb
      have hb : 100 = 101 + p := hb
      omega) hf⟩
theorem mX.arr (h : mX S F t D jp S1 F1 z Y) {k q K N : Nat} (hk : k ∈ mdL) (hD : k ∉ D) (hq : q ∉ mL S1) (eK : mdK k = K) (eN : mdN kzI k = N) : mX S F t (k :: D) jp (sR (nA S1 q K N) (1500 + k) t (some q)) (fun b => if b = q then (100, 100 + k) else F1 b) (updN z k q) Y := by
  have k60 : k < 60 := (by decide : ∀ k ∈ mdL, k < 60) k hk
  have nO : ∀ k, k ∈ mdL → ¬ otK k := by
    have : ∀ k, k ∈ mdL → ¬ (k = 21 ∨ (25 ≤ k ∧ k ≤ 30)) := by decide
    exact this
  have ot := h.1.1
  have hFO := h.2.2.2.2.2.1
  have d60 := h.2.2.2.2.2.2.2.2.2
  have kp : Keep (fun b => b = t) S1 (sR (nA S1 q K N) (1500 + k) t (some q)) := Keep.sR (P := fun b => b = t) (Keep.nA (P := fun b => b = t) Keep.rf hq) rfl
  have oq : isO (sR (nA S1 q K N) (1500 + k) t (some q)) K q := isO_sR isO_nA_self
  have w := h.mv (z2 := updN z k q) (F2 := fun b => if b = q then (100, 100 + k) else F1 b) kp (fun i hi => by
    rw [mR_sR, if_neg (fun w => hD (by rw [show k = i by omega]; exact hi))]; rfl) (fun f hf => rfl) (F_new hq) (FO_new hFO (fun x hx => (kp.1 x hx).1) oq.1) (fun i hi => ⟨updN_ne (fun e => hD (e ▸ hi)), updN_ne (by omega)⟩)
  obtain ⟨a1, a3, a4, a5, a6, a7, a8, a9, a10, a11⟩ := w
  refine ⟨a1, fun i h1 h2 => ?_, fun i h1 h2 => ?_, a5, a6, a7, a8, a9, fun e => List.mem_cons_of_mem _ (a10 e), fun i hi => (List.mem_cons.1 hi).elim (fun e => by rw [e]; exact k60) (a11 i)⟩
  · rcases List.mem_cons.1 h1 with e | e
    · subst e
      rw [updN_eq]
      refine ⟨by rw [mR_sR, if_pos ⟨rfl, rfl⟩], if_pos rfl, by rw [eK]; exact oq, ?_, ?_, fun _ => ?_, fun w => hq (h.2.2.2.2.2.2.2.1.1 q w).1⟩
      · show mN (nA S1 q K N) q = _
        rw [mN_nA, if_pos rfl, eN]
      · show eI (nA S1 q K N) q = _
        rw [eI_nA, if_pos rfl]
      · exact va_up_self _ _ _
    · exact a3 i e h2
  · rcases List.mem_cons.1 h1 with e | e
    · subst e; exact absurd h2 (nO i hk)
    · exact a4 i e h2
theorem mX.out (h : mX S F t D jp S1 F1 z Y) {k q cb : Nat} (hk : otK k) (hD : k ∉ D) (hq : q ∉ mL S1) (hcb : cb ∉ mL (nO S1 q 14)) (hO : Ou S2 q cb []) (hK : Keep (fun b => b = q) (nO S1 q 14) S2) : mX S F t (k :: D) jp (sR S2 (1500 + k) t (some q)) (fun b => if b = q then (110, k) else if b = cb then (110, 100 + k) else F1 b) (updN (updN z k q) (70 + k) cb) Y := by
  have k60 : k < 60 := by rcases hk with e | e <;> omega
  have nL : ∀ i, otK i → i ∉ mdL := fun i hi hm => (by decide : ∀ k, k ∈ mdL → ¬ (k = 21 ∨ (25 ≤ k ∧ k ≤ 30))) i hm hi
  have ot := h.1.1
  have hFO := h.2.2.2.2.2.1
  have d60 := h.2.2.2.2.2.2.2.2.2
  have hc1 : cb ∉ mL S1 := fun w => hcb (List.mem_append_left _ w)
  have hcq : cb ≠ q := fun w => hcb (by rw [w]; exact (isO_nO_self (S := S1) (k := 14)).1)
  have k1 : Keep (fun _ => False) S1 S2 := Keep.trN (Keep.nO (P := fun _ => False) Keep.rf hq) hK (fun b hb e => hq (e ▸ hb))
  have kp : Keep (fun b => b = t) S1 (sR S2 (1500 + k) t (some q)) := Keep.sR (P := fun b => b = t) (k1.mono (fun b _ e => e.elim)) rfl
  have kt := k1.2.1 t ot.1 id
  have Fo : ∀ b, b ∈ mL S1 → (fun b => if b = q then (110, k) else if b = cb then (110, 100 + k) else F1 b) b = F1 b := fun b hb => by
    show (if b = q then (110, k) else if b = cb then (110, 100 + k) else F1 b) = F1 b
    rw [if_neg (fun e : b = q => hq (e ▸ hb)), if_neg (fun e : b = cb => hc1 (e ▸ hb))]
  have w := h.mv (z2 := updN (updN z k q) (70 + k) cb) (F2 := fun b => if b = q then (110, k) else if b = cb then (110, 100 + k) else F1 b) kp (fun i hi => by
    rw [mR_sR, if_neg (fun w => hD (by rw [show k = i by omega]; exact hi))]; exact kt.2.1 _) (fun f hf => kt.1 f) Fo (fun b hb => by
      have hb : (if b = q then (110, k) else if b = cb then (110, 100 + k) else F1 b) ≠ (0, 0) := hb
      show b ∈ mL S2
      by_cases c1 : b = q
      · rw [c1]; exact hO.1.1
      · by_cases c2 : b = cb
        · rw [c2]; exact hO.2.2.1.1
        · rw [if_neg c1, if_neg c2] at hb
          exact (k1.1 b (hFO b hb)).1) (fun i hi => by
      have := d60 i hi
      have hne : i ≠ k := fun e => hD (e ▸ hi)
      exact ⟨by rw [updN_ne (by omega), updN_ne hne], by rw [updN_ne (by omega), updN_ne (by omega)]⟩)
  obtain ⟨a1, a3, a4, a5, a6, a7, a8, a9, a10, a11⟩ := w
  refine ⟨a1, fun i h1 h2 => ?_, fun i h1 h2 => ?_, a5, a6, a7, a8, a9, fun e => List.mem_cons_of_mem _ (a10 e), fun i hi => (List.mem_cons.1 hi).elim (fun e => by rw [e]; exact k60) (a11 i)⟩
  · rcases List.mem_cons.1 h1 with e | e
    · subst e; exact absurd h2 (nL i hk)
    · exact a3 i e h2
  · rcases List.mem_cons.1 h1 with e | e
    · subst e
      have e1 : updN (updN z i q) (70 + i) cb i = q := by rw [updN_ne (by omega), updN_eq]
      have e2 : updN (updN z i q) (70 + i) cb (70 + i) = cb := updN_eq
      unfold mdO
      rw [e1, e2]
      have tq : t ≠ q := fun e => hq (e ▸ ot.1)
      obtain ⟨o1, o2, o3⟩ := hO
      refine ⟨by rw [mR_sR, if_pos ⟨rfl, rfl⟩], if_pos rfl, ?_, [], o1, ?_, o3⟩
      · show (if cb = q then (110, i) else if cb = cb then (110, 100 + i) else F1 cb) = _
        rw [if_neg hcq, if_pos rfl]
      · rw [mR_sR, if_neg (fun e => tq e.2.symm)]; exact o2
    · exact a4 i e h2
theorem mX.gr {y : Nat → Nat} (h : mX S F t D jp S1 F1 z Y) {q : Nat} (h0 : 0 ∈ D) (hq : q ∉ mL S1) (hg : gX (nO S1 q 13) F1 (101 + jp) q 25 S3 F2 y) : mX S F t D (jp + 1) (rR S3 (z 0) (va_up (eR S3 (z 0)) jp (some q))) F2 z (upY Y jp y) ∧ Keep (fun _ => False) S1 S3 := by
  have hrp := hg.rp
  obtain ⟨hX, hFO2, hF2, hK⟩ := hg
  have y0 : y 0 = q := hX.1.2.2
  have k1 : Keep (fun _ => False) S1 S3 := Keep.trN (Keep.nO (P := fun _ => False) Keep.rf hq) hK (fun b hb e => hq (e ▸ hb))
  have hf : ∀ b, b ∈ mL S1 → F2 b = F1 b := fun b hb => hF2 b (List.mem_append_left _ hb) (fun e => hq (e ▸ hb))
  refine ⟨?_, k1⟩
  have w := h.mv (S2 := S3) (z2 := z) (F2 := F2) (k1.mono (fun b _ e => e.elim)) (fun i hi => (k1.2.1 t h.1.1.1 id).2.1 _) (fun f _ => (k1.2.1 t h.1.1.1 id).1 f) hf hFO2 (fun i hi => ⟨rfl, rfl⟩)
  obtain ⟨⟨a1, a2⟩, a3, a4, a5, a6, a7, a8, a9, a10, a11⟩ := w
  have b0 := a3 0 h0 (by decide)
  have kp : Keep (fun b => b = z 0) S3 (rR S3 (z 0) (va_up (eR S3 (z 0)) jp (some q))) := Keep.rR (P := fun b => b = z 0) Keep.rf rfl
  have n0 : ∀ {x o v}, F2 x = (o, v) → (o, v) ≠ (100, 100) → ¬ x = z 0 := fun {x o v} e hv q => hv (by rw [← e, q, b0.2.1])
  have z0S : z 0 ∉ mL S := b0.2.2.2.2.2.2
  refine ⟨⟨kp.isO a1, a2⟩, fun k k1 k2 => ?_, fun k k1 k2 => ?_, fun p hp => ?_, a6, fun b hb => (kp.1 b (a7 b hb)).1, a8, ?_, fun _ => h0, a11⟩
  · obtain ⟨b1, b2, b3, b4, b5, b6, b7⟩ := a3 k k1 k2
    refine ⟨b1, b2, kp.isO b3, (kp.1 _ b3.1).2.2.trans b4, b5, fun e => ?_, b7⟩
    subst e
    rw [(kp.2.1 _ b3.1 (n0 b2 (by decide))).2.2.2.2.2]
    exact b6 rfl
  · obtain ⟨b1, b2, b3, B, b4⟩ := a4 k k1 k2
    exact ⟨b1, b2, b3, B, b4.kp kp (n0 b2 (by intro e; injection e with e _; omega)) (n0 b3 (by intro e; injection e with e _; omega))⟩
  · have er : eR (rR S3 (z 0) (va_up (eR S3 (z 0)) jp (some q))) (z 0) = va_up (eR S3 (z 0)) jp (some q) := va_up_self _ _ _
    rw [er]
    have kk : ∀ {i y' G T Kn C}, i ≠ 100 → RP S3 F2 i y' G T Kn C → RP (rR S3 (z 0) (va_up (eR S3 (z 0)) jp (some q))) F2 i y' G T Kn C := fun {i y' G T Kn C} hi hr => hr.keep kp (fun b hb q => by
      have q : b = z 0 := q
      rw [q, b0.2.1] at hb
      exact hi hb.symm) (fun _ _ => rfl)
    by_cases c : p = jp
    · subst c
      have e1 : upY Y p y p = y := if_pos rfl
      rw [e1, y0]
      exact ⟨va_up_self _ _ _, kk (by omega) hrp⟩
    · have e1 : upY Y jp y p = Y p := if_neg c
      rw [e1]
      obtain ⟨c1, c2⟩ := a5 p (by omega)
      exact ⟨(va_up_ne _ _ c).trans c1, kk (by omega) c2⟩
  · exact Keep.trN a9 kp (fun b hb e => absurd (e ▸ hb) z0S)
def R0 : Rb := (((fun _ => e0), (fun _ => T0), (fun _ => []), (fun _ _ _ => 0), [], (fun _ => []), 0, 0, (fun _ => none), (fun _ => 0), [], [], (fun _ => none), (fun _ => none)), (fun _ => []), (fun _ _ => 0))
theorem mX.md (h : mX S F t D 4 S1 F1 z Y) (hD : ∀ k, k ∈ mdL → k ∈ D) (hD2 : ∀ k, otK k → k ∈ D) (hk : Keep (fun b => b = z 5 ∨ b = z 11) S1 S2) (e5 : ∀ b, b < 8 → eI S2 (z 5) b = -1) (e11 : ∀ b, b < 8 → eI S2 (z 11) b = -1) : MD S2 F1 t z Y R0 kzI := by
  obtain ⟨⟨a1, a2⟩, a3, a4, a5, a6, a7, a8, a9, a10, a11⟩ := h
  have b5 := a3 5 (hD 5 (by decide)) (by decide)
  have b11 := a3 11 (hD 11 (by decide)) (by decide)
  have n5 : ∀ {x o v}, F1 x = (o, v) → (o, v) ≠ (100, 105) → (o, v) ≠ (100, 111) → ¬ (x = z 5 ∨ x = z 11) := fun {x o v} e h1 h2 q => by
    rcases q with q | q
    · exact h1 (by rw [← e, q, b5.2.1])
    · exact h2 (by rw [← e, q, b11.2.1])
  have kt := hk.2.1 t a1.1 (n5 a2 (by decide) (by decide))
  have kr : ∀ k, k ∈ mdL → k ≠ 5 → k ≠ 11 → eI S2 (z k) = (fun _ => 0) ∧ eR S2 (z k) = eR S1 (z k) := fun k hk9 h1 h2 => by
    obtain ⟨c1, c2, c3, c4, c5, c6, c7⟩ := a3 k (hD k hk9) hk9
    have kk := hk.2.1 _ c3.1 (n5 c2 (by intro e; injection e with _ e; omega) (by intro e; injection e with _ e; omega))
    exact ⟨kk.2.2.2.1.trans c5, kk.2.2.2.2.2⟩
  intro j
  match j with
  | 0 => exact ⟨hk.isO a1, a2⟩
  | 1 =>
    intro k hk9
    obtain ⟨c1, c2, c3, c4, c5, c6, c7⟩ := a3 k (hD k hk9) hk9
    exact ⟨(kt.2.1 _).trans c1, c2, hk.isO c3, (hk.1 _ c3.1).2.2.trans c4⟩
  | 2 =>
    intro p hp
    obtain ⟨c1, c2⟩ := a5 p hp
    rw [(kr 0 (by decide) (by decide) (by decide)).2]
    exact ⟨c1, c2.keep hk (fun b hb q => by
      have hne : ∀ {x v}, F1 x = (100, v) → (F1 x).1 ≠ 101 + p := fun e w => by rw [e] at w; have w : 100 = 101 + p := w; omega
      rcases q with q | q
      · rw [q] at hb; exact hne b5.2.1 hb
      · rw [q] at hb; exact hne b11.2.1 hb) (fun _ _ => rfl)⟩
  | 3 =>
    refine ⟨(kt.1 _).trans (a6 1502 (by decide)), by decide, fun j => ?_, fun x hx => (by cases hx), fun j hj => absurd hj (Nat.not_lt_zero j)⟩
    rw [(kr 1 (by decide) (by decide) (by decide)).1]; rfl
  | 4 =>
    intro k hk9
    refine Or.inl ⟨rfl, ?_⟩
    rw [(kr 3 (by decide) (by decide) (by decide)).2, (a3 3 (hD 3 (by decide)) (by decide)).2.2.2.2.2.1 rfl]
  | 5 => exact fun b hb => ⟨e5 b hb, fun p e => by cases e⟩
  | 6 => exact ⟨(kt.1 _).trans (a6 1508 (by decide)), by decide, fun k hk => absurd hk (Nat.not_lt_zero k)⟩
  | 7 => exact ⟨(kt.1 _).trans (a6 1510 (by decide)), by decide, by decide, by decide, fun k hk => absurd hk (Nat.not_lt_zero k)⟩
  | 8 => exact fun b hb => ⟨e11 b hb, fun p e => by cases e⟩
  | 9 => exact ⟨(kt.1 _).trans (a6 1513 (by decide)), by decide, (kt.1 _).trans (a6 1514 (by decide)), by decide⟩
  | 10 =>
    intro k hk9
    obtain ⟨c1, c2, c3, B, c4⟩ := a4 k (hD2 k hk9) hk9
    exact ⟨(kt.2.1 _).trans c1, c2, c3, B, c4.kp hk (n5 c2 (by intro e; injection e with e _; omega) (by intro e; injection e with e _; omega)) (n5 c3 (by intro e; injection e with e _; omega) (by intro e; injection e with e _; omega))⟩
  | 11 => exact (by decide : 64 ≤ kzI 24 ∧ kzI 24 ≤ 131072 ∧ 16 ≤ kzI 40 ∧ kzI 40 ≤ 131072 ∧ 16 ≤ kzI 47 ∧ kzI 47 ≤ 131072)
  | 12 => exact fun b hb => (hk.1 b (a7 b hb)).1
  | n + 13 => trivial
end MX
def miP (S S' : MM) (F : Nat → Nat × Nat) (t : Nat) : Prop := ∃ F' z Y, MD S' F' t z Y R0 kzI ∧ (∀ c, c ∈ mL S → c ≠ t → F' c = F c) ∧ Keep (fun c => c = t) S S'
def I_mx (D : List Nat) (cs0 sl0 ms t : Nat) (F : Nat → Nat × Nat) (S : MM) (kk : Nat) : KT := fun lo st S1 cs sl => ∃ F1 z, kk = ms ∧ mX S F t D 0 S1 F1 z (fun _ _ => 0) ∧ lo = [(0, .inr (.inr (some t)))] ∧ st = [] ∧ cs = cs0 ∧ sl = sl0
def I_my (D : List Nat) (cs0 sl0 t : Nat) (F : Nat → Nat × Nat) (S : MM) (kk : Nat) : KT := fun lo st S1 cs sl => ∃ p F1 z Y, kk = 10 - p ∧ p ≤ 4 ∧ mX S F t D p S1 F1 z Y ∧ lo = [(0, .inr (.inr (some t))), (1, .inl (nI p))] ∧ st = [] ∧ cs = cs0 + 43 * p ∧ sl = sl0 + 271567 * p
def T_mini : TR := fun Rc Rs av S cs sl K _Kx => match av with
  | [.inr (.inr t_o)] => pa t_o fun t => (∃ (F : Nat → Nat × Nat), (isO S 15 t ∧ FO S F ∧ ∀ f, f ∈ mF5 → mI S f t = 0) ∧ cs + 215 ≤ Rc ∧ sl + 1431400 ≤ Rs ∧ (∀ (S' : MM), (miP S S' F t) → K none S' (cs + 215) (sl + 1431400)))
  | _ => False
def sp_mini (t : Nat) (F : Nat → Nat × Nat) : Sp := (fun av S => av = [.inr (.inr (some t))] ∧ (isO S 15 t ∧ FO S F ∧ ∀ f, f ∈ mF5 → mI S f t = 0), fun _ S => 215, fun _ S => 1431400, fun _ S rv S' => rv = none ∧ (miP S S' F t), fun _ _ _ _ => False)
def tX14_init : CD := [(0, .aload_n 0), (1, .invokespecial 1), (4, .aload_n 0), (5, .iconst 4), (6, .anewarray 9), (9, .putfield 11), (12, .aload_n 0), (13, .ldc 15), (15, .newarray .byte), (17, .putfield 16), (20, .aload_n 0), (21, .bipush 8), (23, .anewarray 20), (26, .putfield 21), (29, .aload_n 0), (30, .bipush 8), (32, .newarray .int), (34, .putfield 25), (37, .aload_n 0), (38, .bipush 8), (40, .newarray .int), (42, .putfield 29), (45, .aload_n 0), (46, .sipush 128), (49, .newarray .short), (51, .putfield 32), (54, .aload_n 0), (55, .sipush 8192), (58, .newarray .int), (60, .putfield 36), (63, .aload_n 0), (64, .bipush 64), (66, .newarray .int), (68, .putfield 39), (71, .aload_n 0), (72, .bipush 8), (74, .newarray .int), (76, .putfield 42), (79, .aload_n 0), (80, .bipush 8), (82, .newarray .int), (84, .putfield 45), (87, .aload_n 0), (88, .bipush 16), (90, .newarray .short), (92, .putfield 48), (95, .aload_n 0), (96, .bipush 16), (98, .newarray .int), (100, .putfield 51), (103, .aload_n 0), (104, .ldc 15), (106, .newarray .int), (108, .putfield 54), (111, .aload_n 0), (112, .ldc 15), (114, .newarray .byte), (116, .putfield 57), (119, .aload_n 0), (120, .new 60), (123, .dup), (124, .invokespecial 62), (127, .putfield 63), (130, .aload_n 0), (131, .sipush 8192), (134, .newarray .int), (136, .putfield 67), (139, .aload_n 0), (140, .sipush 256), (143, .newarray .int), (145, .putfield 70), (148, .aload_n 0), (149, .bipush 64), (151, .newarray .int), (153, .putfield 73), (156, .aload_n 0), (157, .new 60), (160, .dup), (161, .invokespecial 62), (164, .putfield 76), (167, .aload_n 0), (168, .new 60), (171, .dup), (172, .invokespecial 62), (175, .putfield 79), (178, .aload_n 0), (179, .new 60), (182, .dup), (183, .invokespecial 62), (186, .putfield 82), (189, .aload_n 0), (190, .new 60), (193, .dup), (194, .invokespecial 62), (197, .putfield 85), (200, .aload_n 0), (201, .new 60), (204, .dup), (205, .invokespecial 62), (208, .putfield 88), (211, .aload_n 0), (212, .new 60), (215, .dup), (216, .invokespecial 62), (219, .putfield 91), (222, .aload_n 0), (223, .sipush 256), (226, .newarray .int), (228, .putfield 94), (231, .aload_n 0), (232, .iconst 5), (233, .newarray .int), (235, .putfield 97), (238, .aload_n 0), (239, .iconst 5), (240, .newarray .int), (242, .putfield 100), (245, .aload_n 0), (246, .bipush 16), (248, .newarray .int), (250, .putfield 103), (253, .aload_n 0), (254, .bipush 16), (256, .newarray .int), (258, .putfield 106), (261, .aload_n 0), (262, .bipush 16), (264, .newarray .int), (266, .putfield 109), (269, .aload_n 0), (270, .bipush 16), (272, .newarray .int), (274, .putfield 112), (277, .aload_n 0), (278, .bipush 16), (280, .newarray .long), (282, .putfield 115), (285, .aload_n 0), (286, .bipush 16), (288, .newarray .long), (290, .putfield 119), (293, .aload_n 0), (294, .bipush 16), (296, .newarray .long), (298, .putfield 122), (301, .aload_n 0), (302, .bipush 16), (304, .newarray .int), (306, .putfield 125), (309, .aload_n 0), (310, .bipush 16), (312, .newarray .long), (314, .putfield 128), (317, .iconst 0), (318, .istore_n 1), (319, .iload_n 1), (320, .iconst 4), (321, .if_icmp .ge 22), (324, .aload_n 0), (325, .getfield 11), (328, .iload_n 1), (329, .new 9), (332, .dup), (333, .invokespecial 131), (336, .aastore), (337, .iinc 1 1), (340, .goto (-21)), (343, .aload_n 0), (344, .getfield 29), (347, .iconst (-1)), (348, .invokestatic 132), (351, .aload_n 0), (352, .getfield 42), (355, .iconst (-1)), (356, .invokestatic 132), (359, .return_)]
set_option maxRecDepth 100000 in
theorem kX14_init : chk cX14_init tX14_init = true := by decide +kernel
theorem vX14_init_1 : ∀ w ∈ ([.methodLink RX14 1 Lib.objectInit, .instanceMethod Lib.objectInit, .code Lib.objectInit ⟨#[0xb1]⟩ 1 none] : List Cond), w ∈ lw_good := List.forall_mem_cons.mpr ⟨mgd 1619 (by decide +kernel) (by decide +kernel), List.forall_mem_cons.mpr ⟨mgd 158 (by decide +kernel) (by decide +kernel), List.forall_mem_cons.mpr ⟨mgd 159 (by decide +kernel) (by decide +kernel), fun _ h => absurd h List.not_mem_nil⟩⟩⟩
theorem vX14_init_62 : ∀ w ∈ ([.instanceMethod yX13_init, .initialized yX13_init.cls, .code yX13_init cX13_init 1 none] : List Cond), w ∈ lw_good := List.forall_mem_cons.mpr ⟨mgd 1628 (by decide +kernel) (by decide +kernel), List.forall_mem_cons.mpr ⟨mgd 137 (by decide +kernel) (by decide +kernel), List.forall_mem_cons.mpr ⟨mgd 1629 (by decide +kernel) (by decide +kernel), fun _ h => absurd h List.not_mem_nil⟩⟩⟩
theorem vX14_init_131 : ∀ w ∈ ([.instanceMethod yX12_init, .initialized yX12_init.cls, .code yX12_init cX12_init 1 none] : List Cond), w ∈ lw_good := List.forall_mem_cons.mpr ⟨mgd 1644 (by decide +kernel) (by decide +kernel), List.forall_mem_cons.mpr ⟨mgd 138 (by decide +kernel) (by decide +kernel), List.forall_mem_cons.mpr ⟨mgd 1645 (by decide +kernel) (by decide +kernel), fun _ h => absurd h List.not_mem_nil⟩⟩⟩
theorem vX14_init_132 : ∀ w ∈ ([.methodLink RX14 132 yJ7_fill_53178, .static yJ7_fill_53178, .initialized yJ7_fill_53178.cls, .code yJ7_fill_53178 cJ7_fill_53178 4 none] : List Cond), w ∈ lw_good := List.forall_mem_cons.mpr ⟨mgd 1749 (by decide +kernel) (by decide +kernel), List.forall_mem_cons.mpr ⟨mgd 604 (by decide +kernel) (by decide +kernel), List.forall_mem_cons.mpr ⟨mgd 135 (by decide +kernel) (by decide +kernel), List.forall_mem_cons.mpr ⟨mgd 605 (by decide +kernel) (by decide +kernel), fun _ h => absurd h List.not_mem_nil⟩⟩⟩⟩
set_option maxRecDepth 100000 in
set_option maxHeartbeats 2000000 in
theorem c_mini (l : Launch) : ∀ (t : Nat) (F : Nat → Nat × Nat), Ct l yX14_init cX14_init 2 none 2 40 (sp_mini t F) := by
  intro t F
  refine Ct.of (fX14, nX14, aX14, iX14, lX14, [(1, 1, 1, 0, T_obj), (62, 1, 1, 0, T_oin), (131, 1, 1, 0, T_rgi2), (132, 2, 2, 0, T_fillI)], qX14, gX14, []) true tX14_init (fun _ S => look [(12, ([0], I_mx [0] 1 4 100 t F S)), (20, ([0], I_mx [1, 0] 2 32772 99 t F S)), (29, ([0], I_mx [3, 1, 0] 3 32780 98 t F S)), (37, ([0], I_mx [4, 3, 1, 0] 4 32788 97 t F S)), (45, ([0], I_mx [5, 4, 3, 1, 0] 5 32796 96 t F S)), (54, ([0], I_mx [6, 5, 4, 3, 1, 0] 6 32924 95 t F S)), (63, ([0], I_mx [7, 6, 5, 4, 3, 1, 0] 7 41116 94 t F S)), (71, ([0], I_mx [9, 7, 6, 5, 4, 3, 1, 0] 8 41180 93 t F S)), (79, ([0], I_mx [11, 9, 7, 6, 5, 4, 3, 1, 0] 9 41188 92 t F S)), (87, ([0], I_mx [12, 11, 9, 7, 6, 5, 4, 3, 1, 0] 10 41196 91 t F S)), (95, ([0], I_mx [15, 12, 11, 9, 7, 6, 5, 4, 3, 1, 0] 11 41212 90 t F S)), (103, ([0], I_mx [16, 15, 12, 11, 9, 7, 6, 5, 4, 3, 1, 0] 12 41228 89 t F S)), (111, ([0], I_mx [17, 16, 15, 12, 11, 9, 7, 6, 5, 4, 3, 1, 0] 13 73996 88 t F S)), (119, ([0], I_mx [19, 17, 16, 15, 12, 11, 9, 7, 6, 5, 4, 3, 1, 0] 14 106764 87 t F S)), (130, ([0], I_mx [21, 19, 17, 16, 15, 12, 11, 9, 7, 6, 5, 4, 3, 1, 0] 16 139542 86 t F S)), (139, ([0], I_mx [22, 21, 19, 17, 16, 15, 12, 11, 9, 7, 6, 5, 4, 3, 1, 0] 17 147734 85 t F S)), (148, ([0], I_mx [23, 22, 21, 19, 17, 16, 15, 12, 11, 9, 7, 6, 5, 4, 3, 1, 0] 18 147990 84 t F S)), (156, ([0], I_mx [24, 23, 22, 21, 19, 17, 16, 15, 12, 11, 9, 7, 6, 5, 4, 3, 1, 0] 19 148054 83 t F S)), (167, ([0], I_mx [25, 24, 23, 22, 21, 19, 17, 16, 15, 12, 11, 9, 7, 6, 5, 4, 3, 1, 0] 21 180832 82 t F S)), (178, ([0], I_mx [26, 25, 24, 23, 22, 21, 19, 17, 16, 15, 12, 11, 9, 7, 6, 5, 4, 3, 1, 0] 23 213610 81 t F S)), (189, ([0], I_mx [27, 26, 25, 24, 23, 22, 21, 19, 17, 16, 15, 12, 11, 9, 7, 6, 5, 4, 3, 1, 0] 25 246388 80 t F S)), (200, ([0], I_mx [28, 27, 26, 25, 24, 23, 22, 21, 19, 17, 16, 15, 12, 11, 9, 7, 6, 5, 4, 3, 1, 0] 27 279166 79 t F S)), (211, ([0], I_mx [29, 28, 27, 26, 25, 24, 23, 22, 21, 19, 17, 16, 15, 12, 11, 9, 7, 6, 5, 4, 3, 1, 0] 29 311944 78 t F S)), (222, ([0], I_mx [30, 29, 28, 27, 26, 25, 24, 23, 22, 21, 19, 17, 16, 15, 12, 11, 9, 7, 6, 5, 4, 3, 1, 0] 31 344722 77 t F S)), (231, ([0], I_mx [31, 30, 29, 28, 27, 26, 25, 24, 23, 22, 21, 19, 17, 16, 15, 12, 11, 9, 7, 6, 5, 4, 3, 1, 0] 32 344978 76 t F S)), (238, ([0], I_mx [38, 31, 30, 29, 28, 27, 26, 25, 24, 23, 22, 21, 19, 17, 16, 15, 12, 11, 9, 7, 6, 5, 4, 3, 1, 0] 33 344983 75 t F S)), (245, ([0], I_mx [39, 38, 31, 30, 29, 28, 27, 26, 25, 24, 23, 22, 21, 19, 17, 16, 15, 12, 11, 9, 7, 6, 5, 4, 3, 1, 0] 34 344988 74 t F S)), (253, ([0], I_mx [40, 39, 38, 31, 30, 29, 28, 27, 26, 25, 24, 23, 22, 21, 19, 17, 16, 15, 12, 11, 9, 7, 6, 5, 4, 3, 1, 0] 35 345004 73 t F S)), (261, ([0], I_mx [41, 40, 39, 38, 31, 30, 29, 28, 27, 26, 25, 24, 23, 22, 21, 19, 17, 16, 15, 12, 11, 9, 7, 6, 5, 4, 3, 1, 0] 36 345020 72 t F S)), (269, ([0], I_mx [42, 41, 40, 39, 38, 31, 30, 29, 28, 27, 26, 25, 24, 23, 22, 21, 19, 17, 16, 15, 12, 11, 9, 7, 6, 5, 4, 3, 1, 0] 37 345036 71 t F S)), (277, ([0], I_mx [43, 42, 41, 40, 39, 38, 31, 30, 29, 28, 27, 26, 25, 24, 23, 22, 21, 19, 17, 16, 15, 12, 11, 9, 7, 6, 5, 4, 3, 1, 0] 38 345052 70 t F S)), (285, ([0], I_mx [44, 43, 42, 41, 40, 39, 38, 31, 30, 29, 28, 27, 26, 25, 24, 23, 22, 21, 19, 17, 16, 15, 12, 11, 9, 7, 6, 5, 4, 3, 1, 0] 39 345068 69 t F S)), (293, ([0], I_mx [45, 44, 43, 42, 41, 40, 39, 38, 31, 30, 29, 28, 27, 26, 25, 24, 23, 22, 21, 19, 17, 16, 15, 12, 11, 9, 7, 6, 5, 4, 3, 1, 0] 40 345084 68 t F S)), (301, ([0], I_mx [46, 45, 44, 43, 42, 41, 40, 39, 38, 31, 30, 29, 28, 27, 26, 25, 24, 23, 22, 21, 19, 17, 16, 15, 12, 11, 9, 7, 6, 5, 4, 3, 1, 0] 41 345100 67 t F S)), (309, ([0], I_mx [47, 46, 45, 44, 43, 42, 41, 40, 39, 38, 31, 30, 29, 28, 27, 26, 25, 24, 23, 22, 21, 19, 17, 16, 15, 12, 11, 9, 7, 6, 5, 4, 3, 1, 0] 42 345116 66 t F S)), (319, ([0,1], I_my [48, 47, 46, 45, 44, 43, 42, 41, 40, 39, 38, 31, 30, 29, 28, 27, 26, 25, 24, 23, 22, 21, 19, 17, 16, 15, 12, 11, 9, 7, 6, 5, 4, 3, 1, 0] 43 345132 t F S))]) (by decide) (by decide) kX14_init ⟨_, _, rfl⟩ fX14_ok nX14_ok aX14_ok iX14_ok lX14_ok (fun p e R s m args below meth c Q D cy z r A C hR1 hR2 => List.forall_mem_cons.mpr ⟨cOK_use (fun _ _ _ _ _ _ _ _ h => ⟨spObj, cOK_obj C vX14_init_1 ⟨by rw [hR1]; decide, by rw [hR2]; decide⟩, T_obj_ok h⟩), List.forall_mem_cons.mpr ⟨cOK_use (fun _ _ _ _ _ _ _ _ h => let ⟨sp, h1, h2, h3⟩ := u_oin l _ _ _ _ _ _ _ _ h; ⟨sp, cOK_I C h1 vX14_init_62 (Or.inr ⟨"WeaveTextModel", mbd 1627 (by decide +kernel) (by decide +kernel)⟩) rfl ⟨by decide, by decide, by decide +kernel⟩ ⟨by rw [hR1]; decide, by rw [hR2]; decide⟩ h2, h3⟩), List.forall_mem_cons.mpr ⟨cOK_use (fun _ _ _ _ _ _ _ _ h => let ⟨sp, h1, h2, h3⟩ := u_rgi2 l _ _ _ _ _ _ _ _ h; ⟨sp, cOK_I C h1 vX14_init_131 (Or.inr ⟨"WeaveTextModel", mbd 1643 (by decide +kernel) (by decide +kernel)⟩) rfl ⟨by decide, by decide, by decide +kernel⟩ ⟨by rw [hR1]; decide, by rw [hR2]; decide⟩ h2, h3⟩), List.forall_mem_cons.mpr ⟨cOK_use (fun _ _ _ _ _ _ _ _ h => let ⟨sp, h1, _, h3⟩ := u_fillI l _ _ _ _ _ _ _ _ h; ⟨sp, cOK_S C h1 vX14_init_132 ⟨by decide, by decide, by decide +kernel⟩ ⟨by rw [hR1]; decide, by rw [hR2]; decide⟩, h3⟩), fun _ h => absurd h List.not_mem_nil⟩⟩⟩⟩) qX14_ok gX14_ok rfl ?_ ?_
  · rintro _ S ⟨rfl, hp⟩
    refine ⟨Nat.le_of_ble_eq_true rfl, 300, ?_⟩
    show (1 = 1 ∧ (True ∧ 0 ≤ 215 ∧ 0 ≤ 1431400 ∧ ((¬ (4 : Int32) < 0 ∧ (4 : Int32).toNatClampNeg * 8 ≤ 536870912 ∧ 0 + 1 ≤ 215 ∧ 0 + (4 : Int32).toNatClampNeg ≤ 1431400 ∧ ∀ q_2, q_2 ∉ mL S → (true = true ∧ (isO (nA S q_2 25 (4 : Int32).toNatClampNeg) 15 t ∧ (∃ k1, I_mx [0] 1 4 100 t F S k1 [(0, .inr (.inr (some t)))] [] (sR (nA S q_2 25 (4 : Int32).toNatClampNeg) 1500 t (some q_2)) (0 + 1) (0 + (4 : Int32).toNatClampNeg))))))))
    obtain ⟨h1, h2, h3⟩ := hp
    have h0 : mX S F t [] 0 S (fun b => if b = t then (100, 1) else F b) (fun _ => 0) (fun _ _ => 0) := ⟨⟨h1, if_pos rfl⟩, fun k hk => (by cases hk), fun k hk => (by cases hk), fun k hk => absurd hk (Nat.not_lt_zero k), h3, FO_new h2 (fun _ hx => hx) h1.1, fun c _ hc => if_neg hc, Keep.rf, fun hk => absurd hk (Nat.not_lt_zero 0), fun i hi => (by cases hi)⟩
    refine ⟨rfl, trivial, Nat.zero_le _, Nat.zero_le _, by decide, by decide, by decide, by decide, fun q hq => ?_⟩
    exact ⟨by trivial, isO_nA h1 hq, 100, _, _, rfl, h0.arr (k := 0) (K := 25) (N := Int32.toNatClampNeg 4) (by decide) (by decide) hq (by decide) (by decide), rfl, rfl, rfl, rfl⟩
  · intro av S hpre pc I hI k lo st S1 cs sl h
    obtain ⟨rfl, hp⟩ := hpre
    have hm := look_in hI
    simp only [List.mem_cons, List.not_mem_nil, or_false] at hm
    rcases hm with hm | hm | hm | hm | hm | hm | hm | hm | hm | hm | hm | hm | hm | hm | hm | hm | hm | hm | hm | hm | hm | hm | hm | hm | hm | hm | hm | hm | hm | hm | hm | hm | hm | hm | hm | hm
    · cases hm
      obtain ⟨F1, z, rfl, hX, rfl, rfl, rfl, rfl⟩ := h
      refine ⟨300, ?_⟩
      show (¬ (32768 : Int32) < 0 ∧ (32768 : Int32).toNatClampNeg * 8 ≤ 536870912 ∧ 1 + 1 ≤ 215 ∧ 4 + (32768 : Int32).toNatClampNeg ≤ 1431400 ∧ ∀ q_1, q_1 ∉ mL S1 → (true = true ∧ (isO (nA S1 q_1 16 (32768 : Int32).toNatClampNeg) 15 t ∧ (∃ k1, k1 < 100 ∧ I_mx [1, 0] 2 32772 99 t F S k1 [(0, .inr (.inr (some t)))] [] (sR (nA S1 q_1 16 (32768 : Int32).toNatClampNeg) 1501 t (some q_1)) (1 + 1) (4 + (32768 : Int32).toNatClampNeg)))))
      refine ⟨by decide, by decide, by decide, by decide, fun q hq => ?_⟩
      exact ⟨by trivial, isO_nA hX.1.1 hq, 99, by decide, _, _, rfl, hX.arr (k := 1) (K := 16) (N := Int32.toNatClampNeg 32768) (by decide) (by decide) hq (by decide) (by decide), rfl, rfl, rfl, rfl⟩
    · cases hm
      obtain ⟨F1, z, rfl, hX, rfl, rfl, rfl, rfl⟩ := h
      refine ⟨300, ?_⟩
      show (¬ (8 : Int32) < 0 ∧ (8 : Int32).toNatClampNeg * 8 ≤ 536870912 ∧ 2 + 1 ≤ 215 ∧ 32772 + (8 : Int32).toNatClampNeg ≤ 1431400 ∧ ∀ q_1, q_1 ∉ mL S1 → (true = true ∧ (isO (nA S1 q_1 27 (8 : Int32).toNatClampNeg) 15 t ∧ (∃ k1, k1 < 99 ∧ I_mx [3, 1, 0] 3 32780 98 t F S k1 [(0, .inr (.inr (some t)))] [] (sR (nA S1 q_1 27 (8 : Int32).toNatClampNeg) 1503 t (some q_1)) (2 + 1) (32772 + (8 : Int32).toNatClampNeg)))))
      refine ⟨by decide, by decide, by decide, by decide, fun q hq => ?_⟩
      exact ⟨by trivial, isO_nA hX.1.1 hq, 98, by decide, _, _, rfl, hX.arr (k := 3) (K := 27) (N := Int32.toNatClampNeg 8) (by decide) (by decide) hq (by decide) (by decide), rfl, rfl, rfl, rfl⟩
    · cases hm
      obtain ⟨F1, z, rfl, hX, rfl, rfl, rfl, rfl⟩ := h
      refine ⟨300, ?_⟩
      show (¬ (8 : Int32) < 0 ∧ (8 : Int32).toNatClampNeg * 8 ≤ 536870912 ∧ 3 + 1 ≤ 215 ∧ 32780 + (8 : Int32).toNatClampNeg ≤ 1431400 ∧ ∀ q_1, q_1 ∉ mL S1 → (true = true ∧ (isO (nA S1 q_1 17 (8 : Int32).toNatClampNeg) 15 t ∧ (∃ k1, k1 < 98 ∧ I_mx [4, 3, 1, 0] 4 32788 97 t F S k1 [(0, .inr (.inr (some t)))] [] (sR (nA S1 q_1 17 (8 : Int32).toNatClampNeg) 1504 t (some q_1)) (3 + 1) (32780 + (8 : Int32).toNatClampNeg)))))
      refine ⟨by decide, by decide, by decide, by decide, fun q hq => ?_⟩
      exact ⟨by trivial, isO_nA hX.1.1 hq, 97, by decide, _, _, rfl, hX.arr (k := 4) (K := 17) (N := Int32.toNatClampNeg 8) (by decide) (by decide) hq (by decide) (by decide), rfl, rfl, rfl, rfl⟩
    · cases hm
      obtain ⟨F1, z, rfl, hX, rfl, rfl, rfl, rfl⟩ := h
      refine ⟨300, ?_⟩
      show (¬ (8 : Int32) < 0 ∧ (8 : Int32).toNatClampNeg * 8 ≤ 536870912 ∧ 4 + 1 ≤ 215 ∧ 32788 + (8 : Int32).toNatClampNeg ≤ 1431400 ∧ ∀ q_1, q_1 ∉ mL S1 → (true = true ∧ (isO (nA S1 q_1 17 (8 : Int32).toNatClampNeg) 15 t ∧ (∃ k1, k1 < 97 ∧ I_mx [5, 4, 3, 1, 0] 5 32796 96 t F S k1 [(0, .inr (.inr (some t)))] [] (sR (nA S1 q_1 17 (8 : Int32).toNatClampNeg) 1505 t (some q_1)) (4 + 1) (32788 + (8 : Int32).toNatClampNeg)))))
      refine ⟨by decide, by decide, by decide, by decide, fun q hq => ?_⟩
      exact ⟨by trivial, isO_nA hX.1.1 hq, 96, by decide, _, _, rfl, hX.arr (k := 5) (K := 17) (N := Int32.toNatClampNeg 8) (by decide) (by decide) hq (by decide) (by decide), rfl, rfl, rfl, rfl⟩
    · cases hm
      obtain ⟨F1, z, rfl, hX, rfl, rfl, rfl, rfl⟩ := h
      refine ⟨300, ?_⟩
      show (¬ (128 : Int32) < 0 ∧ (128 : Int32).toNatClampNeg * 8 ≤ 536870912 ∧ 5 + 1 ≤ 215 ∧ 32796 + (128 : Int32).toNatClampNeg ≤ 1431400 ∧ ∀ q_1, q_1 ∉ mL S1 → (true = true ∧ (isO (nA S1 q_1 19 (128 : Int32).toNatClampNeg) 15 t ∧ (∃ k1, k1 < 96 ∧ I_mx [6, 5, 4, 3, 1, 0] 6 32924 95 t F S k1 [(0, .inr (.inr (some t)))] [] (sR (nA S1 q_1 19 (128 : Int32).toNatClampNeg) 1506 t (some q_1)) (5 + 1) (32796 + (128 : Int32).toNatClampNeg)))))
      refine ⟨by decide, by decide, by decide, by decide, fun q hq => ?_⟩
      exact ⟨by trivial, isO_nA hX.1.1 hq, 95, by decide, _, _, rfl, hX.arr (k := 6) (K := 19) (N := Int32.toNatClampNeg 128) (by decide) (by decide) hq (by decide) (by decide), rfl, rfl, rfl, rfl⟩
    · cases hm
      obtain ⟨F1, z, rfl, hX, rfl, rfl, rfl, rfl⟩ := h
      refine ⟨300, ?_⟩
      show (¬ (8192 : Int32) < 0 ∧ (8192 : Int32).toNatClampNeg * 8 ≤ 536870912 ∧ 6 + 1 ≤ 215 ∧ 32924 + (8192 : Int32).toNatClampNeg ≤ 1431400 ∧ ∀ q_1, q_1 ∉ mL S1 → (true = true ∧ (isO (nA S1 q_1 17 (8192 : Int32).toNatClampNeg) 15 t ∧ (∃ k1, k1 < 95 ∧ I_mx [7, 6, 5, 4, 3, 1, 0] 7 41116 94 t F S k1 [(0, .inr (.inr (some t)))] [] (sR (nA S1 q_1 17 (8192 : Int32).toNatClampNeg) 1507 t (some q_1)) (6 + 1) (32924 + (8192 : Int32).toNatClampNeg)))))
      refine ⟨by decide, by decide, by decide, by decide, fun q hq => ?_⟩
      exact ⟨by trivial, isO_nA hX.1.1 hq, 94, by decide, _, _, rfl, hX.arr (k := 7) (K := 17) (N := Int32.toNatClampNeg 8192) (by decide) (by decide) hq (by decide) (by decide), rfl, rfl, rfl, rfl⟩
    · cases hm
      obtain ⟨F1, z, rfl, hX, rfl, rfl, rfl, rfl⟩ := h
      refine ⟨300, ?_⟩
      show (¬ (64 : Int32) < 0 ∧ (64 : Int32).toNatClampNeg * 8 ≤ 536870912 ∧ 7 + 1 ≤ 215 ∧ 41116 + (64 : Int32).toNatClampNeg ≤ 1431400 ∧ ∀ q_1, q_1 ∉ mL S1 → (True ∧ (isO (nA S1 q_1 17 (64 : Int32).toNatClampNeg) 15 t ∧ (∃ k1, k1 < 94 ∧ I_mx [9, 7, 6, 5, 4, 3, 1, 0] 8 41180 93 t F S k1 [(0, .inr (.inr (some t)))] [] (sR (nA S1 q_1 17 (64 : Int32).toNatClampNeg) 1509 t (some q_1)) (7 + 1) (41116 + (64 : Int32).toNatClampNeg)))))
      refine ⟨by decide, by decide, by decide, by decide, fun q hq => ?_⟩
      exact ⟨by trivial, isO_nA hX.1.1 hq, 93, by decide, _, _, rfl, hX.arr (k := 9) (K := 17) (N := Int32.toNatClampNeg 64) (by decide) (by decide) hq (by decide) (by decide), rfl, rfl, rfl, rfl⟩
    · cases hm
      obtain ⟨F1, z, rfl, hX, rfl, rfl, rfl, rfl⟩ := h
      refine ⟨300, ?_⟩
      show (¬ (8 : Int32) < 0 ∧ (8 : Int32).toNatClampNeg * 8 ≤ 536870912 ∧ 8 + 1 ≤ 215 ∧ 41180 + (8 : Int32).toNatClampNeg ≤ 1431400 ∧ ∀ q_1, q_1 ∉ mL S1 → (true = true ∧ (isO (nA S1 q_1 17 (8 : Int32).toNatClampNeg) 15 t ∧ (∃ k1, k1 < 93 ∧ I_mx [11, 9, 7, 6, 5, 4, 3, 1, 0] 9 41188 92 t F S k1 [(0, .inr (.inr (some t)))] [] (sR (nA S1 q_1 17 (8 : Int32).toNatClampNeg) 1511 t (some q_1)) (8 + 1) (41180 + (8 : Int32).toNatClampNeg)))))
      refine ⟨by decide, by decide, by decide, by decide, fun q hq => ?_⟩
      exact ⟨by trivial, isO_nA hX.1.1 hq, 92, by decide, _, _, rfl, hX.arr (k := 11) (K := 17) (N := Int32.toNatClampNeg 8) (by decide) (by decide) hq (by decide) (by decide), rfl, rfl, rfl, rfl⟩
    · cases hm
      obtain ⟨F1, z, rfl, hX, rfl, rfl, rfl, rfl⟩ := h
      refine ⟨300, ?_⟩
      show (¬ (8 : Int32) < 0 ∧ (8 : Int32).toNatClampNeg * 8 ≤ 536870912 ∧ 9 + 1 ≤ 215 ∧ 41188 + (8 : Int32).toNatClampNeg ≤ 1431400 ∧ ∀ q_1, q_1 ∉ mL S1 → (true = true ∧ (isO (nA S1 q_1 17 (8 : Int32).toNatClampNeg) 15 t ∧ (∃ k1, k1 < 92 ∧ I_mx [12, 11, 9, 7, 6, 5, 4, 3, 1, 0] 10 41196 91 t F S k1 [(0, .inr (.inr (some t)))] [] (sR (nA S1 q_1 17 (8 : Int32).toNatClampNeg) 1512 t (some q_1)) (9 + 1) (41188 + (8 : Int32).toNatClampNeg)))))
      refine ⟨by decide, by decide, by decide, by decide, fun q hq => ?_⟩
      exact ⟨by trivial, isO_nA hX.1.1 hq, 91, by decide, _, _, rfl, hX.arr (k := 12) (K := 17) (N := Int32.toNatClampNeg 8) (by decide) (by decide) hq (by decide) (by decide), rfl, rfl, rfl, rfl⟩
    · cases hm
      obtain ⟨F1, z, rfl, hX, rfl, rfl, rfl, rfl⟩ := h
      refine ⟨300, ?_⟩
      show (¬ (16 : Int32) < 0 ∧ (16 : Int32).toNatClampNeg * 8 ≤ 536870912 ∧ 10 + 1 ≤ 215 ∧ 41196 + (16 : Int32).toNatClampNeg ≤ 1431400 ∧ ∀ q_1, q_1 ∉ mL S1 → (true = true ∧ (isO (nA S1 q_1 19 (16 : Int32).toNatClampNeg) 15 t ∧ (∃ k1, k1 < 91 ∧ I_mx [15, 12, 11, 9, 7, 6, 5, 4, 3, 1, 0] 11 41212 90 t F S k1 [(0, .inr (.inr (some t)))] [] (sR (nA S1 q_1 19 (16 : Int32).toNatClampNeg) 1515 t (some q_1)) (10 + 1) (41196 + (16 : Int32).toNatClampNeg)))))
      refine ⟨by decide, by decide, by decide, by decide, fun q hq => ?_⟩
      exact ⟨by trivial, isO_nA hX.1.1 hq, 90, by decide, _, _, rfl, hX.arr (k := 15) (K := 19) (N := Int32.toNatClampNeg 16) (by decide) (by decide) hq (by decide) (by decide), rfl, rfl, rfl, rfl⟩
    · cases hm
      obtain ⟨F1, z, rfl, hX, rfl, rfl, rfl, rfl⟩ := h
      refine ⟨300, ?_⟩
      show (¬ (16 : Int32) < 0 ∧ (16 : Int32).toNatClampNeg * 8 ≤ 536870912 ∧ 11 + 1 ≤ 215 ∧ 41212 + (16 : Int32).toNatClampNeg ≤ 1431400 ∧ ∀ q_1, q_1 ∉ mL S1 → (true = true ∧ (isO (nA S1 q_1 17 (16 : Int32).toNatClampNeg) 15 t ∧ (∃ k1, k1 < 90 ∧ I_mx [16, 15, 12, 11, 9, 7, 6, 5, 4, 3, 1, 0] 12 41228 89 t F S k1 [(0, .inr (.inr (some t)))] [] (sR (nA S1 q_1 17 (16 : Int32).toNatClampNeg) 1516 t (some q_1)) (11 + 1) (41212 + (16 : Int32).toNatClampNeg)))))
      refine ⟨by decide, by decide, by decide, by decide, fun q hq => ?_⟩
      exact ⟨by trivial, isO_nA hX.1.1 hq, 89, by decide, _, _, rfl, hX.arr (k := 16) (K := 17) (N := Int32.toNatClampNeg 16) (by decide) (by decide) hq (by decide) (by decide), rfl, rfl, rfl, rfl⟩
    · cases hm
      obtain ⟨F1, z, rfl, hX, rfl, rfl, rfl, rfl⟩ := h
      refine ⟨300, ?_⟩
      show (¬ (32768 : Int32) < 0 ∧ (32768 : Int32).toNatClampNeg * 8 ≤ 536870912 ∧ 12 + 1 ≤ 215 ∧ 41228 + (32768 : Int32).toNatClampNeg ≤ 1431400 ∧ ∀ q_1, q_1 ∉ mL S1 → (true = true ∧ (isO (nA S1 q_1 17 (32768 : Int32).toNatClampNeg) 15 t ∧ (∃ k1, k1 < 89 ∧ I_mx [17, 16, 15, 12, 11, 9, 7, 6, 5, 4, 3, 1, 0] 13 73996 88 t F S k1 [(0, .inr (.inr (some t)))] [] (sR (nA S1 q_1 17 (32768 : Int32).toNatClampNeg) 1517 t (some q_1)) (12 + 1) (41228 + (32768 : Int32).toNatClampNeg)))))
      refine ⟨by decide, by decide, by decide, by decide, fun q hq => ?_⟩
      exact ⟨by trivial, isO_nA hX.1.1 hq, 88, by decide, _, _, rfl, hX.arr (k := 17) (K := 17) (N := Int32.toNatClampNeg 32768) (by decide) (by decide) hq (by decide) (by decide), rfl, rfl, rfl, rfl⟩
    · cases hm
      obtain ⟨F1, z, rfl, hX, rfl, rfl, rfl, rfl⟩ := h
      refine ⟨300, ?_⟩
      show (¬ (32768 : Int32) < 0 ∧ (32768 : Int32).toNatClampNeg * 8 ≤ 536870912 ∧ 13 + 1 ≤ 215 ∧ 73996 + (32768 : Int32).toNatClampNeg ≤ 1431400 ∧ ∀ q_1, q_1 ∉ mL S1 → (true = true ∧ (isO (nA S1 q_1 16 (32768 : Int32).toNatClampNeg) 15 t ∧ (∃ k1, k1 < 88 ∧ I_mx [19, 17, 16, 15, 12, 11, 9, 7, 6, 5, 4, 3, 1, 0] 14 106764 87 t F S k1 [(0, .inr (.inr (some t)))] [] (sR (nA S1 q_1 16 (32768 : Int32).toNatClampNeg) 1519 t (some q_1)) (13 + 1) (73996 + (32768 : Int32).toNatClampNeg)))))
      refine ⟨by decide, by decide, by decide, by decide, fun q hq => ?_⟩
      exact ⟨by trivial, isO_nA hX.1.1 hq, 87, by decide, _, _, rfl, hX.arr (k := 19) (K := 16) (N := Int32.toNatClampNeg 32768) (by decide) (by decide) hq (by decide) (by decide), rfl, rfl, rfl, rfl⟩
    · cases hm
      obtain ⟨F1, z, rfl, hX, rfl, rfl, rfl, rfl⟩ := h
      refine ⟨300, ?_⟩
      show (14 + 1 ≤ 215 ∧ 106764 + 2 ≤ 1431400 ∧ ∀ q_1, q_1 ∉ mL S1 → (1 = 1 ∧ ((isO (nO S1 q_1 14) 14 q_1 ∧ mI (nO S1 q_1 14) 1401 q_1 = 0) ∧ 14 + 1 + 1 ≤ 215 ∧ 106764 + 2 + 32776 ≤ 1431400 ∧ (∀ (S_2 : MM), (∃ cb, cb ∉ mL (nO S1 q_1 14) ∧ Ou S_2 q_1 cb [] ∧ Keep (fun b => b = q_1) (nO S1 q_1 14) S_2) → (true = true ∧ (isO S_2 15 t ∧ (∃ k1, k1 < 87 ∧ I_mx [21, 19, 17, 16, 15, 12, 11, 9, 7, 6, 5, 4, 3, 1, 0] 16 139542 86 t F S k1 [(0, .inr (.inr (some t)))] [] (sR S_2 1521 t (some q_1)) (14 + 1 + 1) (106764 + 2 + 32776))))))))
      refine ⟨by decide, by decide, fun q hq => ⟨rfl, ⟨isO_nO_self, by rw [mI_nO, if_pos rfl]⟩, by decide, by decide, fun S2 h2 => ?_⟩⟩
      obtain ⟨cb, hcb, hO, hK⟩ := h2
      exact ⟨by trivial, hK.isO (isO_nO hX.1.1 hq), 86, by decide, _, _, rfl, hX.out (k := 21) (Or.inl rfl) (by decide) hq hcb hO hK, rfl, rfl, rfl, rfl⟩
    · cases hm
      obtain ⟨F1, z, rfl, hX, rfl, rfl, rfl, rfl⟩ := h
      refine ⟨300, ?_⟩
      show (¬ (8192 : Int32) < 0 ∧ (8192 : Int32).toNatClampNeg * 8 ≤ 536870912 ∧ 16 + 1 ≤ 215 ∧ 139542 + (8192 : Int32).toNatClampNeg ≤ 1431400 ∧ ∀ q_1, q_1 ∉ mL S1 → (true = true ∧ (isO (nA S1 q_1 17 (8192 : Int32).toNatClampNeg) 15 t ∧ (∃ k1, k1 < 86 ∧ I_mx [22, 21, 19, 17, 16, 15, 12, 11, 9, 7, 6, 5, 4, 3, 1, 0] 17 147734 85 t F S k1 [(0, .inr (.inr (some t)))] [] (sR (nA S1 q_1 17 (8192 : Int32).toNatClampNeg) 1522 t (some q_1)) (16 + 1) (139542 + (8192 : Int32).toNatClampNeg)))))
      refine ⟨by decide, by decide, by decide, by decide, fun q hq => ?_⟩
      exact ⟨by trivial, isO_nA hX.1.1 hq, 85, by decide, _, _, rfl, hX.arr (k := 22) (K := 17) (N := Int32.toNatClampNeg 8192) (by decide) (by decide) hq (by decide) (by decide), rfl, rfl, rfl, rfl⟩
    · cases hm
      obtain ⟨F1, z, rfl, hX, rfl, rfl, rfl, rfl⟩ := h
      refine ⟨300, ?_⟩
      show (¬ (256 : Int32) < 0 ∧ (256 : Int32).toNatClampNeg * 8 ≤ 536870912 ∧ 17 + 1 ≤ 215 ∧ 147734 + (256 : Int32).toNatClampNeg ≤ 1431400 ∧ ∀ q_1, q_1 ∉ mL S1 → (true = true ∧ (isO (nA S1 q_1 17 (256 : Int32).toNatClampNeg) 15 t ∧ (∃ k1, k1 < 85 ∧ I_mx [23, 22, 21, 19, 17, 16, 15, 12, 11, 9, 7, 6, 5, 4, 3, 1, 0] 18 147990 84 t F S k1 [(0, .inr (.inr (some t)))] [] (sR (nA S1 q_1 17 (256 : Int32).toNatClampNeg) 1523 t (some q_1)) (17 + 1) (147734 + (256 : Int32).toNatClampNeg)))))
      refine ⟨by decide, by decide, by decide, by decide, fun q hq => ?_⟩
      exact ⟨by trivial, isO_nA hX.1.1 hq, 84, by decide, _, _, rfl, hX.arr (k := 23) (K := 17) (N := Int32.toNatClampNeg 256) (by decide) (by decide) hq (by decide) (by decide), rfl, rfl, rfl, rfl⟩
    · cases hm
      obtain ⟨F1, z, rfl, hX, rfl, rfl, rfl, rfl⟩ := h
      refine ⟨300, ?_⟩
      show (¬ (64 : Int32) < 0 ∧ (64 : Int32).toNatClampNeg * 8 ≤ 536870912 ∧ 18 + 1 ≤ 215 ∧ 147990 + (64 : Int32).toNatClampNeg ≤ 1431400 ∧ ∀ q_1, q_1 ∉ mL S1 → (True ∧ (isO (nA S1 q_1 17 (64 : Int32).toNatClampNeg) 15 t ∧ (∃ k1, k1 < 84 ∧ I_mx [24, 23, 22, 21, 19, 17, 16, 15, 12, 11, 9, 7, 6, 5, 4, 3, 1, 0] 19 148054 83 t F S k1 [(0, .inr (.inr (some t)))] [] (sR (nA S1 q_1 17 (64 : Int32).toNatClampNeg) 1524 t (some q_1)) (18 + 1) (147990 + (64 : Int32).toNatClampNeg)))))
      refine ⟨by decide, by decide, by decide, by decide, fun q hq => ?_⟩
      exact ⟨by trivial, isO_nA hX.1.1 hq, 83, by decide, _, _, rfl, hX.arr (k := 24) (K := 17) (N := Int32.toNatClampNeg 64) (by decide) (by decide) hq (by decide) (by decide), rfl, rfl, rfl, rfl⟩
    · cases hm
      obtain ⟨F1, z, rfl, hX, rfl, rfl, rfl, rfl⟩ := h
      refine ⟨300, ?_⟩
      show (19 + 1 ≤ 215 ∧ 148054 + 2 ≤ 1431400 ∧ ∀ q_1, q_1 ∉ mL S1 → (1 = 1 ∧ ((isO (nO S1 q_1 14) 14 q_1 ∧ mI (nO S1 q_1 14) 1401 q_1 = 0) ∧ 19 + 1 + 1 ≤ 215 ∧ 148054 + 2 + 32776 ≤ 1431400 ∧ (∀ (S_2 : MM), (∃ cb, cb ∉ mL (nO S1 q_1 14) ∧ Ou S_2 q_1 cb [] ∧ Keep (fun b => b = q_1) (nO S1 q_1 14) S_2) → (true = true ∧ (isO S_2 15 t ∧ (∃ k1, k1 < 83 ∧ I_mx [25, 24, 23, 22, 21, 19, 17, 16, 15, 12, 11, 9, 7, 6, 5, 4, 3, 1, 0] 21 180832 82 t F S k1 [(0, .inr (.inr (some t)))] [] (sR S_2 1525 t (some q_1)) (19 + 1 + 1) (148054 + 2 + 32776))))))))
      refine ⟨by decide, by decide, fun q hq => ⟨rfl, ⟨isO_nO_self, by rw [mI_nO, if_pos rfl]⟩, by decide, by decide, fun S2 h2 => ?_⟩⟩
      obtain ⟨cb, hcb, hO, hK⟩ := h2
      exact ⟨by trivial, hK.isO (isO_nO hX.1.1 hq), 82, by decide, _, _, rfl, hX.out (k := 25) (Or.inr (by decide)) (by decide) hq hcb hO hK, rfl, rfl, rfl, rfl⟩
    · cases hm
      obtain ⟨F1, z, rfl, hX, rfl, rfl, rfl, rfl⟩ := h
      refine ⟨300, ?_⟩
      show (21 + 1 ≤ 215 ∧ 180832 + 2 ≤ 1431400 ∧ ∀ q_1, q_1 ∉ mL S1 → (1 = 1 ∧ ((isO (nO S1 q_1 14) 14 q_1 ∧ mI (nO S1 q_1 14) 1401 q_1 = 0) ∧ 21 + 1 + 1 ≤ 215 ∧ 180832 + 2 + 32776 ≤ 1431400 ∧ (∀ (S_2 : MM), (∃ cb, cb ∉ mL (nO S1 q_1 14) ∧ Ou S_2 q_1 cb [] ∧ Keep (fun b => b = q_1) (nO S1 q_1 14) S_2) → (true = true ∧ (isO S_2 15 t ∧ (∃ k1, k1 < 82 ∧ I_mx [26, 25, 24, 23, 22, 21, 19, 17, 16, 15, 12, 11, 9, 7, 6, 5, 4, 3, 1, 0] 23 213610 81 t F S k1 [(0, .inr (.inr (some t)))] [] (sR S_2 1526 t (some q_1)) (21 + 1 + 1) (180832 + 2 + 32776))))))))
      refine ⟨by decide, by decide, fun q hq => ⟨rfl, ⟨isO_nO_self, by rw [mI_nO, if_pos rfl]⟩, by decide, by decide, fun S2 h2 => ?_⟩⟩
      obtain ⟨cb, hcb, hO, hK⟩ := h2
      exact ⟨by trivial, hK.isO (isO_nO hX.1.1 hq), 81, by decide, _, _, rfl, hX.out (k := 26) (Or.inr (by decide)) (by decide) hq hcb hO hK, rfl, rfl, rfl, rfl⟩
    · cases hm
      obtain ⟨F1, z, rfl, hX, rfl, rfl, rfl, rfl⟩ := h
      refine ⟨300, ?_⟩
      show (23 + 1 ≤ 215 ∧ 213610 + 2 ≤ 1431400 ∧ ∀ q_1, q_1 ∉ mL S1 → (1 = 1 ∧ ((isO (nO S1 q_1 14) 14 q_1 ∧ mI (nO S1 q_1 14) 1401 q_1 = 0) ∧ 23 + 1 + 1 ≤ 215 ∧ 213610 + 2 + 32776 ≤ 1431400 ∧ (∀ (S_2 : MM), (∃ cb, cb ∉ mL (nO S1 q_1 14) ∧ Ou S_2 q_1 cb [] ∧ Keep (fun b => b = q_1) (nO S1 q_1 14) S_2) → (true = true ∧ (isO S_2 15 t ∧ (∃ k1, k1 < 81 ∧ I_mx [27, 26, 25, 24, 23, 22, 21, 19, 17, 16, 15, 12, 11, 9, 7, 6, 5, 4, 3, 1, 0] 25 246388 80 t F S k1 [(0, .inr (.inr (some t)))] [] (sR S_2 1527 t (some q_1)) (23 + 1 + 1) (213610 + 2 + 32776))))))))
      refine ⟨by decide, by decide, fun q hq => ⟨rfl, ⟨isO_nO_self, by rw [mI_nO, if_pos rfl]⟩, by decide, by decide, fun S2 h2 => ?_⟩⟩
      obtain ⟨cb, hcb, hO, hK⟩ := h2
      exact ⟨by trivial, hK.isO (isO_nO hX.1.1 hq), 80, by decide, _, _, rfl, hX.out (k := 27) (Or.inr (by decide)) (by decide) hq hcb hO hK, rfl, rfl, rfl, rfl⟩
    · cases hm
      obtain ⟨F1, z, rfl, hX, rfl, rfl, rfl, rfl⟩ := h
      refine ⟨300, ?_⟩
      show (25 + 1 ≤ 215 ∧ 246388 + 2 ≤ 1431400 ∧ ∀ q_1, q_1 ∉ mL S1 → (1 = 1 ∧ ((isO (nO S1 q_1 14) 14 q_1 ∧ mI (nO S1 q_1 14) 1401 q_1 = 0) ∧ 25 + 1 + 1 ≤ 215 ∧ 246388 + 2 + 32776 ≤ 1431400 ∧ (∀ (S_2 : MM), (∃ cb, cb ∉ mL (nO S1 q_1 14) ∧ Ou S_2 q_1 cb [] ∧ Keep (fun b => b = q_1) (nO S1 q_1 14) S_2) → (true = true ∧ (isO S_2 15 t ∧ (∃ k1, k1 < 80 ∧ I_mx [28, 27, 26, 25, 24, 23, 22, 21, 19, 17, 16, 15, 12, 11, 9, 7, 6, 5, 4, 3, 1, 0] 27 279166 79 t F S k1 [(0, .inr (.inr (some t)))] [] (sR S_2 1528 t (some q_1)) (25 + 1 + 1) (246388 + 2 + 32776))))))))
      refine ⟨by decide, by decide, fun q hq => ⟨rfl, ⟨isO_nO_self, by rw [mI_nO, if_pos rfl]⟩, by decide, by decide, fun S2 h2 => ?_⟩⟩
      obtain ⟨cb, hcb, hO, hK⟩ := h2
      exact ⟨by trivial, hK.isO (isO_nO hX.1.1 hq), 79, by decide, _, _, rfl, hX.out (k := 28) (Or.inr (by decide)) (by decide) hq hcb hO hK, rfl, rfl, rfl, rfl⟩
    · cases hm
      obtain ⟨F1, z, rfl, hX, rfl, rfl, rfl, rfl⟩ := h
      refine ⟨300, ?_⟩
      show (27 + 1 ≤ 215 ∧ 279166 + 2 ≤ 1431400 ∧ ∀ q_1, q_1 ∉ mL S1 → (1 = 1 ∧ ((isO (nO S1 q_1 14) 14 q_1 ∧ mI (nO S1 q_1 14) 1401 q_1 = 0) ∧ 27 + 1 + 1 ≤ 215 ∧ 279166 + 2 + 32776 ≤ 1431400 ∧ (∀ (S_2 : MM), (∃ cb, cb ∉ mL (nO S1 q_1 14) ∧ Ou S_2 q_1 cb [] ∧ Keep (fun b => b = q_1) (nO S1 q_1 14) S_2) → (true = true ∧ (isO S_2 15 t ∧ (∃ k1, k1 < 79 ∧ I_mx [29, 28, 27, 26, 25, 24, 23, 22, 21, 19, 17, 16, 15, 12, 11, 9, 7, 6, 5, 4, 3, 1, 0] 29 311944 78 t F S k1 [(0, .inr (.inr (some t)))] [] (sR S_2 1529 t (some q_1)) (27 + 1 + 1) (279166 + 2 + 32776))))))))
      refine ⟨by decide, by decide, fun q hq => ⟨rfl, ⟨isO_nO_self, by rw [mI_nO, if_pos rfl]⟩, by decide, by decide, fun S2 h2 => ?_⟩⟩
      obtain ⟨cb, hcb, hO, hK⟩ := h2
      exact ⟨by trivial, hK.isO (isO_nO hX.1.1 hq), 78, by decide, _, _, rfl, hX.out (k := 29) (Or.inr (by decide)) (by decide) hq hcb hO hK, rfl, rfl, rfl, rfl⟩
    · cases hm
      obtain ⟨F1, z, rfl, hX, rfl, rfl, rfl, rfl⟩ := h
      refine ⟨300, ?_⟩
      show (29 + 1 ≤ 215 ∧ 311944 + 2 ≤ 1431400 ∧ ∀ q_1, q_1 ∉ mL S1 → (1 = 1 ∧ ((isO (nO S1 q_1 14) 14 q_1 ∧ mI (nO S1 q_1 14) 1401 q_1 = 0) ∧ 29 + 1 + 1 ≤ 215 ∧ 311944 + 2 + 32776 ≤ 1431400 ∧ (∀ (S_2 : MM), (∃ cb, cb ∉ mL (nO S1 q_1 14) ∧ Ou S_2 q_1 cb [] ∧ Keep (fun b => b = q_1) (nO S1 q_1 14) S_2) → (true = true ∧ (isO S_2 15 t ∧ (∃ k1, k1 < 78 ∧ I_mx [30, 29, 28, 27, 26, 25, 24, 23, 22, 21, 19, 17, 16, 15, 12, 11, 9, 7, 6, 5, 4, 3, 1, 0] 31 344722 77 t F S k1 [(0, .inr (.inr (some t)))] [] (sR S_2 1530 t (some q_1)) (29 + 1 + 1) (311944 + 2 + 32776))))))))
      refine ⟨by decide, by decide, fun q hq => ⟨rfl, ⟨isO_nO_self, by rw [mI_nO, if_pos rfl]⟩, by decide, by decide, fun S2 h2 => ?_⟩⟩
      obtain ⟨cb, hcb, hO, hK⟩ := h2
      exact ⟨by trivial, hK.isO (isO_nO hX.1.1 hq), 77, by decide, _, _, rfl, hX.out (k := 30) (Or.inr (by decide)) (by decide) hq hcb hO hK, rfl, rfl, rfl, rfl⟩
    · cases hm
      obtain ⟨F1, z, rfl, hX, rfl, rfl, rfl, rfl⟩ := h
      refine ⟨300, ?_⟩
      show (¬ (256 : Int32) < 0 ∧ (256 : Int32).toNatClampNeg * 8 ≤ 536870912 ∧ 31 + 1 ≤ 215 ∧ 344722 + (256 : Int32).toNatClampNeg ≤ 1431400 ∧ ∀ q_1, q_1 ∉ mL S1 → (true = true ∧ (isO (nA S1 q_1 17 (256 : Int32).toNatClampNeg) 15 t ∧ (∃ k1, k1 < 77 ∧ I_mx [31, 30, 29, 28, 27, 26, 25, 24, 23, 22, 21, 19, 17, 16, 15, 12, 11, 9, 7, 6, 5, 4, 3, 1, 0] 32 344978 76 t F S k1 [(0, .inr (.inr (some t)))] [] (sR (nA S1 q_1 17 (256 : Int32).toNatClampNeg) 1531 t (some q_1)) (31 + 1) (344722 + (256 : Int32).toNatClampNeg)))))
      refine ⟨by decide, by decide, by decide, by decide, fun q hq => ?_⟩
      exact ⟨by trivial, isO_nA hX.1.1 hq, 76, by decide, _, _, rfl, hX.arr (k := 31) (K := 17) (N := Int32.toNatClampNeg 256) (by decide) (by decide) hq (by decide) (by decide), rfl, rfl, rfl, rfl⟩
    · cases hm
      obtain ⟨F1, z, rfl, hX, rfl, rfl, rfl, rfl⟩ := h
      refine ⟨300, ?_⟩
      show (¬ (5 : Int32) < 0 ∧ (5 : Int32).toNatClampNeg * 8 ≤ 536870912 ∧ 32 + 1 ≤ 215 ∧ 344978 + (5 : Int32).toNatClampNeg ≤ 1431400 ∧ ∀ q_1, q_1 ∉ mL S1 → (true = true ∧ (isO (nA S1 q_1 17 (5 : Int32).toNatClampNeg) 15 t ∧ (∃ k1, k1 < 76 ∧ I_mx [38, 31, 30, 29, 28, 27, 26, 25, 24, 23, 22, 21, 19, 17, 16, 15, 12, 11, 9, 7, 6, 5, 4, 3, 1, 0] 33 344983 75 t F S k1 [(0, .inr (.inr (some t)))] [] (sR (nA S1 q_1 17 (5 : Int32).toNatClampNeg) 1538 t (some q_1)) (32 + 1) (344978 + (5 : Int32).toNatClampNeg)))))
      refine ⟨by decide, by decide, by decide, by decide, fun q hq => ?_⟩
      exact ⟨by trivial, isO_nA hX.1.1 hq, 75, by decide, _, _, rfl, hX.arr (k := 38) (K := 17) (N := Int32.toNatClampNeg 5) (by decide) (by decide) hq (by decide) (by decide), rfl, rfl, rfl, rfl⟩
    · cases hm
      obtain ⟨F1, z, rfl, hX, rfl, rfl, rfl, rfl⟩ := h
      refine ⟨300, ?_⟩
      show (¬ (5 : Int32) < 0 ∧ (5 : Int32).toNatClampNeg * 8 ≤ 536870912 ∧ 33 + 1 ≤ 215 ∧ 344983 + (5 : Int32).toNatClampNeg ≤ 1431400 ∧ ∀ q_1, q_1 ∉ mL S1 → (true = true ∧ (isO (nA S1 q_1 17 (5 : Int32).toNatClampNeg) 15 t ∧ (∃ k1, k1 < 75 ∧ I_mx [39, 38, 31, 30, 29, 28, 27, 26, 25, 24, 23, 22, 21, 19, 17, 16, 15, 12, 11, 9, 7, 6, 5, 4, 3, 1, 0] 34 344988 74 t F S k1 [(0, .inr (.inr (some t)))] [] (sR (nA S1 q_1 17 (5 : Int32).toNatClampNeg) 1539 t (some q_1)) (33 + 1) (344983 + (5 : Int32).toNatClampNeg)))))
      refine ⟨by decide, by decide, by decide, by decide, fun q hq => ?_⟩
      exact ⟨by trivial, isO_nA hX.1.1 hq, 74, by decide, _, _, rfl, hX.arr (k := 39) (K := 17) (N := Int32.toNatClampNeg 5) (by decide) (by decide) hq (by decide) (by decide), rfl, rfl, rfl, rfl⟩
    · cases hm
      obtain ⟨F1, z, rfl, hX, rfl, rfl, rfl, rfl⟩ := h
      refine ⟨300, ?_⟩
      show (¬ (16 : Int32) < 0 ∧ (16 : Int32).toNatClampNeg * 8 ≤ 536870912 ∧ 34 + 1 ≤ 215 ∧ 344988 + (16 : Int32).toNatClampNeg ≤ 1431400 ∧ ∀ q_1, q_1 ∉ mL S1 → (True ∧ (isO (nA S1 q_1 17 (16 : Int32).toNatClampNeg) 15 t ∧ (∃ k1, k1 < 74 ∧ I_mx [40, 39, 38, 31, 30, 29, 28, 27, 26, 25, 24, 23, 22, 21, 19, 17, 16, 15, 12, 11, 9, 7, 6, 5, 4, 3, 1, 0] 35 345004 73 t F S k1 [(0, .inr (.inr (some t)))] [] (sR (nA S1 q_1 17 (16 : Int32).toNatClampNeg) 1540 t (some q_1)) (34 + 1) (344988 + (16 : Int32).toNatClampNeg)))))
      refine ⟨by decide, by decide, by decide, by decide, fun q hq => ?_⟩
      exact ⟨by trivial, isO_nA hX.1.1 hq, 73, by decide, _, _, rfl, hX.arr (k := 40) (K := 17) (N := Int32.toNatClampNeg 16) (by decide) (by decide) hq (by decide) (by decide), rfl, rfl, rfl, rfl⟩
    · cases hm
      obtain ⟨F1, z, rfl, hX, rfl, rfl, rfl, rfl⟩ := h
      refine ⟨300, ?_⟩
      show (¬ (16 : Int32) < 0 ∧ (16 : Int32).toNatClampNeg * 8 ≤ 536870912 ∧ 35 + 1 ≤ 215 ∧ 345004 + (16 : Int32).toNatClampNeg ≤ 1431400 ∧ ∀ q_1, q_1 ∉ mL S1 → (True ∧ (isO (nA S1 q_1 17 (16 : Int32).toNatClampNeg) 15 t ∧ (∃ k1, k1 < 73 ∧ I_mx [41, 40, 39, 38, 31, 30, 29, 28, 27, 26, 25, 24, 23, 22, 21, 19, 17, 16, 15, 12, 11, 9, 7, 6, 5, 4, 3, 1, 0] 36 345020 72 t F S k1 [(0, .inr (.inr (some t)))] [] (sR (nA S1 q_1 17 (16 : Int32).toNatClampNeg) 1541 t (some q_1)) (35 + 1) (345004 + (16 : Int32).toNatClampNeg)))))
      refine ⟨by decide, by decide, by decide, by decide, fun q hq => ?_⟩
      exact ⟨by trivial, isO_nA hX.1.1 hq, 72, by decide, _, _, rfl, hX.arr (k := 41) (K := 17) (N := Int32.toNatClampNeg 16) (by decide) (by decide) hq (by decide) (by decide), rfl, rfl, rfl, rfl⟩
    · cases hm
      obtain ⟨F1, z, rfl, hX, rfl, rfl, rfl, rfl⟩ := h
      refine ⟨300, ?_⟩
      show (¬ (16 : Int32) < 0 ∧ (16 : Int32).toNatClampNeg * 8 ≤ 536870912 ∧ 36 + 1 ≤ 215 ∧ 345020 + (16 : Int32).toNatClampNeg ≤ 1431400 ∧ ∀ q_1, q_1 ∉ mL S1 → (True ∧ (isO (nA S1 q_1 17 (16 : Int32).toNatClampNeg) 15 t ∧ (∃ k1, k1 < 72 ∧ I_mx [42, 41, 40, 39, 38, 31, 30, 29, 28, 27, 26, 25, 24, 23, 22, 21, 19, 17, 16, 15, 12, 11, 9, 7, 6, 5, 4, 3, 1, 0] 37 345036 71 t F S k1 [(0, .inr (.inr (some t)))] [] (sR (nA S1 q_1 17 (16 : Int32).toNatClampNeg) 1542 t (some q_1)) (36 + 1) (345020 + (16 : Int32).toNatClampNeg)))))
      refine ⟨by decide, by decide, by decide, by decide, fun q hq => ?_⟩
      exact ⟨by trivial, isO_nA hX.1.1 hq, 71, by decide, _, _, rfl, hX.arr (k := 42) (K := 17) (N := Int32.toNatClampNeg 16) (by decide) (by decide) hq (by decide) (by decide), rfl, rfl, rfl, rfl⟩
    · cases hm
      obtain ⟨F1, z, rfl, hX, rfl, rfl, rfl, rfl⟩ := h
      refine ⟨300, ?_⟩
      show (¬ (16 : Int32) < 0 ∧ (16 : Int32).toNatClampNeg * 8 ≤ 536870912 ∧ 37 + 1 ≤ 215 ∧ 345036 + (16 : Int32).toNatClampNeg ≤ 1431400 ∧ ∀ q_1, q_1 ∉ mL S1 → (True ∧ (isO (nA S1 q_1 17 (16 : Int32).toNatClampNeg) 15 t ∧ (∃ k1, k1 < 71 ∧ I_mx [43, 42, 41, 40, 39, 38, 31, 30, 29, 28, 27, 26, 25, 24, 23, 22, 21, 19, 17, 16, 15, 12, 11, 9, 7, 6, 5, 4, 3, 1, 0] 38 345052 70 t F S k1 [(0, .inr (.inr (some t)))] [] (sR (nA S1 q_1 17 (16 : Int32).toNatClampNeg) 1543 t (some q_1)) (37 + 1) (345036 + (16 : Int32).toNatClampNeg)))))
      refine ⟨by decide, by decide, by decide, by decide, fun q hq => ?_⟩
      exact ⟨by trivial, isO_nA hX.1.1 hq, 70, by decide, _, _, rfl, hX.arr (k := 43) (K := 17) (N := Int32.toNatClampNeg 16) (by decide) (by decide) hq (by decide) (by decide), rfl, rfl, rfl, rfl⟩
    · cases hm
      obtain ⟨F1, z, rfl, hX, rfl, rfl, rfl, rfl⟩ := h
      refine ⟨300, ?_⟩
      show (¬ (16 : Int32) < 0 ∧ (16 : Int32).toNatClampNeg * 8 ≤ 536870912 ∧ 38 + 1 ≤ 215 ∧ 345052 + (16 : Int32).toNatClampNeg ≤ 1431400 ∧ ∀ q_1, q_1 ∉ mL S1 → (True ∧ (isO (nA S1 q_1 18 (16 : Int32).toNatClampNeg) 15 t ∧ (∃ k1, k1 < 70 ∧ I_mx [44, 43, 42, 41, 40, 39, 38, 31, 30, 29, 28, 27, 26, 25, 24, 23, 22, 21, 19, 17, 16, 15, 12, 11, 9, 7, 6, 5, 4, 3, 1, 0] 39 345068 69 t F S k1 [(0, .inr (.inr (some t)))] [] (sR (nA S1 q_1 18 (16 : Int32).toNatClampNeg) 1544 t (some q_1)) (38 + 1) (345052 + (16 : Int32).toNatClampNeg)))))
      refine ⟨by decide, by decide, by decide, by decide, fun q hq => ?_⟩
      exact ⟨by trivial, isO_nA hX.1.1 hq, 69, by decide, _, _, rfl, hX.arr (k := 44) (K := 18) (N := Int32.toNatClampNeg 16) (by decide) (by decide) hq (by decide) (by decide), rfl, rfl, rfl, rfl⟩
    · cases hm
      obtain ⟨F1, z, rfl, hX, rfl, rfl, rfl, rfl⟩ := h
      refine ⟨300, ?_⟩
      show (¬ (16 : Int32) < 0 ∧ (16 : Int32).toNatClampNeg * 8 ≤ 536870912 ∧ 39 + 1 ≤ 215 ∧ 345068 + (16 : Int32).toNatClampNeg ≤ 1431400 ∧ ∀ q_1, q_1 ∉ mL S1 → (True ∧ (isO (nA S1 q_1 18 (16 : Int32).toNatClampNeg) 15 t ∧ (∃ k1, k1 < 69 ∧ I_mx [45, 44, 43, 42, 41, 40, 39, 38, 31, 30, 29, 28, 27, 26, 25, 24, 23, 22, 21, 19, 17, 16, 15, 12, 11, 9, 7, 6, 5, 4, 3, 1, 0] 40 345084 68 t F S k1 [(0, .inr (.inr (some t)))] [] (sR (nA S1 q_1 18 (16 : Int32).toNatClampNeg) 1545 t (some q_1)) (39 + 1) (345068 + (16 : Int32).toNatClampNeg)))))
      refine ⟨by decide, by decide, by decide, by decide, fun q hq => ?_⟩
      exact ⟨by trivial, isO_nA hX.1.1 hq, 68, by decide, _, _, rfl, hX.arr (k := 45) (K := 18) (N := Int32.toNatClampNeg 16) (by decide) (by decide) hq (by decide) (by decide), rfl, rfl, rfl, rfl⟩
    · cases hm
      obtain ⟨F1, z, rfl, hX, rfl, rfl, rfl, rfl⟩ := h
      refine ⟨300, ?_⟩
      show (¬ (16 : Int32) < 0 ∧ (16 : Int32).toNatClampNeg * 8 ≤ 536870912 ∧ 40 + 1 ≤ 215 ∧ 345084 + (16 : Int32).toNatClampNeg ≤ 1431400 ∧ ∀ q_1, q_1 ∉ mL S1 → (True ∧ (isO (nA S1 q_1 18 (16 : Int32).toNatClampNeg) 15 t ∧ (∃ k1, k1 < 68 ∧ I_mx [46, 45, 44, 43, 42, 41, 40, 39, 38, 31, 30, 29, 28, 27, 26, 25, 24, 23, 22, 21, 19, 17, 16, 15, 12, 11, 9, 7, 6, 5, 4, 3, 1, 0] 41 345100 67 t F S k1 [(0, .inr (.inr (some t)))] [] (sR (nA S1 q_1 18 (16 : Int32).toNatClampNeg) 1546 t (some q_1)) (40 + 1) (345084 + (16 : Int32).toNatClampNeg)))))
      refine ⟨by decide, by decide, by decide, by decide, fun q hq => ?_⟩
      exact ⟨by trivial, isO_nA hX.1.1 hq, 67, by decide, _, _, rfl, hX.arr (k := 46) (K := 18) (N := Int32.toNatClampNeg 16) (by decide) (by decide) hq (by decide) (by decide), rfl, rfl, rfl, rfl⟩
    · cases hm
      obtain ⟨F1, z, rfl, hX, rfl, rfl, rfl, rfl⟩ := h
      refine ⟨300, ?_⟩
      show (¬ (16 : Int32) < 0 ∧ (16 : Int32).toNatClampNeg * 8 ≤ 536870912 ∧ 41 + 1 ≤ 215 ∧ 345100 + (16 : Int32).toNatClampNeg ≤ 1431400 ∧ ∀ q_1, q_1 ∉ mL S1 → (True ∧ (isO (nA S1 q_1 17 (16 : Int32).toNatClampNeg) 15 t ∧ (∃ k1, k1 < 67 ∧ I_mx [47, 46, 45, 44, 43, 42, 41, 40, 39, 38, 31, 30, 29, 28, 27, 26, 25, 24, 23, 22, 21, 19, 17, 16, 15, 12, 11, 9, 7, 6, 5, 4, 3, 1, 0] 42 345116 66 t F S k1 [(0, .inr (.inr (some t)))] [] (sR (nA S1 q_1 17 (16 : Int32).toNatClampNeg) 1547 t (some q_1)) (41 + 1) (345100 + (16 : Int32).toNatClampNeg)))))
      refine ⟨by decide, by decide, by decide, by decide, fun q hq => ?_⟩
      exact ⟨by trivial, isO_nA hX.1.1 hq, 66, by decide, _, _, rfl, hX.arr (k := 47) (K := 17) (N := Int32.toNatClampNeg 16) (by decide) (by decide) hq (by decide) (by decide), rfl, rfl, rfl, rfl⟩
    · cases hm
      obtain ⟨F1, z, rfl, hX, rfl, rfl, rfl, rfl⟩ := h
      refine ⟨300, ?_⟩
      show (¬ (16 : Int32) < 0 ∧ (16 : Int32).toNatClampNeg * 8 ≤ 536870912 ∧ 42 + 1 ≤ 215 ∧ 345116 + (16 : Int32).toNatClampNeg ≤ 1431400 ∧ ∀ q_1, q_1 ∉ mL S1 → (True ∧ (isO (nA S1 q_1 18 (16 : Int32).toNatClampNeg) 15 t ∧ (∃ k1, k1 < 66 ∧ I_my [48, 47, 46, 45, 44, 43, 42, 41, 40, 39, 38, 31, 30, 29, 28, 27, 26, 25, 24, 23, 22, 21, 19, 17, 16, 15, 12, 11, 9, 7, 6, 5, 4, 3, 1, 0] 43 345132 t F S k1 [(0, .inr (.inr (some t))), (1, .inl (0 : Int32))] [] (sR (nA S1 q_1 18 (16 : Int32).toNatClampNeg) 1548 t (some q_1)) (42 + 1) (345116 + (16 : Int32).toNatClampNeg)))))
      refine ⟨by decide, by decide, by decide, by decide, fun q hq => ?_⟩
      exact ⟨by trivial, isO_nA hX.1.1 hq, 10 - 0, by decide, 0, _, _, _, rfl, by decide, hX.arr (k := 48) (K := 18) (N := Int32.toNatClampNeg 16) (by decide) (by decide) hq (by decide) (by decide), rfl, rfl, rfl, rfl⟩
    · cases hm
      obtain ⟨p, F1, z, Y, rfl, hp4, hX, rfl, rfl, rfl, rfl⟩ := h
      refine ⟨300, ?_⟩
      show (((4 : Int32) ≤ (nI p) → (isO S1 15 t ∧ (2 = 2 ∧ ((pa (mR S1 1505 t) fun a_1 => ((isO S1 17 a_1 ∧ mN S1 a_1 < 2147483648) ∧ (43 + 43 * p) ≤ 215 ∧ (345132 + 271567 * p) ≤ 1431400 ∧ ((isO (rI S1 a_1 (fillF (eI S1 a_1) (mN S1 a_1) (-1 : Int32))) 15 t ∧ (2 = 2 ∧ ((pa (mR (rI S1 a_1 (fillF (eI S1 a_1) (mN S1 a_1) (-1 : Int32))) 1511 t) fun a_3 => ((isO (rI S1 a_1 (fillF (eI S1 a_1) (mN S1 a_1) (-1 : Int32))) 17 a_3 ∧ mN (rI S1 a_1 (fillF (eI S1 a_1) (mN S1 a_1) (-1 : Int32))) a_3 < 2147483648) ∧ 43 + 43 * p ≤ 215 ∧ 345132 + 271567 * p ≤ 1431400 ∧ ((([] : List MV) = [] ∧ mret none (sp_mini t F) [.inr (.inr (some t))] S none (rI (rI S1 a_1 (fillF (eI S1 a_1) (mN S1 a_1) (-1 : Int32))) a_3 (fillF (eI (rI S1 a_1 (fillF (eI S1 a_1) (mN S1 a_1) (-1 : Int32))) a_3) (mN (rI S1 a_1 (fillF (eI S1 a_1) (mN S1 a_1) (-1 : Int32))) a_3) (-1 : Int32))) (43 + 43 * p) (345132 + 271567 * p))))))))))))))) ∧ (¬ (4 : Int32) ≤ (nI p) → (isO S1 15 t ∧ ((43 + 43 * p) + 1 ≤ 215 ∧ (345132 + 271567 * p) + 27 ≤ 1431400 ∧ ∀ q_5, q_5 ∉ mL S1 → (1 = 1 ∧ (∃ (F_6 : Nat → Nat × Nat) (i_7 : Nat), (isO (nO S1 q_5 13) 13 q_5 ∧ FO (nO S1 q_5 13) F_6 ∧ (∀ f, (f = 1300 ∨ f = 1301 ∨ f = 1302 ∨ f = 1326) → mI (nO S1 q_5 13) f q_5 = 0)) ∧ (43 + 43 * p) + 1 + 42 ≤ 215 ∧ (345132 + 271567 * p) + 27 + 271540 ≤ 1431400 ∧ (∀ (S_8 : MM), (giQ2 (nO S1 q_5 13) S_8 F_6 i_7 q_5) → (pa (mR S1 1500 t) fun a_9 => a_9 ∈ mL S_8 ∧ ¬ mK S_8 a_9 < 21 ∧ mK S_8 a_9 < 29 ∧ inR S_8 a_9 (nI p) ∧ (∀ w_10, (some q_5) = some w_10 → w_10 ∈ mL S_8 ∧ (mK S_8 a_9 = 21 ∧ mK S_8 w_10 = 1 ∨ mK S_8 a_9 = 22 ∧ mK S_8 w_10 = 2 ∨ mK S_8 a_9 = 23 ∧ mK S_8 w_10 = 5 ∨ mK S_8 a_9 = 24 ∧ mK S_8 w_10 = 11 ∨ mK S_8 a_9 = 25 ∧ mK S_8 w_10 = 13 ∨ mK S_8 a_9 = 26 ∧ (mK S_8 w_10 = 4 ∨ mK S_8 w_10 = 5) ∨ mK S_8 a_9 = 27 ∧ mK S_8 w_10 = 16 ∨ mK S_8 a_9 = 28 ∧ mK S_8 w_10 = 17)) ∧ (∃ k1, k1 < (10 - p) ∧ I_my [48, 47, 46, 45, 44, 43, 42, 41, 40, 39, 38, 31, 30, 29, 28, 27, 26, 25, 24, 23, 22, 21, 19, 17, 16, 15, 12, 11, 9, 7, 6, 5, 4, 3, 1, 0] 43 345132 t F S k1 [(0, .inr (.inr (some t))), (1, .inl ((nI p) + (1 : Int32)))] [] (rR S_8 a_9 (va_up (eR S_8 a_9) (nI p).toNatClampNeg (some q_5))) ((43 + 43 * p) + 1 + 42) ((345132 + 271567 * p) + 27 + 271540))))))))))
      have b0 := hX.2.1 0 (by decide) (by decide)
      have b5 := hX.2.1 5 (by decide) (by decide)
      have b11 := hX.2.1 11 (by decide) (by decide)
      refine if_le (a := 4) (b := p) (by decide) (by omega) (fun w => ?_) (fun w => ⟨hX.1.1, by omega, by omega, fun q hq => ⟨rfl, F1, 101 + p, ⟨isO_nO_self, fun b hb => List.mem_append_left _ (hX.2.2.2.2.2.1 b hb), fun f hf => by rw [mI_nO, if_pos rfl]⟩, by omega, by omega, fun S8 h8 => ?_⟩⟩)
      · have e4 : p = 4 := by omega
        subst e4
        have n5 : mN S1 (z 5) = 8 := b5.2.2.2.1
        have n11 : mN S1 (z 11) = 8 := b11.2.2.2.1
        have hne : z 5 ≠ z 11 := fun e => by
          have := b5.2.1
          rw [e, b11.2.1] at this
          injection this with _ this
          omega
        have kp : Keep (fun b => b = z 5 ∨ b = z 11) S1 (rI (rI S1 (z 5) (fillF (eI S1 (z 5)) (mN S1 (z 5)) (-1 : Int32))) (z 11) (fillF (eI (rI S1 (z 5) (fillF (eI S1 (z 5)) (mN S1 (z 5)) (-1 : Int32))) (z 11)) (mN (rI S1 (z 5) (fillF (eI S1 (z 5)) (mN S1 (z 5)) (-1 : Int32))) (z 11)) (-1 : Int32))) := Keep.rI (P := fun b => b = z 5 ∨ b = z 11) (Keep.rI (P := fun b => b = z 5 ∨ b = z 11) Keep.rf (Or.inl rfl)) (Or.inr rfl)
        refine ⟨hX.1.1, rfl, pa_i b5.1 ⟨⟨b5.2.2.1, by rw [n5]; decide⟩, by decide, by decide, hX.1.1, rfl, pa_i b11.1 ⟨⟨b11.2.2.1, by show mN S1 (z 11) < _; rw [n11]; decide⟩, by decide, by decide, rfl, trivial, ⟨rfl, F1, z, Y, hX.md (by decide) (fun k hk => ?_) kp (fun b hb => ?_) (fun b hb => ?_), hX.2.2.2.2.2.2.1, Keep.trN hX.2.2.2.2.2.2.2.1 kp (fun b hb e => ?_)⟩, Nat.le_refl _, Nat.le_refl _⟩⟩⟩
        · rcases hk with e | ⟨e1, e2⟩
          · rw [e]; decide
          · rcases (show k = 25 ∨ k = 26 ∨ k = 27 ∨ k = 28 ∨ k = 29 ∨ k = 30 by omega) with e | e | e | e | e | e <;> rw [e] <;> decide
        · rw [eI_rI, if_neg hne, eI_rI, if_pos rfl]
          exact if_pos (by rw [n5]; exact hb)
        · rw [eI_rI, if_pos rfl]
          exact if_pos (by show b < mN S1 (z 11); rw [n11]; exact hb)
        · rcases e with e | e
          · exact absurd (e ▸ hb) b5.2.2.2.2.2.2
          · exact absurd (e ▸ hb) b11.2.2.2.2.2.2
      · obtain ⟨F2, y, hg⟩ := h8
        obtain ⟨hX2, k3⟩ := hX.gr (by decide) hq hg
        have o0 := k3.isO b0.2.2.1
        have oq : isO S8 13 q := hg.1.1.1
        have n0 : mN S8 (z 0) = 4 := (k3.1 _ b0.2.2.1.1).2.2.trans b0.2.2.2.1
        refine pa_i b0.1 ⟨o0.1, by rw [o0.2]; decide, by rw [o0.2]; decide, inRn n0 w (by decide), fun w9 e9 => ?_, 10 - (p + 1), by omega, p + 1, F2, z, upY Y p y, rfl, w, ?_, by rw [nI_1], rfl, by omega, by omega⟩
        · cases e9
          exact ⟨oq.1, Or.inr (Or.inr (Or.inr (Or.inr (Or.inl ⟨o0.2, oq.2⟩))))⟩
        · rw [nI_clamp (by omega)]; exact hX2
theorem u_mini (l : Launch) : Us l yX14_init cX14_init 2 none 2 40 98 T_mini := by
  intro Rc Rs av S cs sl K Kx h
  unfold T_mini at h
  split at h
  · rename_i t_o
    obtain ⟨t, rfl, h_1⟩ := pa_of h
    obtain ⟨F, hp, hc, hs, hk⟩ := h_1
    refine ⟨(sp_mini t F), c_mini l t F, fun _ _ h9 => ⟨_, _, h9.1⟩, ⟨rfl, hp⟩, hc, hs, fun S' h8 => by
      obtain ⟨-, h8⟩ := h8
      exact hk _ h8, fun _ _ q => q.elim⟩
  · exact h.elim
