/-! ===== Bytes.addVarint, addColumn, begin ===== -/
/-- the bytes of a varint, as the code makes them -/
def vbs : Nat → Int32 → List Int32
  | 0, r => [r]
  | n + 1, r => if r ≤ 127 then [r] else ((r &&& 127) ||| 128) :: vbs n (ush r 7)
def tX1_addVarint : CD := [(0, .iload_n 1), (1, .istore_n 2), (2, .iconst 0), (3, .istore_n 3), (4, .iload_n 3), (5, .iconst 4), (6, .if_icmp .ge 32), (9, .iload_n 2), (10, .bipush 127), (12, .if_icmp .le 26), (15, .aload_n 0), (16, .iload_n 2), (17, .bipush 127), (19, .iand), (20, .sipush 128), (23, .ior), (24, .invokevirtual 36), (27, .iload_n 2), (28, .bipush 7), (30, .iushr), (31, .istore_n 2), (32, .iinc 3 1), (35, .goto (-31)), (38, .aload_n 0), (39, .iload_n 2), (40, .invokevirtual 36), (43, .return_)]
set_option maxRecDepth 100000 in
theorem kX1_addVarint : chk cX1_addVarint tX1_addVarint = true := by decide +kernel
def sp_addVarint : Sp := spApp (fun av _ => ∃ o v, av = [o, .inl v]) (fun av _ => match av with
    | [_, .inl v] => vbs 4 v
    | _ => [])
def I_vint (av : List MV) (S : MM) (m : Nat) : KT := fun lo st S1 cs sl => ∃ a v k r d B d1 ws, av = [.inr (.inr (some a)), .inl v] ∧ By S a d B ∧ lo = [(3, .inl (nI k)), (2, .inl r), (0, .inr (.inr (some a))), (1, .inl v)] ∧ st = [] ∧ k ≤ 4 ∧ ws ++ vbs (4 - k) r = vbs 4 v ∧ App S S1 a d d1 B ws ∧ cs = addNC ws.length (mN S d) B.length ∧ sl = addNS ws.length (mN S d) B.length ∧ m = 4 - k
theorem wX1_addVarint_36 : ∀ w ∈ ([.methodLink RX1 36 yX1_add, .instanceMethod yX1_add, .selects yX1_add.cls yX1_add yX1_add, .initialized yX1_add.cls, .code yX1_add cX1_add 2 none] : List Cond), w ∈ lw_good := List.forall_mem_cons.mpr ⟨mgd 771 (by decide +kernel) (by decide +kernel), List.forall_mem_cons.mpr ⟨mgd 772 (by decide +kernel) (by decide +kernel), List.forall_mem_cons.mpr ⟨mgd 773 (by decide +kernel) (by decide +kernel), List.forall_mem_cons.mpr ⟨mgd 122 (by decide +kernel) (by decide +kernel), List.forall_mem_cons.mpr ⟨mgd 774 (by decide +kernel) (by decide +kernel), fun _ h => absurd h List.not_mem_nil⟩⟩⟩⟩⟩
set_option maxRecDepth 100000 in
theorem c_X1_addVarint (l : Launch) : Ct l yX1_addVarint cX1_addVarint 4 none 3 75 sp_addVarint := by
  have c_add_l := c_X1_add l
  refine Ct.of (fX1, nX1, aX1, iX1, lX1, [(36, 0, 2, 0, Told 0 sp_add)], qX1, gX1, []) false tX1_addVarint (fun av S => look [(4, ([3, 2, 0, 1], I_vint av S))]) (by decide) (by decide) kX1_addVarint ⟨_, _, rfl⟩ fX1_ok nX1_ok aX1_ok iX1_ok lX1_ok (fun p e R s m args below meth c Q D cy z r A C hR1 hR2 => List.forall_mem_cons.mpr ⟨cOK_old (cOK_V C (c_add_l) wX1_addVarint_36 ⟨by decide, by decide, by decide +kernel⟩ ⟨by rw [hR1]; decide, by rw [hR2]; decide⟩ (k := 2) (T := TX1) (N := 3) rfl (by decide) recv_add), fun _ h => absurd h List.not_mem_nil⟩) qX1_ok gX1_ok rfl ?_ ?_
  · rintro av S ⟨⟨a, vs, d, B, rfl, hB⟩, o, v, e⟩
    cases e
    refine ⟨Nat.le_of_ble_eq_true rfl, 10, ?_⟩
    show (∃ k1, I_vint [.inr (.inr (some a)), .inl v] S k1 [(3, .inl (0 : Int32)), (2, .inl v), (0, .inr (.inr (some a))), (1, .inl v)] [] S 0 0)
    exact ⟨4, a, v, 0, v, d, B, d, [], rfl, hB, rfl, rfl, by decide, rfl, App.nil hB, rfl, rfl, rfl⟩
  · intro av S hpre pc I hI m lo st S1 cs sl h
    have hm := look_in hI
    rw [List.mem_singleton] at hm
    cases hm
    obtain ⟨a, v, k, r, d, B, d1, ws, rfl, hB, rfl, rfl, hk, hv, A, rfl, rfl, rfl⟩ := h
    have hl := hB.len
    refine ⟨30, ?_⟩
    show (((4 : Int32) ≤ (nI k) → (0 = 0 ∧ sp_add.1 [.inr (.inr (some a)), .inl r] S1 ∧ addNC ws.length (mN S d) B.length + sp_add.2.1 [.inr (.inr (some a)), .inl r] S1 ≤ addNC (vbs 4 v).length (capOf S a) (lenOf S a) ∧ addNS ws.length (mN S d) B.length + sp_add.2.2.1 [.inr (.inr (some a)), .inl r] S1 ≤ addNS (vbs 4 v).length (capOf S a) (lenOf S a) ∧ (∀ (S_1 : MM), sp_add.2.2.2.1 [.inr (.inr (some a)), .inl r] S1 none S_1 → (([] : List MV) = [] ∧ mret none sp_addVarint [.inr (.inr (some a)), .inl v] S none S_1 (addNC ws.length (mN S d) B.length + sp_add.2.1 [.inr (.inr (some a)), .inl r] S1) (addNS ws.length (mN S d) B.length + sp_add.2.2.1 [.inr (.inr (some a)), .inl r] S1))) ∧ ∀ (E_4 : Nat) (S_3 : MM), sp_add.2.2.2.2 [.inr (.inr (some a)), .inl r] S1 E_4 S_3 → False)) ∧ (¬ (4 : Int32) ≤ (nI k) → ((r ≤ (127 : Int32) → (0 = 0 ∧ sp_add.1 [.inr (.inr (some a)), .inl r] S1 ∧ addNC ws.length (mN S d) B.length + sp_add.2.1 [.inr (.inr (some a)), .inl r] S1 ≤ addNC (vbs 4 v).length (capOf S a) (lenOf S a) ∧ addNS ws.length (mN S d) B.length + sp_add.2.2.1 [.inr (.inr (some a)), .inl r] S1 ≤ addNS (vbs 4 v).length (capOf S a) (lenOf S a) ∧ (∀ (S_5 : MM), sp_add.2.2.2.1 [.inr (.inr (some a)), .inl r] S1 none S_5 → (([] : List MV) = [] ∧ mret none sp_addVarint [.inr (.inr (some a)), .inl v] S none S_5 (addNC ws.length (mN S d) B.length + sp_add.2.1 [.inr (.inr (some a)), .inl r] S1) (addNS ws.length (mN S d) B.length + sp_add.2.2.1 [.inr (.inr (some a)), .inl r] S1))) ∧ ∀ (E_8 : Nat) (S_7 : MM), sp_add.2.2.2.2 [.inr (.inr (some a)), .inl r] S1 E_8 S_7 → False)) ∧ (¬ r ≤ (127 : Int32) → (0 = 0 ∧ sp_add.1 [.inr (.inr (some a)), .inl ((r &&& (127 : Int32)) ||| (128 : Int32))] S1 ∧ addNC ws.length (mN S d) B.length + sp_add.2.1 [.inr (.inr (some a)), .inl ((r &&& (127 : Int32)) ||| (128 : Int32))] S1 ≤ addNC (vbs 4 v).length (capOf S a) (lenOf S a) ∧ addNS ws.length (mN S d) B.length + sp_add.2.2.1 [.inr (.inr (some a)), .inl ((r &&& (127 : Int32)) ||| (128 : Int32))] S1 ≤ addNS (vbs 4 v).length (capOf S a) (lenOf S a) ∧ (∀ (S_9 : MM), sp_add.2.2.2.1 [.inr (.inr (some a)), .inl ((r &&& (127 : Int32)) ||| (128 : Int32))] S1 none S_9 → (∃ k1, k1 < (4 - k) ∧ I_vint [.inr (.inr (some a)), .inl v] S k1 [(3, .inl ((nI k) + (1 : Int32))), (2, .inl ((r.toUInt32 >>> ((7 : Int32).toUInt32 &&& Int32.toUInt32 31)).toInt32)), (0, .inr (.inr (some a))), (1, .inl v)] [] S_9 (addNC ws.length (mN S d) B.length + sp_add.2.1 [.inr (.inr (some a)), .inl ((r &&& (127 : Int32)) ||| (128 : Int32))] S1) (addNS ws.length (mN S d) B.length + sp_add.2.2.1 [.inr (.inr (some a)), .inl ((r &&& (127 : Int32)) ||| (128 : Int32))] S1))) ∧ ∀ (E_12 : Nat) (S_11 : MM), sp_add.2.2.2.2 [.inr (.inr (some a)), .inl ((r &&& (127 : Int32)) ||| (128 : Int32))] S1 E_12 S_11 → False)))))
    rw [hB.cap_of, hB.len_of]
    have hc := A.cost hl
    have step : ∀ x : Int32, ws.length + 1 ≤ (vbs 4 v).length → addNC ws.length (mN S d) B.length + sp_add.2.1 [.inr (.inr (some a)), .inl x] S1 ≤ addNC (vbs 4 v).length (mN S d) B.length ∧ addNS ws.length (mN S d) B.length + sp_add.2.2.1 [.inr (.inr (some a)), .inl x] S1 ≤ addNS (vbs 4 v).length (mN S d) B.length := fun x hx => ⟨Nat.le_trans (Nat.le_of_eq hc.1) (addNC_mono _ _ hx), Nat.le_trans (Nat.le_of_eq hc.2) (addNS_mono _ _ hx)⟩
    have exit : vbs (4 - k) r = [r] → (0 = 0 ∧ sp_add.1 [.inr (.inr (some a)), .inl r] S1 ∧ addNC ws.length (mN S d) B.length + sp_add.2.1 [.inr (.inr (some a)), .inl r] S1 ≤ addNC (vbs 4 v).length (mN S d) B.length ∧ addNS ws.length (mN S d) B.length + sp_add.2.2.1 [.inr (.inr (some a)), .inl r] S1 ≤ addNS (vbs 4 v).length (mN S d) B.length ∧ (∀ (S2 : MM), sp_add.2.2.2.1 [.inr (.inr (some a)), .inl r] S1 none S2 → (([] : List MV) = [] ∧ mret none sp_addVarint [.inr (.inr (some a)), .inl v] S none S2 (addNC ws.length (mN S d) B.length + sp_add.2.1 [.inr (.inr (some a)), .inl r] S1) (addNS ws.length (mN S d) B.length + sp_add.2.2.1 [.inr (.inr (some a)), .inl r] S1))) ∧ ∀ (E : Nat) (S2 : MM), sp_add.2.2.2.2 [.inr (.inr (some a)), .inl r] S1 E S2 → False) := by
      intro hx
      rw [hx] at hv
      have hlen : ws.length + 1 = (vbs 4 v).length := by rw [← hv, List.length_append]; rfl
      have hs := step r (Nat.le_of_eq hlen)
      refine ⟨rfl, ⟨a, r, d1, _, rfl, A.1⟩, hs.1, hs.2, fun S2 p2 => ⟨rfl, ?_⟩, fun _ _ q => q⟩
      obtain ⟨d2, A2⟩ := A.snoc hl p2
      rw [hv] at A2
      exact mretA hB A2 rfl hs.1 hs.2
    refine ⟨fun h4 => exit ?_, fun h4 => ⟨fun hr => exit ?_, fun hr => ?_⟩⟩
    · have e4 : k = 4 := by
        have := (nI_leI (a := 4) (b := k) (by decide) (by omega)).mp h4
        omega
      rw [e4]
      rfl
    · have hk4 : k < 4 := Nat.lt_of_not_le fun q => h4 ((nI_leI (a := 4) (b := k) (by decide) (by omega)).mpr q)
      rw [show 4 - k = (3 - k) + 1 by omega]
      show (if r ≤ 127 then [r] else _) = _
      rw [if_pos hr]
    · have hk4 : k < 4 := Nat.lt_of_not_le fun q => h4 ((nI_leI (a := 4) (b := k) (by decide) (by omega)).mpr q)
      have e5 : vbs (4 - k) r = ((r &&& 127) ||| 128) :: vbs (4 - (k + 1)) (ush r 7) := by
        rw [show 4 - k = (3 - k) + 1 by omega, show 4 - (k + 1) = 3 - k by omega]
        show (if r ≤ 127 then [r] else _) = _
        rw [if_neg hr]
      rw [e5, List.append_cons] at hv
      have hlen : ws.length + 1 ≤ (vbs 4 v).length := by rw [← hv, List.length_append, List.length_append]; exact Nat.le_add_right _ _
      have hs := step ((r &&& 127) ||| 128) hlen
      refine ⟨rfl, ⟨a, _, d1, _, rfl, A.1⟩, hs.1, hs.2, fun S2 p2 => ?_, fun _ _ q => q⟩
      obtain ⟨d2, A2⟩ := A.snoc hl p2
      refine ⟨4 - (k + 1), by omega, a, v, k + 1, ush r 7, d, B, d2, ws ++ [(r &&& 127) ||| 128], rfl, hB, ?_, rfl, by omega, hv, A2, ?_, ?_, rfl⟩
      · rw [nI_1]
        rfl
      · rw [List.length_append]; exact hc.1
      · rw [List.length_append]; exact hc.2
def tX1_begin : CD := [(0, .aload_n 0), (1, .invokevirtual 61), (4, .aload_n 0), (5, .bipush 87), (7, .invokevirtual 36), (10, .aload_n 0), (11, .iload_n 1), (12, .invokevirtual 36), (15, .aload_n 0), (16, .iload_n 2), (17, .invokevirtual 36), (20, .return_)]
set_option maxRecDepth 100000 in
theorem kX1_begin : chk cX1_begin tX1_begin = true := by decide +kernel
def clr (S : MM) (a : Nat) : MM := sI (sI S 201 a 0) 202 a 0
def sp_begin : Sp := (fun av S => ∃ a k s d B, av = [.inr (.inr (some a)), .inl k, .inl s] ∧ By S a d B, fun av S => match av with
    | .inr (.inr (some a)) :: _ => addNC 3 (capOf S a) 0
    | _ => 0, fun av S => match av with
    | .inr (.inr (some a)) :: _ => addNS 3 (capOf S a) 0
    | _ => 0, fun av S r S' => r = none ∧ ∀ a k s d B, av = [.inr (.inr (some a)), .inl k, .inl s] → By S a d B → ∃ d', App (clr S a) S' a d d' [] [87, k, s], fun _ _ _ _ => False)
theorem recv_begin : ∀ av S, sp_begin.1 av S → ∃ a vs, av = .inr (.inr (some a)) :: vs ∧ isO S 2 a := fun _ _ ⟨a, k, s, _, _, e, h⟩ => ⟨a, [.inl k, .inl s], e, h.1⟩
theorem wX1_begin_61 : ∀ w ∈ ([.methodLink RX1 61 yX1_clear, .instanceMethod yX1_clear, .selects yX1_clear.cls yX1_clear yX1_clear, .initialized yX1_clear.cls, .code yX1_clear cX1_clear 1 none] : List Cond), w ∈ lw_good := List.forall_mem_cons.mpr ⟨mgd 1339 (by decide +kernel) (by decide +kernel), List.forall_mem_cons.mpr ⟨mgd 1053 (by decide +kernel) (by decide +kernel), List.forall_mem_cons.mpr ⟨mgd 1054 (by decide +kernel) (by decide +kernel), List.forall_mem_cons.mpr ⟨mgd 122 (by decide +kernel) (by decide +kernel), List.forall_mem_cons.mpr ⟨mgd 1055 (by decide +kernel) (by decide +kernel), fun _ h => absurd h List.not_mem_nil⟩⟩⟩⟩⟩
theorem wX1_begin_36 : ∀ w ∈ ([.methodLink RX1 36 yX1_add, .instanceMethod yX1_add, .selects yX1_add.cls yX1_add yX1_add, .initialized yX1_add.cls, .code yX1_add cX1_add 2 none] : List Cond), w ∈ lw_good := List.forall_mem_cons.mpr ⟨mgd 771 (by decide +kernel) (by decide +kernel), List.forall_mem_cons.mpr ⟨mgd 772 (by decide +kernel) (by decide +kernel), List.forall_mem_cons.mpr ⟨mgd 773 (by decide +kernel) (by decide +kernel), List.forall_mem_cons.mpr ⟨mgd 122 (by decide +kernel) (by decide +kernel), List.forall_mem_cons.mpr ⟨mgd 774 (by decide +kernel) (by decide +kernel), fun _ h => absurd h List.not_mem_nil⟩⟩⟩⟩⟩
set_option maxRecDepth 100000 in
theorem c_X1_begin (l : Launch) : Ct l yX1_begin cX1_begin 3 none 3 75 sp_begin := by
  have c_add_l := c_X1_add l
  have c_clear_l := c_X1_clear l
  refine Ct.of (fX1, nX1, aX1, iX1, lX1, [(61, 0, 1, 0, Told 0 sp_clear), (36, 0, 2, 0, Told 0 sp_add)], qX1, gX1, []) false tX1_begin (fun _ _ _ => none) (by decide) (by decide) kX1_begin ⟨_, _, rfl⟩ fX1_ok nX1_ok aX1_ok iX1_ok lX1_ok (fun p e R s m args below meth c Q D cy z r A C hR1 hR2 => List.forall_mem_cons.mpr ⟨cOK_old (cOK_V C (c_clear_l) wX1_begin_61 ⟨by decide, by decide, by decide +kernel⟩ ⟨by rw [hR1]; decide, by rw [hR2]; decide⟩ (k := 2) (T := TX1) (N := 3) rfl (by decide) recv_clear), List.forall_mem_cons.mpr ⟨cOK_old (cOK_V C (c_add_l) wX1_begin_36 ⟨by decide, by decide, by decide +kernel⟩ ⟨by rw [hR1]; decide, by rw [hR2]; decide⟩ (k := 2) (T := TX1) (N := 3) rfl (by decide) recv_add), fun _ h => absurd h List.not_mem_nil⟩⟩) qX1_ok gX1_ok rfl ?_ ?_
  · rintro av S ⟨a, k, s, d, B, rfl, hB⟩
    refine ⟨Nat.le_of_ble_eq_true rfl, 40, ?_⟩
    show (0 = 0 ∧ sp_clear.1 [.inr (.inr (some a))] S ∧ 0 ≤ addNC 3 (capOf S a) 0 ∧ 0 ≤ addNS 3 (capOf S a) 0 ∧ (∀ (S_1 : MM), sp_clear.2.2.2.1 [.inr (.inr (some a))] S none S_1 → (0 = 0 ∧ sp_add.1 [.inr (.inr (some a)), .inl (87 : Int32)] S_1 ∧ 0 + sp_add.2.1 [.inr (.inr (some a)), .inl (87 : Int32)] S_1 ≤ addNC 3 (capOf S a) 0 ∧ 0 + sp_add.2.2.1 [.inr (.inr (some a)), .inl (87 : Int32)] S_1 ≤ addNS 3 (capOf S a) 0 ∧ (∀ (S_5 : MM), sp_add.2.2.2.1 [.inr (.inr (some a)), .inl (87 : Int32)] S_1 none S_5 → (0 = 0 ∧ sp_add.1 [.inr (.inr (some a)), .inl k] S_5 ∧ 0 + sp_add.2.1 [.inr (.inr (some a)), .inl (87 : Int32)] S_1 + sp_add.2.1 [.inr (.inr (some a)), .inl k] S_5 ≤ addNC 3 (capOf S a) 0 ∧ 0 + sp_add.2.2.1 [.inr (.inr (some a)), .inl (87 : Int32)] S_1 + sp_add.2.2.1 [.inr (.inr (some a)), .inl k] S_5 ≤ addNS 3 (capOf S a) 0 ∧ (∀ (S_9 : MM), sp_add.2.2.2.1 [.inr (.inr (some a)), .inl k] S_5 none S_9 → (0 = 0 ∧ sp_add.1 [.inr (.inr (some a)), .inl s] S_9 ∧ 0 + sp_add.2.1 [.inr (.inr (some a)), .inl (87 : Int32)] S_1 + sp_add.2.1 [.inr (.inr (some a)), .inl k] S_5 + sp_add.2.1 [.inr (.inr (some a)), .inl s] S_9 ≤ addNC 3 (capOf S a) 0 ∧ 0 + sp_add.2.2.1 [.inr (.inr (some a)), .inl (87 : Int32)] S_1 + sp_add.2.2.1 [.inr (.inr (some a)), .inl k] S_5 + sp_add.2.2.1 [.inr (.inr (some a)), .inl s] S_9 ≤ addNS 3 (capOf S a) 0 ∧ (∀ (S_13 : MM), sp_add.2.2.2.1 [.inr (.inr (some a)), .inl s] S_9 none S_13 → (([] : List MV) = [] ∧ mret none sp_begin [.inr (.inr (some a)), .inl k, .inl s] S none S_13 (0 + sp_add.2.1 [.inr (.inr (some a)), .inl (87 : Int32)] S_1 + sp_add.2.1 [.inr (.inr (some a)), .inl k] S_5 + sp_add.2.1 [.inr (.inr (some a)), .inl s] S_9) (0 + sp_add.2.2.1 [.inr (.inr (some a)), .inl (87 : Int32)] S_1 + sp_add.2.2.1 [.inr (.inr (some a)), .inl k] S_5 + sp_add.2.2.1 [.inr (.inr (some a)), .inl s] S_9))) ∧ ∀ (E_16 : Nat) (S_15 : MM), sp_add.2.2.2.2 [.inr (.inr (some a)), .inl s] S_9 E_16 S_15 → False)) ∧ ∀ (E_12 : Nat) (S_11 : MM), sp_add.2.2.2.2 [.inr (.inr (some a)), .inl k] S_5 E_12 S_11 → False)) ∧ ∀ (E_8 : Nat) (S_7 : MM), sp_add.2.2.2.2 [.inr (.inr (some a)), .inl (87 : Int32)] S_1 E_8 S_7 → False)) ∧ ∀ (E_4 : Nat) (S_3 : MM), False → False)
    rw [hB.cap_of]
    refine ⟨rfl, ⟨a, rfl, hB.1⟩, Nat.zero_le _, Nat.zero_le _, fun S0 p0 => ?_, fun _ _ q => q⟩
    obtain ⟨-, e0⟩ := p0 a rfl
    subst e0
    have hC : By (clr S a) a d [] := hB.clear
    have hl : ([] : List Nat).length ≤ 32768 := Nat.zero_le _
    have A0 := App.nil hC
    have c0 := A0.cost hl
    refine ⟨rfl, ⟨a, _, d, [], rfl, hC⟩, ?_, ?_, fun S1 p1 => ?_, fun _ _ q => q⟩
    · exact Nat.le_trans (Nat.le_of_eq c0.1) (addNC_mono _ _ (Nat.le_of_ble_eq_true rfl))
    · exact Nat.le_trans (Nat.le_of_eq c0.2) (addNS_mono _ _ (Nat.le_of_ble_eq_true rfl))
    obtain ⟨d1, A1⟩ := A0.snoc hl p1
    have c1 := A1.cost hl
    refine ⟨rfl, ⟨a, _, d1, _, rfl, A1.1⟩, ?_, ?_, fun S2 p2 => ?_, fun _ _ q => q⟩
    · exact Nat.le_trans (Nat.le_of_eq ((congrArg (· + addC S1 a) c0.1).trans c1.1)) (addNC_mono _ _ (Nat.le_of_ble_eq_true rfl))
    · exact Nat.le_trans (Nat.le_of_eq ((congrArg (· + addS S1 a) c0.2).trans c1.2)) (addNS_mono _ _ (Nat.le_of_ble_eq_true rfl))
    obtain ⟨d2, A2⟩ := A1.snoc hl p2
    have c2 := A2.cost hl
    have k1 := (congrArg (· + addC S2 a) ((congrArg (· + addC S1 a) c0.1).trans c1.1)).trans c2.1
    have k2 := (congrArg (· + addS S2 a) ((congrArg (· + addS S1 a) c0.2).trans c1.2)).trans c2.2
    refine ⟨rfl, ⟨a, _, d2, _, rfl, A2.1⟩, Nat.le_of_eq k1, Nat.le_of_eq k2, fun S3 p3 => ⟨rfl, ?_⟩, fun _ _ q => q⟩
    obtain ⟨d3, A3⟩ := A2.snoc hl p3
    refine ⟨trivial, ⟨rfl, fun a' k' s' d' B' e hB' => ?_⟩, ?_, ?_⟩
    · cases e
      have e2 := hB.row hB'
      subst e2
      exact ⟨d3, A3⟩
    · show _ ≤ addNC 3 (capOf S a) 0
      rw [hB.cap_of]; exact Nat.le_of_eq k1
    · show _ ≤ addNS 3 (capOf S a) 0
      rw [hB.cap_of]; exact Nat.le_of_eq k2
  · exact fun _ _ _ _ _ h => by cases h
def tX1_addColumn : CD := [(0, .aload_n 0), (1, .aload_n 1), (2, .getfield 15), (5, .invokevirtual 44), (8, .aload_n 0), (9, .aload_n 1), (10, .iconst 0), (11, .aload_n 1), (12, .getfield 15), (15, .invokevirtual 47), (18, .return_)]
set_option maxRecDepth 100000 in
theorem kX1_addColumn : chk cX1_addColumn tX1_addColumn = true := by decide +kernel
def sp_addColumn : Sp := spApp (fun av S => ∃ a f d df B F, av = [.inr (.inr (some a)), .inr (.inr (some f))] ∧ By S a d B ∧ By S f df F ∧ f ≠ a ∧ df ≠ d) (fun av S => match av with
    | [_, .inr (.inr (some f))] => vbs 4 (nI (bytesOf S f).length) ++ rngV (bytesOf S f) 0 (bytesOf S f).length
    | _ => [])
theorem wX1_addColumn_44 : ∀ w ∈ ([.methodLink RX1 44 yX1_addVarint, .instanceMethod yX1_addVarint, .selects yX1_addVarint.cls yX1_addVarint yX1_addVarint, .initialized yX1_addVarint.cls, .code yX1_addVarint cX1_addVarint 4 none] : List Cond), w ∈ lw_good := List.forall_mem_cons.mpr ⟨mgd 1449 (by decide +kernel) (by decide +kernel), List.forall_mem_cons.mpr ⟨mgd 1341 (by decide +kernel) (by decide +kernel), List.forall_mem_cons.mpr ⟨mgd 1342 (by decide +kernel) (by decide +kernel), List.forall_mem_cons.mpr ⟨mgd 122 (by decide +kernel) (by decide +kernel), List.forall_mem_cons.mpr ⟨mgd 1343 (by decide +kernel) (by decide +kernel), fun _ h => absurd h List.not_mem_nil⟩⟩⟩⟩⟩
theorem wX1_addColumn_47 : ∀ w ∈ ([.methodLink RX1 47 yX1_addRange, .instanceMethod yX1_addRange, .selects yX1_addRange.cls yX1_addRange yX1_addRange, .initialized yX1_addRange.cls, .code yX1_addRange cX1_addRange 5 none] : List Cond), w ∈ lw_good := List.forall_mem_cons.mpr ⟨mgd 1450 (by decide +kernel) (by decide +kernel), List.forall_mem_cons.mpr ⟨mgd 1433 (by decide +kernel) (by decide +kernel), List.forall_mem_cons.mpr ⟨mgd 1434 (by decide +kernel) (by decide +kernel), List.forall_mem_cons.mpr ⟨mgd 122 (by decide +kernel) (by decide +kernel), List.forall_mem_cons.mpr ⟨mgd 1435 (by decide +kernel) (by decide +kernel), fun _ h => absurd h List.not_mem_nil⟩⟩⟩⟩⟩
set_option maxRecDepth 100000 in
theorem c_X1_addColumn (l : Launch) : Ct l yX1_addColumn cX1_addColumn 2 none 4 99 sp_addColumn := by
  have c_av_l := c_X1_addVarint l
  have c_ar_l := c_X1_addRange l
  refine Ct.of (fX1, nX1, aX1, iX1, lX1, [(44, 0, 2, 0, Told 0 sp_addVarint), (47, 0, 4, 0, Told 0 sp_addRange)], qX1, gX1, []) false tX1_addColumn (fun _ _ _ => none) (by decide) (by decide) kX1_addColumn ⟨_, _, rfl⟩ fX1_ok nX1_ok aX1_ok iX1_ok lX1_ok (fun p e R s m args below meth c Q D cy z r A C hR1 hR2 => List.forall_mem_cons.mpr ⟨cOK_old (cOK_V C (c_av_l) wX1_addColumn_44 ⟨by decide, by decide, by decide +kernel⟩ ⟨by rw [hR1]; decide, by rw [hR2]; decide⟩ (k := 2) (T := TX1) (N := 3) rfl (by decide) recv_app), List.forall_mem_cons.mpr ⟨cOK_old (cOK_V C (c_ar_l) wX1_addColumn_47 ⟨by decide, by decide, by decide +kernel⟩ ⟨by rw [hR1]; decide, by rw [hR2]; decide⟩ (k := 2) (T := TX1) (N := 3) rfl (by decide) recv_app), fun _ h => absurd h List.not_mem_nil⟩⟩) qX1_ok gX1_ok rfl ?_ ?_
  · rintro av S ⟨⟨a0, vs, d0, B0, e0, hB0⟩, a, f, d, df, B, F, rfl, hB, hF, hfa, hdf⟩
    have hl := hB.len
    have hfl := hF.len
    refine ⟨Nat.le_of_ble_eq_true rfl, 40, ?_⟩
    show (isO S 2 f ∧ (0 = 0 ∧ sp_addVarint.1 [.inr (.inr (some a)), .inl (mI S 201 f)] S ∧ 0 + sp_addVarint.2.1 [.inr (.inr (some a)), .inl (mI S 201 f)] S ≤ sp_addColumn.2.1 [.inr (.inr (some a)), .inr (.inr (some f))] S ∧ 0 + sp_addVarint.2.2.1 [.inr (.inr (some a)), .inl (mI S 201 f)] S ≤ sp_addColumn.2.2.1 [.inr (.inr (some a)), .inr (.inr (some f))] S ∧ (∀ (S_1 : MM), sp_addVarint.2.2.2.1 [.inr (.inr (some a)), .inl (mI S 201 f)] S none S_1 → (isO S_1 2 f ∧ (0 = 0 ∧ sp_addRange.1 [.inr (.inr (some a)), .inr (.inr (some f)), .inl (0 : Int32), .inl (mI S_1 201 f)] S_1 ∧ 0 + sp_addVarint.2.1 [.inr (.inr (some a)), .inl (mI S 201 f)] S + sp_addRange.2.1 [.inr (.inr (some a)), .inr (.inr (some f)), .inl (0 : Int32), .inl (mI S_1 201 f)] S_1 ≤ sp_addColumn.2.1 [.inr (.inr (some a)), .inr (.inr (some f))] S ∧ 0 + sp_addVarint.2.2.1 [.inr (.inr (some a)), .inl (mI S 201 f)] S + sp_addRange.2.2.1 [.inr (.inr (some a)), .inr (.inr (some f)), .inl (0 : Int32), .inl (mI S_1 201 f)] S_1 ≤ sp_addColumn.2.2.1 [.inr (.inr (some a)), .inr (.inr (some f))] S ∧ (∀ (S_5 : MM), sp_addRange.2.2.2.1 [.inr (.inr (some a)), .inr (.inr (some f)), .inl (0 : Int32), .inl (mI S_1 201 f)] S_1 none S_5 → (([] : List MV) = [] ∧ mret none sp_addColumn [.inr (.inr (some a)), .inr (.inr (some f))] S none S_5 (0 + sp_addVarint.2.1 [.inr (.inr (some a)), .inl (mI S 201 f)] S + sp_addRange.2.1 [.inr (.inr (some a)), .inr (.inr (some f)), .inl (0 : Int32), .inl (mI S_1 201 f)] S_1) (0 + sp_addVarint.2.2.1 [.inr (.inr (some a)), .inl (mI S 201 f)] S + sp_addRange.2.2.1 [.inr (.inr (some a)), .inr (.inr (some f)), .inl (0 : Int32), .inl (mI S_1 201 f)] S_1))) ∧ ∀ (E_8 : Nat) (S_7 : MM), sp_addRange.2.2.2.2 [.inr (.inr (some a)), .inr (.inr (some f)), .inl (0 : Int32), .inl (mI S_1 201 f)] S_1 E_8 S_7 → False))) ∧ ∀ (E_4 : Nat) (S_3 : MM), sp_addVarint.2.2.2.2 [.inr (.inr (some a)), .inl (mI S 201 f)] S E_4 S_3 → False))
    have hv : vbs 4 (nI (bytesOf S f).length) ++ rngV (bytesOf S f) 0 (bytesOf S f).length = vbs 4 (nI F.length) ++ rngV F 0 F.length := by rw [hF.bytes]
    have hRC : sp_addColumn.2.1 [.inr (.inr (some a)), .inr (.inr (some f))] S = addNC (vbs 4 (nI F.length) ++ rngV F 0 F.length).length (mN S d) B.length := by
      show addNC (vbs 4 (nI (bytesOf S f).length) ++ rngV (bytesOf S f) 0 (bytesOf S f).length).length (capOf S a) (lenOf S a) = _
      rw [hv, hB.cap_of, hB.len_of]
    have hRS : sp_addColumn.2.2.1 [.inr (.inr (some a)), .inr (.inr (some f))] S = addNS (vbs 4 (nI F.length) ++ rngV F 0 F.length).length (mN S d) B.length := by
      show addNS (vbs 4 (nI (bytesOf S f).length) ++ rngV (bytesOf S f) 0 (bytesOf S f).length).length (capOf S a) (lenOf S a) = _
      rw [hv, hB.cap_of, hB.len_of]
    rw [hRC, hRS, hF.2.2.2.1]
    have c1 : sp_addVarint.2.1 [.inr (.inr (some a)), .inl (nI F.length)] S = addNC (vbs 4 (nI F.length)).length (mN S d) B.length := by
      show addNC (vbs 4 (nI F.length)).length (capOf S a) (lenOf S a) = _
      rw [hB.cap_of, hB.len_of]
    have c2 : sp_addVarint.2.2.1 [.inr (.inr (some a)), .inl (nI F.length)] S = addNS (vbs 4 (nI F.length)).length (mN S d) B.length := by
      show addNS (vbs 4 (nI F.length)).length (capOf S a) (lenOf S a) = _
      rw [hB.cap_of, hB.len_of]
    rw [c1, c2, Nat.zero_add, Nat.zero_add]
    have hle : (vbs 4 (nI F.length)).length ≤ (vbs 4 (nI F.length) ++ rngV F 0 F.length).length := by rw [List.length_append]; exact Nat.le_add_right _ _
    refine ⟨hF.1, rfl, ⟨⟨a, _, d, B, rfl, hB⟩, _, _, rfl⟩, addNC_mono _ _ hle, addNS_mono _ _ hle, fun S1 p1 => ?_, fun _ _ q => q⟩
    obtain ⟨-, p1⟩ := p1
    obtain ⟨d1, A1⟩ := p1 a _ d B rfl hB
    have A1 : App S S1 a d d1 B (vbs 4 (nI F.length)) := A1
    have hF1 : By S1 f df F := hF.keep A1.2.1 (fun q => q.elim hfa (isO_ne hF.1 hB.2.2.1 (by decide))) (fun q => q.elim (isO_ne hF.2.2.1 hB.1 (by decide)) hdf)
    have hd1 : df ≠ d1 := fun e => A1.2.2.1.elim (fun e2 => hdf (e.trans e2)) (fun hn => hn (e ▸ hF.2.2.1.1))
    rw [hF1.2.2.2.1]
    have hz : (0 : Int32) = nI 0 := nI_0.symm
    have hv1 : rngV (bytesOf S1 f) (0 : Int32).toNatClampNeg ((nI F.length).toNatClampNeg - (0 : Int32).toNatClampNeg) = rngV F 0 F.length := by rw [hF1.bytes, nI_clamp (by omega)]; rfl
    have k1 : sp_addRange.2.1 [.inr (.inr (some a)), .inr (.inr (some f)), .inl 0, .inl (nI F.length)] S1 = addNC (rngV F 0 F.length).length (capN (vbs 4 (nI F.length)).length (mN S d) B.length) (lenN (vbs 4 (nI F.length)).length B.length) := by
      show addNC (rngV (bytesOf S1 f) (0 : Int32).toNatClampNeg ((nI F.length).toNatClampNeg - (0 : Int32).toNatClampNeg)).length (capOf S1 a) (lenOf S1 a) = _
      rw [hv1, A1.1.cap_of, A1.1.len_of, A1.2.2.2.2, bPuts_len hl]
    have k2 : sp_addRange.2.2.1 [.inr (.inr (some a)), .inr (.inr (some f)), .inl 0, .inl (nI F.length)] S1 = addNS (rngV F 0 F.length).length (capN (vbs 4 (nI F.length)).length (mN S d) B.length) (lenN (vbs 4 (nI F.length)).length B.length) := by
      show addNS (rngV (bytesOf S1 f) (0 : Int32).toNatClampNeg ((nI F.length).toNatClampNeg - (0 : Int32).toNatClampNeg)).length (capOf S1 a) (lenOf S1 a) = _
      rw [hv1, A1.1.cap_of, A1.1.len_of, A1.2.2.2.2, bPuts_len hl]
    rw [k1, k2]
    have s1 := addNC_add (vbs 4 (nI F.length)).length (mN S d) B.length (rngV F 0 F.length).length
    have s2 := addNS_add (vbs 4 (nI F.length)).length (mN S d) B.length (rngV F 0 F.length).length
    rw [← List.length_append] at s1 s2
    rw [← s1, ← s2]
    refine ⟨hF1.1, rfl, ⟨⟨a, _, d1, _, rfl, A1.1⟩, a, f, 0, F.length, d1, df, _, F, by rw [hz], A1.1, hF1, hfa, hd1, by decide, hfl⟩, Nat.le_refl _, Nat.le_refl _, fun S2 p2 => ⟨rfl, ?_⟩, fun _ _ q => q⟩
    obtain ⟨-, p2⟩ := p2
    obtain ⟨d2, A2⟩ := p2 a _ d1 _ rfl A1.1
    have A2 : App S1 S2 a d1 d2 (bPuts B (vbs 4 (nI F.length))) (rngV (bytesOf S1 f) (0 : Int32).toNatClampNeg ((nI F.length).toNatClampNeg - (0 : Int32).toNatClampNeg)) := A2
    rw [hv1] at A2
    exact mretA hB (A1.app hl A2) hv (Nat.le_refl _) (Nat.le_refl _)
  · exact fun _ _ _ _ _ h => by cases h
