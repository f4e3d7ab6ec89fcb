/-! ===== constructors: Cursor, Hunks, Packer ===== -/
def cuZ (S : MM) (c : Nat) : MM := sI (sI (sR S 300 c none) 301 c 0) 302 c 0
def T_cini : TR := fun Rc Rs av S cs sl K _Kx => match av with
  | [.inr (.inr c_o)] => pa c_o fun c => ((isO S 3 c) ∧ cs ≤ Rc ∧ sl ≤ Rs ∧ (K none (cuZ S c) cs sl))
  | _ => False
def sp_cini (c : Nat)  : Sp := (fun av S => av = [.inr (.inr (some c))] ∧ (isO S 3 c), fun _ S => 0, fun _ S => 0, fun _ S rv S' => rv = none ∧ S' = cuZ S c, fun _ _ _ _ => False)
def tX2_init : CD := [(0, .aload_n 0), (1, .invokespecial 3), (4, .aload_n 0), (5, .aconst_null), (6, .putfield 9), (9, .aload_n 0), (10, .iconst 0), (11, .putfield 15), (14, .aload_n 0), (15, .iconst 0), (16, .putfield 19), (19, .return_)]
set_option maxRecDepth 100000 in
theorem kX2_init : chk cX2_init tX2_init = true := by decide +kernel
theorem vX2_init_3 : ∀ w ∈ ([.methodLink RX2 3 Lib.objectInit, .instanceMethod Lib.objectInit, .code Lib.objectInit ⟨#[0xb1]⟩ 1 none] : List Cond), w ∈ lw_good := List.forall_mem_cons.mpr ⟨mgd 420 (by decide +kernel) (by decide +kernel), List.forall_mem_cons.mpr ⟨mgd 158 (by decide +kernel) (by decide +kernel), List.forall_mem_cons.mpr ⟨mgd 159 (by decide +kernel) (by decide +kernel), fun _ h => absurd h List.not_mem_nil⟩⟩⟩
set_option maxRecDepth 100000 in
set_option maxHeartbeats 2000000 in
theorem c_cini (l : Launch) : ∀ (c : Nat), Ct l yX2_init cX2_init 1 none 1 20 (sp_cini c) := by
  intro c
  refine Ct.of (fX2, nX2, aX2, iX2, lX2, [(3, 1, 1, 0, T_obj)], qX2, gX2, []) true tX2_init (fun _ _ _ => none) (by decide) (by decide) kX2_init ⟨_, _, rfl⟩ fX2_ok nX2_ok aX2_ok iX2_ok lX2_ok (fun p e R s m args below meth c Q D cy z r A C hR1 hR2 => List.forall_mem_cons.mpr ⟨cOK_use (fun _ _ _ _ _ _ _ _ h => ⟨spObj, cOK_obj C vX2_init_3 ⟨by rw [hR1]; decide, by rw [hR2]; decide⟩, T_obj_ok h⟩), fun _ h => absurd h List.not_mem_nil⟩) qX2_ok gX2_ok rfl ?_ ?_
  · rintro _ S ⟨rfl, hp⟩
    refine ⟨Nat.le_of_ble_eq_true rfl, 300, ?_⟩
    show (1 = 1 ∧ (True ∧ 0 ≤ 0 ∧ 0 ≤ 0 ∧ ((True ∧ (isO S 3 c ∧ (True ∧ (isO (sR S 300 c none) 3 c ∧ (True ∧ (isO (sI (sR S 300 c none) 301 c (0 : Int32)) 3 c ∧ (([] : List MV) = [] ∧ mret none (sp_cini c) [.inr (.inr (some c))] S none (sI (sI (sR S 300 c none) 301 c (0 : Int32)) 302 c (0 : Int32)) 0 0))))))))))
    exact ⟨rfl, trivial, Nat.le_refl _, Nat.le_refl _, trivial, hp, trivial, hp, trivial, hp, rfl, trivial, ⟨rfl, rfl⟩, Nat.le_refl _, Nat.le_refl _⟩
  · exact fun _ _ _ _ _ h => by cases h
theorem u_cini (l : Launch) : Us l yX2_init cX2_init 1 none 1 20 98 T_cini := by
  intro Rc Rs av S cs sl K Kx h
  unfold T_cini at h
  split at h
  · rename_i c_o
    obtain ⟨c, rfl, h_1⟩ := pa_of h
    obtain ⟨hp, hc, hs, hk⟩ := h_1
    refine ⟨(sp_cini c), c_cini l c, fun _ _ h9 => ⟨_, _, h9.1⟩, ⟨rfl, hp⟩, hc, hs, fun S' h8 => by
      obtain ⟨-, h8⟩ := h8
      subst h8
      exact hk, fun _ _ q => q.elim⟩
  · exact h.elim
def huP (S S' : MM) (F : Nat → Nat × Nat) (j u : Nat) : Prop := ∃ F' q, HuR S' F' j u q 64 [] 0 0 0 0 ∧ (∀ b, b ∈ mL S → b ≠ u → F' b = F b) ∧ Keep (fun b => b = u) S S'
def T_hui : TR := fun Rc Rs av S cs sl K _Kx => match av with
  | [.inr (.inr u_o)] => pa u_o fun u => (∃ (F : Nat → Nat × Nat) (j : Nat), (isO S 7 u ∧ FO S F ∧ j ≠ 0) ∧ cs + 1 ≤ Rc ∧ sl + 64 ≤ Rs ∧ (∀ (S' : MM), (huP S S' F j u) → K none S' (cs + 1) (sl + 64)))
  | _ => False
def sp_hui (u : Nat) (F : Nat → Nat × Nat) (j : Nat) : Sp := (fun av S => av = [.inr (.inr (some u))] ∧ (isO S 7 u ∧ FO S F ∧ j ≠ 0), fun _ S => 1, fun _ S => 64, fun _ S rv S' => rv = none ∧ (huP S S' F j u), fun _ _ _ _ => False)
def tX6_init : CD := [(0, .aload_n 0), (1, .invokespecial 1), (4, .aload_n 0), (5, .bipush 64), (7, .newarray .int), (9, .putfield 9), (12, .aload_n 0), (13, .iconst 0), (14, .putfield 13), (17, .aload_n 0), (18, .iconst 0), (19, .putfield 17), (22, .aload_n 0), (23, .iconst 0), (24, .putfield 20), (27, .aload_n 0), (28, .iconst 0), (29, .putfield 23), (32, .aload_n 0), (33, .iconst 0), (34, .putfield 26), (37, .return_)]
set_option maxRecDepth 100000 in
theorem kX6_init : chk cX6_init tX6_init = true := by decide +kernel
theorem vX6_init_1 : ∀ w ∈ ([.methodLink RX6 1 Lib.objectInit, .instanceMethod Lib.objectInit, .code Lib.objectInit ⟨#[0xb1]⟩ 1 none] : List Cond), w ∈ lw_good := List.forall_mem_cons.mpr ⟨mgd 192 (by decide +kernel) (by decide +kernel), List.forall_mem_cons.mpr ⟨mgd 158 (by decide +kernel) (by decide +kernel), List.forall_mem_cons.mpr ⟨mgd 159 (by decide +kernel) (by decide +kernel), fun _ h => absurd h List.not_mem_nil⟩⟩⟩
set_option maxRecDepth 100000 in
set_option maxHeartbeats 2000000 in
theorem c_hui (l : Launch) : ∀ (u : Nat) (F : Nat → Nat × Nat) (j : Nat), Ct l yX6_init cX6_init 1 none 1 20 (sp_hui u F j) := by
  intro u F j
  refine Ct.of (fX6, nX6, aX6, iX6, lX6, [(1, 1, 1, 0, T_obj)], qX6, gX6, []) true tX6_init (fun _ _ _ => none) (by decide) (by decide) kX6_init ⟨_, _, rfl⟩ fX6_ok nX6_ok aX6_ok iX6_ok lX6_ok (fun p e R s m args below meth c Q D cy z r A C hR1 hR2 => List.forall_mem_cons.mpr ⟨cOK_use (fun _ _ _ _ _ _ _ _ h => ⟨spObj, cOK_obj C vX6_init_1 ⟨by rw [hR1]; decide, by rw [hR2]; decide⟩, T_obj_ok h⟩), fun _ h => absurd h List.not_mem_nil⟩) qX6_ok gX6_ok rfl ?_ ?_
  · rintro _ S ⟨rfl, hp⟩
    refine ⟨Nat.le_of_ble_eq_true rfl, 300, ?_⟩
    show (1 = 1 ∧ (True ∧ 0 ≤ 1 ∧ 0 ≤ 64 ∧ ((¬ (64 : Int32) < 0 ∧ (64 : Int32).toNatClampNeg * 8 ≤ 536870912 ∧ 0 + 1 ≤ 1 ∧ 0 + (64 : Int32).toNatClampNeg ≤ 64 ∧ ∀ q_2, q_2 ∉ mL S → (True ∧ (isO (nA S q_2 17 (64 : Int32).toNatClampNeg) 7 u ∧ (True ∧ (isO (sR (nA S q_2 17 (64 : Int32).toNatClampNeg) 700 u (some q_2)) 7 u ∧ (True ∧ (isO (sI (sR (nA S q_2 17 (64 : Int32).toNatClampNeg) 700 u (some q_2)) 701 u (0 : Int32)) 7 u ∧ (True ∧ (isO (sI (sI (sR (nA S q_2 17 (64 : Int32).toNatClampNeg) 700 u (some q_2)) 701 u (0 : Int32)) 702 u (0 : Int32)) 7 u ∧ (True ∧ (isO (sI (sI (sI (sR (nA S q_2 17 (64 : Int32).toNatClampNeg) 700 u (some q_2)) 701 u (0 : Int32)) 702 u (0 : Int32)) 703 u (0 : Int32)) 7 u ∧ (True ∧ (isO (sI (sI (sI (sI (sR (nA S q_2 17 (64 : Int32).toNatClampNeg) 700 u (some q_2)) 701 u (0 : Int32)) 702 u (0 : Int32)) 703 u (0 : Int32)) 704 u (0 : Int32)) 7 u ∧ (([] : List MV) = [] ∧ mret none (sp_hui u F j) [.inr (.inr (some u))] S none (sI (sI (sI (sI (sI (sR (nA S q_2 17 (64 : Int32).toNatClampNeg) 700 u (some q_2)) 701 u (0 : Int32)) 702 u (0 : Int32)) 703 u (0 : Int32)) 704 u (0 : Int32)) 705 u (0 : Int32)) (0 + 1) (0 + (64 : Int32).toNatClampNeg))))))))))))))))))
    obtain ⟨h1, h2, h3⟩ := hp
    rw [show Int32.toNatClampNeg 64 = 64 from by decide]
    refine ⟨rfl, trivial, Nat.zero_le _, Nat.zero_le _, by decide, by decide, Nat.le_refl 1, Nat.le_refl 64, fun q hq => ?_⟩
    have o1 : isO (nA S q 17 64) 7 u := isO_nA h1 hq
    have uq : u ≠ q := fun e => hq (e ▸ h1.1)
    refine ⟨trivial, o1, trivial, o1, trivial, o1, trivial, o1, trivial, o1, trivial, o1, rfl, trivial, ⟨rfl, fun b => if b = q then (j, 2) else if b = u then (j, 1) else F b, q, ⟨o1, ?_, ?_, (isO_nA_self (S := S) (a := q) (k := 17) (n := 64)), if_pos rfl, ?_, Nat.le_refl _, by decide, Nat.zero_le _, ⟨16, rfl⟩, ?_, ?_, ?_, ?_, ?_, fun k hk => absurd hk (Nat.not_lt_zero k), fun b hb => ?_, h3⟩, fun b hb hbu => ?_, ?_⟩, Nat.le_refl 1, Nat.le_refl 64⟩
    · show (if u = q then (j, 2) else if u = u then (j, 1) else F u) = (j, 1)
      rw [if_neg uq, if_pos rfl]
    · rw [mR_sI, mR_sI, mR_sI, mR_sI, mR_sI, mR_sR, if_pos ⟨rfl, rfl⟩]
    · show mN (nA S q 17 64) q = 64
      rw [mN_nA, if_pos rfl]
    · exact (mI_sIn (by decide)).trans ((mI_sIn (by decide)).trans ((mI_sIn (by decide)).trans ((mI_sIn (by decide)).trans mI_sIs)))
    · exact (mI_sIn (by decide)).trans ((mI_sIn (by decide)).trans ((mI_sIn (by decide)).trans mI_sIs))
    · exact (mI_sIn (by decide)).trans ((mI_sIn (by decide)).trans mI_sIs)
    · exact (mI_sIn (by decide)).trans mI_sIs
    · exact mI_sIs
    · have hb : (if b = q then (j, 2) else if b = u then (j, 1) else F b) ≠ (0, 0) := hb
      by_cases e : b = q
      · rw [e]; exact (isO_nA_self (S := S) (k := 17) (n := 64)).1
      · rw [if_neg e] at hb
        by_cases e2 : b = u
        · rw [e2]; exact o1.1
        · rw [if_neg e2] at hb; exact List.mem_append_left _ (h2 b hb)
    · show (if b = q then (j, 2) else if b = u then (j, 1) else F b) = F b
      rw [if_neg (fun (e : b = q) => hq (e ▸ hb)), if_neg hbu]
    · exact Keep.sI (P := fun b => b = u) (Keep.sI (P := fun b => b = u) (Keep.sI (P := fun b => b = u) (Keep.sI (P := fun b => b = u) (Keep.sI (P := fun b => b = u) (Keep.sR (P := fun b => b = u) (Keep.nA (P := fun b => b = u) Keep.rf hq) rfl) rfl) rfl) rfl) rfl) rfl
  · exact fun _ _ _ _ _ h => by cases h
theorem u_hui (l : Launch) : Us l yX6_init cX6_init 1 none 1 20 98 T_hui := by
  intro Rc Rs av S cs sl K Kx h
  unfold T_hui at h
  split at h
  · rename_i u_o
    obtain ⟨u, rfl, h_1⟩ := pa_of h
    obtain ⟨F, j, hp, hc, hs, hk⟩ := h_1
    refine ⟨(sp_hui u F j), c_hui l u F j, fun _ _ h9 => ⟨_, _, h9.1⟩, ⟨rfl, hp⟩, hc, hs, fun S' h8 => by
      obtain ⟨-, h8⟩ := h8
      exact hk _ h8, fun _ _ q => q.elim⟩
  · exact h.elim
def pkiP (S S' : MM) (u : Nat) : Prop := ∃ r d nw od, r ∉ mL S ∧ d ∉ mL S ∧ nw ∉ mL S ∧ od ∉ mL S ∧ Pk S' u r nw od ∧ mN S' od = 64 ∧ By S' r d [] ∧ mN S' d = 64 ∧ mI S' 202 r = 0 ∧ Keep (fun b => b = u) S S'
def T_pki : TR := fun Rc Rs av S cs sl K _Kx => match av with
  | [.inr (.inr u_o)] => pa u_o fun u => ((isO S 8 u) ∧ cs + 4 ≤ Rc ∧ sl + 1155 ≤ Rs ∧ (∀ (S' : MM), (pkiP S S' u) → K none S' (cs + 4) (sl + 1155)))
  | _ => False
def sp_pki (u : Nat)  : Sp := (fun av S => av = [.inr (.inr (some u))] ∧ (isO S 8 u), fun _ S => 4, fun _ S => 1155, fun _ S rv S' => rv = none ∧ (pkiP S S' u), fun _ _ _ _ => False)
def tX7_init : CD := [(0, .aload_n 0), (1, .invokespecial 3), (4, .aload_n 0), (5, .new 9), (8, .dup), (9, .invokespecial 11), (12, .putfield 12), (15, .aload_n 0), (16, .sipush 1024), (19, .newarray .int), (21, .putfield 18), (24, .aload_n 0), (25, .bipush 64), (27, .newarray .int), (29, .putfield 22), (32, .aload_n 0), (33, .iconst 0), (34, .putfield 25), (37, .aload_n 0), (38, .iconst 0), (39, .putfield 29), (42, .return_)]
set_option maxRecDepth 100000 in
theorem kX7_init : chk cX7_init tX7_init = true := by decide +kernel
theorem vX7_init_3 : ∀ w ∈ ([.methodLink RX7 3 Lib.objectInit, .instanceMethod Lib.objectInit, .code Lib.objectInit ⟨#[0xb1]⟩ 1 none] : List Cond), w ∈ lw_good := List.forall_mem_cons.mpr ⟨mgd 458 (by decide +kernel) (by decide +kernel), List.forall_mem_cons.mpr ⟨mgd 158 (by decide +kernel) (by decide +kernel), List.forall_mem_cons.mpr ⟨mgd 159 (by decide +kernel) (by decide +kernel), fun _ h => absurd h List.not_mem_nil⟩⟩⟩
theorem vX7_init_11 : ∀ w ∈ ([.instanceMethod yX1_init, .initialized yX1_init.cls, .code yX1_init cX1_init 1 none] : List Cond), w ∈ lw_good := List.forall_mem_cons.mpr ⟨mgd 163 (by decide +kernel) (by decide +kernel), List.forall_mem_cons.mpr ⟨mgd 122 (by decide +kernel) (by decide +kernel), List.forall_mem_cons.mpr ⟨mgd 164 (by decide +kernel) (by decide +kernel), fun _ h => absurd h List.not_mem_nil⟩⟩⟩
set_option maxRecDepth 100000 in
set_option maxHeartbeats 2000000 in
theorem c_pki (l : Launch) : ∀ (u : Nat), Ct l yX7_init cX7_init 1 none 2 40 (sp_pki u) := by
  intro u
  refine Ct.of (fX7, nX7, aX7, iX7, lX7, [(3, 1, 1, 0, T_obj), (11, 1, 1, 0, T_bini)], qX7, gX7, []) true tX7_init (fun _ _ _ => none) (by decide) (by decide) kX7_init ⟨_, _, rfl⟩ fX7_ok nX7_ok aX7_ok iX7_ok lX7_ok (fun p e R s m args below meth c Q D cy z r A C hR1 hR2 => List.forall_mem_cons.mpr ⟨cOK_use (fun _ _ _ _ _ _ _ _ h => ⟨spObj, cOK_obj C vX7_init_3 ⟨by rw [hR1]; decide, by rw [hR2]; decide⟩, T_obj_ok h⟩), List.forall_mem_cons.mpr ⟨cOK_use (fun _ _ _ _ _ _ _ _ h => let ⟨sp, h1, h2, h3⟩ := u_bini l _ _ _ _ _ _ _ _ h; ⟨sp, cOK_I C h1 vX7_init_11 (Or.inr ⟨"WeaveText", mbd 460 (by decide +kernel) (by decide +kernel)⟩) rfl ⟨by decide, by decide, by decide +kernel⟩ ⟨by rw [hR1]; decide, by rw [hR2]; decide⟩ h2, h3⟩), fun _ h => absurd h List.not_mem_nil⟩⟩) qX7_ok gX7_ok rfl ?_ ?_
  · rintro _ S ⟨rfl, hp⟩
    refine ⟨Nat.le_of_ble_eq_true rfl, 300, ?_⟩
    show (1 = 1 ∧ (True ∧ 0 ≤ 4 ∧ 0 ≤ 1155 ∧ ((0 + 1 ≤ 4 ∧ 0 + 3 ≤ 1155 ∧ ∀ q_2, q_2 ∉ mL S → (1 = 1 ∧ ((isO (nO S q_2 2) 2 q_2) ∧ 0 + 1 + 1 ≤ 4 ∧ 0 + 3 + 64 ≤ 1155 ∧ (∀ (S_3 : MM), (∃ q, q ∉ mL (nO S q_2 2) ∧ S_3 = sI (sI (sR (nA (nO S q_2 2) q 16 64) 200 q_2 (some q)) 201 q_2 0) 202 q_2 0) → (true = true ∧ (isO S_3 8 u ∧ (¬ (1024 : Int32) < 0 ∧ (1024 : Int32).toNatClampNeg * 8 ≤ 536870912 ∧ 0 + 1 + 1 + 1 ≤ 4 ∧ 0 + 3 + 64 + (1024 : Int32).toNatClampNeg ≤ 1155 ∧ ∀ q_4, q_4 ∉ mL (sR S_3 800 u (some q_2)) → (true = true ∧ (isO (nA (sR S_3 800 u (some q_2)) q_4 17 (1024 : Int32).toNatClampNeg) 8 u ∧ (¬ (64 : Int32) < 0 ∧ (64 : Int32).toNatClampNeg * 8 ≤ 536870912 ∧ 0 + 1 + 1 + 1 + 1 ≤ 4 ∧ 0 + 3 + 64 + (1024 : Int32).toNatClampNeg + (64 : Int32).toNatClampNeg ≤ 1155 ∧ ∀ q_5, q_5 ∉ mL (sR (nA (sR S_3 800 u (some q_2)) q_4 17 (1024 : Int32).toNatClampNeg) 801 u (some q_4)) → (True ∧ (isO (nA (sR (nA (sR S_3 800 u (some q_2)) q_4 17 (1024 : Int32).toNatClampNeg) 801 u (some q_4)) q_5 17 (64 : Int32).toNatClampNeg) 8 u ∧ (True ∧ (isO (sR (nA (sR (nA (sR S_3 800 u (some q_2)) q_4 17 (1024 : Int32).toNatClampNeg) 801 u (some q_4)) q_5 17 (64 : Int32).toNatClampNeg) 802 u (some q_5)) 8 u ∧ (True ∧ (isO (sI (sR (nA (sR (nA (sR S_3 800 u (some q_2)) q_4 17 (1024 : Int32).toNatClampNeg) 801 u (some q_4)) q_5 17 (64 : Int32).toNatClampNeg) 802 u (some q_5)) 803 u (0 : Int32)) 8 u ∧ (([] : List MV) = [] ∧ mret none (sp_pki u) [.inr (.inr (some u))] S none (sI (sI (sR (nA (sR (nA (sR S_3 800 u (some q_2)) q_4 17 (1024 : Int32).toNatClampNeg) 801 u (some q_4)) q_5 17 (64 : Int32).toNatClampNeg) 802 u (some q_5)) 803 u (0 : Int32)) 804 u (0 : Int32)) (0 + 1 + 1 + 1 + 1) (0 + 3 + 64 + (1024 : Int32).toNatClampNeg + (64 : Int32).toNatClampNeg)))))))))))))))))))))
    rw [show Int32.toNatClampNeg 1024 = 1024 from by decide, show Int32.toNatClampNeg 64 = 64 from by decide]
    refine ⟨rfl, trivial, Nat.zero_le _, Nat.zero_le _, by decide, by decide, fun r hr => ⟨rfl, isO_nO_self, by decide, by decide, fun S3 h3 => ?_⟩⟩
    obtain ⟨d, hd, e3⟩ := h3
    have ru : r ≠ u := fun e => hr (e ▸ hp.1)
    have hB3 : By S3 r d [] := by rw [e3]; exact By.new isO_nO_self hd
    have dr : d ≠ r := fun e => hd (by rw [e]; exact (isO_nO_self (S := S) (k := 2)).1)
    have hdS : d ∉ mL S := fun z => hd (List.mem_append_left _ z)
    have du : d ≠ u := fun e => hdS (e ▸ hp.1)
    have m64 : mN S3 d = 64 := by rw [e3]; show mN (nA (nO S r 2) d 16 64) d = 64; rw [mN_nA, if_pos rfl]
    have m202 : mI S3 202 r = 0 := by rw [e3]; exact mI_sIs
    have k3 : Keep (fun b => b = u) S S3 := by
      rw [e3]
      exact (Keep.nO (P := fun b => b = u) Keep.rf hr).trN (Keep.sI (P := fun b => b = r) (Keep.sI (P := fun b => b = r) (Keep.sR (P := fun b => b = r) (Keep.nA (P := fun b => b = r) Keep.rf hd) rfl) rfl) rfl) (fun b hb e => absurd (e ▸ hb) hr)
    have o3 : isO S3 8 u := k3.isO hp
    clear e3
    refine ⟨rfl, o3, by decide, by decide, by decide, by decide, fun nw hnw => ?_⟩
    have hnw : nw ∉ mL S3 := hnw
    have o4 : isO (nA (sR S3 800 u (some r)) nw 17 1024) 8 u := isO_nA (isO_sR o3) hnw
    refine ⟨rfl, o4, by decide, by decide, by decide, by decide, fun od hod => ?_⟩
    have hod : od ∉ mL (nA (sR S3 800 u (some r)) nw 17 1024) := hod
    have o5 : isO (nA (sR (nA (sR S3 800 u (some r)) nw 17 1024) 801 u (some nw)) od 17 64) 8 u := isO_nA (isO_sR o4) hod
    have nwod : nw ≠ od := fun e => hod (e ▸ (isO_nA_self (S := sR S3 800 u (some r)) (k := 17) (n := 1024)).1)
    have k8 : Keep (fun b => b = u) S3 (sI (sI (sR (nA (sR (nA (sR S3 800 u (some r)) nw 17 1024) 801 u (some nw)) od 17 64) 802 u (some od)) 803 u 0) 804 u 0) := Keep.sI (P := fun b => b = u) (Keep.sI (P := fun b => b = u) (Keep.sR (P := fun b => b = u) (Keep.nA (P := fun b => b = u) (Keep.sR (P := fun b => b = u) (Keep.nA (P := fun b => b = u) (Keep.sR (P := fun b => b = u) Keep.rf rfl) hnw) rfl) hod) rfl) rfl) rfl
    have mod : mN (nA (sR (nA (sR S3 800 u (some r)) nw 17 1024) 801 u (some nw)) od 17 64) od = 64 := by rw [mN_nA, if_pos rfl]
    have mnw : mN (nA (sR (nA (sR S3 800 u (some r)) nw 17 1024) 801 u (some nw)) od 17 64) nw = 1024 := by
      rw [mN_nA, if_neg nwod]
      show mN (nA (sR S3 800 u (some r)) nw 17 1024) nw = 1024
      rw [mN_nA, if_pos rfl]
    refine ⟨trivial, o5, trivial, o5, trivial, o5, rfl, trivial, ⟨rfl, r, d, nw, od, hr, hdS, fun z => hnw (k3.1 nw z).1, fun z => hod (List.mem_append_left _ (k3.1 od z).1), ⟨k8.isO o3, ?_, ?_, (isO_nA (isO_sR (isO_nA_self (S := sR S3 800 u (some r)) (a := nw) (k := 17) (n := 1024))) hod : isO (nA (sR (nA (sR S3 800 u (some r)) nw 17 1024) 801 u (some nw)) od 17 64) 17 nw), mnw, ?_, (isO_nA_self : isO (nA (sR (nA (sR S3 800 u (some r)) nw 17 1024) 801 u (some nw)) od 17 64) 17 od), nwod, ?_, ?_⟩, mod, hB3.keep k8 ru du, (k8.1 d hB3.2.2.1.1).2.2.trans m64, ?_, k3.tr k8⟩, Nat.le_refl 4, Nat.le_refl 1155⟩
    · rw [mR_sI, mR_sI, mR_sR, if_neg (fun z => absurd z.1 (by decide))]
      show mR (sR (nA (sR S3 800 u (some r)) nw 17 1024) 801 u (some nw)) 800 u = some r
      rw [mR_sR, if_neg (fun z => absurd z.1 (by decide))]
      show mR (sR S3 800 u (some r)) 800 u = some r
      rw [mR_sR, if_pos ⟨rfl, rfl⟩]
    · rw [mR_sI, mR_sI, mR_sR, if_neg (fun z => absurd z.1 (by decide))]
      show mR (sR (nA (sR S3 800 u (some r)) nw 17 1024) 801 u (some nw)) 801 u = some nw
      rw [mR_sR, if_pos ⟨rfl, rfl⟩]
    · rw [mR_sI, mR_sI, mR_sR, if_pos ⟨rfl, rfl⟩]
    · show 64 ≤ mN (nA (sR (nA (sR S3 800 u (some r)) nw 17 1024) 801 u (some nw)) od 17 64) od
      rw [mod]; exact Nat.le_refl _
    · show mN (nA (sR (nA (sR S3 800 u (some r)) nw 17 1024) 801 u (some nw)) od 17 64) od ≤ 32768
      rw [mod]; decide
    · exact ((k8.2.1 r hB3.1.1 ru).1 202).trans m202
  · exact fun _ _ _ _ _ h => by cases h
theorem u_pki (l : Launch) : Us l yX7_init cX7_init 1 none 2 40 98 T_pki := by
  intro Rc Rs av S cs sl K Kx h
  unfold T_pki at h
  split at h
  · rename_i u_o
    obtain ⟨u, rfl, h_1⟩ := pa_of h
    obtain ⟨hp, hc, hs, hk⟩ := h_1
    refine ⟨(sp_pki u), c_pki l u, fun _ _ h9 => ⟨_, _, h9.1⟩, ⟨rfl, hp⟩, hc, hs, fun S' h8 => by
      obtain ⟨-, h8⟩ := h8
      exact hk _ h8, fun _ _ q => q.elim⟩
  · exact h.elim
