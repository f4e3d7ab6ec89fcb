/-! ===== THE CALLS OF WEAVETEXT ===== -/
/-! require -/
def T_wrq : TR := fun Rc Rs av S cs sl K Kx => match av with
  | [.inl c] => (c = 0 ∨ c = 1) ∧ cs + 1 ≤ Rc ∧ sl + 6 ≤ Rs ∧ ((∀ (S' : MM), (S' = S ∧ c = 1) → K none S' (cs + 1) (sl + 6)) ∧ ((c = 0) → Kx 1 S (cs + 1) (sl + 6)))
  | _ => False
def sp_wrq (c : Int32)  : Sp := (fun av S => av = [.inl c] ∧ (c = 0 ∨ c = 1), fun _ S => 1, fun _ S => 6, fun _ S rv S' => rv = none ∧ (S' = S ∧ c = 1), fun _ S E S' => (E = 1 ∧ (c = 0) ∧ S' = S))
def tX11_require : CD := [(0, .iload_n 0), (1, .ifCond .ne 11), (4, .new 281), (7, .dup), (8, .invokespecial 283), (11, .athrow), (12, .return_)]
set_option maxRecDepth 100000 in
theorem kX11_require : chk cX11_require tX11_require = true := by decide +kernel

set_option maxRecDepth 100000 in
set_option maxHeartbeats 2000000 in
theorem c_wrq (l : Launch) (hlt : l.stackTraces = false) : ∀ (c : Int32), CtX l yX11_require (Cond.code yX11_require cX11_require 1 none) none 6 89 (sp_wrq c) := by
  intro c
  refine CtX.of hlt (fX11, nX11, aX11, iX11, lX11, [], qX11, gX11, thX11) false tX11_require (fun _ _ _ => none) (by decide) (by decide) kX11_require ⟨_, _, rfl⟩ fX11_ok nX11_ok aX11_ok iX11_ok lX11_ok (fun _ _ _ _ _ _ _ _ _ _ _ _ _ _ _ _ _ _ => no_all) qX11_ok gX11_ok (fun q hq => ⟨thX11_ok q hq, by decide, by decide⟩) ?_ ?_
  · rintro _ S ⟨rfl, hp⟩
    refine ⟨Nat.le_of_ble_eq_true rfl, 300, ?_⟩
    show ((¬ c = 0 → (([] : List MV) = [] ∧ mret none (sp_wrq c) [.inl c] S none S 0 0)) ∧ (c = 0 → (mthr (sp_wrq c) [.inl c] S 1 S (0 + 1) (0 + 6))))
    refine ⟨fun h => ⟨rfl, trivial, ⟨rfl, rfl, hp.resolve_left h⟩, Nat.zero_le _, Nat.zero_le _⟩, fun h => ⟨⟨rfl, h, rfl⟩, Nat.le_refl _, Nat.le_refl _⟩⟩
  · exact fun _ _ _ _ _ h => by cases h
theorem u_wrq (l : Launch) (hlt : l.stackTraces = false) : UsX l yX11_require (Cond.code yX11_require cX11_require 1 none) none 6 89 99 T_wrq := by
  intro Rc Rs av S cs sl K Kx h
  unfold T_wrq at h
  split at h
  · rename_i c
    obtain ⟨hp, hc, hs, hk, hx0⟩ := h
    refine ⟨(sp_wrq c), c_wrq l hlt c, fun _ _ _ => trivial, ⟨rfl, hp⟩, hc, hs, fun S' h8 => by
      obtain ⟨-, h8⟩ := h8
      exact hk _ h8, fun _ _ q => by
      rcases q with ⟨rfl, q⟩
      · obtain ⟨q, rfl⟩ := q
        exact hx0 q⟩
  · exact h.elim
theorem rq0 {S : MM} {P : MM → Prop} {Q : Prop} (h : Q) : (∀ S1, S1 = S ∧ (0 : Int32) = 1 → P S1) ∧ ((0 : Int32) = 0 → Q) := ⟨fun _ h => absurd h.2 (by decide), fun _ => h⟩
theorem rq1 {S : MM} {P : MM → Prop} {Q : Prop} (h : P S) : (∀ S1, S1 = S ∧ (1 : Int32) = 1 → P S1) ∧ ((1 : Int32) = 0 → Q) := ⟨fun _ e => e.1 ▸ h, fun z => absurd z (by decide)⟩
def T_wpo : TR := fun Rc Rs av S cs sl K Kx => match av with
  | [.inr (.inr t_o), .inl p] => pa t_o fun t => (∃ (F : Nat → Nat × Nat) (z : Nat → Nat), (SfA S F t z) ∧ cs + 1 ≤ Rc ∧ sl + 6 ≤ Rs ∧ ((∀ (v : Option Nat) (S' : MM), (S' = S ∧ ∃ n, n < 4 ∧ p = nI n ∧ v = some (z (30 + n))) → K (some (.inr (.inr v))) S' (cs + 1) (sl + 6)) ∧ ((np 4 p) → Kx 1 S (cs + 1) (sl + 6))))
  | _ => False
def sp_wpo (t : Nat) (p : Int32) (F : Nat → Nat × Nat) (z : Nat → Nat) : Sp := (fun av S => av = [.inr (.inr (some t)), .inl p] ∧ (SfA S F t z), fun _ S => 1, fun _ S => 6, fun _ S rv S' => ∃ v, rv = (some (.inr (.inr v))) ∧ (S' = S ∧ ∃ n, n < 4 ∧ p = nI n ∧ v = some (z (30 + n))), fun _ S E S' => (E = 1 ∧ (np 4 p) ∧ S' = S))
def tX11_peerOf : CD := [(0, .iload_n 1), (1, .ifCond .lt 12), (4, .iload_n 1), (5, .iconst 4), (6, .if_icmp .ge 7), (9, .iconst 1), (10, .goto 4), (13, .iconst 0), (14, .invokestatic 104), (17, .aload_n 0), (18, .getfield 25), (21, .iload_n 1), (22, .aaload), (23, .areturn)]
set_option maxRecDepth 100000 in
theorem kX11_peerOf : chk cX11_peerOf tX11_peerOf = true := by decide +kernel
theorem vX11_peerOf_104 : ∀ w ∈ ([.methodLink RX11 104 yX11_require, .static yX11_require, .initialized yX11_require.cls, .code yX11_require cX11_require 1 none] : List Cond), w ∈ lw_good := List.forall_mem_cons.mpr ⟨mgd 801 (by decide +kernel) (by decide +kernel), List.forall_mem_cons.mpr ⟨mgd 802 (by decide +kernel) (by decide +kernel), List.forall_mem_cons.mpr ⟨mgd 121 (by decide +kernel) (by decide +kernel), List.forall_mem_cons.mpr ⟨mgd 803 (by decide +kernel) (by decide +kernel), fun _ h => absurd h List.not_mem_nil⟩⟩⟩⟩
set_option maxRecDepth 100000 in
set_option maxHeartbeats 2000000 in
theorem c_wpo (l : Launch) (hlt : l.stackTraces = false) : ∀ (t : Nat) (p : Int32) (F : Nat → Nat × Nat) (z : Nat → Nat), CtX l yX11_peerOf (Cond.code yX11_peerOf cX11_peerOf 2 (some (.object "WeaveText$Peer"))) (some (.object "WeaveText$Peer")) 7 109 (sp_wpo t p F z) := by
  intro t p F z
  refine CtX.of hlt (fX11, nX11, aX11, iX11, lX11, [(104, 2, 1, 0, T_wrq)], qX11, gX11, []) false tX11_peerOf (fun _ _ _ => none) (by decide) (by decide) kX11_peerOf ⟨_, _, rfl⟩ fX11_ok nX11_ok aX11_ok iX11_ok lX11_ok (fun p e R s m args below meth c Q D cy z r A C hR1 hR2 => List.forall_mem_cons.mpr ⟨cOK_use (fun _ _ _ _ _ _ _ _ h => let ⟨sp, h1, _, h3⟩ := u_wrq l hlt _ _ _ _ _ _ _ _ h; ⟨sp, cOKx_S C h1 vX11_peerOf_104 ⟨by decide, by decide, by decide +kernel⟩ ⟨by rw [hR1]; decide, by rw [hR2]; decide⟩, h3⟩), fun _ h => absurd h List.not_mem_nil⟩) qX11_ok gX11_ok (fun _ h => absurd h List.not_mem_nil) ?_ ?_
  · rintro _ S ⟨rfl, hp⟩
    refine ⟨Nat.le_of_ble_eq_true rfl, 300, ?_⟩
    show ((p < 0 → (2 = 2 ∧ (((0 : Int32) = 0 ∨ (0 : Int32) = 1) ∧ 0 + 1 ≤ 1 ∧ 0 + 6 ≤ 6 ∧ ((∀ (S_1 : MM), (S_1 = S ∧ (0 : Int32) = 1) → (isO S_1 12 t ∧ (pa (mR S_1 1203 t) fun a_2 => a_2 ∈ mL S_1 ∧ ¬ mK S_1 a_2 < 21 ∧ mK S_1 a_2 < 29 ∧ inR S_1 a_2 p ∧ (([] : List MV) = [] ∧ mret (some (.object "WeaveText$Peer")) (sp_wpo t p F z) [.inr (.inr (some t)), .inl p] S (some (.inr (.inr (eR S_1 a_2 p.toNatClampNeg)))) S_1 (0 + 1) (0 + 6))))) ∧ (((0 : Int32) = 0) → mthr (sp_wpo t p F z) [.inr (.inr (some t)), .inl p] S 1 S (0 + 1) (0 + 6)))))) ∧ (¬ p < 0 → (((4 : Int32) ≤ p → (2 = 2 ∧ (((0 : Int32) = 0 ∨ (0 : Int32) = 1) ∧ 0 + 1 ≤ 1 ∧ 0 + 6 ≤ 6 ∧ ((∀ (S_4 : MM), (S_4 = S ∧ (0 : Int32) = 1) → (isO S_4 12 t ∧ (pa (mR S_4 1203 t) fun a_5 => a_5 ∈ mL S_4 ∧ ¬ mK S_4 a_5 < 21 ∧ mK S_4 a_5 < 29 ∧ inR S_4 a_5 p ∧ (([] : List MV) = [] ∧ mret (some (.object "WeaveText$Peer")) (sp_wpo t p F z) [.inr (.inr (some t)), .inl p] S (some (.inr (.inr (eR S_4 a_5 p.toNatClampNeg)))) S_4 (0 + 1) (0 + 6))))) ∧ (((0 : Int32) = 0) → mthr (sp_wpo t p F z) [.inr (.inr (some t)), .inl p] S 1 S (0 + 1) (0 + 6)))))) ∧ (¬ (4 : Int32) ≤ p → (2 = 2 ∧ (((1 : Int32) = 0 ∨ (1 : Int32) = 1) ∧ 0 + 1 ≤ 1 ∧ 0 + 6 ≤ 6 ∧ ((∀ (S_7 : MM), (S_7 = S ∧ (1 : Int32) = 1) → (isO S_7 12 t ∧ (pa (mR S_7 1203 t) fun a_8 => a_8 ∈ mL S_7 ∧ ¬ mK S_7 a_8 < 21 ∧ mK S_7 a_8 < 29 ∧ inR S_7 a_8 p ∧ (([] : List MV) = [] ∧ mret (some (.object "WeaveText$Peer")) (sp_wpo t p F z) [.inr (.inr (some t)), .inl p] S (some (.inr (.inr (eR S_7 a_8 p.toNatClampNeg)))) S_7 (0 + 1) (0 + 6))))) ∧ (((1 : Int32) = 0) → mthr (sp_wpo t p F z) [.inr (.inr (some t)), .inl p] S 1 S (0 + 1) (0 + 6)))))))))
    refine ⟨fun h => ⟨rfl, Or.inl rfl, by decide, by decide, rq0 ⟨⟨rfl, np_lo (by decide) h, rfl⟩, Nat.le_refl _, Nat.le_refl _⟩⟩, fun h1 => ⟨fun h => ⟨rfl, Or.inl rfl, by decide, by decide, rq0 ⟨⟨rfl, np_hi (by decide) h, rfl⟩, Nat.le_refl _, Nat.le_refl _⟩⟩, fun h2 => ⟨rfl, Or.inr rfl, by decide, by decide, rq1 ?_⟩⟩⟩
    obtain ⟨n, hn, rfl⟩ := rng (m := 4) (by decide) h1 h2
    obtain ⟨a1, a2, a3, -, ⟨b1, b2, b3, b4⟩⟩ := hp
    refine ⟨a1, pa_i (a3 3 (by decide) (by decide) (by decide) (by decide)) ⟨b1.1, by rw [b1.2]; decide, by rw [b1.2]; decide, inRn b2 hn (by decide), rfl, trivial, ⟨_, rfl, rfl, n, hn, rfl, ?_⟩, Nat.le_refl _, Nat.le_refl _⟩⟩
    rw [nI_clamp (by omega)]; exact b4 n hn
  · exact fun _ _ _ _ _ h => by cases h
theorem u_wpo (l : Launch) (hlt : l.stackTraces = false) : UsX l yX11_peerOf (Cond.code yX11_peerOf cX11_peerOf 2 (some (.object "WeaveText$Peer"))) (some (.object "WeaveText$Peer")) 7 109 12 T_wpo := by
  intro Rc Rs av S cs sl K Kx h
  unfold T_wpo at h
  split at h
  · rename_i t_o p
    obtain ⟨t, rfl, h_1⟩ := pa_of h
    obtain ⟨F, z, hp, hc, hs, hk, hx0⟩ := h_1
    refine ⟨(sp_wpo t p F z), c_wpo l hlt t p F z, fun _ _ h9 => ⟨_, _, h9.1, h9.2.1⟩, ⟨rfl, hp⟩, hc, hs, fun v9 S' h8 => by
      obtain ⟨v8, h7, h8⟩ := h8
      cases h7
      exact hk _ _ h8, fun _ _ q => by
      rcases q with ⟨rfl, q⟩
      · obtain ⟨q, rfl⟩ := q
        exact hx0 q⟩
  · exact h.elim
def T_wso9 : TR := fun Rc Rs av S cs sl K Kx => match av with
  | [.inr (.inr t_o), .inl p] => pa t_o fun t => (∃ (F : Nat → Nat × Nat) (z : Nat → Nat), (SfA S F t z) ∧ cs + 1 ≤ Rc ∧ sl + 6 ≤ Rs ∧ ((∀ (v : Option Nat) (S' : MM), (S' = S ∧ ∃ n, n < 8 ∧ p = nI n ∧ v = some (z (20 + n))) → K (some (.inr (.inr v))) S' (cs + 1) (sl + 6)) ∧ ((np 8 p) → Kx 1 S (cs + 1) (sl + 6))))
  | _ => False
def sp_wso9 (t : Nat) (p : Int32) (F : Nat → Nat × Nat) (z : Nat → Nat) : Sp := (fun av S => av = [.inr (.inr (some t)), .inl p] ∧ (SfA S F t z), fun _ S => 1, fun _ S => 6, fun _ S rv S' => ∃ v, rv = (some (.inr (.inr v))) ∧ (S' = S ∧ ∃ n, n < 8 ∧ p = nI n ∧ v = some (z (20 + n))), fun _ S E S' => (E = 1 ∧ (np 8 p) ∧ S' = S))
def tX11_slotOf : CD := [(0, .iload_n 1), (1, .ifCond .lt 13), (4, .iload_n 1), (5, .bipush 8), (7, .if_icmp .ge 7), (10, .iconst 1), (11, .goto 4), (14, .iconst 0), (15, .invokestatic 104), (18, .aload_n 0), (19, .getfield 19), (22, .iload_n 1), (23, .aaload), (24, .areturn)]
set_option maxRecDepth 100000 in
theorem kX11_slotOf : chk cX11_slotOf tX11_slotOf = true := by decide +kernel
theorem vX11_slotOf_104 : ∀ w ∈ ([.methodLink RX11 104 yX11_require, .static yX11_require, .initialized yX11_require.cls, .code yX11_require cX11_require 1 none] : List Cond), w ∈ lw_good := List.forall_mem_cons.mpr ⟨mgd 801 (by decide +kernel) (by decide +kernel), List.forall_mem_cons.mpr ⟨mgd 802 (by decide +kernel) (by decide +kernel), List.forall_mem_cons.mpr ⟨mgd 121 (by decide +kernel) (by decide +kernel), List.forall_mem_cons.mpr ⟨mgd 803 (by decide +kernel) (by decide +kernel), fun _ h => absurd h List.not_mem_nil⟩⟩⟩⟩
set_option maxRecDepth 100000 in
set_option maxHeartbeats 2000000 in
theorem c_wso9 (l : Launch) (hlt : l.stackTraces = false) : ∀ (t : Nat) (p : Int32) (F : Nat → Nat × Nat) (z : Nat → Nat), CtX l yX11_slotOf (Cond.code yX11_slotOf cX11_slotOf 2 (some (.object "WeaveText$Bytes"))) (some (.object "WeaveText$Bytes")) 7 109 (sp_wso9 t p F z) := by
  intro t p F z
  refine CtX.of hlt (fX11, nX11, aX11, iX11, lX11, [(104, 2, 1, 0, T_wrq)], qX11, gX11, []) false tX11_slotOf (fun _ _ _ => none) (by decide) (by decide) kX11_slotOf ⟨_, _, rfl⟩ fX11_ok nX11_ok aX11_ok iX11_ok lX11_ok (fun p e R s m args below meth c Q D cy z r A C hR1 hR2 => List.forall_mem_cons.mpr ⟨cOK_use (fun _ _ _ _ _ _ _ _ h => let ⟨sp, h1, _, h3⟩ := u_wrq l hlt _ _ _ _ _ _ _ _ h; ⟨sp, cOKx_S C h1 vX11_slotOf_104 ⟨by decide, by decide, by decide +kernel⟩ ⟨by rw [hR1]; decide, by rw [hR2]; decide⟩, h3⟩), fun _ h => absurd h List.not_mem_nil⟩) qX11_ok gX11_ok (fun _ h => absurd h List.not_mem_nil) ?_ ?_
  · rintro _ S ⟨rfl, hp⟩
    refine ⟨Nat.le_of_ble_eq_true rfl, 300, ?_⟩
    show ((p < 0 → (2 = 2 ∧ (((0 : Int32) = 0 ∨ (0 : Int32) = 1) ∧ 0 + 1 ≤ 1 ∧ 0 + 6 ≤ 6 ∧ ((∀ (S_1 : MM), (S_1 = S ∧ (0 : Int32) = 1) → (isO S_1 12 t ∧ (pa (mR S_1 1202 t) fun a_2 => a_2 ∈ mL S_1 ∧ ¬ mK S_1 a_2 < 21 ∧ mK S_1 a_2 < 29 ∧ inR S_1 a_2 p ∧ (([] : List MV) = [] ∧ mret (some (.object "WeaveText$Bytes")) (sp_wso9 t p F z) [.inr (.inr (some t)), .inl p] S (some (.inr (.inr (eR S_1 a_2 p.toNatClampNeg)))) S_1 (0 + 1) (0 + 6))))) ∧ (((0 : Int32) = 0) → mthr (sp_wso9 t p F z) [.inr (.inr (some t)), .inl p] S 1 S (0 + 1) (0 + 6)))))) ∧ (¬ p < 0 → (((8 : Int32) ≤ p → (2 = 2 ∧ (((0 : Int32) = 0 ∨ (0 : Int32) = 1) ∧ 0 + 1 ≤ 1 ∧ 0 + 6 ≤ 6 ∧ ((∀ (S_4 : MM), (S_4 = S ∧ (0 : Int32) = 1) → (isO S_4 12 t ∧ (pa (mR S_4 1202 t) fun a_5 => a_5 ∈ mL S_4 ∧ ¬ mK S_4 a_5 < 21 ∧ mK S_4 a_5 < 29 ∧ inR S_4 a_5 p ∧ (([] : List MV) = [] ∧ mret (some (.object "WeaveText$Bytes")) (sp_wso9 t p F z) [.inr (.inr (some t)), .inl p] S (some (.inr (.inr (eR S_4 a_5 p.toNatClampNeg)))) S_4 (0 + 1) (0 + 6))))) ∧ (((0 : Int32) = 0) → mthr (sp_wso9 t p F z) [.inr (.inr (some t)), .inl p] S 1 S (0 + 1) (0 + 6)))))) ∧ (¬ (8 : Int32) ≤ p → (2 = 2 ∧ (((1 : Int32) = 0 ∨ (1 : Int32) = 1) ∧ 0 + 1 ≤ 1 ∧ 0 + 6 ≤ 6 ∧ ((∀ (S_7 : MM), (S_7 = S ∧ (1 : Int32) = 1) → (isO S_7 12 t ∧ (pa (mR S_7 1202 t) fun a_8 => a_8 ∈ mL S_7 ∧ ¬ mK S_7 a_8 < 21 ∧ mK S_7 a_8 < 29 ∧ inR S_7 a_8 p ∧ (([] : List MV) = [] ∧ mret (some (.object "WeaveText$Bytes")) (sp_wso9 t p F z) [.inr (.inr (some t)), .inl p] S (some (.inr (.inr (eR S_7 a_8 p.toNatClampNeg)))) S_7 (0 + 1) (0 + 6))))) ∧ (((1 : Int32) = 0) → mthr (sp_wso9 t p F z) [.inr (.inr (some t)), .inl p] S 1 S (0 + 1) (0 + 6)))))))))
    refine ⟨fun h => ⟨rfl, Or.inl rfl, by decide, by decide, rq0 ⟨⟨rfl, np_lo (by decide) h, rfl⟩, Nat.le_refl _, Nat.le_refl _⟩⟩, fun h1 => ⟨fun h => ⟨rfl, Or.inl rfl, by decide, by decide, rq0 ⟨⟨rfl, np_hi (by decide) h, rfl⟩, Nat.le_refl _, Nat.le_refl _⟩⟩, fun h2 => ⟨rfl, Or.inr rfl, by decide, by decide, rq1 ?_⟩⟩⟩
    obtain ⟨n, hn, rfl⟩ := rng (m := 8) (by decide) h1 h2
    obtain ⟨a1, a2, a3, ⟨b1, b2, b3, b4⟩, -⟩ := hp
    refine ⟨a1, pa_i (a3 2 (by decide) (by decide) (by decide) (by decide)) ⟨b1.1, by rw [b1.2]; decide, by rw [b1.2]; decide, inRn b2 hn (by decide), rfl, trivial, ⟨_, rfl, rfl, n, hn, rfl, ?_⟩, Nat.le_refl _, Nat.le_refl _⟩⟩
    rw [nI_clamp (by omega)]; exact b4 n hn
  · exact fun _ _ _ _ _ h => by cases h
theorem u_wso9 (l : Launch) (hlt : l.stackTraces = false) : UsX l yX11_slotOf (Cond.code yX11_slotOf cX11_slotOf 2 (some (.object "WeaveText$Bytes"))) (some (.object "WeaveText$Bytes")) 7 109 12 T_wso9 := by
  intro Rc Rs av S cs sl K Kx h
  unfold T_wso9 at h
  split at h
  · rename_i t_o p
    obtain ⟨t, rfl, h_1⟩ := pa_of h
    obtain ⟨F, z, hp, hc, hs, hk, hx0⟩ := h_1
    refine ⟨(sp_wso9 t p F z), c_wso9 l hlt t p F z, fun _ _ h9 => ⟨_, _, h9.1, h9.2.1⟩, ⟨rfl, hp⟩, hc, hs, fun v9 S' h8 => by
      obtain ⟨v8, h7, h8⟩ := h8
      cases h7
      exact hk _ _ h8, fun _ _ q => by
      rcases q with ⟨rfl, q⟩
      · obtain ⟨q, rfl⟩ := q
        exact hx0 q⟩
  · exact h.elim
/-! length, fault, viewed -/
def T_wlen : TR := fun Rc Rs av S cs sl K Kx => match av with
  | [.inr (.inr t_o), .inl p] => pa t_o fun t => (∃ (F : Nat → Nat × Nat) (X : Nat → GX) (kz : Nat → Nat) (Q : Ab), (WT S F t X kz Q) ∧ cs + 1 ≤ Rc ∧ sl + 6 ≤ Rs ∧ ((∀ (v : Int32) (S' : MM), (S' = S ∧ ∃ n, n < 4 ∧ p = nI n ∧ v = nI (visN (Q.G n) (Q.T n))) → K (some (.inl v)) S' (cs + 1) (sl + 6)) ∧ ((np 4 p) → Kx 1 S (cs + 1) (sl + 6))))
  | _ => False
def sp_wlen (t : Nat) (p : Int32) (F : Nat → Nat × Nat) (X : Nat → GX) (kz : Nat → Nat) (Q : Ab) : Sp := (fun av S => av = [.inr (.inr (some t)), .inl p] ∧ (WT S F t X kz Q), fun _ S => 1, fun _ S => 6, fun _ S rv S' => ∃ v, rv = (some (.inl v)) ∧ (S' = S ∧ ∃ n, n < 4 ∧ p = nI n ∧ v = nI (visN (Q.G n) (Q.T n))), fun _ S E S' => (E = 1 ∧ (np 4 p) ∧ S' = S))
def tX11_length : CD := [(0, .aload_n 0), (1, .iload_n 1), (2, .invokevirtual 108), (5, .getfield 112), (8, .getfield 116), (11, .ireturn)]
set_option maxRecDepth 100000 in
theorem kX11_length : chk cX11_length tX11_length = true := by decide +kernel
theorem vX11_length_108 : ∀ w ∈ ([.methodLink RX11 108 yX11_peerOf, .instanceMethod yX11_peerOf, .selects yX11_peerOf.cls yX11_peerOf yX11_peerOf, .initialized yX11_peerOf.cls, .code yX11_peerOf cX11_peerOf 2 (some (.object "WeaveText$Peer"))] : List Cond), w ∈ lw_good := List.forall_mem_cons.mpr ⟨mgd 827 (by decide +kernel) (by decide +kernel), List.forall_mem_cons.mpr ⟨mgd 829 (by decide +kernel) (by decide +kernel), List.forall_mem_cons.mpr ⟨mgd 1 (by decide +kernel) (by decide +kernel), List.forall_mem_cons.mpr ⟨mgd 121 (by decide +kernel) (by decide +kernel), List.forall_mem_cons.mpr ⟨mgd 830 (by decide +kernel) (by decide +kernel), fun _ h => absurd h List.not_mem_nil⟩⟩⟩⟩⟩
set_option maxRecDepth 100000 in
set_option maxHeartbeats 2000000 in
theorem c_wlen (l : Launch) (hlt : l.stackTraces = false) : ∀ (t : Nat) (p : Int32) (F : Nat → Nat × Nat) (X : Nat → GX) (kz : Nat → Nat) (Q : Ab), CtX l yX11_length (Cond.code yX11_length cX11_length 2 (some .int)) (some .int) 8 130 (sp_wlen t p F X kz Q) := by
  intro t p F X kz Q
  refine CtX.of hlt (fX11, nX11, aX11, iX11, lX11, [(108, 0, 2, 3, T_wpo)], qX11, gX11, []) false tX11_length (fun _ _ _ => none) (by decide) (by decide) kX11_length ⟨_, _, rfl⟩ fX11_ok nX11_ok aX11_ok iX11_ok lX11_ok (fun p e R s m args below meth c Q D cy z r A C hR1 hR2 => List.forall_mem_cons.mpr ⟨cOK_use (fun _ _ _ _ _ _ _ _ h => let ⟨sp, h1, h2, h3⟩ := u_wpo l hlt _ _ _ _ _ _ _ _ h; ⟨sp, cOKx_V C h1 vX11_length_108 ⟨by decide, by decide, by decide +kernel⟩ ⟨by rw [hR1]; decide, by rw [hR2]; decide⟩ (k := 12) (T := TX11) (N := 15) rfl (by decide) h2, h3⟩), fun _ h => absurd h List.not_mem_nil⟩) qX11_ok gX11_ok (fun _ h => absurd h List.not_mem_nil) ?_ ?_
  · rintro _ S ⟨rfl, hp⟩
    refine ⟨Nat.le_of_ble_eq_true rfl, 300, ?_⟩
    show (0 = 0 ∧ (∃ (F_1 : Nat → Nat × Nat) (z_2 : Nat → Nat), (SfA S F_1 t z_2) ∧ 0 + 1 ≤ 1 ∧ 0 + 6 ≤ 6 ∧ ((∀ (x_4 : Option Nat) (S_3 : MM), (S_3 = S ∧ ∃ n, n < 4 ∧ p = nI n ∧ x_4 = some (z_2 (30 + n))) → (pa x_4 fun a_5 => isO S_3 11 a_5 ∧ (pa (mR S_3 1101 a_5) fun a_6 => isO S_3 6 a_6 ∧ (([] : List MV) = [] ∧ mret (some .int) (sp_wlen t p F X kz Q) [.inr (.inr (some t)), .inl p] S (some (.inl (mI S_3 605 a_6))) S_3 (0 + 1) (0 + 6))))) ∧ ((np 4 p) → mthr (sp_wlen t p F X kz Q) [.inr (.inr (some t)), .inl p] S 1 S (0 + 1) (0 + 6)))))
    obtain ⟨z, hz⟩ := hp
    refine ⟨rfl, F, z, hz.1.1, by decide, by decide, fun v S3 h => ?_, fun h => ⟨⟨rfl, h, rfl⟩, Nat.le_refl _, Nat.le_refl _⟩⟩
    obtain ⟨rfl, n, hn, rfl, rfl⟩ := h
    obtain ⟨A, H, W, r, a, d, ea, kn, kr, cu, hp⟩ := hz.2.1 n hn
    exact ⟨hp.1.1, pa_i hp.1.2.2.2.1 ⟨(hp.1.2.2.2.2.2.2.2.2.1 0).1, rfl, trivial, ⟨_, rfl, rfl, n, hn, rfl, hp.1.2.2.2.2.2.2.2.2.1 6⟩, Nat.le_refl _, Nat.le_refl _⟩⟩
  · exact fun _ _ _ _ _ h => by cases h
theorem u_wlen (l : Launch) (hlt : l.stackTraces = false) : UsX l yX11_length (Cond.code yX11_length cX11_length 2 (some .int)) (some .int) 8 130 12 T_wlen := by
  intro Rc Rs av S cs sl K Kx h
  unfold T_wlen at h
  split at h
  · rename_i t_o p
    obtain ⟨t, rfl, h_1⟩ := pa_of h
    obtain ⟨F, X, kz, Q, hp, hc, hs, hk, hx0⟩ := h_1
    refine ⟨(sp_wlen t p F X kz Q), c_wlen l hlt t p F X kz Q, fun _ _ h9 => ⟨_, _, h9.1, h9.2.choose_spec.1.1.1⟩, ⟨rfl, hp⟩, hc, hs, fun v9 S' h8 => by
      obtain ⟨v8, h7, h8⟩ := h8
      cases h7
      exact hk _ _ h8, fun _ _ q => by
      rcases q with ⟨rfl, q⟩
      · obtain ⟨q, rfl⟩ := q
        exact hx0 q⟩
  · exact h.elim
def T_wft : TR := fun Rc Rs av S cs sl K _Kx => match av with
  | [.inr (.inr t_o)] => pa t_o fun t => (∃ (F : Nat → Nat × Nat) (X : Nat → GX) (kz : Nat → Nat) (Q : Ab), (WT S F t X kz Q) ∧ cs ≤ Rc ∧ sl ≤ Rs ∧ (K (some (.inl (nI Q.ft))) S cs sl))
  | _ => False
def sp_wft (t : Nat) (F : Nat → Nat × Nat) (X : Nat → GX) (kz : Nat → Nat) (Q : Ab) : Sp := (fun av S => av = [.inr (.inr (some t))] ∧ (WT S F t X kz Q), fun _ S => 0, fun _ S => 0, fun _ S rv S' => rv = (some (.inl (nI Q.ft))) ∧ S' = S, fun _ _ _ _ => False)
def tX11_fault : CD := [(0, .aload_n 0), (1, .getfield 29), (4, .ireturn)]
set_option maxRecDepth 100000 in
theorem kX11_fault : chk cX11_fault tX11_fault = true := by decide +kernel

set_option maxRecDepth 100000 in
set_option maxHeartbeats 2000000 in
theorem c_wft (l : Launch) (hlt : l.stackTraces = false) : ∀ (t : Nat) (F : Nat → Nat × Nat) (X : Nat → GX) (kz : Nat → Nat) (Q : Ab), CtX l yX11_fault (Cond.code yX11_fault cX11_fault 1 (some .int)) (some .int) 0 0 (sp_wft t F X kz Q) := by
  intro t F X kz Q
  refine CtX.of hlt (fX11, nX11, aX11, iX11, lX11, [], qX11, gX11, []) false tX11_fault (fun _ _ _ => none) (by decide) (by decide) kX11_fault ⟨_, _, rfl⟩ fX11_ok nX11_ok aX11_ok iX11_ok lX11_ok (fun _ _ _ _ _ _ _ _ _ _ _ _ _ _ _ _ _ _ => no_all) qX11_ok gX11_ok (fun _ h => absurd h List.not_mem_nil) ?_ ?_
  · rintro _ S ⟨rfl, hp⟩
    refine ⟨Nat.le_of_ble_eq_true rfl, 300, ?_⟩
    show (isO S 12 t ∧ (([] : List MV) = [] ∧ mret (some .int) (sp_wft t F X kz Q) [.inr (.inr (some t))] S (some (.inl (mI S 1206 t))) S 0 0))
    obtain ⟨z, hz⟩ := hp
    exact ⟨hz.1.1.1, rfl, trivial, ⟨by rw [hz.1.2.1.1], rfl⟩, Nat.le_refl _, Nat.le_refl _⟩
  · exact fun _ _ _ _ _ h => by cases h
theorem u_wft (l : Launch) (hlt : l.stackTraces = false) : UsX l yX11_fault (Cond.code yX11_fault cX11_fault 1 (some .int)) (some .int) 0 0 12 T_wft := by
  intro Rc Rs av S cs sl K Kx h
  unfold T_wft at h
  split at h
  · rename_i t_o
    obtain ⟨t, rfl, h_1⟩ := pa_of h
    obtain ⟨F, X, kz, Q, hp, hc, hs, hk⟩ := h_1
    refine ⟨(sp_wft t F X kz Q), c_wft l hlt t F X kz Q, fun _ _ h9 => ⟨_, _, h9.1, h9.2.choose_spec.1.1.1⟩, ⟨rfl, hp⟩, hc, hs, fun v9 S' h8 => by
      obtain ⟨h7, h8⟩ := h8
      cases h7
      subst h8
      exact hk, fun _ _ q => q.elim⟩
  · exact h.elim
def T_wvw : TR := fun Rc Rs av S cs sl K Kx => match av with
  | [.inr (.inr t_o), .inl x] => pa t_o fun t => (∃ (F : Nat → Nat × Nat) (X : Nat → GX) (kz : Nat → Nat) (Q : Ab), (WT S F t X kz Q) ∧ cs + 1 ≤ Rc ∧ sl + 6 ≤ Rs ∧ ((∀ (v : Int32) (S' : MM), (S' = S ∧ ∃ n, n < Q.vw.length ∧ x = nI n ∧ v = Q.vw.getD n 0) → K (some (.inl v)) S' (cs + 1) (sl + 6)) ∧ ((np Q.vw.length x) → Kx 1 S (cs + 1) (sl + 6))))
  | _ => False
def sp_wvw (t : Nat) (x : Int32) (F : Nat → Nat × Nat) (X : Nat → GX) (kz : Nat → Nat) (Q : Ab) : Sp := (fun av S => av = [.inr (.inr (some t)), .inl x] ∧ (WT S F t X kz Q), fun _ S => 1, fun _ S => 6, fun _ S rv S' => ∃ v, rv = (some (.inl v)) ∧ (S' = S ∧ ∃ n, n < Q.vw.length ∧ x = nI n ∧ v = Q.vw.getD n 0), fun _ S E S' => (E = 1 ∧ (np Q.vw.length x) ∧ S' = S))
def tX11_viewed : CD := [(0, .iload_n 1), (1, .ifCond .lt 15), (4, .iload_n 1), (5, .aload_n 0), (6, .getfield 47), (9, .if_icmp .ge 7), (12, .iconst 1), (13, .goto 4), (16, .iconst 0), (17, .invokestatic 104), (20, .aload_n 0), (21, .getfield 44), (24, .iload_n 1), (25, .iaload), (26, .ireturn)]
set_option maxRecDepth 100000 in
theorem kX11_viewed : chk cX11_viewed tX11_viewed = true := by decide +kernel
theorem vX11_viewed_104 : ∀ w ∈ ([.methodLink RX11 104 yX11_require, .static yX11_require, .initialized yX11_require.cls, .code yX11_require cX11_require 1 none] : List Cond), w ∈ lw_good := List.forall_mem_cons.mpr ⟨mgd 801 (by decide +kernel) (by decide +kernel), List.forall_mem_cons.mpr ⟨mgd 802 (by decide +kernel) (by decide +kernel), List.forall_mem_cons.mpr ⟨mgd 121 (by decide +kernel) (by decide +kernel), List.forall_mem_cons.mpr ⟨mgd 803 (by decide +kernel) (by decide +kernel), fun _ h => absurd h List.not_mem_nil⟩⟩⟩⟩
set_option maxRecDepth 100000 in
set_option maxHeartbeats 2000000 in
theorem c_wvw (l : Launch) (hlt : l.stackTraces = false) : ∀ (t : Nat) (x : Int32) (F : Nat → Nat × Nat) (X : Nat → GX) (kz : Nat → Nat) (Q : Ab), CtX l yX11_viewed (Cond.code yX11_viewed cX11_viewed 2 (some .int)) (some .int) 7 109 (sp_wvw t x F X kz Q) := by
  intro t x F X kz Q
  refine CtX.of hlt (fX11, nX11, aX11, iX11, lX11, [(104, 2, 1, 0, T_wrq)], qX11, gX11, []) false tX11_viewed (fun _ _ _ => none) (by decide) (by decide) kX11_viewed ⟨_, _, rfl⟩ fX11_ok nX11_ok aX11_ok iX11_ok lX11_ok (fun p e R s m args below meth c Q D cy z r A C hR1 hR2 => List.forall_mem_cons.mpr ⟨cOK_use (fun _ _ _ _ _ _ _ _ h => let ⟨sp, h1, _, h3⟩ := u_wrq l hlt _ _ _ _ _ _ _ _ h; ⟨sp, cOKx_S C h1 vX11_viewed_104 ⟨by decide, by decide, by decide +kernel⟩ ⟨by rw [hR1]; decide, by rw [hR2]; decide⟩, h3⟩), fun _ h => absurd h List.not_mem_nil⟩) qX11_ok gX11_ok (fun _ h => absurd h List.not_mem_nil) ?_ ?_
  · rintro _ S ⟨rfl, hp⟩
    refine ⟨Nat.le_of_ble_eq_true rfl, 300, ?_⟩
    show ((x < 0 → (2 = 2 ∧ (((0 : Int32) = 0 ∨ (0 : Int32) = 1) ∧ 0 + 1 ≤ 1 ∧ 0 + 6 ≤ 6 ∧ ((∀ (S_1 : MM), (S_1 = S ∧ (0 : Int32) = 1) → (isO S_1 12 t ∧ (pa (mR S_1 1210 t) fun a_2 => ∃ v_3 : Int32, (isO S_1 17 a_2 ∧ inR S_1 a_2 x ∧ v_3 = eI S_1 a_2 x.toNatClampNeg ∨ a_2 = (mQ S_1).1 ∧ vp_in x 16 ∧ v_3 = mRem x.toNatClampNeg) ∧ (([] : List MV) = [] ∧ mret (some .int) (sp_wvw t x F X kz Q) [.inr (.inr (some t)), .inl x] S (some (.inl v_3)) S_1 (0 + 1) (0 + 6))))) ∧ (((0 : Int32) = 0) → mthr (sp_wvw t x F X kz Q) [.inr (.inr (some t)), .inl x] S 1 S (0 + 1) (0 + 6)))))) ∧ (¬ x < 0 → (isO S 12 t ∧ (((mI S 1211 t) ≤ x → (2 = 2 ∧ (((0 : Int32) = 0 ∨ (0 : Int32) = 1) ∧ 0 + 1 ≤ 1 ∧ 0 + 6 ≤ 6 ∧ ((∀ (S_5 : MM), (S_5 = S ∧ (0 : Int32) = 1) → (isO S_5 12 t ∧ (pa (mR S_5 1210 t) fun a_6 => ∃ v_7 : Int32, (isO S_5 17 a_6 ∧ inR S_5 a_6 x ∧ v_7 = eI S_5 a_6 x.toNatClampNeg ∨ a_6 = (mQ S_5).1 ∧ vp_in x 16 ∧ v_7 = mRem x.toNatClampNeg) ∧ (([] : List MV) = [] ∧ mret (some .int) (sp_wvw t x F X kz Q) [.inr (.inr (some t)), .inl x] S (some (.inl v_7)) S_5 (0 + 1) (0 + 6))))) ∧ (((0 : Int32) = 0) → mthr (sp_wvw t x F X kz Q) [.inr (.inr (some t)), .inl x] S 1 S (0 + 1) (0 + 6)))))) ∧ (¬ (mI S 1211 t) ≤ x → (2 = 2 ∧ (((1 : Int32) = 0 ∨ (1 : Int32) = 1) ∧ 0 + 1 ≤ 1 ∧ 0 + 6 ≤ 6 ∧ ((∀ (S_9 : MM), (S_9 = S ∧ (1 : Int32) = 1) → (isO S_9 12 t ∧ (pa (mR S_9 1210 t) fun a_10 => ∃ v_11 : Int32, (isO S_9 17 a_10 ∧ inR S_9 a_10 x ∧ v_11 = eI S_9 a_10 x.toNatClampNeg ∨ a_10 = (mQ S_9).1 ∧ vp_in x 16 ∧ v_11 = mRem x.toNatClampNeg) ∧ (([] : List MV) = [] ∧ mret (some .int) (sp_wvw t x F X kz Q) [.inr (.inr (some t)), .inl x] S (some (.inl v_11)) S_9 (0 + 1) (0 + 6))))) ∧ (((1 : Int32) = 0) → mthr (sp_wvw t x F X kz Q) [.inr (.inr (some t)), .inl x] S 1 S (0 + 1) (0 + 6))))))))))
    obtain ⟨z, hz⟩ := hp
    obtain ⟨v1, v2, v3, v4, v5, v6, v7, v8⟩ := hz.1.2.2.1
    refine ⟨fun h => ⟨rfl, Or.inl rfl, by decide, by decide, rq0 ⟨⟨rfl, np_lo (by omega) h, rfl⟩, Nat.le_refl _, Nat.le_refl _⟩⟩, fun h1 => ⟨hz.1.1.1, ?_⟩⟩
    rw [v1]
    refine ⟨fun h => ⟨rfl, Or.inl rfl, by decide, by decide, rq0 ⟨⟨rfl, np_hi (by omega) h, rfl⟩, Nat.le_refl _, Nat.le_refl _⟩⟩, fun h2 => ⟨rfl, Or.inr rfl, by decide, by decide, rq1 ?_⟩⟩
    obtain ⟨n, hn, rfl⟩ := rng (m := Q.vw.length) (by omega) h1 h2
    exact ⟨hz.1.1.1, pa_i (hz.1.1.2.2.1 10 (by decide) (by decide) (by decide) (by decide)) ⟨_, Or.inl ⟨v2, inRn v3 (by omega) (by omega), rfl⟩, rfl, trivial, ⟨_, rfl, rfl, n, hn, rfl, by rw [nI_clamp (by omega)]; exact v8 n hn⟩, Nat.le_refl _, Nat.le_refl _⟩⟩
  · exact fun _ _ _ _ _ h => by cases h
theorem u_wvw (l : Launch) (hlt : l.stackTraces = false) : UsX l yX11_viewed (Cond.code yX11_viewed cX11_viewed 2 (some .int)) (some .int) 7 109 12 T_wvw := by
  intro Rc Rs av S cs sl K Kx h
  unfold T_wvw at h
  split at h
  · rename_i t_o x
    obtain ⟨t, rfl, h_1⟩ := pa_of h
    obtain ⟨F, X, kz, Q, hp, hc, hs, hk, hx0⟩ := h_1
    refine ⟨(sp_wvw t x F X kz Q), c_wvw l hlt t x F X kz Q, fun _ _ h9 => ⟨_, _, h9.1, h9.2.choose_spec.1.1.1⟩, ⟨rfl, hp⟩, hc, hs, fun v9 S' h8 => by
      obtain ⟨v8, h7, h8⟩ := h8
      cases h7
      exact hk _ _ h8, fun _ _ q => by
      rcases q with ⟨rfl, q⟩
      · obtain ⟨q, rfl⟩ := q
        exact hx0 q⟩
  · exact h.elim
theorem By.cut {S : MM} {a d n : Nat} {B : List Nat} (h : By S a d B) (hn : n ≤ B.length) : By (sI S 201 a (nI n)) a d (B.take n) := by
  obtain ⟨h1, h2, h3, h4, h5, h6, h7, h8, h9⟩ := h
  have e : (B.take n).length = n := by rw [List.length_take]; omega
  refine ⟨isO_sI h1, h2, isO_sI h3, by rw [e]; exact mI_sIs, by rw [e]; exact Nat.le_trans hn h5, h6, h7, fun b hb => h8 b (List.mem_of_mem_take hb), fun j hj => ?_⟩
  rw [e] at hj
  show eI S d j &&& 255 = _
  rw [h9 j (by omega), List.getD_eq_getElem?_getD, List.getD_eq_getElem?_getD, List.getElem?_take_of_lt hj]
def T_wen : TR := fun Rc Rs av S cs sl K Kx => match av with
  | [.inr (.inr t_o), .inl x] => pa t_o fun t => (∃ (F : Nat → Nat × Nat) (X : Nat → GX) (kz : Nat → Nat) (Q : Ab), (WT S F t X kz Q) ∧ cs + 1 ≤ Rc ∧ sl + 6 ≤ Rs ∧ ((∀ (v : Int32) (S' : MM), (∃ n, n ≤ Q.tp.length ∧ x = nI n ∧ v = nI (Q.tp.length - n) ∧ wtQ S S' F t X kz (Q.sTp (Q.tp.take n))) → K (some (.inl v)) S' (cs + 1) (sl + 6)) ∧ ((np (Q.tp.length + 1) x) → Kx 1 S (cs + 1) (sl + 6))))
  | _ => False
def sp_wen (t : Nat) (x : Int32) (F : Nat → Nat × Nat) (X : Nat → GX) (kz : Nat → Nat) (Q : Ab) : Sp := (fun av S => av = [.inr (.inr (some t)), .inl x] ∧ (WT S F t X kz Q), fun _ S => 1, fun _ S => 6, fun _ S rv S' => ∃ v, rv = (some (.inl v)) ∧ (∃ n, n ≤ Q.tp.length ∧ x = nI n ∧ v = nI (Q.tp.length - n) ∧ wtQ S S' F t X kz (Q.sTp (Q.tp.take n))), fun _ S E S' => (E = 1 ∧ (np (Q.tp.length + 1) x) ∧ S' = S))
def tX11_end : CD := [(0, .iload_n 1), (1, .ifCond .lt 18), (4, .iload_n 1), (5, .aload_n 0), (6, .getfield 10), (9, .getfield 94), (12, .if_icmp .gt 7), (15, .iconst 1), (16, .goto 4), (19, .iconst 0), (20, .invokestatic 104), (23, .aload_n 0), (24, .getfield 10), (27, .getfield 94), (30, .iload_n 1), (31, .isub), (32, .istore_n 2), (33, .aload_n 0), (34, .getfield 10), (37, .iload_n 1), (38, .putfield 94), (41, .iload_n 2), (42, .ireturn)]
set_option maxRecDepth 100000 in
theorem kX11_end : chk cX11_end tX11_end = true := by decide +kernel
theorem vX11_end_104 : ∀ w ∈ ([.methodLink RX11 104 yX11_require, .static yX11_require, .initialized yX11_require.cls, .code yX11_require cX11_require 1 none] : List Cond), w ∈ lw_good := List.forall_mem_cons.mpr ⟨mgd 801 (by decide +kernel) (by decide +kernel), List.forall_mem_cons.mpr ⟨mgd 802 (by decide +kernel) (by decide +kernel), List.forall_mem_cons.mpr ⟨mgd 121 (by decide +kernel) (by decide +kernel), List.forall_mem_cons.mpr ⟨mgd 803 (by decide +kernel) (by decide +kernel), fun _ h => absurd h List.not_mem_nil⟩⟩⟩⟩
set_option maxRecDepth 100000 in
set_option maxHeartbeats 2000000 in
theorem c_wen (l : Launch) (hlt : l.stackTraces = false) : ∀ (t : Nat) (x : Int32) (F : Nat → Nat × Nat) (X : Nat → GX) (kz : Nat → Nat) (Q : Ab), CtX l yX11_end (Cond.code yX11_end cX11_end 3 (some .int)) (some .int) 7 109 (sp_wen t x F X kz Q) := by
  intro t x F X kz Q
  refine CtX.of hlt (fX11, nX11, aX11, iX11, lX11, [(104, 2, 1, 0, T_wrq)], qX11, gX11, []) false tX11_end (fun _ _ _ => none) (by decide) (by decide) kX11_end ⟨_, _, rfl⟩ fX11_ok nX11_ok aX11_ok iX11_ok lX11_ok (fun p e R s m args below meth c Q D cy z r A C hR1 hR2 => List.forall_mem_cons.mpr ⟨cOK_use (fun _ _ _ _ _ _ _ _ h => let ⟨sp, h1, _, h3⟩ := u_wrq l hlt _ _ _ _ _ _ _ _ h; ⟨sp, cOKx_S C h1 vX11_end_104 ⟨by decide, by decide, by decide +kernel⟩ ⟨by rw [hR1]; decide, by rw [hR2]; decide⟩, h3⟩), fun _ h => absurd h List.not_mem_nil⟩) qX11_ok gX11_ok (fun _ h => absurd h List.not_mem_nil) ?_ ?_
  · rintro _ S ⟨rfl, hp⟩
    refine ⟨Nat.le_of_ble_eq_true rfl, 300, ?_⟩
    show ((x < 0 → (2 = 2 ∧ (((0 : Int32) = 0 ∨ (0 : Int32) = 1) ∧ 0 + 1 ≤ 1 ∧ 0 + 6 ≤ 6 ∧ ((∀ (S_1 : MM), (S_1 = S ∧ (0 : Int32) = 1) → (isO S_1 12 t ∧ (pa (mR S_1 1200 t) fun a_2 => isO S_1 2 a_2 ∧ (isO S_1 12 t ∧ (True ∧ (pa (mR S_1 1200 t) fun a_3 => isO S_1 2 a_3 ∧ (([] : List MV) = [] ∧ mret (some .int) (sp_wen t x F X kz Q) [.inr (.inr (some t)), .inl x] S (some (.inl ((mI S_1 201 a_2) - x))) (sI S_1 201 a_3 x) (0 + 1) (0 + 6)))))))) ∧ (((0 : Int32) = 0) → mthr (sp_wen t x F X kz Q) [.inr (.inr (some t)), .inl x] S 1 S (0 + 1) (0 + 6)))))) ∧ (¬ x < 0 → (isO S 12 t ∧ (pa (mR S 1200 t) fun a_5 => isO S 2 a_5 ∧ (((mI S 201 a_5) < x → (2 = 2 ∧ (((0 : Int32) = 0 ∨ (0 : Int32) = 1) ∧ 0 + 1 ≤ 1 ∧ 0 + 6 ≤ 6 ∧ ((∀ (S_6 : MM), (S_6 = S ∧ (0 : Int32) = 1) → (isO S_6 12 t ∧ (pa (mR S_6 1200 t) fun a_7 => isO S_6 2 a_7 ∧ (isO S_6 12 t ∧ (True ∧ (pa (mR S_6 1200 t) fun a_8 => isO S_6 2 a_8 ∧ (([] : List MV) = [] ∧ mret (some .int) (sp_wen t x F X kz Q) [.inr (.inr (some t)), .inl x] S (some (.inl ((mI S_6 201 a_7) - x))) (sI S_6 201 a_8 x) (0 + 1) (0 + 6)))))))) ∧ (((0 : Int32) = 0) → mthr (sp_wen t x F X kz Q) [.inr (.inr (some t)), .inl x] S 1 S (0 + 1) (0 + 6)))))) ∧ (¬ (mI S 201 a_5) < x → (2 = 2 ∧ (((1 : Int32) = 0 ∨ (1 : Int32) = 1) ∧ 0 + 1 ≤ 1 ∧ 0 + 6 ≤ 6 ∧ ((∀ (S_10 : MM), (S_10 = S ∧ (1 : Int32) = 1) → (isO S_10 12 t ∧ (pa (mR S_10 1200 t) fun a_11 => isO S_10 2 a_11 ∧ (isO S_10 12 t ∧ (True ∧ (pa (mR S_10 1200 t) fun a_12 => isO S_10 2 a_12 ∧ (([] : List MV) = [] ∧ mret (some .int) (sp_wen t x F X kz Q) [.inr (.inr (some t)), .inl x] S (some (.inl ((mI S_10 201 a_11) - x))) (sI S_10 201 a_12 x) (0 + 1) (0 + 6)))))))) ∧ (((1 : Int32) = 0) → mthr (sp_wen t x F X kz Q) [.inr (.inr (some t)), .inl x] S 1 S (0 + 1) (0 + 6)))))))))))
    obtain ⟨z, hz⟩ := hp
    obtain ⟨d, b1, b2, b3, b4⟩ := hz.2.2.1
    have bl := b1.len
    have m1 := b1.2.2.2.1
    have r1 : mR S 1200 t = some (z 0) := hz.1.1.2.2.1 0 (by decide) (by decide) (by decide) (by decide)
    refine ⟨fun h => ⟨rfl, Or.inl rfl, by decide, by decide, rq0 ⟨⟨rfl, np_lo (by omega) h, rfl⟩, Nat.le_refl _, Nat.le_refl _⟩⟩, fun h1 => ⟨hz.1.1.1, pa_i r1 ⟨b1.1, ?_⟩⟩⟩
    rw [m1]
    obtain ⟨n, hn, rfl⟩ := nI_of h1
    refine ⟨fun h => ⟨rfl, Or.inl rfl, by decide, by decide, rq0 ⟨⟨rfl, fun i hi e => ?_, rfl⟩, Nat.le_refl _, Nat.le_refl _⟩⟩, fun h2 => ⟨rfl, Or.inr rfl, by decide, by decide, rq1 ?_⟩⟩
    · have := (nI_ltI (by omega) hn).1 h
      have := (nI_eq hn (by omega)).1 e
      omega
    · have hn2 : n ≤ Q.tp.length := Nat.le_of_not_lt (fun w => h2 ((nI_ltI (by omega) hn).2 w))
      refine ⟨hz.1.1.1, pa_i r1 ⟨b1.1, hz.1.1.1, trivial, pa_i r1 ⟨b1.1, rfl, trivial, ⟨_, rfl, n, hn2, rfl, ?_, F, ⟨z, hz.tape ⟨d, By.cut b1 hn2, b2, b3, b4⟩ (fun _ _ => rfl) (Keep.sI (P := fun b => (F b).1 = 21) Keep.rf (by rw [b2])) (fun _ _ => rfl) hz.fo⟩, fun _ _ => rfl, Keep.sI (P := fun b => cO (F b).1) Keep.rf (by rw [b2]; exact ⟨by decide, by decide⟩)⟩, Nat.le_refl _, Nat.le_refl _⟩⟩⟩
      rw [m1, pk_sub hn2]
  · exact fun _ _ _ _ _ h => by cases h
theorem u_wen (l : Launch) (hlt : l.stackTraces = false) : UsX l yX11_end (Cond.code yX11_end cX11_end 3 (some .int)) (some .int) 7 109 12 T_wen := by
  intro Rc Rs av S cs sl K Kx h
  unfold T_wen at h
  split at h
  · rename_i t_o x
    obtain ⟨t, rfl, h_1⟩ := pa_of h
    obtain ⟨F, X, kz, Q, hp, hc, hs, hk, hx0⟩ := h_1
    refine ⟨(sp_wen t x F X kz Q), c_wen l hlt t x F X kz Q, fun _ _ h9 => ⟨_, _, h9.1, h9.2.choose_spec.1.1.1⟩, ⟨rfl, hp⟩, hc, hs, fun v9 S' h8 => by
      obtain ⟨v8, h7, h8⟩ := h8
      cases h7
      exact hk _ _ h8, fun _ _ q => by
      rcases q with ⟨rfl, q⟩
      · obtain ⟨q, rfl⟩ := q
        exact hx0 q⟩
  · exact h.elim
def T_wrf : TR := fun Rc Rs av S cs sl K Kx => match av with
  | [.inr (.inr t_o)] => pa t_o fun t => (∃ (F : Nat → Nat × Nat) (z : Nat → Nat) (ft fo : Nat) (mp : Nat → Option Nat) (ms : Nat → Nat), (isO S 12 t ∧ SfB S F t z ft fo mp ms) ∧ cs + 1 ≤ Rc ∧ sl + 6 ≤ Rs ∧ ((∀ (S' : MM), (S' = S ∧ ft = 0) → K none S' (cs + 1) (sl + 6)) ∧ ((ft = 5) → Kx 2 S (cs + 1) (sl + 6)) ∧ ((ft = 6) → Kx 3 S (cs + 1) (sl + 6)) ∧ ((ft = 7) → Kx 0 S (cs + 1) (sl + 6)) ∧ ((1 ≤ ft ∧ ft ≤ 4) → Kx 1 S (cs + 1) (sl + 6))))
  | _ => False
def sp_wrf (t : Nat) (F : Nat → Nat × Nat) (z : Nat → Nat) (ft fo : Nat) (mp : Nat → Option Nat) (ms : Nat → Nat) : Sp := (fun av S => av = [.inr (.inr (some t))] ∧ (isO S 12 t ∧ SfB S F t z ft fo mp ms), fun _ S => 1, fun _ S => 6, fun _ S rv S' => rv = none ∧ (S' = S ∧ ft = 0), fun _ S E S' => (E = 2 ∧ (ft = 5) ∧ S' = S) ∨ (E = 3 ∧ (ft = 6) ∧ S' = S) ∨ (E = 0 ∧ (ft = 7) ∧ S' = S) ∨ (E = 1 ∧ (1 ≤ ft ∧ ft ≤ 4) ∧ S' = S))
def tX11_raiseFault : CD := [(0, .aload_n 0), (1, .getfield 29), (4, .iconst 5), (5, .if_icmp .ne 11), (8, .new 147), (11, .dup), (12, .invokespecial 149), (15, .athrow), (16, .aload_n 0), (17, .getfield 29), (20, .bipush 6), (22, .if_icmp .ne 11), (25, .new 136), (28, .dup), (29, .invokespecial 138), (32, .athrow), (33, .aload_n 0), (34, .getfield 29), (37, .bipush 7), (39, .if_icmp .ne 11), (42, .new 98), (45, .dup), (46, .invokespecial 100), (49, .athrow), (50, .aload_n 0), (51, .getfield 29), (54, .ifCond .eq 11), (57, .new 281), (60, .dup), (61, .invokespecial 283), (64, .athrow), (65, .return_)]
set_option maxRecDepth 100000 in
theorem kX11_raiseFault : chk cX11_raiseFault tX11_raiseFault = true := by decide +kernel

set_option maxRecDepth 100000 in
set_option maxHeartbeats 2000000 in
theorem c_wrf (l : Launch) (hlt : l.stackTraces = false) : ∀ (t : Nat) (F : Nat → Nat × Nat) (z : Nat → Nat) (ft fo : Nat) (mp : Nat → Option Nat) (ms : Nat → Nat), CtX l yX11_raiseFault (Cond.code yX11_raiseFault cX11_raiseFault 1 none) none 6 89 (sp_wrf t F z ft fo mp ms) := by
  intro t F z ft fo mp ms
  refine CtX.of hlt (fX11, nX11, aX11, iX11, lX11, [], qX11, gX11, thX11) false tX11_raiseFault (fun _ _ _ => none) (by decide) (by decide) kX11_raiseFault ⟨_, _, rfl⟩ fX11_ok nX11_ok aX11_ok iX11_ok lX11_ok (fun _ _ _ _ _ _ _ _ _ _ _ _ _ _ _ _ _ _ => no_all) qX11_ok gX11_ok (fun q hq => ⟨thX11_ok q hq, by decide, by decide⟩) ?_ ?_
  · rintro _ S ⟨rfl, hp⟩
    refine ⟨Nat.le_of_ble_eq_true rfl, 300, ?_⟩
    show (isO S 12 t ∧ ((¬ (mI S 1206 t) = (5 : Int32) → (isO S 12 t ∧ ((¬ (mI S 1206 t) = (6 : Int32) → (isO S 12 t ∧ ((¬ (mI S 1206 t) = (7 : Int32) → (isO S 12 t ∧ (((mI S 1206 t) = 0 → (([] : List MV) = [] ∧ mret none (sp_wrf t F z ft fo mp ms) [.inr (.inr (some t))] S none S 0 0)) ∧ (¬ (mI S 1206 t) = 0 → (mthr (sp_wrf t F z ft fo mp ms) [.inr (.inr (some t))] S 1 S (0 + 1) (0 + 6)))))) ∧ ((mI S 1206 t) = (7 : Int32) → (mthr (sp_wrf t F z ft fo mp ms) [.inr (.inr (some t))] S 0 S (0 + 1) (0 + 6)))))) ∧ ((mI S 1206 t) = (6 : Int32) → (mthr (sp_wrf t F z ft fo mp ms) [.inr (.inr (some t))] S 3 S (0 + 1) (0 + 6)))))) ∧ ((mI S 1206 t) = (5 : Int32) → (mthr (sp_wrf t F z ft fo mp ms) [.inr (.inr (some t))] S 2 S (0 + 1) (0 + 6)))))
    obtain ⟨h1, h2, h3, -⟩ := hp
    have q : ∀ n, n < 8 → (nI ft = nI n ↔ ft = n) := fun n hn => nI_eq (by omega) (by omega)
    rw [h2]
    refine ⟨h1, fun a5 => ⟨h1, fun a6 => ⟨h1, fun a7 => ⟨h1, fun a0 => ⟨rfl, trivial, ⟨rfl, rfl, (q 0 (by decide)).1 a0⟩, Nat.zero_le _, Nat.zero_le _⟩, fun a0 => ⟨Or.inr (Or.inr (Or.inr ⟨rfl, ?_, rfl⟩)), Nat.le_refl _, Nat.le_refl _⟩⟩, fun a7 => ⟨Or.inr (Or.inr (Or.inl ⟨rfl, (q 7 (by decide)).1 a7, rfl⟩)), Nat.le_refl _, Nat.le_refl _⟩⟩, fun a6 => ⟨Or.inr (Or.inl ⟨rfl, (q 6 (by decide)).1 a6, rfl⟩), Nat.le_refl _, Nat.le_refl _⟩⟩, fun a5 => ⟨Or.inl ⟨rfl, (q 5 (by decide)).1 a5, rfl⟩, Nat.le_refl _, Nat.le_refl _⟩⟩
    have b5 : ft ≠ 5 := fun e => a5 ((q 5 (by decide)).2 e)
    have b6 : ft ≠ 6 := fun e => a6 ((q 6 (by decide)).2 e)
    have b7 : ft ≠ 7 := fun e => a7 ((q 7 (by decide)).2 e)
    have b0 : ft ≠ 0 := fun e => a0 ((q 0 (by decide)).2 e)
    omega
  · exact fun _ _ _ _ _ h => by cases h
theorem u_wrf (l : Launch) (hlt : l.stackTraces = false) : UsX l yX11_raiseFault (Cond.code yX11_raiseFault cX11_raiseFault 1 none) none 6 89 12 T_wrf := by
  intro Rc Rs av S cs sl K Kx h
  unfold T_wrf at h
  split at h
  · rename_i t_o
    obtain ⟨t, rfl, h_1⟩ := pa_of h
    obtain ⟨F, z, ft, fo, mp, ms, hp, hc, hs, hk, hx0, hx1, hx2, hx3⟩ := h_1
    refine ⟨(sp_wrf t F z ft fo mp ms), c_wrf l hlt t F z ft fo mp ms, fun _ _ h9 => ⟨_, _, h9.1, h9.2.1⟩, ⟨rfl, hp⟩, hc, hs, fun S' h8 => by
      obtain ⟨-, h8⟩ := h8
      exact hk _ h8, fun _ _ q => by
      rcases q with ⟨rfl, q⟩ | ⟨rfl, q⟩ | ⟨rfl, q⟩ | ⟨rfl, q⟩
      · obtain ⟨q, rfl⟩ := q
        exact hx0 q
      · obtain ⟨q, rfl⟩ := q
        exact hx1 q
      · obtain ⟨q, rfl⟩ := q
        exact hx2 q
      · obtain ⟨q, rfl⟩ := q
        exact hx3 q⟩
  · exact h.elim
