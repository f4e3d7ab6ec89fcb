/-! ===== The reference keeps a message in a slot; announce, send ===== -/
theorem MD.slt {S S' : MM} {F F' : Nat → Nat × Nat} {t : Nat} {z z' : Nat → Nat} {Y : Nat → Nat → Nat} {R : Rb} {kz : Nat → Nat} {i : Nat} {B : List Nat} (h : MD S F t z Y R kz) (hi : i < 8) (hB : B ≠ []) (hBl : B.length ≤ 32768) (hk : Keep (fun c => c = z 3 ∨ c = z 4 ∨ (c = z (60 + i) ∧ R.Q.sl i ≠ [])) S S') (hz : ∀ k, k ≠ 60 + i → z' k = z k) (hF : ∀ b, b ∈ mL S → F' b = F b) (hFO : FO S' F') (h3 : ∀ k, eR S' (z 3) k = if k = i then some (z' (60 + i)) else eR S (z 3) k) (h4 : ∀ k, eI S' (z 4) k = if k = i then nI B.length else eI S (z 4) k) (hs1 : isO S' 16 (z' (60 + i))) (hs2 : mN S' (z' (60 + i)) = 32768) (hs3 : F' (z' (60 + i)) = (120 + i, 1)) (hs4 : byR S' (z' (60 + i)) B) : MD S' F' t z' Y (R.sQ (R.Q.sSl (upF R.Q.sl i B))) kz := by
  have r3 := h 1 3 (by decide)
  have r4 := h 1 4 (by decide)
  have no : ∀ {x o v}, F x = (o, v) → (o ≠ 100 ∨ (v ≠ 103 ∧ v ≠ 104)) → (o ≠ 120 + i ∨ v ≠ 1) → ¬ (x = z 3 ∨ x = z 4 ∨ (x = z (60 + i) ∧ R.Q.sl i ≠ [])) := fun {x o v} e h1 h2 q => by
    rcases q with q | q | q
    · rw [q, r3.2.1] at e
      injection e with e1 e2
      omega
    · rw [q, r4.2.1] at e
      injection e with e1 e2
      omega
    · obtain ⟨-, -, -, -, s5, -⟩ := (h 4 i hi).resolve_left (fun w => q.2 w.1)
      rw [q.1, s5] at e
      injection e with e1 e2
      omega
  have kt := hk.2.1 t (h 0).1.1 (no (h 0).2 (Or.inr (by decide)) (Or.inl (by omega)))
  have zk : ∀ k, k ∈ mdL → z' k = z k := fun k hk9 => hz k (fun e => by
    have : ∀ k, k ∈ mdL → k < 60 := by decide
    have := this k hk9
    omega)
  have kr : ∀ k, k ∈ mdL → k ≠ 3 → k ≠ 4 → eI S' (z k) = eI S (z k) ∧ eR S' (z k) = eR S (z k) := fun k hk9 n3 n4 => by
    have r := h 1 k hk9
    have := hk.2.1 _ r.2.2.1.1 (no r.2.1 (Or.inr ⟨by omega, by omega⟩) (Or.inl (by omega)))
    exact ⟨this.2.2.2.1, this.2.2.2.2.2⟩
  intro q
  match q with
  | 0 => exact ⟨hk.isO (h 0).1, (hF _ (h 0).1.1).trans (h 0).2⟩
  | 1 =>
    intro k hk9
    obtain ⟨a1, a2, a3, a4⟩ := h 1 k hk9
    rw [zk k hk9]
    exact ⟨(kt.2.1 _).trans a1, (hF _ a3.1).trans a2, hk.isO a3, (hk.1 _ a3.1).2.2.trans a4⟩
  | 2 =>
    intro p hp
    obtain ⟨a1, a2⟩ := h 2 p hp
    rw [zk 0 (by decide), (kr 0 (by decide) (by decide) (by decide)).2]
    refine ⟨a1, a2.keep hk (fun b hb w => ?_) hF⟩
    rcases w with w | w | w
    · rw [w, r3.2.1] at hb
      have hb : 100 = 101 + p := hb
      omega
    · rw [w, r4.2.1] at hb
      have hb : 100 = 101 + p := hb
      omega
    · obtain ⟨-, -, -, -, s5, -⟩ := (h 4 i hi).resolve_left (fun q => w.2 q.1)
      rw [w.1, s5] at hb
      have hb : 120 + i = 101 + p := hb
      omega
  | 3 =>
    obtain ⟨a1, a2, a3⟩ := h 3
    refine ⟨(kt.1 _).trans a1, a2, ?_⟩
    unfold byR
    rw [zk 1 (by decide), (kr 1 (by decide) (by decide) (by decide)).1]; exact a3
  | 4 =>
    intro k hk9
    show mdS S' F' z' k (upF R.Q.sl i B k)
    unfold mdS
    rw [zk 3 (by decide), zk 4 (by decide), h3 k, h4 k]
    by_cases c : k = i
    · subst c
      rw [upF_s, if_pos rfl, if_pos rfl]
      exact Or.inr ⟨hB, rfl, hs1, hs2, hs3, rfl, hBl, hs4⟩
    · rw [upF_o c, if_neg c, if_neg c, hz (60 + k) (by omega)]
      rcases h 4 k hk9 with ⟨a1, a2⟩ | ⟨a1, a2, a3, a4, a5, a6, a7, a8⟩
      · exact Or.inl ⟨a1, a2⟩
      · refine Or.inr ⟨a1, a2, hk.isO a3, (hk.1 _ a3.1).2.2.trans a4, (hF _ a3.1).trans a5, a6, a7, ?_⟩
        unfold byR
        rw [(hk.2.1 _ a3.1 (no a5 (Or.inl (by omega)) (Or.inl (by omega)))).2.2.2.1]
        exact a8
  | 5 =>
    intro b hb
    rw [zk 5 (by decide), zk 6 (by decide), (kr 5 (by decide) (by decide) (by decide)).1, (kr 6 (by decide) (by decide) (by decide)).1]; exact h 5 b hb
  | 6 =>
    obtain ⟨a1, a2, a3⟩ := h 6
    rw [MDf, zk 7 (by decide), (kr 7 (by decide) (by decide) (by decide)).1]
    exact ⟨(kt.1 1508).trans a1, a2, a3⟩
  | 7 =>
    obtain ⟨a1, a2⟩ := h 7
    rw [MDf, zk 9 (by decide), (kr 9 (by decide) (by decide) (by decide)).1]
    exact ⟨(kt.1 1510).trans a1, a2⟩
  | 8 =>
    intro a ha
    rw [zk 11 (by decide), zk 12 (by decide), (kr 11 (by decide) (by decide) (by decide)).1, (kr 12 (by decide) (by decide) (by decide)).1]; exact h 8 a ha
  | 9 =>
    obtain ⟨a1, a2, a3, a4⟩ := h 9
    exact ⟨(kt.1 _).trans a1, a2, (kt.1 _).trans a3, a4⟩
  | 10 =>
    intro k hk9
    obtain ⟨a1, a2, a3, B', a4⟩ := h 10 k hk9
    unfold mdO
    rw [hz k (by omega), hz (70 + k) (by omega)]
    exact ⟨(kt.2.1 _).trans a1, (hF _ a4.1.1).trans a2, (hF _ a4.2.2.1.1).trans a3, B', a4.kp hk (no a2 (Or.inl (by decide)) (Or.inl (by omega))) (no a3 (Or.inl (by decide)) (Or.inl (by omega)))⟩
  | 11 => exact h 11
  | 12 => exact hFO
  | n + 13 => trivial
def kpR (R : Rb) (i : Nat) (B : List Nat) : Rb := R.sQ (R.Q.sSl (upF R.Q.sl i B))
def kpC (R : Rb) (i : Nat) : Nat := if R.Q.sl i = [] then 1 else 0
def kpZ (R : Rb) (i : Nat) : Nat := if R.Q.sl i = [] then 32768 else 0
def I_kp (t i : Nat) (F : Nat → Nat × Nat) (z : Nat → Nat) (R : Rb) (S : MM) (k : Nat) : KT := fun lo st S1 cs sl => ∃ q F1, k = 1 ∧ Keep (fun c => c = z 3) S S1 ∧ (∀ b, b ∈ mL S → F1 b = F b) ∧ FO S1 F1 ∧ isO S1 16 q ∧ mN S1 q = 32768 ∧ F1 q = (120 + i, 1) ∧ (R.Q.sl i ≠ [] → q = z (60 + i)) ∧ (R.Q.sl i = [] → q ∉ mL S) ∧ (∀ k, eR S1 (z 3) k = if k = i then some q else eR S (z 3) k) ∧ (∀ j, fits .byte (.int (eI S1 q j)) = true) ∧ lo = [(0, .inr (.inr (some t))), (1, .inl (nI i))] ∧ st = [] ∧ cs = kpC R i ∧ sl = kpZ R i
def T_rkp : TR := fun Rc Rs av S cs sl K _Kx => match av with
  | [.inr (.inr t_o), .inl i_v] => pa t_o fun t => (∃ (i : Nat), i_v = nI i ∧ (∃ (F : Nat → Nat × Nat) (z : Nat → Nat) (Y : Nat → Nat → Nat) (R : Rb) (kz : Nat → Nat) (B : List Nat), (MD S F t z Y R kz ∧ i < 8 ∧ Ou S (z 21) (z (70 + 21)) B ∧ B ≠ [] ∧ B.length ≤ 32768) ∧ cs + (kpC R i) ≤ Rc ∧ sl + (kpZ R i) ≤ Rs ∧ (∀ (S' : MM), (mdQ S S' F t (kpR R i B) kz) → K (some (.inl (nI B.length))) S' (cs + (kpC R i)) (sl + (kpZ R i)))))
  | _ => False
def sp_rkp (t : Nat) (i : Nat) (F : Nat → Nat × Nat) (z : Nat → Nat) (Y : Nat → Nat → Nat) (R : Rb) (kz : Nat → Nat) (B : List Nat) : Sp := (fun av S => av = [.inr (.inr (some t)), .inl (nI i)] ∧ (MD S F t z Y R kz ∧ i < 8 ∧ Ou S (z 21) (z (70 + 21)) B ∧ B ≠ [] ∧ B.length ≤ 32768), fun _ S => kpC R i, fun _ S => kpZ R i, fun _ S rv S' => rv = (some (.inl (nI B.length))) ∧ (mdQ S S' F t (kpR R i B) kz), fun _ _ _ _ => False)
def tX14_keep : CD := [(0, .aload_n 0), (1, .getfield 21), (4, .iload_n 1), (5, .aaload), (6, .ifnonnull 13), (9, .aload_n 0), (10, .getfield 21), (13, .iload_n 1), (14, .ldc 15), (16, .newarray .byte), (18, .aastore), (19, .aload_n 0), (20, .getfield 63), (23, .getfield 316), (26, .iconst 0), (27, .aload_n 0), (28, .getfield 21), (31, .iload_n 1), (32, .aaload), (33, .iconst 0), (34, .aload_n 0), (35, .getfield 63), (38, .getfield 309), (41, .invokestatic 288), (44, .aload_n 0), (45, .getfield 25), (48, .iload_n 1), (49, .aload_n 0), (50, .getfield 63), (53, .getfield 309), (56, .iastore), (57, .aload_n 0), (58, .getfield 63), (61, .getfield 309), (64, .ireturn)]
set_option maxRecDepth 100000 in
theorem kX14_keep : chk cX14_keep tX14_keep = true := by decide +kernel
theorem vX14_keep_288 : ∀ w ∈ ([.methodLink RX14 288 arraycopyName, .native arraycopyName, .static arraycopyName, .initialized "java/lang/System"] : List Cond), w ∈ lw_good := List.forall_mem_cons.mpr ⟨mgd 2183 (by decide +kernel) (by decide +kernel), List.forall_mem_cons.mpr ⟨mgd 792 (by decide +kernel) (by decide +kernel), List.forall_mem_cons.mpr ⟨mgd 791 (by decide +kernel) (by decide +kernel), List.forall_mem_cons.mpr ⟨mgd 144 (by decide +kernel) (by decide +kernel), fun _ h => absurd h List.not_mem_nil⟩⟩⟩⟩
set_option maxRecDepth 100000 in
set_option maxHeartbeats 2000000 in
theorem c_rkp (l : Launch) : ∀ (t : Nat) (i : Nat) (F : Nat → Nat × Nat) (z : Nat → Nat) (Y : Nat → Nat → Nat) (R : Rb) (kz : Nat → Nat) (B : List Nat), Ct l yX14_keep cX14_keep 2 (some .int) 1 32 (sp_rkp t i F z Y R kz B) := by
  intro t i F z Y R kz B
  refine Ct.of (fX14, nX14, aX14, iX14, lX14, [(288, 2, 5, 0, T_acopy)], qX14, gX14, []) false tX14_keep (fun _ S => look [(19, ([0,1], I_kp t i F z R S))]) (by decide) (by decide) kX14_keep ⟨_, _, rfl⟩ fX14_ok nX14_ok aX14_ok iX14_ok lX14_ok (fun p e R s m args below meth c Q D cy z r A C hR1 hR2 => List.forall_mem_cons.mpr ⟨cOK_use (fun _ _ _ _ _ _ _ _ h => ⟨sp_acopy, cOK_acopy C vX14_keep_288 ⟨by rw [hR1]; decide, by rw [hR2]; decide⟩, T_acopy_ok h⟩), fun _ h => absurd h List.not_mem_nil⟩) qX14_ok gX14_ok rfl ?_ ?_
  · rintro _ S ⟨rfl, hp⟩
    refine ⟨Nat.le_of_ble_eq_true rfl, 300, ?_⟩
    show (isO S 15 t ∧ (pa (mR S 1503 t) fun a_1 => a_1 ∈ mL S ∧ ¬ mK S a_1 < 21 ∧ mK S a_1 < 29 ∧ inR S a_1 (nI i) ∧ ((∀ w_2, (eR S a_1 (nI i).toNatClampNeg) = some w_2 → (∃ k1, I_kp t i F z R S k1 [(0, .inr (.inr (some t))), (1, .inl (nI i))] [] S 0 0)) ∧ ((eR S a_1 (nI i).toNatClampNeg) = none → (isO S 15 t ∧ (¬ (32768 : Int32) < 0 ∧ (32768 : Int32).toNatClampNeg * 8 ≤ 536870912 ∧ 0 + 1 ≤ kpC R i ∧ 0 + (32768 : Int32).toNatClampNeg ≤ kpZ R i ∧ ∀ q_3, q_3 ∉ mL S → (pa (mR S 1503 t) fun a_4 => a_4 ∈ mL (nA S q_3 16 (32768 : Int32).toNatClampNeg) ∧ ¬ mK (nA S q_3 16 (32768 : Int32).toNatClampNeg) a_4 < 21 ∧ mK (nA S q_3 16 (32768 : Int32).toNatClampNeg) a_4 < 29 ∧ inR (nA S q_3 16 (32768 : Int32).toNatClampNeg) a_4 (nI i) ∧ (∀ w_5, (some q_3) = some w_5 → w_5 ∈ mL (nA S q_3 16 (32768 : Int32).toNatClampNeg) ∧ (mK (nA S q_3 16 (32768 : Int32).toNatClampNeg) a_4 = 21 ∧ mK (nA S q_3 16 (32768 : Int32).toNatClampNeg) w_5 = 1 ∨ mK (nA S q_3 16 (32768 : Int32).toNatClampNeg) a_4 = 22 ∧ mK (nA S q_3 16 (32768 : Int32).toNatClampNeg) w_5 = 2 ∨ mK (nA S q_3 16 (32768 : Int32).toNatClampNeg) a_4 = 23 ∧ mK (nA S q_3 16 (32768 : Int32).toNatClampNeg) w_5 = 5 ∨ mK (nA S q_3 16 (32768 : Int32).toNatClampNeg) a_4 = 24 ∧ mK (nA S q_3 16 (32768 : Int32).toNatClampNeg) w_5 = 11 ∨ mK (nA S q_3 16 (32768 : Int32).toNatClampNeg) a_4 = 25 ∧ mK (nA S q_3 16 (32768 : Int32).toNatClampNeg) w_5 = 13 ∨ mK (nA S q_3 16 (32768 : Int32).toNatClampNeg) a_4 = 26 ∧ (mK (nA S q_3 16 (32768 : Int32).toNatClampNeg) w_5 = 4 ∨ mK (nA S q_3 16 (32768 : Int32).toNatClampNeg) w_5 = 5) ∨ mK (nA S q_3 16 (32768 : Int32).toNatClampNeg) a_4 = 27 ∧ mK (nA S q_3 16 (32768 : Int32).toNatClampNeg) w_5 = 16 ∨ mK (nA S q_3 16 (32768 : Int32).toNatClampNeg) a_4 = 28 ∧ mK (nA S q_3 16 (32768 : Int32).toNatClampNeg) w_5 = 17)) ∧ (∃ k1, I_kp t i F z R S k1 [(0, .inr (.inr (some t))), (1, .inl (nI i))] [] (rR (nA S q_3 16 (32768 : Int32).toNatClampNeg) a_4 (va_up (eR (nA S q_3 16 (32768 : Int32).toNatClampNeg) a_4) (nI i).toNatClampNeg (some q_3))) (0 + 1) (0 + (32768 : Int32).toNatClampNeg)))))))))
    obtain ⟨hM, hi, hO, hB, hBl⟩ := hp
    have r3 := hM 1 3 (by decide)
    have ci : (nI i).toNatClampNeg = i := nI_clamp (by omega)
    have k3 : mK S (z 3) = 27 := r3.2.2.1.2
    rw [ci]
    refine ⟨(hM 0).1, pa_i r3.1 ⟨r3.2.2.1.1, by rw [k3]; decide, by rw [k3]; decide, inRn (N := 8) r3.2.2.2 hi (by decide), fun w hw => ?_, fun hw => ?_⟩⟩
    · rcases hM 4 i hi with ⟨-, a2⟩ | ⟨s1, s2, s3, s4, s5, s6, s7, s8⟩
      · rw [a2] at hw; cases hw
      · refine ⟨1, z (60 + i), F, rfl, Keep.rf, fun _ _ => rfl, hM 12, s3, s4, s5, fun _ => rfl, fun e => absurd e s1, fun k => ?_, s8.1, rfl, rfl, ?_, ?_⟩
        · split
          · next e => rw [e]; exact s2
          · rfl
        · exact (if_neg s1).symm
        · exact (if_neg s1).symm
    · have hs : R.Q.sl i = [] := by
        rcases hM 4 i hi with ⟨a1, -⟩ | ⟨s1, s2, -⟩
        · exact a1
        · rw [s2] at hw; cases hw
      have c1 : kpC R i = 1 := if_pos hs
      have c2 : kpZ R i = 32768 := if_pos hs
      rw [c1, c2]
      have e32 : Int32.toNatClampNeg 32768 = 32768 := by decide
      rw [e32]
      refine ⟨(hM 0).1, by decide, by decide, Nat.le_refl _, Nat.le_of_eq (Nat.zero_add _), fun q hq => pa_i r3.1 ?_⟩
      have n3 : z 3 ≠ q := fun e => hq (e ▸ r3.2.2.1.1)
      have o3 : isO (nA S q 16 32768) 27 (z 3) := isO_nA r3.2.2.1 hq
      have oq : isO (nA S q 16 32768) 16 q := isO_nA_self
      have k0 : Keep (fun c => c = z 3) S (nA S q 16 32768) := Keep.nA Keep.rf hq
      refine ⟨o3.1, by rw [o3.2]; decide, by rw [o3.2]; decide, inRn (N := 8) (by rw [mN_nA, if_neg n3]; exact r3.2.2.2) hi (by decide), fun w e => ?_, ?_⟩
      · cases e
        exact ⟨oq.1, Or.inr (Or.inr (Or.inr (Or.inr (Or.inr (Or.inr (Or.inl ⟨o3.2, oq.2⟩))))))⟩
      · refine ⟨1, q, upF F q (120 + i, 1), rfl, Keep.rR (P := fun c => c = z 3) k0 rfl, fun b hb => upF_o (fun e => hq (e ▸ hb)), fun b hb => ?_, oq, ?_, upF_s, fun e => absurd hs e, fun _ => hq, fun k => ?_, fun j => ?_, rfl, rfl, c1.symm, ?_⟩
        · by_cases c : b = q
          · rw [c]; exact oq.1
          · exact (k0.1 b (hM 12 b (by rw [upF_o c] at hb; exact hb))).1
        · show mN (nA S q 16 32768) q = 32768
          rw [mN_nA, if_pos rfl]
        · have e9 : eR (nA S q 16 32768) (z 3) = eR S (z 3) := ((Keep.nA (P := fun _ => False) Keep.rf hq).2.1 (z 3) r3.2.2.1.1 id).2.2.2.2.2
          rw [eR_rR, if_pos rfl, e9]
          rfl
        · show fits .byte (.int (eI (nA S q 16 32768) q j)) = true
          rw [eI_nA, if_pos rfl]; decide
        · rw [c2]
  · intro av S hpre pc I hI k lo st S1 cs sl h
    obtain ⟨rfl, hp⟩ := hpre
    have hm := look_in hI
    rw [List.mem_singleton] at hm
    cases hm
    obtain ⟨q, F1, rfl, hK, hF, hFO, q1, q2, q3, q4, q5, q6, q7, rfl, rfl, rfl, rfl⟩ := h
    refine ⟨300, ?_⟩
    show (isO S1 15 t ∧ (pa (mR S1 1521 t) fun a_1 => isO S1 14 a_1 ∧ (isO S1 15 t ∧ (pa (mR S1 1503 t) fun a_2 => a_2 ∈ mL S1 ∧ ¬ mK S1 a_2 < 21 ∧ mK S1 a_2 < 29 ∧ inR S1 a_2 (nI i) ∧ (isO S1 15 t ∧ (pa (mR S1 1521 t) fun a_3 => isO S1 14 a_3 ∧ (2 = 2 ∧ ((pa (mR S1 1400 a_1) fun a_4 => ((pa (eR S1 a_2 (nI i).toNatClampNeg) fun a_5 => (∃ (k_6 : Nat), (acP S1 a_4 a_5 (0 : Int32) (0 : Int32) (mI S1 1401 a_3) k_6) ∧ kpC R i ≤ kpC R i ∧ kpZ R i ≤ kpZ R i ∧ ((isO (rI S1 a_5 (va_cpy (eI S1 a_4) (eI S1 a_5) (0 : Int32).toNatClampNeg (0 : Int32).toNatClampNeg (mI S1 1401 a_3).toNatClampNeg)) 15 t ∧ (isO (rI S1 a_5 (va_cpy (eI S1 a_4) (eI S1 a_5) (0 : Int32).toNatClampNeg (0 : Int32).toNatClampNeg (mI S1 1401 a_3).toNatClampNeg)) 15 t ∧ (pa (mR (rI S1 a_5 (va_cpy (eI S1 a_4) (eI S1 a_5) (0 : Int32).toNatClampNeg (0 : Int32).toNatClampNeg (mI S1 1401 a_3).toNatClampNeg)) 1521 t) fun a_8 => isO (rI S1 a_5 (va_cpy (eI S1 a_4) (eI S1 a_5) (0 : Int32).toNatClampNeg (0 : Int32).toNatClampNeg (mI S1 1401 a_3).toNatClampNeg)) 14 a_8 ∧ (pa (mR (rI S1 a_5 (va_cpy (eI S1 a_4) (eI S1 a_5) (0 : Int32).toNatClampNeg (0 : Int32).toNatClampNeg (mI S1 1401 a_3).toNatClampNeg)) 1504 t) fun a_9 => isO (rI S1 a_5 (va_cpy (eI S1 a_4) (eI S1 a_5) (0 : Int32).toNatClampNeg (0 : Int32).toNatClampNeg (mI S1 1401 a_3).toNatClampNeg)) 17 a_9 ∧ inR (rI S1 a_5 (va_cpy (eI S1 a_4) (eI S1 a_5) (0 : Int32).toNatClampNeg (0 : Int32).toNatClampNeg (mI S1 1401 a_3).toNatClampNeg)) a_9 (nI i) ∧ (isO (rI (rI S1 a_5 (va_cpy (eI S1 a_4) (eI S1 a_5) (0 : Int32).toNatClampNeg (0 : Int32).toNatClampNeg (mI S1 1401 a_3).toNatClampNeg)) a_9 (upd (eI (rI S1 a_5 (va_cpy (eI S1 a_4) (eI S1 a_5) (0 : Int32).toNatClampNeg (0 : Int32).toNatClampNeg (mI S1 1401 a_3).toNatClampNeg)) a_9) (nI i).toNatClampNeg (mI (rI S1 a_5 (va_cpy (eI S1 a_4) (eI S1 a_5) (0 : Int32).toNatClampNeg (0 : Int32).toNatClampNeg (mI S1 1401 a_3).toNatClampNeg)) 1401 a_8))) 15 t ∧ (pa (mR (rI (rI S1 a_5 (va_cpy (eI S1 a_4) (eI S1 a_5) (0 : Int32).toNatClampNeg (0 : Int32).toNatClampNeg (mI S1 1401 a_3).toNatClampNeg)) a_9 (upd (eI (rI S1 a_5 (va_cpy (eI S1 a_4) (eI S1 a_5) (0 : Int32).toNatClampNeg (0 : Int32).toNatClampNeg (mI S1 1401 a_3).toNatClampNeg)) a_9) (nI i).toNatClampNeg (mI (rI S1 a_5 (va_cpy (eI S1 a_4) (eI S1 a_5) (0 : Int32).toNatClampNeg (0 : Int32).toNatClampNeg (mI S1 1401 a_3).toNatClampNeg)) 1401 a_8))) 1521 t) fun a_10 => isO (rI (rI S1 a_5 (va_cpy (eI S1 a_4) (eI S1 a_5) (0 : Int32).toNatClampNeg (0 : Int32).toNatClampNeg (mI S1 1401 a_3).toNatClampNeg)) a_9 (upd (eI (rI S1 a_5 (va_cpy (eI S1 a_4) (eI S1 a_5) (0 : Int32).toNatClampNeg (0 : Int32).toNatClampNeg (mI S1 1401 a_3).toNatClampNeg)) a_9) (nI i).toNatClampNeg (mI (rI S1 a_5 (va_cpy (eI S1 a_4) (eI S1 a_5) (0 : Int32).toNatClampNeg (0 : Int32).toNatClampNeg (mI S1 1401 a_3).toNatClampNeg)) 1401 a_8))) 14 a_10 ∧ (([] : List MV) = [] ∧ mret (some .int) (sp_rkp t i F z Y R kz B) [.inr (.inr (some t)), .inl (nI i)] S (some (.inl (mI (rI (rI S1 a_5 (va_cpy (eI S1 a_4) (eI S1 a_5) (0 : Int32).toNatClampNeg (0 : Int32).toNatClampNeg (mI S1 1401 a_3).toNatClampNeg)) a_9 (upd (eI (rI S1 a_5 (va_cpy (eI S1 a_4) (eI S1 a_5) (0 : Int32).toNatClampNeg (0 : Int32).toNatClampNeg (mI S1 1401 a_3).toNatClampNeg)) a_9) (nI i).toNatClampNeg (mI (rI S1 a_5 (va_cpy (eI S1 a_4) (eI S1 a_5) (0 : Int32).toNatClampNeg (0 : Int32).toNatClampNeg (mI S1 1401 a_3).toNatClampNeg)) 1401 a_8))) 1401 a_10))) (rI (rI S1 a_5 (va_cpy (eI S1 a_4) (eI S1 a_5) (0 : Int32).toNatClampNeg (0 : Int32).toNatClampNeg (mI S1 1401 a_3).toNatClampNeg)) a_9 (upd (eI (rI S1 a_5 (va_cpy (eI S1 a_4) (eI S1 a_5) (0 : Int32).toNatClampNeg (0 : Int32).toNatClampNeg (mI S1 1401 a_3).toNatClampNeg)) a_9) (nI i).toNatClampNeg (mI (rI S1 a_5 (va_cpy (eI S1 a_4) (eI S1 a_5) (0 : Int32).toNatClampNeg (0 : Int32).toNatClampNeg (mI S1 1401 a_3).toNatClampNeg)) 1401 a_8))) (kpC R i) (kpZ R i)))))))))))))))))))))
    obtain ⟨hM, hi, hO, hB, hBl⟩ := hp
    have r3 := hM 1 3 (by decide)
    have r4 := hM 1 4 (by decide)
    have ci : (nI i).toNatClampNeg = i := nI_clamp (by omega)
    have cb : (nI B.length).toNatClampNeg = B.length := nI_clamp (by omega)
    have o21 := hM 10 21 (Or.inl rfl)
    have no : ∀ {x o v}, F x = (o, v) → (o ≠ 100 ∨ v ≠ 103) → ¬ (x = z 3) := fun {x o v} e h1 q => by
      rw [q, r3.2.1] at e
      injection e with e1 e2
      omega
    have kt := hK.2.1 t (hM 0).1.1 (no (hM 0).2 (Or.inr (by decide)))
    have O1 : Ou S1 (z 21) (z (70 + 21)) B := hO.kp hK (no o21.2.1 (Or.inl (by decide))) (no o21.2.2.1 (Or.inl (by decide)))
    have eR3 : eR S1 (z 3) (nI i).toNatClampNeg = some q := by rw [ci, q6, if_pos rfl]
    have e01 : mI S1 1401 (z 21) = nI B.length := O1.2.2.2.2.1
    have t1 : isO S1 15 t := hK.isO (hM 0).1
    have o3 := hK.isO r3.2.2.1
    have m21 : mR S1 1521 t = some (z 21) := (kt.2.1 _).trans o21.1
    have m03 : mR S1 1503 t = some (z 3) := (kt.2.1 _).trans r3.1
    have m04 : mR S1 1504 t = some (z 4) := (kt.2.1 _).trans r4.1
    have o4 := hK.isO r4.2.2.1
    have n4 : mN S1 (z 4) = 8 := (hK.1 _ r4.2.2.1.1).2.2.trans r4.2.2.2
    have q4n : q ≠ z 4 := fun e => by
      have a1 := q1.2
      rw [e, o4.2] at a1
      exact absurd a1 (by decide)
    have q3n : q ≠ z 3 := fun e => by
      have a1 := q1.2
      rw [e, o3.2] at a1
      exact absurd a1 (by decide)
    have z43 : z 4 ≠ z 3 := fun e => by
      have a1 := o4.2
      rw [e, o3.2] at a1
      exact absurd a1 (by decide)
    refine ⟨t1, pa_i m21 ⟨O1.1, t1, pa_i m03 ⟨o3.1, by rw [o3.2]; decide, by rw [o3.2]; decide, inRn (N := 8) ((hK.1 _ r3.2.2.1.1).2.2.trans r3.2.2.2) hi (by decide), t1, pa_i m21 ⟨O1.1, rfl, pa_i O1.2.1 (pa_i eR3 ⟨16, ?_, Nat.le_refl _, Nat.le_refl _, t1, t1, pa_i m21 ⟨O1.1, pa_i m04 ⟨o4, inRn (N := 8) n4 hi (by decide), t1, pa_i m21 ⟨O1.1, ?_⟩⟩⟩⟩)⟩⟩⟩⟩
    · rw [e01]
      refine ⟨O1.2.2.1, q1, Or.inr (Or.inr ⟨rfl, fun j _ => O1.2.2.2.2.2.2.2.1 _⟩), by decide, by decide, nI_pos (by omega), ?_, ?_⟩
      · rw [cb, O1.2.2.2.1]
        show 0 + _ ≤ _
        omega
      · rw [cb, q2]
        show 0 + _ ≤ _
        omega
    · have e02 : mI (rI S1 q (va_cpy (eI S1 (z (70 + 21))) (eI S1 q) (Int32.toNatClampNeg 0) (Int32.toNatClampNeg 0) (mI S1 1401 (z 21)).toNatClampNeg)) 1401 (z 21) = nI B.length := e01
      rw [e02, e01, cb, ci, show Int32.toNatClampNeg 0 = 0 from rfl]
      generalize hS9 : rI (rI S1 q (va_cpy (eI S1 (z (70 + 21))) (eI S1 q) 0 0 B.length)) (z 4) (upd (eI (rI S1 q (va_cpy (eI S1 (z (70 + 21))) (eI S1 q) 0 0 B.length)) (z 4)) i (nI B.length)) = S9
      have e91 : mI S9 1401 (z 21) = nI B.length := by rw [← hS9]; exact e01
      have hq9 : eI S9 q = va_cpy (eI S1 (z (70 + 21))) (eI S1 q) 0 0 B.length := by
        rw [← hS9, eI_rI, if_neg q4n, eI_rI, if_pos rfl]
      have h49 : eI S9 (z 4) = upd (eI S1 (z 4)) i (nI B.length) := by
        rw [← hS9, eI_rI, if_pos rfl, eI_rI, if_neg (fun e => q4n e.symm)]
      have h39 : eR S9 (z 3) = eR S1 (z 3) := by rw [← hS9]; rfl
      have e41 : eI S1 (z 4) = eI S (z 4) := (hK.2.1 _ r4.2.2.1.1 z43).2.2.2.1
      have oq9 : isO S9 16 q := by rw [← hS9]; exact q1
      have nq9 : mN S9 q = 32768 := by rw [← hS9]; exact q2
      have hsome : R.Q.sl i ≠ [] ∨ q ∉ mL S := by
        by_cases c : R.Q.sl i = []
        · exact Or.inr (q5 c)
        · exact Or.inl c
      have K9 : Keep (fun c => c = z 3 ∨ c = z 4 ∨ (c = z (60 + i) ∧ R.Q.sl i ≠ [])) S S9 := by
        have k1 : Keep (fun c => c = q ∨ c = z 4) S1 S9 := by
          rw [← hS9]
          exact Keep.rI (P := fun c => c = q ∨ c = z 4) (Keep.rI (P := fun c => c = q ∨ c = z 4) Keep.rf (Or.inl rfl)) (Or.inr rfl)
        refine Keep.trN (hK.mono (fun b _ e => Or.inl e)) k1 (fun b hb e => ?_)
        rcases e with e | e
        · rcases hsome with c | c
          · exact Or.inr (Or.inr ⟨e.trans (q4 c), c⟩)
          · exact absurd (e ▸ hb) c
        · exact Or.inr (Or.inl e)
      have hz : ∀ k, k ≠ 60 + i → upF z (60 + i) q k = z k := fun k hk => upF_o hk
      have hzi : upF z (60 + i) q (60 + i) = q := upF_s
      have hM9 := hM.slt (z' := upF z (60 + i) q) hi hB hBl K9 hz hF (fun b hb => by rw [← hS9]; exact hFO b hb) (fun k => by rw [h39, q6, hzi]) (fun k => by rw [h49, upd, e41]) (by rw [hzi]; exact oq9) (by rw [hzi]; exact nq9) (by rw [hzi]; exact q3) (by
        rw [hzi]
        unfold byR
        rw [hq9]
        refine ⟨fun j => ?_, O1.2.2.2.2.2.2.1, fun j hj => ?_⟩
        · unfold va_cpy
          split
          · exact O1.2.2.2.2.2.2.2.1 _
          · exact q7 j
        · unfold va_cpy
          rw [if_pos ⟨Nat.zero_le _, by omega⟩, Nat.sub_zero, Nat.zero_add]
          exact O1.2.2.2.2.2.2.2.2 j hj (by omega))
      rw [e91]
      refine ⟨rfl, trivial, ⟨rfl, F1, _, Y, hM9, hF, K9.mono (fun b _ e => ?_), ?_⟩, Nat.le_refl _, Nat.le_refl _⟩
      · rcases e with e | e | e
        · rw [e, r3.2.1]; exact Nat.le_refl _
        · rw [e, r4.2.1]; exact Nat.le_refl _
        · obtain ⟨-, -, -, -, s5, -⟩ := (hM 4 i hi).resolve_left (fun w => e.2 w.1)
          rw [e.1, s5]; show 100 ≤ 120 + i; omega
      · rw [← hS9]; exact kt.1 _
theorem u_rkp (l : Launch) : Us l yX14_keep cX14_keep 2 (some .int) 1 32 15 T_rkp := by
  intro Rc Rs av S cs sl K Kx h
  unfold T_rkp at h
  split at h
  · rename_i t_o i_v
    obtain ⟨t, rfl, h_1⟩ := pa_of h
    obtain ⟨i, rfl, h_2⟩ := h_1
    obtain ⟨F, z, Y, R, kz, B, hp, hc, hs, hk⟩ := h_2
    refine ⟨(sp_rkp t i F z Y R kz B), c_rkp l t i F z Y R kz B, fun _ _ h9 => ⟨_, _, h9.1, (h9.2.1 0).1⟩, ⟨rfl, hp⟩, hc, hs, fun v9 S' h8 => by
      obtain ⟨h7, h8⟩ := h8
      cases h7
      exact hk _ h8, fun _ _ q => q.elim⟩
  · exact h.elim
