/-! ===== PatchWriter.sizeOf; packing in the writer ===== -/
def vwN (n : Nat) : Nat := if 128 ≤ n then (if 16384 ≤ n then 3 else 2) else 1
def szN (vs : List Int32) : Nat := if vs.length ≤ 32768 then vs.length + vwN vs.length else 32768
theorem vW_nI {n : Nat} (h : n ≤ 32768) : vW (nI n) = nI (vwN n) := by
  unfold vW vwN
  have c1 : (128 : Int32) ≤ nI n ↔ 128 ≤ n := nI_leI (a := 128) (b := n) (by decide) (by omega)
  have c2 : (16384 : Int32) ≤ nI n ↔ 16384 ≤ n := nI_leI (a := 16384) (b := n) (by decide) (by omega)
  have c3 : (2097152 : Int32) ≤ nI n ↔ 2097152 ≤ n := nI_leI (a := 2097152) (b := n) (by decide) (by omega)
  by_cases q1 : 128 ≤ n
  · rw [if_pos (c1.2 q1), if_pos q1]
    by_cases q2 : 16384 ≤ n
    · rw [if_pos (c2.2 q2), if_pos q2, if_neg (fun z => by have := c3.1 z; omega)]; rfl
    · rw [if_neg (fun z => q2 (c2.1 z)), if_neg q2]; rfl
  · rw [if_neg (fun z => q1 (c1.1 z)), if_neg q1]; rfl
def T_wso : TR := fun Rc Rs av S cs sl K _Kx => match av with
  | [.inr (.inr b_o)] => pa b_o fun b => (∃ (F : Nat → Nat × Nat) (j k8 d : Nat) (vs : List Int32) (cap : Nat), (Col S F j k8 b d vs cap) ∧ cs ≤ Rc ∧ sl ≤ Rs ∧ (K (some (.inl (nI (szN vs)))) S cs sl))
  | _ => False
def sp_wso (b : Nat) (F : Nat → Nat × Nat) (j k8 d : Nat) (vs : List Int32) (cap : Nat) : Sp := (fun av S => av = [.inr (.inr (some b))] ∧ (Col S F j k8 b d vs cap), fun _ S => 0, fun _ S => 0, fun _ S rv S' => rv = (some (.inl (nI (szN vs)))) ∧ S' = S, fun _ _ _ _ => False)
def tX9_sizeOf : CD := [(0, .aload_n 0), (1, .getfield 125), (4, .ifCond .eq 8), (7, .ldc 115), (9, .goto 15), (12, .aload_n 0), (13, .getfield 129), (16, .aload_n 0), (17, .getfield 129), (20, .invokestatic 130), (23, .iadd), (24, .ireturn)]
set_option maxRecDepth 100000 in
theorem kX9_sizeOf : chk cX9_sizeOf tX9_sizeOf = true := by decide +kernel
theorem vX9_sizeOf_130 : ∀ w ∈ ([.methodLink RX9 130 yX1_varintWidth, .static yX1_varintWidth, .initialized yX1_varintWidth.cls, .code yX1_varintWidth cX1_varintWidth 1 (some .int)] : List Cond), w ∈ lw_good := List.forall_mem_cons.mpr ⟨mgd 1445 (by decide +kernel) (by decide +kernel), List.forall_mem_cons.mpr ⟨mgd 1446 (by decide +kernel) (by decide +kernel), List.forall_mem_cons.mpr ⟨mgd 122 (by decide +kernel) (by decide +kernel), List.forall_mem_cons.mpr ⟨mgd 1447 (by decide +kernel) (by decide +kernel), fun _ h => absurd h List.not_mem_nil⟩⟩⟩⟩
set_option maxRecDepth 100000 in
set_option maxHeartbeats 2000000 in
theorem c_wso (l : Launch) : ∀ (b : Nat) (F : Nat → Nat × Nat) (j k8 d : Nat) (vs : List Int32) (cap : Nat), Ct l yX9_sizeOf cX9_sizeOf 1 (some .int) 1 20 (sp_wso b F j k8 d vs cap) := by
  intro b F j k8 d vs cap
  refine Ct.of (fX9, nX9, aX9, iX9, lX9, [(130, 2, 1, 1, T_vw)], qX9, gX9, []) false tX9_sizeOf (fun _ _ _ => none) (by decide) (by decide) kX9_sizeOf ⟨_, _, rfl⟩ fX9_ok nX9_ok aX9_ok iX9_ok lX9_ok (fun p e R s m args below meth c Q D cy z r A C hR1 hR2 => List.forall_mem_cons.mpr ⟨cOK_use (fun _ _ _ _ _ _ _ _ h => let ⟨sp, h1, _, h3⟩ := u_vw l _ _ _ _ _ _ _ _ h; ⟨sp, cOK_S C h1 vX9_sizeOf_130 ⟨by decide, by decide, by decide +kernel⟩ ⟨by rw [hR1]; decide, by rw [hR2]; decide⟩, h3⟩), fun _ h => absurd h List.not_mem_nil⟩) qX9_ok gX9_ok rfl ?_ ?_
  · rintro _ S ⟨rfl, hp⟩
    refine ⟨Nat.le_of_ble_eq_true rfl, 300, ?_⟩
    show (isO S 2 b ∧ (((mI S 202 b) = 0 → (isO S 2 b ∧ (isO S 2 b ∧ (2 = 2 ∧ (True ∧ 0 ≤ 0 ∧ 0 ≤ 0 ∧ ((([] : List MV) = [] ∧ mret (some .int) (sp_wso b F j k8 d vs cap) [.inr (.inr (some b))] S (some (.inl ((mI S 201 b) + (vW (mI S 201 b))))) S 0 0))))))) ∧ (¬ (mI S 202 b) = 0 → (([] : List MV) = [] ∧ mret (some .int) (sp_wso b F j k8 d vs cap) [.inr (.inr (some b))] S (some (.inl (32768 : Int32))) S 0 0))))
    obtain ⟨hB, h1, h2, h3, h4⟩ := hp
    have hl : (bPuts [] vs).length = lenN vs.length 0 := bPuts_len (by decide)
    refine ⟨hB.1, fun z => ⟨hB.1, hB.1, rfl, trivial, Nat.le_refl _, Nat.le_refl _, rfl, trivial, ⟨?_, rfl⟩, Nat.le_refl _, Nat.le_refl _⟩, fun z => ⟨rfl, trivial, ⟨?_, rfl⟩, Nat.le_refl _, Nat.le_refl _⟩⟩
    · have hle : vs.length ≤ 32768 := by
        by_cases q : vs.length ≤ 32768
        · exact q
        · rw [h3, if_neg q] at z; exact absurd z (by decide)
      have e1 : lenN vs.length 0 = vs.length := by unfold lenN; omega
      rw [hB.2.2.2.1, hl, e1, vW_nI hle, nI_add, szN, if_pos hle]
    · have hle : ¬ vs.length ≤ 32768 := fun q => z (by rw [h3, if_pos q])
      rw [szN, if_neg hle]; rfl
  · exact fun _ _ _ _ _ h => by cases h
theorem u_wso (l : Launch) : Us l yX9_sizeOf cX9_sizeOf 1 (some .int) 1 20 99 T_wso := by
  intro Rc Rs av S cs sl K Kx h
  unfold T_wso at h
  split at h
  · rename_i b_o
    obtain ⟨b, rfl, h_1⟩ := pa_of h
    obtain ⟨F, j, k8, d, vs, cap, hp, hc, hs, hk⟩ := h_1
    refine ⟨(sp_wso b F j k8 d vs cap), c_wso l b F j k8 d vs cap, fun _ _ _ => trivial, ⟨rfl, hp⟩, hc, hs, fun v9 S' h8 => by
      obtain ⟨h7, h8⟩ := h8
      cases h7
      subst h8
      exact hk, fun _ _ q => q.elim⟩
  · exact h.elim
theorem pw_pack {S S' : MM} {F : Nat → Nat × Nat} {j w pk pl me : Nat} {a d : Nat → Nat} {V : Nat → List Int32} {cap : Nat → Nat} {M : List Nat} {R : List Nat} (h : PW S F j w pk pl me a d V cap M) (hp : pkP S S' pk (a 4) (a 5) (d 4) (a 6) (a 7) R) : ∃ F' d' o', PW S' F' j w pk pl me (updN a 7 o') d' (updI V 4 (packV R)) (updN cap 4 (capN (V 4).length (cap 4) 0)) M ∧ (∀ b, b ∈ mL S → F' b = F b) ∧ Keep (fun b => (F b).1 = j) S S' ∧ mN S' o' = odN (mN S (a 7)) R.length := by
  obtain ⟨f1, f2, f3, f4, hM, h1, h2, h3, h4, hW, hF, hj, hK, hn, ho⟩ := h
  obtain ⟨e', o', ⟨a1, a2, a3, a4, a5⟩, b1, b2, b3⟩ := hp
  obtain ⟨c1, c2, c3, c4, c5⟩ := hW 4 (by decide)
  have hmem : ∀ b, b ∈ mL (clr S (a 4)) ↔ b ∈ mL S := fun b => Iff.rfl
  have hk : Keep (pkW pk (a 4) (d 4) (a 6) (a 7)) S S' := (Keep.sI (P := pkW pk (a 4) (d 4) (a 6) (a 7)) (Keep.sI (P := pkW pk (a 4) (d 4) (a 6) (a 7)) Keep.rf (Or.inr (Or.inl rfl))) (Or.inr (Or.inl rfl))).tr a2
  have eo : e' ≠ o' := isO_ne a1.2.2.1 b1.2.2.2.2.2.2.1 (by decide)
  have hf : ∀ b, b ∈ mL S → (if b = e' then (j, 49) else if b = o' then (j, 6) else F b) = F b := fun b hb => by
    by_cases q : b = e'
    · rw [if_pos q]
      rcases a3 with u | u
      · rw [q, u, c3]
      · exact absurd (q ▸ hb) u
    · rw [if_neg q]
      by_cases q2 : b = o'
      · rw [if_pos q2]
        rcases b2 with u | u
        · rw [q2, u, ho]
        · exact absurd (q2 ▸ hb) u
      · rw [if_neg q2]
  have fe : (if e' = e' then (j, 49) else if e' = o' then (j, 6) else F e') = (j, 49) := if_pos rfl
  have fo : (if o' = e' then (j, 49) else if o' = o' then (j, 6) else F o') = (j, 6) := by rw [if_neg (Ne.symm eo), if_pos rfl]
  have nP : ∀ {b r : Nat}, F b = (j, r) → r ≠ 4 → r ≠ 48 → r ≠ 49 → r ≠ 5 → r ≠ 6 → ¬ pkW pk (a 4) (d 4) (a 6) (a 7) b := fun hb r1 r2 r3 r4 r5 z => by
    rcases z with z | z | z | z | z
    · exact f_ne hb f4 r1 z
    · exact f_ne hb c2 r2 z
    · exact f_ne hb c3 r3 z
    · exact f_ne hb hn r4 z
    · exact f_ne hb ho r5 z
  have kw := hk.2.1 w hM.1.1 (nP f1 (by decide) (by decide) (by decide) (by decide) (by decide))
  refine ⟨fun b => if b = e' then (j, 49) else if b = o' then (j, 6) else F b, updN d 4 e', o', ⟨(hf w hM.1.1).trans f1, (hf pl hM.2.2.1.1).trans f2, (hf me hM.2.2.2.2.2.1.1).trans f3, (hf pk h3.1).trans f4, hM.keep hk (nP f1 (by decide) (by decide) (by decide) (by decide) (by decide)) (nP f2 (by decide) (by decide) (by decide) (by decide) (by decide)) (nP f3 (by decide) (by decide) (by decide) (by decide) (by decide)), fun k hk9 => ?_, (kw.2.1 _).trans h2, hk.isO h3, b1.2.1, fun k hk9 => ?_, fun b hb => ?_, hj, b1, (hf (a 6) hK.2.2.2.1.1).trans hn, fo⟩, hf, hk.mono (fun b _ z => ?_), b3⟩
  · rw [updN_o (show k ≠ 7 by omega)]
    exact (kw.2.1 _).trans (h1 k hk9)
  · rw [updN_o (show k ≠ 7 by omega)]
    by_cases q : k = 4
    · subst q
      rw [updN_s, updI_s, updN_s]
      refine ⟨a1, (hf (a 4) c1.1.1).trans c2, fe, ?_, ?_⟩
      · rw [a4]
        have z0 : mI (clr S (a 4)) 202 (a 4) = 0 := by
          show mI (sI (sI S 201 (a 4) 0) 202 (a 4) 0) 202 (a 4) = 0
          rw [mI_sI, if_pos ⟨rfl, rfl⟩]
        rw [z0, List.length_nil, Nat.zero_add]
      · rw [a5, ← c5]; rfl
    · rw [updN_o q, updI_o q, updN_o q]
      exact (hW k hk9).keep hk (nP (hW k hk9).2.1 (by omega) (by omega) (by omega) (by omega) (by omega)) (nP (hW k hk9).2.2.1 (by omega) (by omega) (by omega) (by omega) (by omega)) hf
  · by_cases q : b = e'
    · rw [q]; exact a1.2.2.1.1
    · by_cases q2 : b = o'
      · rw [q2]; exact b1.2.2.2.2.2.2.1.1
      · have hb : (if b = e' then (j, 49) else if b = o' then (j, 6) else F b) ≠ (0, 0) := hb
        rw [if_neg q, if_neg q2] at hb
        exact (hk.1 b (hF b hb)).1
  · rcases z with z | z | z | z | z
    · rw [z, f4]
    · rw [z, c2]
    · rw [z, c3]
    · rw [z, hn]
    · rw [z, ho]
