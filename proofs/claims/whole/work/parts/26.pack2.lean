/-! ===== Packer.addPlain, pack ===== -/
def plnV (R : List Nat) (i j : Nat) : List Int32 := if i < j then vbs 4 (nI (2 * (j - i))) ++ rngV R i (j - i) else []
def T_ppln : TR := fun Rc Rs av S cs sl K _Kx => match av with
  | [.inr (.inr k_o), .inr (.inr o_o), .inl i_v, .inl j_v] => pa k_o fun k => (pa o_o fun o => (∃ (i : Nat), i_v = nI i ∧ (∃ (j : Nat), j_v = nI j ∧ (∃ (r d e : Nat) (R O : List Nat), (isO S 8 k ∧ mR S 800 k = some r ∧ By S r d R ∧ By S o e O ∧ r ≠ o ∧ d ≠ e ∧ i ≤ 32768 ∧ j ≤ 32768) ∧ cs + (addNC (plnV R i j).length (mN S e) O.length) ≤ Rc ∧ sl + (addNS (plnV R i j).length (mN S e) O.length) ≤ Rs ∧ (∀ (S' : MM), (∃ e', App S S' o e e' O (plnV R i j)) → K none S' (cs + (addNC (plnV R i j).length (mN S e) O.length)) (sl + (addNS (plnV R i j).length (mN S e) O.length)))))))
  | _ => False
def sp_ppln (k : Nat) (o : Nat) (i : Nat) (j : Nat) (r d e : Nat) (R O : List Nat) : Sp := (fun av S => av = [.inr (.inr (some k)), .inr (.inr (some o)), .inl (nI i), .inl (nI j)] ∧ (isO S 8 k ∧ mR S 800 k = some r ∧ By S r d R ∧ By S o e O ∧ r ≠ o ∧ d ≠ e ∧ i ≤ 32768 ∧ j ≤ 32768), fun _ S => addNC (plnV R i j).length (mN S e) O.length, fun _ S => addNS (plnV R i j).length (mN S e) O.length, fun _ S rv S' => rv = none ∧ (∃ e', App S S' o e e' O (plnV R i j)), fun _ _ _ _ => False)
def tX7_addPlain : CD := [(0, .iload_n 3), (1, .iload_n 2), (2, .if_icmp .le 22), (5, .aload_n 1), (6, .iconst 2), (7, .iload_n 3), (8, .iload_n 2), (9, .isub), (10, .imul), (11, .invokevirtual 38), (14, .aload_n 1), (15, .aload_n 0), (16, .getfield 12), (19, .iload_n 2), (20, .iload_n 3), (21, .invokevirtual 68), (24, .return_)]
set_option maxRecDepth 100000 in
theorem kX7_addPlain : chk cX7_addPlain tX7_addPlain = true := by decide +kernel
theorem vX7_addPlain_38 : ∀ w ∈ ([.methodLink RX7 38 yX1_addVarint, .instanceMethod yX1_addVarint, .selects yX1_addVarint.cls yX1_addVarint yX1_addVarint, .initialized yX1_addVarint.cls, .code yX1_addVarint cX1_addVarint 4 none] : List Cond), w ∈ lw_good := List.forall_mem_cons.mpr ⟨mgd 1410 (by decide +kernel) (by decide +kernel), List.forall_mem_cons.mpr ⟨mgd 1341 (by decide +kernel) (by decide +kernel), List.forall_mem_cons.mpr ⟨mgd 1342 (by decide +kernel) (by decide +kernel), List.forall_mem_cons.mpr ⟨mgd 122 (by decide +kernel) (by decide +kernel), List.forall_mem_cons.mpr ⟨mgd 1343 (by decide +kernel) (by decide +kernel), fun _ h => absurd h List.not_mem_nil⟩⟩⟩⟩⟩
theorem vX7_addPlain_68 : ∀ w ∈ ([.methodLink RX7 68 yX1_addRange, .instanceMethod yX1_addRange, .selects yX1_addRange.cls yX1_addRange yX1_addRange, .initialized yX1_addRange.cls, .code yX1_addRange cX1_addRange 5 none] : List Cond), w ∈ lw_good := List.forall_mem_cons.mpr ⟨mgd 1432 (by decide +kernel) (by decide +kernel), List.forall_mem_cons.mpr ⟨mgd 1433 (by decide +kernel) (by decide +kernel), List.forall_mem_cons.mpr ⟨mgd 1434 (by decide +kernel) (by decide +kernel), List.forall_mem_cons.mpr ⟨mgd 122 (by decide +kernel) (by decide +kernel), List.forall_mem_cons.mpr ⟨mgd 1435 (by decide +kernel) (by decide +kernel), fun _ h => absurd h List.not_mem_nil⟩⟩⟩⟩⟩
set_option maxRecDepth 100000 in
set_option maxHeartbeats 2000000 in
theorem c_ppln (l : Launch) : ∀ (k : Nat) (o : Nat) (i : Nat) (j : Nat) (r d e : Nat) (R O : List Nat), Ct l yX7_addPlain cX7_addPlain 4 none 4 99 (sp_ppln k o i j r d e R O) := by
  intro k o i j r d e R O
  refine Ct.of (fX7, nX7, aX7, iX7, lX7, [(38, 0, 2, 0, T_bvar), (68, 0, 4, 0, T_brng)], qX7, gX7, []) false tX7_addPlain (fun _ _ _ => none) (by decide) (by decide) kX7_addPlain ⟨_, _, rfl⟩ fX7_ok nX7_ok aX7_ok iX7_ok lX7_ok (fun p e R s m args below meth c Q D cy z r A C hR1 hR2 => List.forall_mem_cons.mpr ⟨cOK_use (fun _ _ _ _ _ _ _ _ h => let ⟨sp, h1, h2, h3⟩ := u_bvar l _ _ _ _ _ _ _ _ h; ⟨sp, cOK_V C h1 vX7_addPlain_38 ⟨by decide, by decide, by decide +kernel⟩ ⟨by rw [hR1]; decide, by rw [hR2]; decide⟩ (k := 2) (T := TX1) (N := 3) rfl (by decide) h2, h3⟩), List.forall_mem_cons.mpr ⟨cOK_use (fun _ _ _ _ _ _ _ _ h => let ⟨sp, h1, h2, h3⟩ := u_brng l _ _ _ _ _ _ _ _ h; ⟨sp, cOK_V C h1 vX7_addPlain_68 ⟨by decide, by decide, by decide +kernel⟩ ⟨by rw [hR1]; decide, by rw [hR2]; decide⟩ (k := 2) (T := TX1) (N := 3) rfl (by decide) h2, h3⟩), fun _ h => absurd h List.not_mem_nil⟩⟩) qX7_ok gX7_ok rfl ?_ ?_
  · rintro _ S ⟨rfl, hp⟩
    refine ⟨Nat.le_of_ble_eq_true rfl, 300, ?_⟩
    show (((nI j) ≤ (nI i) → (([] : List MV) = [] ∧ mret none (sp_ppln k o i j r d e R O) [.inr (.inr (some k)), .inr (.inr (some o)), .inl (nI i), .inl (nI j)] S none S 0 0)) ∧ (¬ (nI j) ≤ (nI i) → (0 = 0 ∧ (∃ (d_1 : Nat) (B_2 : List Nat), (By S o d_1 B_2) ∧ 0 + (addNC (vbs 4 ((2 : Int32) * ((nI j) - (nI i)))).length (mN S d_1) B_2.length) ≤ addNC (plnV R i j).length (mN S e) O.length ∧ 0 + (addNS (vbs 4 ((2 : Int32) * ((nI j) - (nI i)))).length (mN S d_1) B_2.length) ≤ addNS (plnV R i j).length (mN S e) O.length ∧ (∀ (S_3 : MM), (∃ d', App S S_3 o d_1 d' B_2 (vbs 4 ((2 : Int32) * ((nI j) - (nI i))))) → (isO S_3 8 k ∧ (0 = 0 ∧ ((pa (mR S_3 800 k) fun a_4 => (∃ (d_5 df_6 : Nat) (B_7 F_8 : List Nat) (i_9 j_10 : Nat), (By S_3 o d_5 B_7 ∧ By S_3 a_4 df_6 F_8 ∧ a_4 ≠ o ∧ df_6 ≠ d_5 ∧ (nI i) = nI i_9 ∧ (nI j) = nI j_10 ∧ i_9 ≤ 32768 ∧ j_10 ≤ 32768) ∧ 0 + (addNC (vbs 4 ((2 : Int32) * ((nI j) - (nI i)))).length (mN S d_1) B_2.length) + (addNC (rngV F_8 i_9 (j_10 - i_9)).length (mN S_3 d_5) B_7.length) ≤ addNC (plnV R i j).length (mN S e) O.length ∧ 0 + (addNS (vbs 4 ((2 : Int32) * ((nI j) - (nI i)))).length (mN S d_1) B_2.length) + (addNS (rngV F_8 i_9 (j_10 - i_9)).length (mN S_3 d_5) B_7.length) ≤ addNS (plnV R i j).length (mN S e) O.length ∧ (∀ (S_11 : MM), (∃ d', App S_3 S_11 o d_5 d' B_7 (rngV F_8 i_9 (j_10 - i_9))) → (([] : List MV) = [] ∧ mret none (sp_ppln k o i j r d e R O) [.inr (.inr (some k)), .inr (.inr (some o)), .inl (nI i), .inl (nI j)] S none S_11 (0 + (addNC (vbs 4 ((2 : Int32) * ((nI j) - (nI i)))).length (mN S d_1) B_2.length) + (addNC (rngV F_8 i_9 (j_10 - i_9)).length (mN S_3 d_5) B_7.length)) (0 + (addNS (vbs 4 ((2 : Int32) * ((nI j) - (nI i)))).length (mN S d_1) B_2.length) + (addNS (rngV F_8 i_9 (j_10 - i_9)).length (mN S_3 d_5) B_7.length))))))))))))))
    obtain ⟨h1, h2, hR, hO, hro, hde, hi, hj⟩ := hp
    have hl := hO.len
    refine if_le (by omega) (by omega) (fun h3 => ⟨rfl, trivial, ⟨rfl, e, ?_⟩, Nat.zero_le _, Nat.zero_le _⟩) (fun h3 => ?_)
    · rw [plnV, if_neg (by omega)]; exact App.nil hO
    · have ev : plnV R i j = vbs 4 (nI (2 * (j - i))) ++ rngV R i (j - i) := by rw [plnV, if_pos h3]
      have e2 : (2 : Int32) * (nI j - nI i) = nI (2 * (j - i)) := by rw [pk_sub (by omega)]; exact pk_mul 2 _
      rw [ev, e2]
      have hle : (vbs 4 (nI (2 * (j - i)))).length ≤ (vbs 4 (nI (2 * (j - i))) ++ rngV R i (j - i)).length := by rw [List.length_append]; exact Nat.le_add_right _ _
      refine ⟨rfl, e, O, hO, by rw [Nat.zero_add]; exact addNC_mono _ _ hle, by rw [Nat.zero_add]; exact addNS_mono _ _ hle, fun S1 hA => ?_⟩
      obtain ⟨e1, A⟩ := hA
      have hk : ¬ (k = o ∨ k = e) := fun z => z.elim (isO_ne h1 hO.1 (by decide)) (isO_ne h1 hO.2.2.1 (by decide))
      have h2' : mR S1 800 k = some r := by rw [(A.2.1.2.1 k h1.1 hk).2.1]; exact h2
      have hR1 : By S1 r d R := hR.keep A.2.1 (fun z => z.elim hro (isO_ne hR.1 hO.2.2.1 (by decide))) (fun z => z.elim (isO_ne hR.2.2.1 hO.1 (by decide)) hde)
      have hd1 : d ≠ e1 := fun q => A.2.2.1.elim (fun e2 => hde (q.trans e2)) (fun hn => hn (q ▸ hR.2.2.1.1))
      rw [h2']
      have hc := A.costN hl (rngV R i (j - i)).length
      rw [← List.length_append] at hc
      refine ⟨A.2.1.isO h1, rfl, e1, d, _, R, i, j, ⟨A.1, hR1, hro, hd1, rfl, rfl, hi, hj⟩, ?_, ?_, fun S2 hA2 => ⟨rfl, ?_⟩⟩
      · rw [Nat.zero_add, hc.1]; exact Nat.le_refl _
      · rw [Nat.zero_add, hc.2]; exact Nat.le_refl _
      · obtain ⟨e2, A2⟩ := hA2
        refine ⟨trivial, ⟨rfl, e2, ?_⟩, ?_, ?_⟩
        · rw [ev]; exact A.app hl A2
        · show _ ≤ addNC (plnV R i j).length _ _
          rw [ev, Nat.zero_add, hc.1]; exact Nat.le_refl _
        · show _ ≤ addNS (plnV R i j).length _ _
          rw [ev, Nat.zero_add, hc.2]; exact Nat.le_refl _
  · exact fun _ _ _ _ _ h => by cases h
theorem u_ppln (l : Launch) : Us l yX7_addPlain cX7_addPlain 4 none 4 99 8 T_ppln := by
  intro Rc Rs av S cs sl K Kx h
  unfold T_ppln at h
  split at h
  · rename_i k_o o_o i_v j_v
    obtain ⟨k, rfl, h_1⟩ := pa_of h
    obtain ⟨o, rfl, h_2⟩ := pa_of h_1
    obtain ⟨i, rfl, h_3⟩ := h_2
    obtain ⟨j, rfl, h_4⟩ := h_3
    obtain ⟨r, d, e, R, O, hp, hc, hs, hk⟩ := h_4
    refine ⟨(sp_ppln k o i j r d e R O), c_ppln l k o i j r d e R O, fun _ _ h9 => ⟨_, _, h9.1, h9.2.1⟩, ⟨rfl, hp⟩, hc, hs, fun S' h8 => by
      obtain ⟨-, h8⟩ := h8
      exact hk _ h8, fun _ _ q => q.elim⟩
  · exact h.elim
/-- bytes come to a while other cells (of P) change too -/
def Apk (P : Nat → Prop) (S S' : MM) (a d d' : Nat) (B : List Nat) (vs : List Int32) : Prop := By S' a d' (bPuts B vs) ∧ Keep P S S' ∧ (d' = d ∨ d' ∉ mL S) ∧ mI S' 202 a = (if B.length + vs.length ≤ 32768 then mI S 202 a else 1) ∧ mN S' d' = capN vs.length (mN S d) B.length
theorem Apk.app {P : Nat → Prop} {S S1 S2 : MM} {a d d1 d2 : Nat} {B : List Nat} {vs ws : List Int32} (hB : B.length ≤ 32768) (ha : P a) (hd : P d) (h1 : Apk P S S1 a d d1 B vs) (h2 : App S1 S2 a d1 d2 (bPuts B vs) ws) : Apk P S S2 a d d2 B (vs ++ ws) := by
  obtain ⟨a1, a2, a3, a4, a5⟩ := h1
  obtain ⟨b1, b2, b3, b4, b5⟩ := h2
  have hl := bPuts_len (vs := vs) hB
  refine ⟨by rw [bPuts_app]; exact b1, a2.trN b2 (fun b hb hq => hq.elim (fun e => e ▸ ha) (fun e => a3.elim (fun e2 => (e.trans e2) ▸ hd) (fun hn => absurd (e ▸ hb) hn))), ?_, ?_, by rw [b5, a5, hl, List.length_append, capN_add]⟩
  · rcases b3 with b3 | b3
    · rw [b3]; exact a3
    · exact Or.inr (fun h => b3 (a2.1 _ h).1)
  · rw [b4, a4, hl, List.length_append]
    unfold lenN
    by_cases q1 : B.length + vs.length ≤ 32768
    · rw [if_pos q1]
      by_cases q2 : B.length + (vs.length + ws.length) ≤ 32768
      · rw [if_pos q2, if_pos (by omega)]
      · rw [if_neg q2, if_neg (by omega)]
    · rw [if_neg q1, if_neg (show ¬ B.length + (vs.length + ws.length) ≤ 32768 by omega)]
      split <;> rfl
theorem Apk.step {P Q : Nat → Prop} {S S1 S2 : MM} {a d d1 : Nat} {B : List Nat} {vs : List Int32} (h1 : Apk P S S1 a d d1 B vs) (h2 : Keep Q S1 S2) (ha : ¬ Q a) (hd : ¬ Q d1) (hQ : ∀ b, b ∈ mL S → Q b → P b) : Apk P S S2 a d d1 B vs := by
  obtain ⟨a1, a2, a3, a4, a5⟩ := h1
  refine ⟨a1.keep h2 ha hd, a2.trN h2 hQ, a3, ?_, ?_⟩
  · rw [(h2.2.1 a a1.1.1 ha).1]; exact a4
  · rw [(h2.1 d1 a1.2.2.1.1).2.2]; exact a5
theorem Apk.costN {P : Nat → Prop} {S S1 : MM} {a d d1 : Nat} {B : List Nat} {vs : List Int32} (hB : B.length ≤ 32768) (h1 : Apk P S S1 a d d1 B vs) (m : Nat) : addNC vs.length (mN S d) B.length + addNC m (mN S1 d1) (bPuts B vs).length = addNC (vs.length + m) (mN S d) B.length ∧ addNS vs.length (mN S d) B.length + addNS m (mN S1 d1) (bPuts B vs).length = addNS (vs.length + m) (mN S d) B.length := by
  obtain ⟨a1, -, -, -, a5⟩ := h1
  rw [bPuts_len hB, a5]
  exact ⟨(addNC_add _ _ _ m).symm, (addNS_add _ _ _ m).symm⟩
def pkGo (R : List Nat) : Nat → Nat → Nat → List Int32
  | 0, i, p => plnV R i p
  | t + 1, i, p => if p < R.length then (if 4 ≤ (best R p).1 then (plnV R i p ++ vbs 4 (nI (2 * (best R p).1 + 1)) ++ vbs 4 (nI (best R p).2)) ++ pkGo R t (p + (best R p).1) (p + (best R p).1) else pkGo R t i (p + 1)) else plnV R i p
/-- the packed bytes of R -/
def packV (R : List Nat) : List Int32 := vbs 4 (nI R.length) ++ pkGo R R.length 0 0
theorem best_le (R : List Nat) (p : Nat) : (best R p).1 ≤ min 64 (R.length - p) := by
  obtain ⟨c1, c2⟩ := bst_ch R p (min 64 (R.length - p)) (min p 4095)
  by_cases z : (best R p).1 = 0
  · omega
  · obtain ⟨-, -, a3, -⟩ := c2 z
    have := mlen_le R p (best R p).2 (min 64 (R.length - p))
    rw [best] at this ⊢
    rw [a3] at this
    exact this
theorem Ix.rem {S : MM} {R : List Nat} {nw od p : Nat} (h : Ix S R nw od (min p (R.length - 3))) (hne : nw ≠ od) : Ix (remS S R nw od p) R nw od (min (p + 1) (R.length - 3)) := by
  unfold remS
  split
  · rename_i h4
    have e1 : min p (R.length - 3) = p := by omega
    have e2 : min (p + 1) (R.length - 3) = p + 1 := by omega
    rw [e1] at h
    rw [e2]
    refine ⟨fun c hc => ?_, fun q hq => ?_⟩
    · rw [eI_rI, if_pos rfl, lastP]
      by_cases z : c = hsh R p
      · rw [z, pk_us, if_pos rfl]
      · rw [pk_un z, if_neg (fun e => z e.symm)]; exact h.1 c hc
    · rw [eI_rI, if_neg (fun e => hne e.symm), eI_rI, if_pos rfl]
      by_cases z : q = p
      · rw [z, pk_us]; exact h.1 _ (hsh_lt R p)
      · rw [pk_un z]; exact h.2 q (by omega)
  · rename_i h4
    have e1 : min p (R.length - 3) = min (p + 1) (R.length - 3) := by omega
    rw [← e1]; exact h
theorem remS_keep (S : MM) (R : List Nat) (nw od p : Nat) : Keep (fun b => b = nw ∨ b = od) S (remS S R nw od p) := by
  unfold remS
  split
  · exact (Keep.rf.rI (Or.inr rfl)).rI (Or.inl rfl)
  · exact Keep.rf
theorem Pk.keep {P : Nat → Prop} {S S' : MM} {k r nw od : Nat} (h : Pk S k r nw od) (hk : Keep P S S') (h1 : ¬ P k) : Pk S' k r nw od := by
  obtain ⟨a1, a2, a3, a4, a5, a6, a7, a8, a9, a10⟩ := h
  obtain ⟨-, k2, -⟩ := hk.2.1 k a1.1 h1
  exact ⟨hk.isO a1, by rw [k2]; exact a2, by rw [k2]; exact a3, hk.isO a4, by rw [(hk.1 nw a4.1).2.2]; exact a5, by rw [k2]; exact a6, hk.isO a7, a8, by rw [(hk.1 od a7.1).2.2]; exact a9, by rw [(hk.1 od a7.1).2.2]; exact a10⟩
theorem Ix.keep {P : Nat → Prop} {S S' : MM} {R : List Nat} {nw od n : Nat} (h : Ix S R nw od n) (hk : Keep P S S') (h1 : nw ∈ mL S) (h2 : od ∈ mL S) (g1 : ¬ P nw) (g2 : ¬ P od) : Ix S' R nw od n := by
  obtain ⟨-, -, -, k1, -⟩ := hk.2.1 nw h1 g1
  obtain ⟨-, -, -, k2, -⟩ := hk.2.1 od h2 g2
  exact ⟨fun c hc => by rw [k1]; exact h.1 c hc, fun q hq => by rw [k2]; exact h.2 q hq⟩
/-- the row of older places behind a packing -/
def odN (n l : Nat) : Nat := if n < l then max l (min 32768 (2 * n)) else n
def odC (n l : Nat) : Nat := if n < l then 1 else 0
def odS (n l : Nat) : Nat := if n < l then max l (min 32768 (2 * n)) else 0
/-- the cells that a packing writes -/
def pkW (k o e nw od : Nat) : Nat → Prop := fun b => b = k ∨ b = o ∨ b = e ∨ b = nw ∨ b = od
def pkP (S S' : MM) (k o r e nw od : Nat) (R : List Nat) : Prop := ∃ e' od', Apk (pkW k o e nw od) (clr S o) S' o e e' [] (packV R) ∧ Pk S' k r nw od' ∧ (od' = od ∨ od' ∉ mL S) ∧ mN S' od' = odN (mN S od) R.length
/-- inside: od1 is the row now -/
def pkI (S S1 : MM) (k o r d e nw od od1 : Nat) (R : List Nat) : Prop := Pk S1 k r nw od1 ∧ By S1 r d R ∧ R.length ≤ mN S1 od1 ∧ (od1 = od ∨ od1 ∉ mL S) ∧ mN S1 od1 = odN (mN S od) R.length ∧ od1 ≠ o
def I_pk0 (k o r d e nw od : Nat) (R : List Nat) (S : MM) (t : Nat) : KT := fun lo st S1 cs sl => ∃ e1 od1, t = 1000000000 ∧ lo = [(0, .inr (.inr (some k))), (1, .inr (.inr (some o)))] ∧ st = [] ∧ Apk (pkW k o e nw od) (clr S o) S1 o e e1 [] (vbs 4 (nI R.length)) ∧ pkI S S1 k o r d e nw od od1 R ∧ Ix S1 R nw od1 0 ∧ cs = addNC (vbs 4 (nI R.length)).length (mN S e) 0 + odC (mN S od) R.length ∧ sl = addNS (vbs 4 (nI R.length)).length (mN S e) 0 + odS (mN S od) R.length
def I_pk1 (k o r d e nw od : Nat) (R : List Nat) (S : MM) (t : Nat) : KT := fun lo st S1 cs sl => ∃ e1 od1 i p f vs, t = (R.length - p) * 100 + 99 ∧ i ≤ p ∧ p ≤ R.length ∧ R.length ≤ p + f ∧ lo = [(2, .inl (nI i)), (3, .inl (nI p)), (0, .inr (.inr (some k))), (1, .inr (.inr (some o)))] ∧ st = [] ∧ packV R = vs ++ pkGo R f i p ∧ Apk (pkW k o e nw od) (clr S o) S1 o e e1 [] vs ∧ pkI S S1 k o r d e nw od od1 R ∧ Ix S1 R nw od1 (min p (R.length - 3)) ∧ cs = addNC vs.length (mN S e) 0 + odC (mN S od) R.length ∧ sl = addNS vs.length (mN S e) 0 + odS (mN S od) R.length
def I_pk2 (k o r d e nw od : Nat) (R : List Nat) (S : MM) (t : Nat) : KT := fun lo st S1 cs sl => ∃ e1 od1 i p f vs s j, t = (R.length - p) * 100 + (s - j) ∧ j ≤ s ∧ 1 ≤ s ∧ s ≤ 64 ∧ i ≤ p + s ∧ p + s ≤ R.length ∧ R.length ≤ p + s + f ∧ lo = [(5, .inl (nI j)), (4, .inl (nI s)), (2, .inl (nI i)), (3, .inl (nI p)), (0, .inr (.inr (some k))), (1, .inr (.inr (some o)))] ∧ st = [] ∧ packV R = vs ++ pkGo R f i (p + s) ∧ Apk (pkW k o e nw od) (clr S o) S1 o e e1 [] vs ∧ pkI S S1 k o r d e nw od od1 R ∧ Ix S1 R nw od1 (min (p + j) (R.length - 3)) ∧ cs = addNC vs.length (mN S e) 0 + odC (mN S od) R.length ∧ sl = addNS vs.length (mN S e) 0 + odS (mN S od) R.length
theorem pkGo_end {R : List Nat} {f i p : Nat} (h : R.length ≤ p) : pkGo R f i p = plnV R i p := by
  cases f with
  | zero => rfl
  | succ f => rw [pkGo, if_neg (by omega)]
theorem pkI.app {S S1 S2 : MM} {k o r d e nw od od1 e1 e2 n : Nat} {R B : List Nat} {ws : List Int32} (h : pkI S S1 k o r d e nw od od1 R) (hX : Ix S1 R nw od1 n) (hB : By S1 o e1 B) (hro : r ≠ o) (hd : d ≠ e1) (A : App S1 S2 o e1 e2 B ws) : pkI S S2 k o r d e nw od od1 R ∧ Ix S2 R nw od1 n ∧ (∀ i, mI S2 i k = mI S1 i k) ∧ d ≠ e2 := by
  obtain ⟨hP, hR, h1, h2, h3, h4⟩ := h
  have K := A.2.1
  have ko : ¬ (k = o ∨ k = e1) := fun z => z.elim (isO_ne hP.1 hB.1 (by decide)) (isO_ne hP.1 hB.2.2.1 (by decide))
  have ro : ¬ (r = o ∨ r = e1) := fun z => z.elim hro (isO_ne hR.1 hB.2.2.1 (by decide))
  have dO : ¬ (d = o ∨ d = e1) := fun z => z.elim (isO_ne hR.2.2.1 hB.1 (by decide)) hd
  have wo : ¬ (nw = o ∨ nw = e1) := fun z => z.elim (isO_ne hP.2.2.2.1 hB.1 (by decide)) (isO_ne hP.2.2.2.1 hB.2.2.1 (by decide))
  have vo : ¬ (od1 = o ∨ od1 = e1) := fun z => z.elim (isO_ne hP.2.2.2.2.2.2.1 hB.1 (by decide)) (isO_ne hP.2.2.2.2.2.2.1 hB.2.2.1 (by decide))
  have hN := (K.1 od1 hP.2.2.2.2.2.2.1.1).2.2
  exact ⟨⟨hP.keep K ko, hR.keep K ro dO, by rw [hN]; exact h1, h2, by rw [hN]; exact h3, h4⟩, hX.keep K hP.2.2.2.1.1 hP.2.2.2.2.2.2.1.1 wo vo, (K.2.1 k hP.1.1 ko).1, fun q => A.2.2.1.elim (fun z => hd (q.trans z)) (fun z => z (q ▸ hR.2.2.1.1))⟩
def T_ppack : TR := fun Rc Rs av S cs sl K _Kx => match av with
  | [.inr (.inr k_o), .inr (.inr o_o)] => pa k_o fun k => (pa o_o fun o => (∃ (r d e nw od : Nat) (R O : List Nat), (Pk S k r nw od ∧ By S r d R ∧ By S o e O ∧ r ≠ o ∧ d ≠ e) ∧ cs + (addNC (packV R).length (mN S e) 0 + odC (mN S od) R.length) ≤ Rc ∧ sl + (addNS (packV R).length (mN S e) 0 + odS (mN S od) R.length) ≤ Rs ∧ (∀ (S' : MM), (pkP S S' k o r e nw od R) → K none S' (cs + (addNC (packV R).length (mN S e) 0 + odC (mN S od) R.length)) (sl + (addNS (packV R).length (mN S e) 0 + odS (mN S od) R.length)))))
  | _ => False
def sp_ppack (k : Nat) (o : Nat) (r d e nw od : Nat) (R O : List Nat) : Sp := (fun av S => av = [.inr (.inr (some k)), .inr (.inr (some o))] ∧ (Pk S k r nw od ∧ By S r d R ∧ By S o e O ∧ r ≠ o ∧ d ≠ e), fun _ S => addNC (packV R).length (mN S e) 0 + odC (mN S od) R.length, fun _ S => addNS (packV R).length (mN S e) 0 + odS (mN S od) R.length, fun _ S rv S' => rv = none ∧ (pkP S S' k o r e nw od R), fun _ _ _ _ => False)
def tX7_pack : CD := [(0, .aload_n 1), (1, .invokevirtual 32), (4, .aload_n 1), (5, .aload_n 0), (6, .getfield 12), (9, .getfield 35), (12, .invokevirtual 38), (15, .aload_n 0), (16, .getfield 18), (19, .iconst 0), (20, .invokestatic 42), (23, .aload_n 0), (24, .getfield 22), (27, .arraylength), (28, .aload_n 0), (29, .getfield 12), (32, .getfield 35), (35, .if_icmp .ge 31), (38, .aload_n 0), (39, .aload_n 0), (40, .getfield 12), (43, .getfield 35), (46, .ldc 48), (48, .iconst 2), (49, .aload_n 0), (50, .getfield 22), (53, .arraylength), (54, .imul), (55, .invokestatic 49), (58, .invokestatic 55), (61, .newarray .int), (63, .putfield 22), (66, .iconst 0), (67, .istore_n 2), (68, .iconst 0), (69, .istore_n 3), (70, .iload_n 3), (71, .aload_n 0), (72, .getfield 12), (75, .getfield 35), (78, .if_icmp .ge 89), (81, .aload_n 0), (82, .iload_n 3), (83, .invokevirtual 58), (86, .iconst 1), (87, .aload_n 0), (88, .getfield 25), (91, .invokestatic 55), (94, .istore 4), (96, .aload_n 0), (97, .getfield 25), (100, .ifCond .le 35), (103, .aload_n 0), (104, .aload_n 1), (105, .iload_n 2), (106, .iload_n 3), (107, .invokevirtual 61), (110, .aload_n 1), (111, .iconst 2), (112, .aload_n 0), (113, .getfield 25), (116, .imul), (117, .iconst 1), (118, .iadd), (119, .invokevirtual 38), (122, .aload_n 1), (123, .aload_n 0), (124, .getfield 29), (127, .invokevirtual 38), (130, .iload_n 3), (131, .iload 4), (133, .iadd), (134, .istore_n 2), (135, .iconst 0), (136, .istore 5), (138, .iload 5), (140, .iload 4), (142, .if_icmp .ge 17), (145, .aload_n 0), (146, .iload_n 3), (147, .iload 5), (149, .iadd), (150, .invokevirtual 65), (153, .iinc 5 1), (156, .goto (-18)), (159, .iload_n 3), (160, .iload 4), (162, .iadd), (163, .istore_n 3), (164, .goto (-94)), (167, .aload_n 0), (168, .aload_n 1), (169, .iload_n 2), (170, .iload_n 3), (171, .invokevirtual 61), (174, .return_)]
set_option maxRecDepth 100000 in
theorem kX7_pack : chk cX7_pack tX7_pack = true := by decide +kernel
theorem vX7_pack_32 : ∀ w ∈ ([.methodLink RX7 32 yX1_clear, .instanceMethod yX1_clear, .selects yX1_clear.cls yX1_clear yX1_clear, .initialized yX1_clear.cls, .code yX1_clear cX1_clear 1 none] : List Cond), w ∈ lw_good := List.forall_mem_cons.mpr ⟨mgd 1409 (by decide +kernel) (by decide +kernel), List.forall_mem_cons.mpr ⟨mgd 1053 (by decide +kernel) (by decide +kernel), List.forall_mem_cons.mpr ⟨mgd 1054 (by decide +kernel) (by decide +kernel), List.forall_mem_cons.mpr ⟨mgd 122 (by decide +kernel) (by decide +kernel), List.forall_mem_cons.mpr ⟨mgd 1055 (by decide +kernel) (by decide +kernel), fun _ h => absurd h List.not_mem_nil⟩⟩⟩⟩⟩
theorem vX7_pack_38 : ∀ w ∈ ([.methodLink RX7 38 yX1_addVarint, .instanceMethod yX1_addVarint, .selects yX1_addVarint.cls yX1_addVarint yX1_addVarint, .initialized yX1_addVarint.cls, .code yX1_addVarint cX1_addVarint 4 none] : List Cond), w ∈ lw_good := List.forall_mem_cons.mpr ⟨mgd 1410 (by decide +kernel) (by decide +kernel), List.forall_mem_cons.mpr ⟨mgd 1341 (by decide +kernel) (by decide +kernel), List.forall_mem_cons.mpr ⟨mgd 1342 (by decide +kernel) (by decide +kernel), List.forall_mem_cons.mpr ⟨mgd 122 (by decide +kernel) (by decide +kernel), List.forall_mem_cons.mpr ⟨mgd 1343 (by decide +kernel) (by decide +kernel), fun _ h => absurd h List.not_mem_nil⟩⟩⟩⟩⟩
theorem vX7_pack_42 : ∀ w ∈ ([.methodLink RX7 42 yJ7_fill_53178, .static yJ7_fill_53178, .initialized yJ7_fill_53178.cls, .code yJ7_fill_53178 cJ7_fill_53178 4 none] : List Cond), w ∈ lw_good := List.forall_mem_cons.mpr ⟨mgd 1411 (by decide +kernel) (by decide +kernel), List.forall_mem_cons.mpr ⟨mgd 604 (by decide +kernel) (by decide +kernel), List.forall_mem_cons.mpr ⟨mgd 135 (by decide +kernel) (by decide +kernel), List.forall_mem_cons.mpr ⟨mgd 605 (by decide +kernel) (by decide +kernel), fun _ h => absurd h List.not_mem_nil⟩⟩⟩⟩
theorem vX7_pack_49 : ∀ w ∈ ([.methodLink RX7 49 Lib.Math.min.name, .static Lib.Math.min.name, .initialized "java/lang/Math", .code Lib.Math.min.name Lib.Math.min.code 2 (some .int)] : List Cond), w ∈ lw_good := List.forall_mem_cons.mpr ⟨mgd 1413 (by decide +kernel) (by decide +kernel), List.forall_mem_cons.mpr ⟨mgd 777 (by decide +kernel) (by decide +kernel), List.forall_mem_cons.mpr ⟨mgd 143 (by decide +kernel) (by decide +kernel), List.forall_mem_cons.mpr ⟨mgd 778 (by decide +kernel) (by decide +kernel), fun _ h => absurd h List.not_mem_nil⟩⟩⟩⟩
theorem vX7_pack_55 : ∀ w ∈ ([.methodLink RX7 55 Lib.Math.max.name, .static Lib.Math.max.name, .initialized "java/lang/Math", .code Lib.Math.max.name Lib.Math.max.code 2 (some .int)] : List Cond), w ∈ lw_good := List.forall_mem_cons.mpr ⟨mgd 1414 (by decide +kernel) (by decide +kernel), List.forall_mem_cons.mpr ⟨mgd 888 (by decide +kernel) (by decide +kernel), List.forall_mem_cons.mpr ⟨mgd 143 (by decide +kernel) (by decide +kernel), List.forall_mem_cons.mpr ⟨mgd 889 (by decide +kernel) (by decide +kernel), fun _ h => absurd h List.not_mem_nil⟩⟩⟩⟩
theorem vX7_pack_58 : ∀ w ∈ ([.methodLink RX7 58 yX7_seekRepeat, .instanceMethod yX7_seekRepeat, .selects yX7_seekRepeat.cls yX7_seekRepeat yX7_seekRepeat, .initialized yX7_seekRepeat.cls, .code yX7_seekRepeat cX7_seekRepeat 7 none] : List Cond), w ∈ lw_good := List.forall_mem_cons.mpr ⟨mgd 1415 (by decide +kernel) (by decide +kernel), List.forall_mem_cons.mpr ⟨mgd 1417 (by decide +kernel) (by decide +kernel), List.forall_mem_cons.mpr ⟨mgd 31 (by decide +kernel) (by decide +kernel), List.forall_mem_cons.mpr ⟨mgd 132 (by decide +kernel) (by decide +kernel), List.forall_mem_cons.mpr ⟨mgd 1418 (by decide +kernel) (by decide +kernel), fun _ h => absurd h List.not_mem_nil⟩⟩⟩⟩⟩
theorem vX7_pack_61 : ∀ w ∈ ([.methodLink RX7 61 yX7_addPlain, .instanceMethod yX7_addPlain, .selects yX7_addPlain.cls yX7_addPlain yX7_addPlain, .initialized yX7_addPlain.cls, .code yX7_addPlain cX7_addPlain 4 none] : List Cond), w ∈ lw_good := List.forall_mem_cons.mpr ⟨mgd 1428 (by decide +kernel) (by decide +kernel), List.forall_mem_cons.mpr ⟨mgd 1430 (by decide +kernel) (by decide +kernel), List.forall_mem_cons.mpr ⟨mgd 34 (by decide +kernel) (by decide +kernel), List.forall_mem_cons.mpr ⟨mgd 132 (by decide +kernel) (by decide +kernel), List.forall_mem_cons.mpr ⟨mgd 1431 (by decide +kernel) (by decide +kernel), fun _ h => absurd h List.not_mem_nil⟩⟩⟩⟩⟩
theorem vX7_pack_65 : ∀ w ∈ ([.methodLink RX7 65 yX7_remember, .instanceMethod yX7_remember, .selects yX7_remember.cls yX7_remember yX7_remember, .initialized yX7_remember.cls, .code yX7_remember cX7_remember 3 none] : List Cond), w ∈ lw_good := List.forall_mem_cons.mpr ⟨mgd 1436 (by decide +kernel) (by decide +kernel), List.forall_mem_cons.mpr ⟨mgd 1438 (by decide +kernel) (by decide +kernel), List.forall_mem_cons.mpr ⟨mgd 35 (by decide +kernel) (by decide +kernel), List.forall_mem_cons.mpr ⟨mgd 132 (by decide +kernel) (by decide +kernel), List.forall_mem_cons.mpr ⟨mgd 1439 (by decide +kernel) (by decide +kernel), fun _ h => absurd h List.not_mem_nil⟩⟩⟩⟩⟩
set_option maxRecDepth 100000 in
set_option maxHeartbeats 2000000 in
theorem c_ppack (l : Launch) : ∀ (k : Nat) (o : Nat) (r d e nw od : Nat) (R O : List Nat), Ct l yX7_pack cX7_pack 6 none 5 122 (sp_ppack k o r d e nw od R O) := by
  intro k o r d e nw od R O
  refine Ct.of (fX7, nX7, aX7, iX7, lX7, [(32, 0, 1, 0, T_bclr), (38, 0, 2, 0, T_bvar), (42, 2, 2, 0, T_fillI), (49, 2, 2, 1, T_min), (55, 2, 2, 1, T_max), (58, 0, 2, 0, T_pseek), (61, 0, 4, 0, T_ppln), (65, 0, 2, 0, T_prem)], qX7, gX7, []) false tX7_pack (fun _ S => look [(66, ([0,1], I_pk0 k o r d e nw od R S)), (70, ([2,3,0,1], I_pk1 k o r d e nw od R S)), (138, ([5,4,2,3,0,1], I_pk2 k o r d e nw od R S))]) (by decide) (by decide) kX7_pack ⟨_, _, rfl⟩ fX7_ok nX7_ok aX7_ok iX7_ok lX7_ok (fun p e R s m args below meth c Q D cy z r A C hR1 hR2 => List.forall_mem_cons.mpr ⟨cOK_use (fun _ _ _ _ _ _ _ _ h => let ⟨sp, h1, h2, h3⟩ := u_bclr l _ _ _ _ _ _ _ _ h; ⟨sp, cOK_V C h1 vX7_pack_32 ⟨by decide, by decide, by decide +kernel⟩ ⟨by rw [hR1]; decide, by rw [hR2]; decide⟩ (k := 2) (T := TX1) (N := 3) rfl (by decide) h2, h3⟩), List.forall_mem_cons.mpr ⟨cOK_use (fun _ _ _ _ _ _ _ _ h => let ⟨sp, h1, h2, h3⟩ := u_bvar l _ _ _ _ _ _ _ _ h; ⟨sp, cOK_V C h1 vX7_pack_38 ⟨by decide, by decide, by decide +kernel⟩ ⟨by rw [hR1]; decide, by rw [hR2]; decide⟩ (k := 2) (T := TX1) (N := 3) rfl (by decide) h2, h3⟩), List.forall_mem_cons.mpr ⟨cOK_use (fun _ _ _ _ _ _ _ _ h => let ⟨sp, h1, _, h3⟩ := u_fillI l _ _ _ _ _ _ _ _ h; ⟨sp, cOK_S C h1 vX7_pack_42 ⟨by decide, by decide, by decide +kernel⟩ ⟨by rw [hR1]; decide, by rw [hR2]; decide⟩, h3⟩), List.forall_mem_cons.mpr ⟨cOK_use (fun _ _ _ _ _ _ _ _ h => ⟨sp_min, cOK_min C vX7_pack_49 ⟨by rw [hR1]; decide, by rw [hR2]; decide⟩, T_min_ok h⟩), List.forall_mem_cons.mpr ⟨cOK_use (fun _ _ _ _ _ _ _ _ h => ⟨sp_max, cOK_max C vX7_pack_55 ⟨by rw [hR1]; decide, by rw [hR2]; decide⟩, T_max_ok h⟩), List.forall_mem_cons.mpr ⟨cOK_use (fun _ _ _ _ _ _ _ _ h => let ⟨sp, h1, h2, h3⟩ := u_pseek l _ _ _ _ _ _ _ _ h; ⟨sp, cOK_V C h1 vX7_pack_58 ⟨by decide, by decide, by decide +kernel⟩ ⟨by rw [hR1]; decide, by rw [hR2]; decide⟩ (k := 8) (T := TX7) (N := 5) rfl (by decide) h2, h3⟩), List.forall_mem_cons.mpr ⟨cOK_use (fun _ _ _ _ _ _ _ _ h => let ⟨sp, h1, h2, h3⟩ := u_ppln l _ _ _ _ _ _ _ _ h; ⟨sp, cOK_V C h1 vX7_pack_61 ⟨by decide, by decide, by decide +kernel⟩ ⟨by rw [hR1]; decide, by rw [hR2]; decide⟩ (k := 8) (T := TX7) (N := 5) rfl (by decide) h2, h3⟩), List.forall_mem_cons.mpr ⟨cOK_use (fun _ _ _ _ _ _ _ _ h => let ⟨sp, h1, h2, h3⟩ := u_prem l _ _ _ _ _ _ _ _ h; ⟨sp, cOK_V C h1 vX7_pack_65 ⟨by decide, by decide, by decide +kernel⟩ ⟨by rw [hR1]; decide, by rw [hR2]; decide⟩ (k := 8) (T := TX7) (N := 5) rfl (by decide) h2, h3⟩), fun _ h => absurd h List.not_mem_nil⟩⟩⟩⟩⟩⟩⟩⟩) qX7_ok gX7_ok rfl ?_ ?_
  · rintro _ S ⟨rfl, hp⟩
    refine ⟨Nat.le_of_ble_eq_true rfl, 300, ?_⟩
    show (0 = 0 ∧ ((isO S 2 o) ∧ 0 ≤ addNC (packV R).length (mN S e) 0 + odC (mN S od) R.length ∧ 0 ≤ addNS (packV R).length (mN S e) 0 + odS (mN S od) R.length ∧ ((isO (clr S o) 8 k ∧ (pa (mR (clr S o) 800 k) fun a_2 => isO (clr S o) 2 a_2 ∧ (0 = 0 ∧ (∃ (d_3 : Nat) (B_4 : List Nat), (By (clr S o) o d_3 B_4) ∧ 0 + (addNC (vbs 4 (mI (clr S o) 201 a_2)).length (mN (clr S o) d_3) B_4.length) ≤ addNC (packV R).length (mN S e) 0 + odC (mN S od) R.length ∧ 0 + (addNS (vbs 4 (mI (clr S o) 201 a_2)).length (mN (clr S o) d_3) B_4.length) ≤ addNS (packV R).length (mN S e) 0 + odS (mN S od) R.length ∧ (∀ (S_5 : MM), (∃ d', App (clr S o) S_5 o d_3 d' B_4 (vbs 4 (mI (clr S o) 201 a_2))) → (isO S_5 8 k ∧ (2 = 2 ∧ ((pa (mR S_5 801 k) fun a_6 => ((isO S_5 17 a_6 ∧ mN S_5 a_6 < 2147483648) ∧ 0 + (addNC (vbs 4 (mI (clr S o) 201 a_2)).length (mN (clr S o) d_3) B_4.length) ≤ addNC (packV R).length (mN S e) 0 + odC (mN S od) R.length ∧ 0 + (addNS (vbs 4 (mI (clr S o) 201 a_2)).length (mN (clr S o) d_3) B_4.length) ≤ addNS (packV R).length (mN S e) 0 + odS (mN S od) R.length ∧ ((isO (rI S_5 a_6 (fillF (eI S_5 a_6) (mN S_5 a_6) (0 : Int32))) 8 k ∧ (pa (mR (rI S_5 a_6 (fillF (eI S_5 a_6) (mN S_5 a_6) (0 : Int32))) 802 k) fun a_8 => ∃ v_9 : Int32, (a_8 ∈ mL (rI S_5 a_6 (fillF (eI S_5 a_6) (mN S_5 a_6) (0 : Int32))) ∧ ¬ mK (rI S_5 a_6 (fillF (eI S_5 a_6) (mN S_5 a_6) (0 : Int32))) a_8 < 16 ∧ mK (rI S_5 a_6 (fillF (eI S_5 a_6) (mN S_5 a_6) (0 : Int32))) a_8 < 29 ∧ v_9 = Int32.ofNat (mN (rI S_5 a_6 (fillF (eI S_5 a_6) (mN S_5 a_6) (0 : Int32))) a_8) ∨ a_8 = mZ (rI S_5 a_6 (fillF (eI S_5 a_6) (mN S_5 a_6) (0 : Int32))) ∧ v_9 = 0) ∧ (isO (rI S_5 a_6 (fillF (eI S_5 a_6) (mN S_5 a_6) (0 : Int32))) 8 k ∧ (pa (mR (rI S_5 a_6 (fillF (eI S_5 a_6) (mN S_5 a_6) (0 : Int32))) 800 k) fun a_10 => isO (rI S_5 a_6 (fillF (eI S_5 a_6) (mN S_5 a_6) (0 : Int32))) 2 a_10 ∧ (((mI (rI S_5 a_6 (fillF (eI S_5 a_6) (mN S_5 a_6) (0 : Int32))) 201 a_10) ≤ v_9 → (∃ k1, I_pk0 k o r d e nw od R S k1 [(0, .inr (.inr (some k))), (1, .inr (.inr (some o)))] [] (rI S_5 a_6 (fillF (eI S_5 a_6) (mN S_5 a_6) (0 : Int32))) (0 + (addNC (vbs 4 (mI (clr S o) 201 a_2)).length (mN (clr S o) d_3) B_4.length)) (0 + (addNS (vbs 4 (mI (clr S o) 201 a_2)).length (mN (clr S o) d_3) B_4.length)))) ∧ (¬ (mI (rI S_5 a_6 (fillF (eI S_5 a_6) (mN S_5 a_6) (0 : Int32))) 201 a_10) ≤ v_9 → (isO (rI S_5 a_6 (fillF (eI S_5 a_6) (mN S_5 a_6) (0 : Int32))) 8 k ∧ (pa (mR (rI S_5 a_6 (fillF (eI S_5 a_6) (mN S_5 a_6) (0 : Int32))) 800 k) fun a_11 => isO (rI S_5 a_6 (fillF (eI S_5 a_6) (mN S_5 a_6) (0 : Int32))) 2 a_11 ∧ (isO (rI S_5 a_6 (fillF (eI S_5 a_6) (mN S_5 a_6) (0 : Int32))) 8 k ∧ (pa (mR (rI S_5 a_6 (fillF (eI S_5 a_6) (mN S_5 a_6) (0 : Int32))) 802 k) fun a_12 => ∃ v_13 : Int32, (a_12 ∈ mL (rI S_5 a_6 (fillF (eI S_5 a_6) (mN S_5 a_6) (0 : Int32))) ∧ ¬ mK (rI S_5 a_6 (fillF (eI S_5 a_6) (mN S_5 a_6) (0 : Int32))) a_12 < 16 ∧ mK (rI S_5 a_6 (fillF (eI S_5 a_6) (mN S_5 a_6) (0 : Int32))) a_12 < 29 ∧ v_13 = Int32.ofNat (mN (rI S_5 a_6 (fillF (eI S_5 a_6) (mN S_5 a_6) (0 : Int32))) a_12) ∨ a_12 = mZ (rI S_5 a_6 (fillF (eI S_5 a_6) (mN S_5 a_6) (0 : Int32))) ∧ v_13 = 0) ∧ (2 = 2 ∧ (True ∧ 0 + (addNC (vbs 4 (mI (clr S o) 201 a_2)).length (mN (clr S o) d_3) B_4.length) ≤ addNC (packV R).length (mN S e) 0 + odC (mN S od) R.length ∧ 0 + (addNS (vbs 4 (mI (clr S o) 201 a_2)).length (mN (clr S o) d_3) B_4.length) ≤ addNS (packV R).length (mN S e) 0 + odS (mN S od) R.length ∧ ((2 = 2 ∧ (True ∧ 0 + (addNC (vbs 4 (mI (clr S o) 201 a_2)).length (mN (clr S o) d_3) B_4.length) ≤ addNC (packV R).length (mN S e) 0 + odC (mN S od) R.length ∧ 0 + (addNS (vbs 4 (mI (clr S o) 201 a_2)).length (mN (clr S o) d_3) B_4.length) ≤ addNS (packV R).length (mN S e) 0 + odS (mN S od) R.length ∧ ((¬ (imax (mI (rI S_5 a_6 (fillF (eI S_5 a_6) (mN S_5 a_6) (0 : Int32))) 201 a_11) (imin (32768 : Int32) ((2 : Int32) * v_13))) < 0 ∧ (imax (mI (rI S_5 a_6 (fillF (eI S_5 a_6) (mN S_5 a_6) (0 : Int32))) 201 a_11) (imin (32768 : Int32) ((2 : Int32) * v_13))).toNatClampNeg * 8 ≤ 536870912 ∧ 0 + (addNC (vbs 4 (mI (clr S o) 201 a_2)).length (mN (clr S o) d_3) B_4.length) + 1 ≤ addNC (packV R).length (mN S e) 0 + odC (mN S od) R.length ∧ 0 + (addNS (vbs 4 (mI (clr S o) 201 a_2)).length (mN (clr S o) d_3) B_4.length) + (imax (mI (rI S_5 a_6 (fillF (eI S_5 a_6) (mN S_5 a_6) (0 : Int32))) 201 a_11) (imin (32768 : Int32) ((2 : Int32) * v_13))).toNatClampNeg ≤ addNS (packV R).length (mN S e) 0 + odS (mN S od) R.length ∧ ∀ q_16, q_16 ∉ mL (rI S_5 a_6 (fillF (eI S_5 a_6) (mN S_5 a_6) (0 : Int32))) → (True ∧ (isO (nA (rI S_5 a_6 (fillF (eI S_5 a_6) (mN S_5 a_6) (0 : Int32))) q_16 17 (imax (mI (rI S_5 a_6 (fillF (eI S_5 a_6) (mN S_5 a_6) (0 : Int32))) 201 a_11) (imin (32768 : Int32) ((2 : Int32) * v_13))).toNatClampNeg) 8 k ∧ (∃ k1, I_pk0 k o r d e nw od R S k1 [(0, .inr (.inr (some k))), (1, .inr (.inr (some o)))] [] (sR (nA (rI S_5 a_6 (fillF (eI S_5 a_6) (mN S_5 a_6) (0 : Int32))) q_16 17 (imax (mI (rI S_5 a_6 (fillF (eI S_5 a_6) (mN S_5 a_6) (0 : Int32))) 201 a_11) (imin (32768 : Int32) ((2 : Int32) * v_13))).toNatClampNeg) 802 k (some q_16)) (0 + (addNC (vbs 4 (mI (clr S o) 201 a_2)).length (mN (clr S o) d_3) B_4.length) + 1) (0 + (addNS (vbs 4 (mI (clr S o) 201 a_2)).length (mN (clr S o) d_3) B_4.length) + (imax (mI (rI S_5 a_6 (fillF (eI S_5 a_6) (mN S_5 a_6) (0 : Int32))) 201 a_11) (imin (32768 : Int32) ((2 : Int32) * v_13))).toNatClampNeg)))))))))))))))))))))))))))))))))))
    obtain ⟨hP, hR, hO, hro, hde⟩ := hp
    have hl := hR.len
    have hC : By (clr S o) o e [] := hO.clear
    have kC : Keep (fun b => b = o) S (clr S o) := ((Keep.rf : Keep (fun b => b = o) S S).sI rfl).sI rfl
    have hR0 : By (clr S o) r d R := hR.keep kC hro (isO_ne hR.2.2.1 hO.1 (by decide))
    have hP0 : Pk (clr S o) k r nw od := hP.keep kC (isO_ne hP.1 hO.1 (by decide))
    have m1 : (vbs 4 (nI R.length)).length ≤ (packV R).length := by rw [packV, List.length_append]; exact Nat.le_add_right _ _
    have q1 := addNC_mono (mN S e) 0 m1
    have q2 := addNS_mono (mN S e) 0 m1
    refine ⟨rfl, hO.1, Nat.zero_le _, Nat.zero_le _, hP0.1, pa_i hP0.2.1 ⟨hR0.1, rfl, e, [], hC, ?_⟩⟩
    rw [hR0.2.2.2.1]
    refine ⟨?_, ?_, fun S5 hA => ?_⟩
    · rw [Nat.zero_add]; exact Nat.le_trans q1 (Nat.le_add_right _ _)
    · rw [Nat.zero_add]; exact Nat.le_trans q2 (Nat.le_add_right _ _)
    obtain ⟨e1, A⟩ := hA
    have hI0 : pkI S (clr S o) k o r d e nw od od R ∨ True := Or.inr trivial
    have K := A.2.1
    have ko : ¬ (k = o ∨ k = e) := fun z => z.elim (isO_ne hP.1 hO.1 (by decide)) (isO_ne hP.1 hO.2.2.1 (by decide))
    have ro : ¬ (r = o ∨ r = e) := fun z => z.elim hro (isO_ne hR.1 hO.2.2.1 (by decide))
    have dO : ¬ (d = o ∨ d = e) := fun z => z.elim (isO_ne hR.2.2.1 hO.1 (by decide)) hde
    have hP5 := hP0.keep K ko
    have hR5 := hR0.keep K ro dO
    have hN5 : mN S5 od = mN S od := (K.1 od hP0.2.2.2.2.2.2.1.1).2.2
    have hA5 : Apk (pkW k o e nw od) (clr S o) S5 o e e1 [] (vbs 4 (nI R.length)) := ⟨A.1, A.2.1.mono (fun b _ z => z.elim (fun z => Or.inr (Or.inl z)) (fun z => Or.inr (Or.inr (Or.inl z)))), A.2.2⟩
    refine ⟨hP5.1, rfl, pa_i hP5.2.2.1 ⟨⟨hP5.2.2.2.1, by rw [hP5.2.2.2.2.1]; decide⟩, ?_, ?_, ?_⟩⟩
    · rw [Nat.zero_add]; exact Nat.le_trans q1 (Nat.le_add_right _ _)
    · rw [Nat.zero_add]; exact Nat.le_trans q2 (Nat.le_add_right _ _)
    rw [hP5.2.2.2.2.1]
    have kF : Keep (fun b => b = nw) S5 (rI S5 nw (fillF (eI S5 nw) 1024 0)) := Keep.rf.rI rfl
    have hP6 : Pk (rI S5 nw (fillF (eI S5 nw) 1024 0)) k r nw od := hP5.keep kF (isO_ne hP5.1 hP5.2.2.2.1 (by decide))
    have hR6 : By (rI S5 nw (fillF (eI S5 nw) 1024 0)) r d R := hR5.keep kF (isO_ne hR5.1 hP5.2.2.2.1 (by decide)) (isO_ne hR5.2.2.1 hP5.2.2.2.1 (by decide))
    have hA6 : Apk (pkW k o e nw od) (clr S o) (rI S5 nw (fillF (eI S5 nw) 1024 0)) o e e1 [] (vbs 4 (nI R.length)) := hA5.step kF (isO_ne hO.1 hP.2.2.2.1 (by decide)) (isO_ne hA5.1.2.2.1 hP5.2.2.2.1 (by decide)) (fun b _ z => Or.inr (Or.inr (Or.inr (Or.inl z))))
    have hF6 : ∀ c, c < 1024 → eI (rI S5 nw (fillF (eI S5 nw) 1024 0)) nw c = 0 := fun c hc => by rw [eI_rI, if_pos rfl, fillF_in hc]
    have hN6 : mN (rI S5 nw (fillF (eI S5 nw) 1024 0)) od = mN S od := hN5
    generalize hS6 : rI S5 nw (fillF (eI S5 nw) 1024 0) = S6 at *
    have hd6 : mN S6 od = mN S od := hN6
    have c9 := hP6.2.2.2.2.2.2.2.2
    have oo : isO S6 17 od := hP6.2.2.2.2.2.2.1
    have alen : ∀ P : Prop, (od ∈ mL S6 ∧ ¬ mK S6 od < 16 ∧ mK S6 od < 29 ∧ Int32.ofNat (mN S od) = Int32.ofNat (mN S6 od)) ∨ P := fun P => Or.inl ⟨oo.1, by rw [oo.2]; decide, by rw [oo.2]; decide, by rw [hd6]⟩
    refine ⟨hP6.1, pa_i hP6.2.2.2.2.2.1 ⟨nI (mN S od), alen _, hP6.1, pa_i hP6.2.1 ⟨hR6.1, ?_⟩⟩⟩
    rw [hR6.2.2.2.1]
    have hIx : ∀ o9, Ix S6 R nw o9 0 := fun o9 => ⟨fun c hc => by rw [hF6 c hc]; rfl, fun p hp => absurd hp (Nat.not_lt_zero _)⟩
    have odo : od ≠ o := isO_ne hP.2.2.2.2.2.2.1 hO.1 (by decide)
    refine if_le (by omega) (by omega) (fun h3 => ?_) (fun h3 => ?_)
    · refine ⟨1000000000, e1, od, rfl, rfl, rfl, hA6, ⟨hP6, hR6, by omega, Or.inl rfl, by rw [hd6, odN, if_neg (by omega)], odo⟩, hIx od, ?_, ?_⟩
      · rw [odC, if_neg (by omega), Nat.zero_add]; rfl
      · rw [odS, if_neg (by omega), Nat.zero_add]; rfl
    · have e32 : imax (nI R.length) (imin (32768 : Int32) ((2 : Int32) * nI (mN S od))) = nI (max R.length (min 32768 (2 * mN S od))) := by
        rw [show (2 : Int32) * nI (mN S od) = nI (2 * mN S od) from pk_mul 2 _, show (32768 : Int32) = nI 32768 from rfl, imin_nI (by decide) (by omega), imax_nI (by omega) (by omega)]
      have c1 : odC (mN S od) R.length = 1 := by rw [odC, if_pos (by omega)]
      have c2 : odS (mN S od) R.length = max R.length (min 32768 (2 * mN S od)) := by rw [odS, if_pos (by omega)]
      have c3 : odN (mN S od) R.length = max R.length (min 32768 (2 * mN S od)) := by rw [odN, if_pos (by omega)]
      have g1 : addNC (vbs 4 (nI R.length)).length (mN (clr S o) e) ([] : List Nat).length ≤ addNC (packV R).length (mN S e) 0 := q1
      have g2 : addNS (vbs 4 (nI R.length)).length (mN (clr S o) e) ([] : List Nat).length ≤ addNS (packV R).length (mN S e) 0 := q2
      refine ⟨hP6.1, pa_i hP6.2.1 ⟨hR6.1, hP6.1, pa_i hP6.2.2.2.2.2.1 ⟨nI (mN S od), alen _, rfl, trivial, ?_, ?_, rfl, trivial, ?_, ?_, ?_⟩⟩⟩
      · omega
      · omega
      · omega
      · omega
      rw [hR6.2.2.2.1, e32, nI_clamp (by omega)]
      refine ⟨nI_pos (by omega), by omega, by omega, by omega, fun q hq => ⟨trivial, isO_nA hP6.1 hq, ?_⟩⟩
      have hq0 : q ∉ mL S := fun z => hq (by
        have := (kC.1 q z).1
        have := (hA6.2.1.1 q this).1
        exact this)
      have kN : Keep (fun b => b = k) S6 (sR (nA S6 q 17 (max R.length (min 32768 (2 * mN S od)))) 802 k (some q)) := ((Keep.rf : Keep (fun b => b = k) S6 S6).nA hq).sR rfl
      have nwq : nw ≠ q := fun z => hq (z ▸ hP6.2.2.2.1.1)
      have qo : q ≠ o := fun z => hq (z ▸ hA6.1.1.1)
      refine ⟨1000000000, e1, q, rfl, rfl, rfl, hA6.step kN (isO_ne hA6.1.1 hP6.1 (by decide)) (isO_ne hA6.1.2.2.1 hP6.1 (by decide)) (fun b _ z => Or.inl z), ⟨?_, hR6.keep kN (isO_ne hR6.1 hP6.1 (by decide)) (isO_ne hR6.2.2.1 hP6.1 (by decide)), ?_, Or.inr hq0, ?_, qo⟩, ⟨fun c hc => ?_, fun p hp => absurd hp (Nat.not_lt_zero _)⟩, ?_, ?_⟩
      · have hkq : ∀ i, mR (sR (nA S6 q 17 (max R.length (min 32768 (2 * mN S od)))) 802 k (some q)) i k = if i = 802 then some q else mR S6 i k := fun i => by
          rw [mR_sR]
          by_cases z : i = 802
          · rw [if_pos ⟨z, rfl⟩, if_pos z]
          · rw [if_neg (fun w => z w.1), if_neg z]
            rfl
        have hNq : ∀ b, mN (sR (nA S6 q 17 (max R.length (min 32768 (2 * mN S od)))) 802 k (some q)) b = if b = q then max R.length (min 32768 (2 * mN S od)) else mN S6 b := fun b => rfl
        refine ⟨kN.isO hP6.1, by rw [hkq, if_neg (by decide)]; exact hP6.2.1, by rw [hkq, if_neg (by decide)]; exact hP6.2.2.1, kN.isO hP6.2.2.2.1, by rw [hNq, if_neg nwq]; exact hP6.2.2.2.2.1, by rw [hkq, if_pos rfl], isO_nA_self (n := max R.length (min 32768 (2 * mN S od))), nwq, ?_, ?_⟩
        · rw [hNq, if_pos rfl]; omega
        · rw [hNq, if_pos rfl]; omega
      · show R.length ≤ if q = q then _ else _
        rw [if_pos rfl]; omega
      · show (if q = q then _ else _) = _
        rw [if_pos rfl, c3]
      · show (if nw = q then _ else eI S6 nw) c = _
        rw [if_neg nwq]; exact (hIx od).1 c hc
      · rw [c1, Nat.zero_add]; rfl
      · rw [c2, Nat.zero_add]; rfl
  · intro av S hpre pc I hI k lo st S1 cs sl h
    obtain ⟨rfl, hp⟩ := hpre
    have hm := look_in hI
    simp only [List.mem_cons, List.not_mem_nil, or_false] at hm
    rcases hm with hm | hm | hm
    · cases hm
      obtain ⟨e1, od1, rfl, rfl, rfl, hA, hI1, hX, rfl, rfl⟩ := h
      refine ⟨300, ?_⟩
      show (∃ k1, k1 < 1000000000 ∧ I_pk1 k o r d e nw od R S k1 [(2, .inl (0 : Int32)), (3, .inl (0 : Int32)), (0, .inr (.inr (some k))), (1, .inr (.inr (some o)))] [] S1 (addNC (vbs 4 (nI R.length)).length (mN S e) 0 + odC (mN S od) R.length) (addNS (vbs 4 (nI R.length)).length (mN S e) 0 + odS (mN S od) R.length))
      have hl := hI1.2.1.len
      refine ⟨(R.length - 0) * 100 + 99, by omega, e1, od1, 0, 0, R.length, vbs 4 (nI R.length), rfl, by omega, by omega, by omega, rfl, rfl, rfl, hA, hI1, ?_, rfl, rfl⟩
      rw [Nat.zero_min]; exact hX
    · cases hm
      obtain ⟨e1, od1, i, p, f, vs, rfl, hip, hpR, hf, rfl, rfl, hv, hA, hI1, hX, rfl, rfl⟩ := h
      refine ⟨300, ?_⟩
      show (isO S1 8 k ∧ (pa (mR S1 800 k) fun a_1 => isO S1 2 a_1 ∧ (((mI S1 201 a_1) ≤ (nI p) → (0 = 0 ∧ (∃ (i_2 : Nat), nI i = nI i_2 ∧ (∃ (j_3 : Nat), nI p = nI j_3 ∧ (∃ (r_4 d_5 e_6 : Nat) (R_7 O_8 : List Nat), (isO S1 8 k ∧ mR S1 800 k = some r_4 ∧ By S1 r_4 d_5 R_7 ∧ By S1 o e_6 O_8 ∧ r_4 ≠ o ∧ d_5 ≠ e_6 ∧ i_2 ≤ 32768 ∧ j_3 ≤ 32768) ∧ (addNC vs.length (mN S e) 0 + odC (mN S od) R.length) + (addNC (plnV R_7 i_2 j_3).length (mN S1 e_6) O_8.length) ≤ addNC (packV R).length (mN S e) 0 + odC (mN S od) R.length ∧ (addNS vs.length (mN S e) 0 + odS (mN S od) R.length) + (addNS (plnV R_7 i_2 j_3).length (mN S1 e_6) O_8.length) ≤ addNS (packV R).length (mN S e) 0 + odS (mN S od) R.length ∧ (∀ (S_9 : MM), (∃ e', App S1 S_9 o e_6 e' O_8 (plnV R_7 i_2 j_3)) → (([] : List MV) = [] ∧ mret none (sp_ppack k o r d e nw od R O) [.inr (.inr (some k)), .inr (.inr (some o))] S none S_9 ((addNC vs.length (mN S e) 0 + odC (mN S od) R.length) + (addNC (plnV R_7 i_2 j_3).length (mN S1 e_6) O_8.length)) ((addNS vs.length (mN S e) 0 + odS (mN S od) R.length) + (addNS (plnV R_7 i_2 j_3).length (mN S1 e_6) O_8.length))))))))) ∧ (¬ (mI S1 201 a_1) ≤ (nI p) → (0 = 0 ∧ (∃ (p_10 : Nat), nI p = nI p_10 ∧ (∃ (r_11 d_12 nw_13 od_14 : Nat) (R_15 : List Nat), (Pk S1 k r_11 nw_13 od_14 ∧ By S1 r_11 d_12 R_15 ∧ p_10 < R_15.length ∧ R_15.length ≤ mN S1 od_14 ∧ Ix S1 R_15 nw_13 od_14 (min p_10 (R_15.length - 3))) ∧ (addNC vs.length (mN S e) 0 + odC (mN S od) R.length) ≤ addNC (packV R).length (mN S e) 0 + odC (mN S od) R.length ∧ (addNS vs.length (mN S e) 0 + odS (mN S od) R.length) ≤ addNS (packV R).length (mN S e) 0 + odS (mN S od) R.length ∧ (∀ (S_16 : MM), (∃ x y, S_16 = seekS S1 k x y ∧ SK R_15 p_10 x y) → (isO S_16 8 k ∧ (2 = 2 ∧ (True ∧ addNC vs.length (mN S e) 0 + odC (mN S od) R.length ≤ addNC (packV R).length (mN S e) 0 + odC (mN S od) R.length ∧ addNS vs.length (mN S e) 0 + odS (mN S od) R.length ≤ addNS (packV R).length (mN S e) 0 + odS (mN S od) R.length ∧ ((isO S_16 8 k ∧ (((mI S_16 803 k) ≤ 0 → (∃ k1, k1 < ((R.length - p) * 100 + 99) ∧ I_pk2 k o r d e nw od R S k1 [(5, .inl (0 : Int32)), (4, .inl (imax (1 : Int32) (mI S_16 803 k))), (2, .inl (nI i)), (3, .inl (nI p)), (0, .inr (.inr (some k))), (1, .inr (.inr (some o)))] [] S_16 (addNC vs.length (mN S e) 0 + odC (mN S od) R.length) (addNS vs.length (mN S e) 0 + odS (mN S od) R.length))) ∧ (¬ (mI S_16 803 k) ≤ 0 → (0 = 0 ∧ (∃ (i_18 : Nat), nI i = nI i_18 ∧ (∃ (j_19 : Nat), nI p = nI j_19 ∧ (∃ (r_20 d_21 e_22 : Nat) (R_23 O_24 : List Nat), (isO S_16 8 k ∧ mR S_16 800 k = some r_20 ∧ By S_16 r_20 d_21 R_23 ∧ By S_16 o e_22 O_24 ∧ r_20 ≠ o ∧ d_21 ≠ e_22 ∧ i_18 ≤ 32768 ∧ j_19 ≤ 32768) ∧ addNC vs.length (mN S e) 0 + odC (mN S od) R.length + (addNC (plnV R_23 i_18 j_19).length (mN S_16 e_22) O_24.length) ≤ addNC (packV R).length (mN S e) 0 + odC (mN S od) R.length ∧ addNS vs.length (mN S e) 0 + odS (mN S od) R.length + (addNS (plnV R_23 i_18 j_19).length (mN S_16 e_22) O_24.length) ≤ addNS (packV R).length (mN S e) 0 + odS (mN S od) R.length ∧ (∀ (S_25 : MM), (∃ e', App S_16 S_25 o e_22 e' O_24 (plnV R_23 i_18 j_19)) → (isO S_25 8 k ∧ (0 = 0 ∧ (∃ (d_26 : Nat) (B_27 : List Nat), (By S_25 o d_26 B_27) ∧ addNC vs.length (mN S e) 0 + odC (mN S od) R.length + (addNC (plnV R_23 i_18 j_19).length (mN S_16 e_22) O_24.length) + (addNC (vbs 4 (((2 : Int32) * (mI S_25 803 k)) + (1 : Int32))).length (mN S_25 d_26) B_27.length) ≤ addNC (packV R).length (mN S e) 0 + odC (mN S od) R.length ∧ addNS vs.length (mN S e) 0 + odS (mN S od) R.length + (addNS (plnV R_23 i_18 j_19).length (mN S_16 e_22) O_24.length) + (addNS (vbs 4 (((2 : Int32) * (mI S_25 803 k)) + (1 : Int32))).length (mN S_25 d_26) B_27.length) ≤ addNS (packV R).length (mN S e) 0 + odS (mN S od) R.length ∧ (∀ (S_28 : MM), (∃ d', App S_25 S_28 o d_26 d' B_27 (vbs 4 (((2 : Int32) * (mI S_25 803 k)) + (1 : Int32)))) → (isO S_28 8 k ∧ (0 = 0 ∧ (∃ (d_29 : Nat) (B_30 : List Nat), (By S_28 o d_29 B_30) ∧ addNC vs.length (mN S e) 0 + odC (mN S od) R.length + (addNC (plnV R_23 i_18 j_19).length (mN S_16 e_22) O_24.length) + (addNC (vbs 4 (((2 : Int32) * (mI S_25 803 k)) + (1 : Int32))).length (mN S_25 d_26) B_27.length) + (addNC (vbs 4 (mI S_28 804 k)).length (mN S_28 d_29) B_30.length) ≤ addNC (packV R).length (mN S e) 0 + odC (mN S od) R.length ∧ addNS vs.length (mN S e) 0 + odS (mN S od) R.length + (addNS (plnV R_23 i_18 j_19).length (mN S_16 e_22) O_24.length) + (addNS (vbs 4 (((2 : Int32) * (mI S_25 803 k)) + (1 : Int32))).length (mN S_25 d_26) B_27.length) + (addNS (vbs 4 (mI S_28 804 k)).length (mN S_28 d_29) B_30.length) ≤ addNS (packV R).length (mN S e) 0 + odS (mN S od) R.length ∧ (∀ (S_31 : MM), (∃ d', App S_28 S_31 o d_29 d' B_30 (vbs 4 (mI S_28 804 k))) → (∃ k1, k1 < ((R.length - p) * 100 + 99) ∧ I_pk2 k o r d e nw od R S k1 [(5, .inl (0 : Int32)), (4, .inl (imax (1 : Int32) (mI S_16 803 k))), (2, .inl ((nI p) + (imax (1 : Int32) (mI S_16 803 k)))), (3, .inl (nI p)), (0, .inr (.inr (some k))), (1, .inr (.inr (some o)))] [] S_31 (addNC vs.length (mN S e) 0 + odC (mN S od) R.length + (addNC (plnV R_23 i_18 j_19).length (mN S_16 e_22) O_24.length) + (addNC (vbs 4 (((2 : Int32) * (mI S_25 803 k)) + (1 : Int32))).length (mN S_25 d_26) B_27.length) + (addNC (vbs 4 (mI S_28 804 k)).length (mN S_28 d_29) B_30.length)) (addNS vs.length (mN S e) 0 + odS (mN S od) R.length + (addNS (plnV R_23 i_18 j_19).length (mN S_16 e_22) O_24.length) + (addNS (vbs 4 (((2 : Int32) * (mI S_25 803 k)) + (1 : Int32))).length (mN S_25 d_26) B_27.length) + (addNS (vbs 4 (mI S_28 804 k)).length (mN S_28 d_29) B_30.length)))))))))))))))))))))))))))))))
      obtain ⟨hP, hR, hO, hro, hde⟩ := hp
      have hI9 := hI1
      obtain ⟨hP1, hR1, hlen, hod, hodN, hne⟩ := hI1
      have hl := hR1.len
      have hd1 : d ≠ e1 := fun q => hA.2.2.1.elim (fun z => hde (q.trans z)) (fun z => z (q ▸ hR.2.2.1.1))
      have mm : ∀ n, n ≤ (packV R).length → addNC n (mN S e) 0 ≤ addNC (packV R).length (mN S e) 0 ∧ addNS n (mN S e) 0 ≤ addNS (packV R).length (mN S e) 0 := fun n hn => ⟨addNC_mono _ _ hn, addNS_mono _ _ hn⟩
      rw [hP1.2.1]
      refine ⟨hP1.1, hR1.1, ?_⟩
      rw [hR1.2.2.2.1]
      refine if_le (by omega) (by omega) (fun h3 => ?_) (fun h3 => ?_)
      · rw [pkGo_end h3] at hv
        have hL : (packV R).length = vs.length + (plnV R i p).length := by rw [hv, List.length_append]
        obtain ⟨c1, c2⟩ := hA.costN (Nat.zero_le _) (plnV R i p).length
        have c1 : addNC vs.length (mN S e) 0 + addNC (plnV R i p).length (mN S1 e1) (bPuts [] vs).length = addNC (vs.length + (plnV R i p).length) (mN S e) 0 := c1
        have c2 : addNS vs.length (mN S e) 0 + addNS (plnV R i p).length (mN S1 e1) (bPuts [] vs).length = addNS (vs.length + (plnV R i p).length) (mN S e) 0 := c2
        refine ⟨rfl, i, rfl, p, rfl, r, d, e1, R, bPuts [] vs, ⟨hP1.1, rfl, hR1, hA.1, hro, hd1, by omega, by omega⟩, by rw [hL]; omega, by rw [hL]; omega, fun S9 hA9 => ⟨rfl, trivial, ⟨rfl, ?_⟩, ?_, ?_⟩⟩
        · obtain ⟨e9, A9⟩ := hA9
          obtain ⟨i1, -, -, -⟩ := hI9.app hX hA.1 hro hd1 A9
          have hA2 := hA.app (Nat.zero_le _) (Or.inr (Or.inl rfl)) (Or.inr (Or.inr (Or.inl rfl))) A9
          rw [← hv] at hA2
          exact ⟨e9, od1, hA2, i1.1, hod, i1.2.2.2.2.1⟩
        · show _ ≤ addNC (packV R).length (mN S e) 0 + odC (mN S od) R.length
          rw [hL]; omega
        · show _ ≤ addNS (packV R).length (mN S e) 0 + odS (mN S od) R.length
          rw [hL]; omega
      · obtain ⟨f, rfl⟩ : ∃ g, f = g + 1 := ⟨f - 1, by omega⟩
        have hvl : vs.length ≤ (packV R).length := by rw [hv, List.length_append]; omega
        have hm0 := mm _ hvl
        refine ⟨rfl, p, rfl, r, d, nw, od1, R, ⟨hP1, hR1, by omega, hlen, hX⟩, by omega, by omega, fun S16 hS => ?_⟩
        obtain ⟨x, y, rfl, hSK⟩ := hS
        have hb := best_le R p
        have hx64 : x ≤ min 64 (R.length - p) := by
          by_cases z : 4 ≤ (best R p).1
          · have := (hSK.1 z).1; omega
          · have := hSK.2 (by omega); omega
        have kS : Keep (fun b => b = k) S1 (seekS S1 k x y) := ((Keep.rf : Keep (fun b => b = k) S1 S1).sI rfl).sI rfl
        have hP2 : Pk (seekS S1 k x y) k r nw od1 := hP1
        have hR2 : By (seekS S1 k x y) r d R := hR1.keep kS (isO_ne hR1.1 hP1.1 (by decide)) (isO_ne hR1.2.2.1 hP1.1 (by decide))
        have hI2 : pkI S (seekS S1 k x y) k o r d e nw od od1 R := ⟨hP2, hR2, hlen, hod, hodN, hne⟩
        have hX2 : Ix (seekS S1 k x y) R nw od1 (min p (R.length - 3)) := hX
        have hA2 := hA.step kS (isO_ne hA.1.1 hP1.1 (by decide)) (isO_ne hA.1.2.2.1 hP1.1 (by decide)) (fun b _ z => Or.inl z)
        have e803 : mI (seekS S1 k x y) 803 k = nI x := by
          rw [seekS, mI_sI, if_neg (fun z => absurd z.1 (by decide)), mI_sI, if_pos ⟨rfl, rfl⟩]
        have e804 : mI (seekS S1 k x y) 804 k = y := by
          rw [seekS, mI_sI, if_pos ⟨rfl, rfl⟩]
        generalize hS2 : seekS S1 k x y = S2 at *
        rw [e803, show imax (1 : Int32) (nI x) = nI (max 1 x) from imax_nI (a := 1) (by decide) (by omega)]
        refine ⟨hP2.1, rfl, trivial, by omega, by omega, hP2.1, if_le (b := 0) (by omega) (by decide) (fun h4 => ?_) (fun h4 => ?_)⟩
        · have hb4 : ¬ 4 ≤ (best R p).1 := fun z => by have := (hSK.1 z).1; omega
          rw [pkGo, if_pos (by omega), if_neg hb4] at hv
          refine ⟨(R.length - p) * 100 + (1 - 0), by omega, e1, od1, i, p, f, vs, 1, 0, rfl, by omega, by omega, by omega, by omega, by omega, by omega, ?_, rfl, hv, hA2, hI2, hX2, rfl, rfl⟩
          rw [show max 1 x = 1 by omega]; rfl
        · have hb4 : 4 ≤ (best R p).1 := by
            refine Decidable.byContradiction (fun z => ?_)
            have := hSK.2 (by omega); omega
          obtain ⟨hxb, hyb⟩ := hSK.1 hb4
          rw [pkGo, if_pos (by omega), if_pos hb4, ← hxb, ← hyb] at hv
          have hv2 : packV R = (((vs ++ plnV R i p) ++ vbs 4 (nI (2 * x + 1))) ++ vbs 4 y) ++ pkGo R f (p + x) (p + x) := by rw [hv]; simp only [List.append_assoc]
          have hL : (packV R).length = vs.length + (plnV R i p).length + (vbs 4 (nI (2 * x + 1))).length + (vbs 4 y).length + (pkGo R f (p + x) (p + x)).length := by rw [hv2]; simp only [List.length_append]
          have m1 := mm (vs.length + (plnV R i p).length) (by omega)
          have m2 := mm (vs.length + (plnV R i p).length + (vbs 4 (nI (2 * x + 1))).length) (by omega)
          have m3 := mm (vs.length + (plnV R i p).length + (vbs 4 (nI (2 * x + 1))).length + (vbs 4 y).length) (by omega)
          obtain ⟨c1, c2⟩ := hA2.costN (Nat.zero_le _) (plnV R i p).length
          have c1 : addNC vs.length (mN S e) 0 + addNC (plnV R i p).length (mN S2 e1) (bPuts [] vs).length = addNC (vs.length + (plnV R i p).length) (mN S e) 0 := c1
          have c2 : addNS vs.length (mN S e) 0 + addNS (plnV R i p).length (mN S2 e1) (bPuts [] vs).length = addNS (vs.length + (plnV R i p).length) (mN S e) 0 := c2
          refine ⟨rfl, i, rfl, p, rfl, r, d, e1, R, bPuts [] vs, ⟨hP2.1, hP2.2.1, hR2, hA2.1, hro, hd1, by omega, by omega⟩, by omega, by omega, fun S3 hA9 => ?_⟩
          obtain ⟨e3, A3⟩ := hA9
          obtain ⟨hI3, hX3, f3, hd3⟩ := hI2.app hX2 hA2.1 hro hd1 A3
          have hA3 := hA2.app (Nat.zero_le _) (Or.inr (Or.inl rfl)) (Or.inr (Or.inr (Or.inl rfl))) A3
          obtain ⟨c3, c4⟩ := hA3.costN (Nat.zero_le _) (vbs 4 (nI (2 * x + 1))).length
          rw [List.length_append] at c3 c4
          have c3 : addNC (vs.length + (plnV R i p).length) (mN S e) 0 + addNC (vbs 4 (nI (2 * x + 1))).length (mN S3 e3) (bPuts [] (vs ++ plnV R i p)).length = addNC (vs.length + (plnV R i p).length + (vbs 4 (nI (2 * x + 1))).length) (mN S e) 0 := c3
          have c4 : addNS (vs.length + (plnV R i p).length) (mN S e) 0 + addNS (vbs 4 (nI (2 * x + 1))).length (mN S3 e3) (bPuts [] (vs ++ plnV R i p)).length = addNS (vs.length + (plnV R i p).length + (vbs 4 (nI (2 * x + 1))).length) (mN S e) 0 := c4
          have e2x : (2 : Int32) * mI S3 803 k + 1 = nI (2 * x + 1) := by
            rw [f3, e803, show (2 : Int32) * nI x = nI (2 * x) from pk_mul 2 x, nI_1]
          rw [e2x]
          refine ⟨hI3.1.1, rfl, e3, bPuts [] (vs ++ plnV R i p), hA3.1, by omega, by omega, fun S4 hA9 => ?_⟩
          obtain ⟨e4, A4⟩ := hA9
          obtain ⟨hI4, hX4, f4, hd4⟩ := hI3.app hX3 hA3.1 hro hd3 A4
          have hA4 := hA3.app (Nat.zero_le _) (Or.inr (Or.inl rfl)) (Or.inr (Or.inr (Or.inl rfl))) A4
          obtain ⟨c5, c6⟩ := hA4.costN (Nat.zero_le _) (vbs 4 y).length
          rw [List.length_append, List.length_append] at c5 c6
          have c5 : addNC (vs.length + (plnV R i p).length + (vbs 4 (nI (2 * x + 1))).length) (mN S e) 0 + addNC (vbs 4 y).length (mN S4 e4) (bPuts [] ((vs ++ plnV R i p) ++ vbs 4 (nI (2 * x + 1)))).length = addNC (vs.length + (plnV R i p).length + (vbs 4 (nI (2 * x + 1))).length + (vbs 4 y).length) (mN S e) 0 := c5
          have c6 : addNS (vs.length + (plnV R i p).length + (vbs 4 (nI (2 * x + 1))).length) (mN S e) 0 + addNS (vbs 4 y).length (mN S4 e4) (bPuts [] ((vs ++ plnV R i p) ++ vbs 4 (nI (2 * x + 1)))).length = addNS (vs.length + (plnV R i p).length + (vbs 4 (nI (2 * x + 1))).length + (vbs 4 y).length) (mN S e) 0 := c6
          rw [show mI S4 804 k = y by rw [f4, f3, e804]]
          refine ⟨hI4.1.1, rfl, e4, bPuts [] ((vs ++ plnV R i p) ++ vbs 4 (nI (2 * x + 1))), hA4.1, by omega, by omega, fun S5 hA9 => ?_⟩
          obtain ⟨e5, A5⟩ := hA9
          obtain ⟨hI5, hX5, f5, hd5⟩ := hI4.app hX4 hA4.1 hro hd4 A5
          have hA5 := hA4.app (Nat.zero_le _) (Or.inr (Or.inl rfl)) (Or.inr (Or.inr (Or.inl rfl))) A5
          refine ⟨(R.length - p) * 100 + (x - 0), by omega, e5, od1, p + x, p, f, ((vs ++ plnV R i p) ++ vbs 4 (nI (2 * x + 1))) ++ vbs 4 y, x, 0, rfl, by omega, by omega, by omega, by omega, by omega, by omega, ?_, rfl, hv2, hA5, hI5, hX5, ?_, ?_⟩
          · rw [show max 1 x = x by omega, nI_add]; rfl
          · rw [List.length_append, List.length_append, List.length_append]; omega
          · rw [List.length_append, List.length_append, List.length_append]; omega
    · cases hm
      obtain ⟨e1, od1, i, p, f, vs, s, j, rfl, hjs, hs1, hs2, hip, hpR, hf, rfl, rfl, hv, hA, hI1, hX, rfl, rfl⟩ := h
      refine ⟨300, ?_⟩
      show (((nI s) ≤ (nI j) → (∃ k1, k1 < ((R.length - p) * 100 + (s - j)) ∧ I_pk1 k o r d e nw od R S k1 [(2, .inl (nI i)), (3, .inl ((nI p) + (nI s))), (0, .inr (.inr (some k))), (1, .inr (.inr (some o)))] [] S1 (addNC vs.length (mN S e) 0 + odC (mN S od) R.length) (addNS vs.length (mN S e) 0 + odS (mN S od) R.length))) ∧ (¬ (nI s) ≤ (nI j) → (0 = 0 ∧ (∃ (p_1 : Nat), (nI p) + (nI j) = nI p_1 ∧ (∃ (r_2 d_3 nw_4 od_5 : Nat) (R_6 : List Nat), (Pk S1 k r_2 nw_4 od_5 ∧ By S1 r_2 d_3 R_6 ∧ p_1 ≤ 100000 ∧ R_6.length ≤ mN S1 od_5) ∧ (addNC vs.length (mN S e) 0 + odC (mN S od) R.length) ≤ addNC (packV R).length (mN S e) 0 + odC (mN S od) R.length ∧ (addNS vs.length (mN S e) 0 + odS (mN S od) R.length) ≤ addNS (packV R).length (mN S e) 0 + odS (mN S od) R.length ∧ ((∃ k1, k1 < ((R.length - p) * 100 + (s - j)) ∧ I_pk2 k o r d e nw od R S k1 [(5, .inl ((nI j) + (1 : Int32))), (4, .inl (nI s)), (2, .inl (nI i)), (3, .inl (nI p)), (0, .inr (.inr (some k))), (1, .inr (.inr (some o)))] [] (remS S1 R_6 nw_4 od_5 p_1) (addNC vs.length (mN S e) 0 + odC (mN S od) R.length) (addNS vs.length (mN S e) 0 + odS (mN S od) R.length))))))))
      obtain ⟨hP, hR, hO, hro, hde⟩ := hp
      have hI9 := hI1
      obtain ⟨hP1, hR1, hlen, hod, hodN, hne⟩ := hI1
      have hl := hR1.len
      have hvl : vs.length ≤ (packV R).length := by rw [hv, List.length_append]; omega
      have hm1 := addNC_mono (mN S e) 0 hvl
      have hm2 := addNS_mono (mN S e) 0 hvl
      rw [nI_add, nI_add]
      refine if_le (by omega) (by omega) (fun h3 => ?_) (fun h3 => ?_)
      · have ej : j = s := by omega
        subst ej
        exact ⟨(R.length - (p + j)) * 100 + 99, by omega, e1, od1, i, p + j, f, vs, rfl, by omega, by omega, by omega, rfl, rfl, hv, hA, hI9, hX, rfl, rfl⟩
      · have kR := remS_keep S1 R nw od1 (p + j)
        have nk : ∀ b kk, isO S1 kk b → kk ≠ 17 → ¬ (b = nw ∨ b = od1) := fun b kk hb hk z => z.elim (isO_ne hb hP1.2.2.2.1 hk) (isO_ne hb hP1.2.2.2.2.2.2.1 hk)
        have hN := (kR.1 od1 hP1.2.2.2.2.2.2.1.1).2.2
        refine ⟨rfl, p + j, rfl, r, d, nw, od1, R, ⟨hP1, hR1, by omega, hlen⟩, by omega, by omega, (R.length - p) * 100 + (s - (j + 1)), by omega, e1, od1, i, p, f, vs, s, j + 1, rfl, by omega, hs1, hs2, hip, hpR, hf, by rw [nI_1], rfl, hv, ?_, ⟨hP1.keep kR (nk k 8 hP1.1 (by decide)), hR1.keep kR (nk r 2 hR1.1 (by decide)) (nk d 16 hR1.2.2.1 (by decide)), by rw [hN]; exact hlen, hod, by rw [hN]; exact hodN, hne⟩, hX.rem hP1.2.2.2.2.2.2.2.1, rfl, rfl⟩
        refine hA.step kR (nk o 2 hA.1.1 (by decide)) (nk e1 16 hA.1.2.2.1 (by decide)) (fun b hb z => z.elim (fun z => Or.inr (Or.inr (Or.inr (Or.inl z)))) (fun z => ?_))
        refine hod.elim (fun w => Or.inr (Or.inr (Or.inr (Or.inr (z.trans w))))) (fun w => absurd ?_ w)
        exact z ▸ hb
theorem u_ppack (l : Launch) : Us l yX7_pack cX7_pack 6 none 5 122 8 T_ppack := by
  intro Rc Rs av S cs sl K Kx h
  unfold T_ppack at h
  split at h
  · rename_i k_o o_o
    obtain ⟨k, rfl, h_1⟩ := pa_of h
    obtain ⟨o, rfl, h_2⟩ := pa_of h_1
    obtain ⟨r, d, e, nw, od, R, O, hp, hc, hs, hk⟩ := h_2
    refine ⟨(sp_ppack k o r d e nw od R O), c_ppack l k o r d e nw od R O, fun _ _ h9 => ⟨_, _, h9.1, h9.2.1.1⟩, ⟨rfl, hp⟩, hc, hs, fun S' h8 => by
      obtain ⟨-, h8⟩ := h8
      exact hk _ h8, fun _ _ q => q.elim⟩
  · exact h.elim
