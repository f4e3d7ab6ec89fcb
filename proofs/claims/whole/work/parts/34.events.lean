/-! ===== Events in the memory ===== -/
/-- where things lie: an event, its row of parents, its row of counts, an agent by its slot -/
abbrev GX : Type := (Nat → Nat) × (Nat → Nat) × (Nat → Nat) × (Nat → Nat)
def GX.ad (X : GX) : Nat → Nat := X.1
def GX.pw (X : GX) : Nat → Nat := X.2.1
def GX.bf (X : GX) : Nat → Nat := X.2.2.1
def GX.aa (X : GX) : Nat → Nat := X.2.2.2
def chI : Option Nat → Int32
  | some c => nI c
  | none => -1
def EvF (S : MM) (X : GX) (G : Gr) (k : Nat) : Prop := isO S 5 (X.ad k) ∧ mR S 500 (X.ad k) = some (X.aa (G.ev k).sl) ∧ mI S 501 (X.ad k) = nI (G.ev k).nu ∧ mI S 502 (X.ad k) = nI k ∧ mR S 503 (X.ad k) = some (X.pw k) ∧ isO S 23 (X.pw k) ∧ mN S (X.pw k) = (G.ev k).pr.length ∧ (∀ j, j < (G.ev k).pr.length → eR S (X.pw k) j = some (X.ad ((G.ev k).pr.getD j 0))) ∧ mR S 504 (X.ad k) = some (X.bf k) ∧ isO S 17 (X.bf k) ∧ mN S (X.bf k) = 16 ∧ (∀ s, s < 16 → s ≠ (G.ev k).sl → eI S (X.bf k) s = nI ((G.ev k).pa s)) ∧ mI S 505 (X.ad k) = chI (G.ev k).ch ∧ mI S 506 (X.ad k) = nI (G.ev k).ix ∧ ((G.ev k).ch = none → mR S 507 (X.ad k) = some (X.ad (G.ev k).tg))
def AgF (S : MM) (X : GX) (G : Gr) (s : Nat) : Prop := isO S 1 (X.aa s) ∧ mI S 100 (X.aa s) = nI (G.ag s) ∧ mI S 101 (X.aa s) = nI s
def EvT (S : MM) (X : GX) (G : Gr) : Prop := G.ok ∧ (∀ k, k < G.n → EvF S X G k) ∧ (∀ s, s < G.m → AgF S X G s) ∧ ∀ i j, i < G.n → j < G.n → X.ad i = X.ad j → i = j
section EVT
variable {S : MM} {X : GX} {G : Gr}
theorem EvT.nu (h : EvT S X G) {k : Nat} (hk : k < G.n) : (G.ev k).nu < 8192 := by
  have h1 := h.1.nu1 k hk
  have h2 := Gr.cnt_le (G := G) k (G.ev k).sl
  have h3 := h.1.hn
  omega
theorem EvT.pa (h : EvT S X G) {k : Nat} (hk : k < G.n) (s : Nat) : (G.ev k).pa s < 8192 := by
  have h1 := h.1.pa2 k s hk
  have h2 := Gr.cnt_le (G := G) k s
  have h3 := h.1.hn
  omega
theorem EvT.sl (h : EvT S X G) {k : Nat} (hk : k < G.n) : (G.ev k).sl < 16 := Nat.lt_of_lt_of_le (h.1.sl1 k hk) h.1.hm
theorem EvT.agk (h : EvT S X G) {k : Nat} (hk : k < G.n) : AgF S X G (G.ev k).sl := h.2.2.1 _ (h.1.sl1 k hk)
theorem EvT.anc (h : EvT S X G) {k s : Nat} (hk : k < G.n) (hs : s < 16) : evAnc S (X.ad k) (X.aa (G.ev k).sl) (X.bf k) (nI s) = nI ((G.ev k).pa s) := by
  obtain ⟨a1, a2, a3, a4, a5, a6, a7, a8, a9, a10, a11, a12, a13, a14, a15⟩ := h.2.1 k hk
  obtain ⟨g1, g2, g3⟩ := h.agk hk
  have hsl := h.sl hk
  rw [evAnc, g3]
  by_cases z : s = (G.ev k).sl
  · rw [if_pos (by rw [z]), a3, z, h.1.pa1 k hk]
  · rw [if_neg (fun e => z ((nI_eq (by omega) (by omega)).1 e)), nI_clamp (by omega), a12 s hs z]
/-- what a call of ancestorsOf asks -/
theorem EvT.ancP (h : EvT S X G) {k s : Nat} (hk : k < G.n) (hs : s < 16) : isO S 5 (X.ad k) ∧ mR S 500 (X.ad k) = some (X.aa (G.ev k).sl) ∧ isO S 1 (X.aa (G.ev k).sl) ∧ mR S 504 (X.ad k) = some (X.bf k) ∧ isO S 17 (X.bf k) ∧ (¬ nI s = mI S 101 (X.aa (G.ev k).sl) → inR S (X.bf k) (nI s)) := by
  obtain ⟨a1, a2, a3, a4, a5, a6, a7, a8, a9, a10, a11, a12, a13, a14, a15⟩ := h.2.1 k hk
  exact ⟨a1, a2, (h.agk hk).1, a9, a10, fun _ => by rw [inR, a11]; exact vp_in_nI hs (by decide)⟩
theorem EvT.folP (h : EvT S X G) {i j : Nat} (hi : i < G.n) (hj : j < G.n) : isO S 5 (X.ad i) ∧ isO S 5 (X.ad j) ∧ mR S 500 (X.ad j) = some (X.aa (G.ev j).sl) ∧ isO S 1 (X.aa (G.ev j).sl) ∧ mR S 500 (X.ad i) = some (X.aa (G.ev i).sl) ∧ isO S 1 (X.aa (G.ev i).sl) ∧ mR S 504 (X.ad i) = some (X.bf i) ∧ isO S 17 (X.bf i) ∧ (¬ mI S 101 (X.aa (G.ev j).sl) = mI S 101 (X.aa (G.ev i).sl) → inR S (X.bf i) (mI S 101 (X.aa (G.ev j).sl))) := by
  obtain ⟨p1, p2, p3, p4, p5, p6⟩ := h.ancP hi (h.sl hj)
  obtain ⟨b1, b2, -⟩ := h.2.1 j hj
  obtain ⟨g1, g2, g3⟩ := h.agk hj
  exact ⟨p1, b1, b2, g1, p2, p3, p4, p5, fun z => by rw [g3] at z ⊢; exact p6 z⟩
theorem EvT.fol (h : EvT S X G) {i j : Nat} (hi : i < G.n) (hj : j < G.n) : evFol S (X.ad i) (X.aa (G.ev i).sl) (X.bf i) (X.ad j) (X.aa (G.ev j).sl) = if G.bef j i = true then 1 else 0 := by
  obtain ⟨b1, b2, b3, -⟩ := h.2.1 j hj
  obtain ⟨g1, g2, g3⟩ := h.agk hj
  have n1 := h.nu hj
  have n2 := h.pa hi (G.ev j).sl
  rw [evFol, g3, h.anc hi (h.sl hj), b3]
  by_cases z : (G.ev j).nu < (G.ev i).pa (G.ev j).sl
  · rw [if_neg (fun q => by have := (nI_leI (by omega) (by omega)).1 q; omega), if_pos (by simp only [Gr.bef, Gr.has, decide_eq_true_eq]; exact z)]
  · rw [if_pos ((nI_leI (by omega) (by omega)).2 (by omega)), if_neg (by simp only [Gr.bef, Gr.has, decide_eq_true_eq]; exact z)]
theorem shl32 : ∀ a, a < 256 → lN a <<< ((32 : Int32).toInt64 &&& 63) = lN (a * 4294967296) := by decide +kernel
theorem EvT.key_lt (h : EvT S X G) {k : Nat} (hk : k < G.n) : G.key k < 9223372036854775807 := by
  have n1 := h.nu hk
  have n2 := h.1.ag1 _ (h.1.sl1 k hk)
  rw [Gr.key]; omega
theorem EvT.id (h : EvT S X G) {k : Nat} (hk : k < G.n) : evId S (X.ad k) (X.aa (G.ev k).sl) = lN (G.key k) := by
  obtain ⟨b1, b2, b3, -⟩ := h.2.1 k hk
  obtain ⟨g1, g2, g3⟩ := h.agk hk
  have n1 := h.nu hk
  have n2 := h.1.ag1 _ (h.1.sl1 k hk)
  rw [evId, g2, b3, nI_l (by omega), nI_l (by omega), shl32 _ n2, lN_add, Gr.key]
theorem lNk {a b : Nat} (ha : a < 9223372036854775807) (hb : b < 9223372036854775807) : (lN a < lN b ↔ a < b) ∧ (lN a ≤ lN b ↔ a ≤ b) ∧ (lN a = lN b ↔ a = b) := by
  have e : ∀ n, n < 9223372036854775807 → (lN n).toInt = (n : Int) := fun n hn => Int64.toInt_ofNat_of_lt (by omega)
  rw [Int64.lt_iff_toInt_lt, Int64.le_iff_toInt_le, ← Int64.toInt_inj, e a ha, e b hb]
  omega
theorem EvT.idA (h : EvT S X G) {k : Nat} (hk : k < G.n) : idA S (X.ad k) = lN (G.key k) := by
  obtain ⟨b1, b2, -⟩ := h.2.1 k hk
  show evId S (X.ad k) ((mR S 500 (X.ad k)).getD 0) = _
  rw [b2]
  exact h.id hk
theorem EvT.hasG (h : EvT S X G) {k : Nat} (hk : k < G.n) : hasG S (X.ad k) := by
  obtain ⟨b1, b2, -⟩ := h.2.1 k hk
  exact ⟨b1, _, b2, (h.agk hk).1⟩
theorem EvT.ltA (h : EvT S X G) {e k : Nat} (he : e < G.n) (hk : k < G.n) : ltA S (X.ad e) (X.ad k) = decide (G.key k < G.key e) := by
  show decide (_ < _) = _
  rw [h.idA he, h.idA hk]
  exact decide_eq_decide.2 (lNk (h.key_lt hk) (h.key_lt he)).1
end EVT
/-- a row with events, by their places -/
def RwE (S : MM) (X : GX) (G : Gr) (r : Nat) (P : List Nat) : Prop := isO S 23 r ∧ P.length ≤ mN S r ∧ mN S r ≤ 100000 ∧ ∀ j, j < P.length → eR S r j = some (X.ad (P.getD j 0)) ∧ P.getD j 0 < G.n
/-- two of them are the same, or one is the other's ancestor -/
def rel2 (G : Gr) (i j : Nat) : Prop := i = j ∨ G.bef j i = true ∨ G.bef i j = true
def relP (G : Gr) (P : List Nat) : Prop := ∃ k, k < P.length ∧ ∃ j, j < k ∧ rel2 G (P.getD j 0) (P.getD k 0)
def I_ar1 (r : Nat) (G : Gr) (P : List Nat) (S : MM) (t : Nat) : KT := fun lo st S1 cs sl => ∃ k, t = (P.length - k) * 1000000 + 999999 ∧ k ≤ P.length ∧ (∀ k1, k1 < k → ∀ j, j < k1 → ¬ rel2 G (P.getD j 0) (P.getD k1 0)) ∧ lo = [(2, .inl (nI k)), (1, .inl (nI P.length)), (0, .inr (.inr (some r)))] ∧ st = [] ∧ S = S1 ∧ cs = 0 ∧ sl = 0
def I_ar2 (r : Nat) (G : Gr) (P : List Nat) (S : MM) (t : Nat) : KT := fun lo st S1 cs sl => ∃ k j, t = (P.length - k) * 1000000 + (k - j) ∧ k < P.length ∧ j ≤ k ∧ (∀ k1, k1 < k → ∀ j, j < k1 → ¬ rel2 G (P.getD j 0) (P.getD k1 0)) ∧ (∀ j1, j1 < j → ¬ rel2 G (P.getD j1 0) (P.getD k 0)) ∧ lo = [(3, .inl (nI j)), (2, .inl (nI k)), (1, .inl (nI P.length)), (0, .inr (.inr (some r)))] ∧ st = [] ∧ S = S1 ∧ cs = 0 ∧ sl = 0
def T_garl : TR := fun Rc Rs av S cs sl K _Kx => match av with
  | [.inr (.inr r_o), .inl n_v] => pa r_o fun r => (∃ (n : Nat), n_v = nI n ∧ (∃ (X : GX) (G : Gr) (P : List Nat), (EvT S X G ∧ RwE S X G r P ∧ n = P.length) ∧ cs ≤ Rc ∧ sl ≤ Rs ∧ (K (some (.inl (tf (relP G P)))) S cs sl)))
  | _ => False
def sp_garl (r : Nat) (n : Nat) (X : GX) (G : Gr) (P : List Nat) : Sp := (fun av S => av = [.inr (.inr (some r)), .inl (nI n)] ∧ (EvT S X G ∧ RwE S X G r P ∧ n = P.length), fun _ S => 0, fun _ S => 0, fun _ S rv S' => rv = (some (.inl (tf (relP G P)))) ∧ S' = S, fun _ _ _ _ => False)
def tX5_areRelated : CD := [(0, .iconst 0), (1, .istore_n 2), (2, .iload_n 2), (3, .iload_n 1), (4, .if_icmp .ge 57), (7, .iconst 0), (8, .istore_n 3), (9, .iload_n 3), (10, .iload_n 2), (11, .if_icmp .ge 44), (14, .aload_n 0), (15, .iload_n 3), (16, .aaload), (17, .aload_n 0), (18, .iload_n 2), (19, .aaload), (20, .if_acmp .eq 27), (23, .aload_n 0), (24, .iload_n 3), (25, .aaload), (26, .aload_n 0), (27, .iload_n 2), (28, .aaload), (29, .invokevirtual 108), (32, .ifCond .ne 15), (35, .aload_n 0), (36, .iload_n 2), (37, .aaload), (38, .aload_n 0), (39, .iload_n 3), (40, .aaload), (41, .invokevirtual 108), (44, .ifCond .eq 5), (47, .iconst 1), (48, .ireturn), (49, .iinc 3 1), (52, .goto (-43)), (55, .iinc 2 1), (58, .goto (-56)), (61, .iconst 0), (62, .ireturn)]
set_option maxRecDepth 100000 in
theorem kX5_areRelated : chk cX5_areRelated tX5_areRelated = true := by decide +kernel
theorem vX5_areRelated_108 : ∀ w ∈ ([.methodLink RX5 108 yX4_follows, .instanceMethod yX4_follows, .selects yX4_follows.cls yX4_follows yX4_follows, .initialized yX4_follows.cls, .code yX4_follows cX4_follows 2 (some .boolean)] : List Cond), w ∈ lw_good := List.forall_mem_cons.mpr ⟨mgd 1574 (by decide +kernel) (by decide +kernel), List.forall_mem_cons.mpr ⟨mgd 1224 (by decide +kernel) (by decide +kernel), List.forall_mem_cons.mpr ⟨mgd 1225 (by decide +kernel) (by decide +kernel), List.forall_mem_cons.mpr ⟨mgd 126 (by decide +kernel) (by decide +kernel), List.forall_mem_cons.mpr ⟨mgd 1226 (by decide +kernel) (by decide +kernel), fun _ h => absurd h List.not_mem_nil⟩⟩⟩⟩⟩
set_option maxRecDepth 100000 in
set_option maxHeartbeats 2000000 in
theorem c_garl (l : Launch) : ∀ (r : Nat) (n : Nat) (X : GX) (G : Gr) (P : List Nat), Ct l yX5_areRelated cX5_areRelated 4 (some .boolean) 2 42 (sp_garl r n X G P) := by
  intro r n X G P
  refine Ct.of (fX5, nX5, aX5, iX5, lX5, [(108, 0, 2, 1, T_fol)], qX5, gX5, []) false tX5_areRelated (fun _ S => look [(2, ([2,1,0], I_ar1 r G P S)), (9, ([3,2,1,0], I_ar2 r G P S))]) (by decide) (by decide) kX5_areRelated ⟨_, _, rfl⟩ fX5_ok nX5_ok aX5_ok iX5_ok lX5_ok (fun p e R s m args below meth c Q D cy z r A C hR1 hR2 => List.forall_mem_cons.mpr ⟨cOK_use (fun _ _ _ _ _ _ _ _ h => let ⟨sp, h1, h2, h3⟩ := u_fol l _ _ _ _ _ _ _ _ h; ⟨sp, cOK_V C h1 vX5_areRelated_108 ⟨by decide, by decide, by decide +kernel⟩ ⟨by rw [hR1]; decide, by rw [hR2]; decide⟩ (k := 5) (T := TX4) (N := 16) rfl (by decide) h2, h3⟩), fun _ h => absurd h List.not_mem_nil⟩) qX5_ok gX5_ok rfl ?_ ?_
  · rintro _ S ⟨rfl, hp⟩
    refine ⟨Nat.le_of_ble_eq_true rfl, 300, ?_⟩
    show (∃ k1, I_ar1 r G P S k1 [(2, .inl (0 : Int32)), (1, .inl (nI n)), (0, .inr (.inr (some r)))] [] S 0 0)
    obtain ⟨h1, h2, rfl⟩ := hp
    exact ⟨(P.length - 0) * 1000000 + 999999, 0, rfl, Nat.zero_le _, fun k hk => absurd hk (Nat.not_lt_zero _), rfl, rfl, rfl, rfl, rfl⟩
  · intro av S hpre pc I hI k lo st S1 cs sl h
    obtain ⟨rfl, hp⟩ := hpre
    have hm := look_in hI
    simp only [List.mem_cons, List.not_mem_nil, or_false] at hm
    rcases hm with hm | hm
    · cases hm
      obtain ⟨k, rfl, hk, hA, rfl, rfl, rfl, rfl, rfl⟩ := h
      refine ⟨300, ?_⟩
      show (((nI P.length) ≤ (nI k) → (([] : List MV) = [] ∧ mret (some .boolean) (sp_garl r n X G P) [.inr (.inr (some r)), .inl (nI n)] S (some (.inl (0 : Int32))) S 0 0)) ∧ (¬ (nI P.length) ≤ (nI k) → (∃ k1, k1 < ((P.length - k) * 1000000 + 999999) ∧ I_ar2 r G P S k1 [(3, .inl (0 : Int32)), (2, .inl (nI k)), (1, .inl (nI P.length)), (0, .inr (.inr (some r)))] [] S 0 0)))
      obtain ⟨h1, h2, rfl⟩ := hp
      have hl : P.length ≤ 100000 := Nat.le_trans h2.2.1 h2.2.2.1
      refine if_le (by omega) (by omega) (fun z => ⟨rfl, Or.inl rfl, ⟨ret_f ?_ rfl, rfl⟩, Nat.le_refl _, Nat.le_refl _⟩) (fun z => ⟨(P.length - k) * 1000000 + (k - 0), by omega, k, 0, rfl, z, Nat.zero_le _, hA, fun j hj => absurd hj (Nat.not_lt_zero _), rfl, rfl, rfl, rfl, rfl⟩)
      rintro ⟨k1, g1, j, g2, g3⟩
      exact hA k1 (by omega) j g2 g3
    · cases hm
      obtain ⟨k, j, rfl, hk, hj, hA, hC, rfl, rfl, rfl, rfl, rfl⟩ := h
      refine ⟨300, ?_⟩
      show (((nI k) ≤ (nI j) → (∃ k1, k1 < ((P.length - k) * 1000000 + (k - j)) ∧ I_ar1 r G P S k1 [(2, .inl ((nI k) + (1 : Int32))), (1, .inl (nI P.length)), (0, .inr (.inr (some r)))] [] S 0 0)) ∧ (¬ (nI k) ≤ (nI j) → (r ∈ mL S ∧ ¬ mK S r < 21 ∧ mK S r < 29 ∧ inR S r (nI j) ∧ (r ∈ mL S ∧ ¬ mK S r < 21 ∧ mK S r < 29 ∧ inR S r (nI k) ∧ (((eR S r (nI j).toNatClampNeg) = (eR S r (nI k).toNatClampNeg) → (([] : List MV) = [] ∧ mret (some .boolean) (sp_garl r n X G P) [.inr (.inr (some r)), .inl (nI n)] S (some (.inl (1 : Int32))) S 0 0)) ∧ (¬ (eR S r (nI j).toNatClampNeg) = (eR S r (nI k).toNatClampNeg) → (r ∈ mL S ∧ ¬ mK S r < 21 ∧ mK S r < 29 ∧ inR S r (nI j) ∧ (r ∈ mL S ∧ ¬ mK S r < 21 ∧ mK S r < 29 ∧ inR S r (nI k) ∧ (0 = 0 ∧ ((pa (eR S r (nI j).toNatClampNeg) fun a_1 => ((pa (eR S r (nI k).toNatClampNeg) fun a_2 => (∃ (g_3 b_4 h_5 : Nat), (isO S 5 a_1 ∧ isO S 5 a_2 ∧ mR S 500 a_2 = some h_5 ∧ isO S 1 h_5 ∧ mR S 500 a_1 = some g_3 ∧ isO S 1 g_3 ∧ mR S 504 a_1 = some b_4 ∧ isO S 17 b_4 ∧ (¬ mI S 101 h_5 = mI S 101 g_3 → inR S b_4 (mI S 101 h_5))) ∧ 0 ≤ 0 ∧ 0 ≤ 0 ∧ (((¬ (evFol S a_1 g_3 b_4 a_2 h_5) = 0 → (([] : List MV) = [] ∧ mret (some .boolean) (sp_garl r n X G P) [.inr (.inr (some r)), .inl (nI n)] S (some (.inl (1 : Int32))) S 0 0)) ∧ ((evFol S a_1 g_3 b_4 a_2 h_5) = 0 → (r ∈ mL S ∧ ¬ mK S r < 21 ∧ mK S r < 29 ∧ inR S r (nI k) ∧ (r ∈ mL S ∧ ¬ mK S r < 21 ∧ mK S r < 29 ∧ inR S r (nI j) ∧ (0 = 0 ∧ ((pa (eR S r (nI k).toNatClampNeg) fun a_7 => ((pa (eR S r (nI j).toNatClampNeg) fun a_8 => (∃ (g_9 b_10 h_11 : Nat), (isO S 5 a_7 ∧ isO S 5 a_8 ∧ mR S 500 a_8 = some h_11 ∧ isO S 1 h_11 ∧ mR S 500 a_7 = some g_9 ∧ isO S 1 g_9 ∧ mR S 504 a_7 = some b_10 ∧ isO S 17 b_10 ∧ (¬ mI S 101 h_11 = mI S 101 g_9 → inR S b_10 (mI S 101 h_11))) ∧ 0 ≤ 0 ∧ 0 ≤ 0 ∧ ((((evFol S a_7 g_9 b_10 a_8 h_11) = 0 → (∃ k1, k1 < ((P.length - k) * 1000000 + (k - j)) ∧ I_ar2 r G P S k1 [(3, .inl ((nI j) + (1 : Int32))), (2, .inl (nI k)), (1, .inl (nI P.length)), (0, .inr (.inr (some r)))] [] S 0 0)) ∧ (¬ (evFol S a_7 g_9 b_10 a_8 h_11) = 0 → (([] : List MV) = [] ∧ mret (some .boolean) (sp_garl r n X G P) [.inr (.inr (some r)), .inl (nI n)] S (some (.inl (1 : Int32))) S 0 0)))))))))))))))))))))))))))))
      obtain ⟨h1, ⟨r1, r2, r3, r4⟩, rfl⟩ := hp
      refine if_le (by omega) (by omega) (fun z => ⟨(P.length - (k + 1)) * 1000000 + 999999, by omega, k + 1, rfl, by omega, fun k1 g1 j1 g2 g3 => ?_, by rw [nI_1], rfl, rfl, rfl, rfl⟩) (fun z => ?_)
      · by_cases w : k1 = k
        · subst w; exact hC j1 (by omega) g3
        · exact hA k1 (by omega) j1 g2 g3
      obtain ⟨e1, e2⟩ := r4 j (by omega)
      obtain ⟨e3, e4⟩ := r4 k hk
      have in1 : inR S r (nI j) := vp_in_nI (by omega) (by omega)
      have in2 : inR S r (nI k) := vp_in_nI (by omega) (by omega)
      have m1 : ¬ mK S r < 21 := by rw [r1.2]; decide
      have m2 : mK S r < 29 := by rw [r1.2]; decide
      rw [nI_clamp (by omega), nI_clamp (by omega), e1, e3]
      have yes : rel2 G (P.getD j 0) (P.getD k 0) → mret (some .boolean) (sp_garl r P.length X G P) [.inr (.inr (some r)), .inl (nI P.length)] S (some (.inl (1 : Int32))) S 0 0 := fun q => ⟨Or.inr rfl, ⟨ret_t ⟨k, hk, j, z, q⟩ rfl, rfl⟩, Nat.le_refl _, Nat.le_refl _⟩
      refine ⟨r1.1, m1, m2, in1, r1.1, m1, m2, in2, fun q => ⟨rfl, yes (Or.inl (h1.2.2.2 _ _ e2 e4 (Option.some.inj q)))⟩, fun q => ⟨r1.1, m1, m2, in1, r1.1, m1, m2, in2, rfl, _, _, _, h1.folP e2 e4, Nat.le_refl _, Nat.le_refl _, ?_⟩⟩
      rw [h1.fol e2 e4]
      refine ⟨fun u => ⟨rfl, yes (Or.inr (Or.inl ?_))⟩, fun u => ⟨r1.1, m1, m2, in2, r1.1, m1, m2, in1, rfl, _, _, _, h1.folP e4 e2, Nat.le_refl _, Nat.le_refl _, ?_⟩⟩
      · by_cases v : G.bef (P.getD k 0) (P.getD j 0) = true
        · exact v
        · rw [if_neg v] at u; exact absurd rfl u
      rw [h1.fol e4 e2]
      refine ⟨fun v => ⟨(P.length - k) * 1000000 + (k - (j + 1)), by omega, k, j + 1, rfl, hk, by omega, hA, fun j1 g1 g2 => ?_, by rw [nI_1], rfl, rfl, rfl, rfl⟩, fun v => ⟨rfl, yes (Or.inr (Or.inr ?_))⟩⟩
      · by_cases w : j1 = j
        · subst w
          rcases g2 with g2 | g2 | g2
          · exact q (by rw [g2])
          · rw [if_pos g2] at u; cases u
          · rw [if_pos g2] at v; cases v
        · exact hC j1 (by omega) g2
      · by_cases w : G.bef (P.getD j 0) (P.getD k 0) = true
        · exact w
        · rw [if_neg w] at v; exact absurd rfl v
theorem u_garl (l : Launch) : Us l yX5_areRelated cX5_areRelated 4 (some .boolean) 2 42 99 T_garl := by
  intro Rc Rs av S cs sl K Kx h
  unfold T_garl at h
  split at h
  · rename_i r_o n_v
    obtain ⟨r, rfl, h_1⟩ := pa_of h
    obtain ⟨n, rfl, h_2⟩ := h_1
    obtain ⟨X, G, P, hp, hc, hs, hk⟩ := h_2
    refine ⟨(sp_garl r n X G P), c_garl l r n X G P, fun _ _ _ => trivial, ⟨rfl, hp⟩, hc, hs, fun v9 S' h8 => by
      obtain ⟨h7, h8⟩ := h8
      cases h7
      subst h8
      exact hk, fun _ _ q => q.elim⟩
  · exact h.elim
/-! ===== sorted ===== -/
theorem rR_id {S : MM} {a : Nat} {f : Nat → Option Nat} (h : eR S a = f) : rR S a f = S := by
  have e : va_up (eR S) a f = eR S := by
    funext b
    show (if b = a then f else eR S b) = eR S b
    split
    · rename_i h1
      rw [h1, h]
    · rfl
  show (mL S, mK S, mI S, mR S, mJ S, mN S, eI S, eJ S, va_up (eR S) a f, mZ S, mQ S) = _
  rw [e]
  rfl
/-- a new row of n places for events with what f says -/
def nwE (S : MM) (q n : Nat) (f : Nat → Option Nat) : MM := rR (nA S q 23 n) q f
theorem nwE_keep {P : Nat → Prop} {S : MM} {q n : Nat} {f : Nat → Option Nat} (hq : q ∉ mL S) : Keep P S (nwE S q n f) := by
  refine ⟨fun b hb => ⟨List.mem_append_left _ hb, va_up_ne _ _ (fun (e : b = q) => hq (e ▸ hb)), va_up_ne _ _ (fun (e : b = q) => hq (e ▸ hb))⟩, fun b hb _ => ?_, rfl, rfl⟩
  have hbq : b ≠ q := fun e => hq (e ▸ hb)
  exact ⟨fun _ => rfl, fun _ => rfl, fun _ => rfl, by show va_up _ _ _ b = _; rw [va_up_ne _ _ hbq], by show va_up _ _ _ b = _; rw [va_up_ne _ _ hbq], by show va_up _ _ _ b = _; rw [va_up_ne _ _ hbq]; show va_up _ _ _ b = _; rw [va_up_ne _ _ hbq]⟩
theorem nwE_q {S : MM} {q n : Nat} {f : Nat → Option Nat} : isO (nwE S q n f) 23 q ∧ mN (nwE S q n f) q = n ∧ eR (nwE S q n f) q = f := ⟨⟨List.mem_append_right _ (List.mem_singleton.mpr rfl), va_up_self _ _ _⟩, va_up_self _ _ _, va_up_self _ _ _⟩
theorem nwE_up {S : MM} {q n j : Nat} {f : Nat → Option Nat} {v : Option Nat} : rR (nwE S q n f) q (va_up (eR (nwE S q n f) q) j v) = nwE S q n (va_up f j v) := by
  rw [nwE_q.2.2, nwE, nwE, rR_rR]
theorem getD_el {L : List Nat} {j : Nat} (h : j < L.length) : L.getD j 0 = L[j] := by
  rw [List.getD_eq_getElem?_getD, List.getElem?_eq_getElem h]; rfl
theorem getD_q (L : List Nat) (j : Nat) : L.getD j 0 = (L[j]?).getD 0 := List.getD_eq_getElem?_getD ..
theorem nwE_up2 {S : MM} {q n j : Nat} {f : Nat → Option Nat} {v : Option Nat} : rR (nwE S q n f) q (va_up f j v) = nwE S q n (va_up f j v) := by
  rw [nwE, nwE, rR_rR]
theorem EvF.keep {P : Nat → Prop} {S S' : MM} {X : GX} {G : Gr} {k : Nat} (h : EvF S X G k) (hk : Keep P S S') (h1 : ¬ P (X.ad k)) (h2 : ¬ P (X.pw k)) (h3 : ¬ P (X.bf k)) : EvF S' X G k := by
  obtain ⟨a1, a2, a3, a4, a5, a6, a7, a8, a9, a10, a11, a12, a13, a14, a15⟩ := h
  obtain ⟨i1, r1, -⟩ := hk.2.1 _ a1.1 h1
  obtain ⟨-, -, -, -, -, e2⟩ := hk.2.1 _ a6.1 h2
  obtain ⟨-, -, -, e3, -⟩ := hk.2.1 _ a10.1 h3
  exact ⟨hk.isO a1, by rw [r1]; exact a2, by rw [i1]; exact a3, by rw [i1]; exact a4, by rw [r1]; exact a5, hk.isO a6, by rw [(hk.1 _ a6.1).2.2]; exact a7, fun j hj => by rw [e2]; exact a8 j hj, by rw [r1]; exact a9, hk.isO a10, by rw [(hk.1 _ a10.1).2.2]; exact a11, fun t ht hn => by rw [e3]; exact a12 t ht hn, by rw [i1]; exact a13, by rw [i1]; exact a14, fun hc => by rw [r1]; exact a15 hc⟩
theorem AgF.keep {P : Nat → Prop} {S S' : MM} {X : GX} {G : Gr} {s : Nat} (h : AgF S X G s) (hk : Keep P S S') (h1 : ¬ P (X.aa s)) : AgF S' X G s := by
  obtain ⟨a1, a2, a3⟩ := h
  obtain ⟨i1, -⟩ := hk.2.1 _ a1.1 h1
  exact ⟨hk.isO a1, by rw [i1]; exact a2, by rw [i1]; exact a3⟩
theorem EvT.keep {P : Nat → Prop} {S S' : MM} {X : GX} {G : Gr} (h : EvT S X G) (hk : Keep P S S') (h1 : ∀ k, k < G.n → ¬ P (X.ad k) ∧ ¬ P (X.pw k) ∧ ¬ P (X.bf k)) (h2 : ∀ s, s < G.m → ¬ P (X.aa s)) : EvT S' X G :=
  ⟨h.1, fun k q => (h.2.1 k q).keep hk (h1 k q).1 (h1 k q).2.1 (h1 k q).2.2, fun s q => (h.2.2.1 s q).keep hk (h2 s q), h.2.2.2⟩
/-- the first k of P, by their keys -/
def SrtK (G : Gr) (P L : List Nat) (k : Nat) : Prop := L.length = k ∧ (∀ x, x ∈ L ↔ x ∈ P.take k) ∧ L.Pairwise (fun p q => G.key p < G.key q)
theorem SrtK.ins {G : Gr} {P L : List Nat} {k h : Nat} (hs : SrtK G P L k) (hk : k < P.length) (hh : h ≤ k) (h1 : ∀ j, j < h → G.key (L.getD j 0) < G.key (P.getD k 0)) (h2 : ∀ j, h ≤ j → j < k → G.key (P.getD k 0) < G.key (L.getD j 0)) : SrtK G P (L.take h ++ P.getD k 0 :: L.drop h) (k + 1) := by
  obtain ⟨a1, a2, a3⟩ := hs
  have hx : ∀ z, z ∈ L.take h → G.key z < G.key (P.getD k 0) := by
    intro z hz
    obtain ⟨j, g1, g2⟩ := List.mem_iff_getElem.1 hz
    rw [List.length_take] at g1
    have := h1 j (by omega)
    rw [List.getElem_take] at g2
    rw [getD_el (L := L) (j := j) (by omega), g2] at this
    exact this
  have hy : ∀ z, z ∈ L.drop h → G.key (P.getD k 0) < G.key z := by
    intro z hz
    obtain ⟨j, g1, g2⟩ := List.mem_iff_getElem.1 hz
    rw [List.length_drop] at g1
    have := h2 (h + j) (by omega) (by omega)
    rw [List.getElem_drop] at g2
    rw [getD_el (L := L) (j := h + j) (by omega), g2] at this
    exact this
  refine ⟨by rw [List.length_append, List.length_cons, List.length_take, List.length_drop]; omega, fun x => ?_, ?_⟩
  · rw [List.take_succ_eq_append_getElem hk, List.mem_append, List.mem_append, List.mem_cons, ← a2, List.mem_singleton]
    have e : P.getD k 0 = P[k] := getD_el hk
    rw [e]
    constructor
    · rintro (z | z | z)
      · exact Or.inl (List.mem_of_mem_take z)
      · exact Or.inr z
      · exact Or.inl (List.mem_of_mem_drop z)
    · rintro (z | z)
      · rw [← List.take_append_drop h L, List.mem_append] at z
        exact z.elim Or.inl (fun w => Or.inr (Or.inr w))
      · exact Or.inr (Or.inl z)
  · rw [List.pairwise_append, List.pairwise_cons]
    refine ⟨List.Pairwise.sublist (List.take_sublist _ _) a3, ⟨hy, List.Pairwise.sublist (List.drop_sublist _ _) a3⟩, fun u hu v hv => ?_⟩
    rcases List.mem_cons.1 hv with w | w
    · rw [w]; exact hx u hu
    · exact Nat.lt_trans (hx u hu) (hy v w)
def I_so1 (r n : Nat) (X : GX) (G : Gr) (P : List Nat) (S : MM) (t : Nat) : KT := fun lo st S1 cs sl => ∃ k q f L, t = (n - k) * 1000000 + 999999 ∧ k ≤ n ∧ q ∉ mL S ∧ SrtK G P L k ∧ (∀ j, j < k → f j = some (X.ad (L.getD j 0))) ∧ lo = [(3, .inl (nI k)), (2, .inr (.inr (some q))), (1, .inl (nI n)), (0, .inr (.inr (some r)))] ∧ st = [] ∧ S1 = nwE S q n f ∧ cs = 1 ∧ n = sl
def I_so2 (r n : Nat) (X : GX) (G : Gr) (P : List Nat) (S : MM) (t : Nat) : KT := fun lo st S1 cs sl => ∃ k h q f L, t = (n - k) * 1000000 + h ∧ k < n ∧ h ≤ k ∧ q ∉ mL S ∧ SrtK G P L k ∧ (∀ j, j < h → f j = some (X.ad (L.getD j 0))) ∧ (∀ j, h ≤ j → j < k → f (j + 1) = some (X.ad (L.getD j 0)) ∧ G.key (P.getD k 0) < G.key (L.getD j 0)) ∧ lo = [(4, .inl (nI h)), (3, .inl (nI k)), (2, .inr (.inr (some q))), (1, .inl (nI n)), (0, .inr (.inr (some r)))] ∧ st = [] ∧ S1 = nwE S q n f ∧ cs = 1 ∧ n = sl
def soP (S S' : MM) (X : GX) (G : Gr) (P : List Nat) (n : Nat) (v : Option Nat) : Prop := ∃ q f L, v = some q ∧ q ∉ mL S ∧ S' = nwE S q n f ∧ SrtK G P L n ∧ ∀ j, j < n → f j = some (X.ad (L.getD j 0))
def T_gso : TR := fun Rc Rs av S cs sl K _Kx => match av with
  | [.inr (.inr r_o), .inl n_v] => pa r_o fun r => (∃ (n : Nat), n_v = nI n ∧ (∃ (X : GX) (G : Gr) (P : List Nat), (EvT S X G ∧ RwE S X G r P ∧ n = P.length ∧ P.Nodup) ∧ cs + 1 ≤ Rc ∧ sl + n ≤ Rs ∧ (∀ (v : Option Nat) (S' : MM), (soP S S' X G P n v) → K (some (.inr (.inr v))) S' (cs + 1) (sl + n))))
  | _ => False
def sp_gso (r : Nat) (n : Nat) (X : GX) (G : Gr) (P : List Nat) : Sp := (fun av S => av = [.inr (.inr (some r)), .inl (nI n)] ∧ (EvT S X G ∧ RwE S X G r P ∧ n = P.length ∧ P.Nodup), fun _ S => 1, fun _ S => n, fun _ S rv S' => ∃ v, rv = (some (.inr (.inr v))) ∧ (soP S S' X G P n v), fun _ _ _ _ => False)
def tX5_sorted : CD := [(0, .iload_n 1), (1, .anewarray 9), (4, .astore_n 2), (5, .iconst 0), (6, .istore_n 3), (7, .iload_n 3), (8, .iload_n 1), (9, .if_icmp .ge 59), (12, .iload_n 3), (13, .istore 4), (15, .iload 4), (17, .ifCond .le 38), (20, .aload_n 2), (21, .iload 4), (23, .iconst 1), (24, .isub), (25, .aaload), (26, .invokevirtual 112), (29, .aload_n 0), (30, .iload_n 3), (31, .aaload), (32, .invokevirtual 112), (35, .lcmp), (36, .ifCond .le 19), (39, .aload_n 2), (40, .iload 4), (42, .aload_n 2), (43, .iload 4), (45, .iconst 1), (46, .isub), (47, .aaload), (48, .aastore), (49, .iinc 4 (-1)), (52, .goto (-37)), (55, .aload_n 2), (56, .iload 4), (58, .aload_n 0), (59, .iload_n 3), (60, .aaload), (61, .aastore), (62, .iinc 3 1), (65, .goto (-58)), (68, .aload_n 2), (69, .areturn)]
set_option maxRecDepth 100000 in
theorem kX5_sorted : chk cX5_sorted tX5_sorted = true := by decide +kernel
theorem vX5_sorted_112 : ∀ w ∈ ([.methodLink RX5 112 yX4_id, .instanceMethod yX4_id, .selects yX4_id.cls yX4_id yX4_id, .initialized yX4_id.cls, .code yX4_id cX4_id 1 (some .long)] : List Cond), w ∈ lw_good := List.forall_mem_cons.mpr ⟨mgd 910 (by decide +kernel) (by decide +kernel), List.forall_mem_cons.mpr ⟨mgd 911 (by decide +kernel) (by decide +kernel), List.forall_mem_cons.mpr ⟨mgd 912 (by decide +kernel) (by decide +kernel), List.forall_mem_cons.mpr ⟨mgd 126 (by decide +kernel) (by decide +kernel), List.forall_mem_cons.mpr ⟨mgd 913 (by decide +kernel) (by decide +kernel), fun _ h => absurd h List.not_mem_nil⟩⟩⟩⟩⟩
set_option maxRecDepth 100000 in
set_option maxHeartbeats 2000000 in
theorem c_gso (l : Launch) : ∀ (r : Nat) (n : Nat) (X : GX) (G : Gr) (P : List Nat), Ct l yX5_sorted cX5_sorted 5 (some (.array (.object "WeaveText$Event"))) 1 20 (sp_gso r n X G P) := by
  intro r n X G P
  refine Ct.of (fX5, nX5, aX5, iX5, lX5, [(112, 0, 1, 2, T_eid)], qX5, gX5, []) false tX5_sorted (fun _ S => look [(7, ([3,2,1,0], I_so1 r n X G P S)), (15, ([4,3,2,1,0], I_so2 r n X G P S))]) (by decide) (by decide) kX5_sorted ⟨_, _, rfl⟩ fX5_ok nX5_ok aX5_ok iX5_ok lX5_ok (fun p e R s m args below meth c Q D cy z r A C hR1 hR2 => List.forall_mem_cons.mpr ⟨cOK_use (fun _ _ _ _ _ _ _ _ h => let ⟨sp, h1, h2, h3⟩ := u_eid l _ _ _ _ _ _ _ _ h; ⟨sp, cOK_V C h1 vX5_sorted_112 ⟨by decide, by decide, by decide +kernel⟩ ⟨by rw [hR1]; decide, by rw [hR2]; decide⟩ (k := 5) (T := TX4) (N := 16) rfl (by decide) h2, h3⟩), fun _ h => absurd h List.not_mem_nil⟩) qX5_ok gX5_ok rfl ?_ ?_
  · rintro _ S ⟨rfl, hp⟩
    refine ⟨Nat.le_of_ble_eq_true rfl, 300, ?_⟩
    show (¬ (nI n) < 0 ∧ (nI n).toNatClampNeg * 8 ≤ 536870912 ∧ 0 + 1 ≤ 1 ∧ 0 + (nI n).toNatClampNeg ≤ n ∧ ∀ q_1, q_1 ∉ mL S → (∃ k1, I_so1 r n X G P S k1 [(3, .inl (0 : Int32)), (2, .inr (.inr (some q_1))), (1, .inl (nI n)), (0, .inr (.inr (some r)))] [] (nA S q_1 23 (nI n).toNatClampNeg) (0 + 1) (0 + (nI n).toNatClampNeg)))
    obtain ⟨h1, ⟨r1, r2, r3, r4⟩, rfl, hn⟩ := hp
    rw [nI_clamp (by omega)]
    refine ⟨nI_pos (by omega), by omega, Nat.le_refl _, by omega, fun q hq => ⟨(P.length - 0) * 1000000 + 999999, 0, q, fun _ => none, [], rfl, Nat.zero_le _, hq, ⟨rfl, fun x => by simp, List.Pairwise.nil⟩, fun j hj => absurd hj (Nat.not_lt_zero _), rfl, rfl, ?_, rfl, by omega⟩⟩
    have e9 : eR (nA S q 23 P.length) q = fun _ => none := va_up_self _ _ _
    rw [nwE, rR_id e9]
  · intro av S hpre pc I hI k lo st S1 cs sl h
    obtain ⟨rfl, hp⟩ := hpre
    have hm := look_in hI
    simp only [List.mem_cons, List.not_mem_nil, or_false] at hm
    rcases hm with hm | hm
    · cases hm
      obtain ⟨k, q, f, L, rfl, hk, hq, hs, hf, rfl, rfl, rfl, rfl, rfl⟩ := h
      refine ⟨300, ?_⟩
      show (((nI n) ≤ (nI k) → (([] : List MV) = [] ∧ mret (some (.array (.object "WeaveText$Event"))) (sp_gso r n X G P) [.inr (.inr (some r)), .inl (nI n)] S (some (.inr (.inr (some q)))) (nwE S q n f) 1 n)) ∧ (¬ (nI n) ≤ (nI k) → (∃ k1, k1 < ((n - k) * 1000000 + 999999) ∧ I_so2 r n X G P S k1 [(4, .inl (nI k)), (3, .inl (nI k)), (2, .inr (.inr (some q))), (1, .inl (nI n)), (0, .inr (.inr (some r)))] [] (nwE S q n f) 1 n)))
      obtain ⟨h1, ⟨r1, r2, r3, r4⟩, rfl, hn⟩ := hp
      refine if_le (by omega) (by omega) (fun z => ⟨rfl, trivial, ⟨_, rfl, q, f, L, rfl, hq, rfl, ?_, ?_⟩, Nat.le_refl _, Nat.le_refl _⟩) (fun z => ⟨(P.length - k) * 1000000 + k, by omega, k, k, q, f, L, rfl, z, Nat.le_refl _, hq, hs, hf, fun j g1 g2 => by omega, rfl, rfl, rfl, rfl, rfl⟩)
      · rw [show P.length = k by omega]; exact hs
      · intro j hj; exact hf j (by omega)
    · cases hm
      obtain ⟨k, h, q, f, L, rfl, hk, hh, hq, hs, hf, hg, rfl, rfl, rfl, rfl, rfl⟩ := h
      refine ⟨300, ?_⟩
      show (((nI h) ≤ 0 → (r ∈ mL (nwE S q n f) ∧ ¬ mK (nwE S q n f) r < 21 ∧ mK (nwE S q n f) r < 29 ∧ inR (nwE S q n f) r (nI k) ∧ (q ∈ mL (nwE S q n f) ∧ ¬ mK (nwE S q n f) q < 21 ∧ mK (nwE S q n f) q < 29 ∧ inR (nwE S q n f) q (nI h) ∧ (∀ w_1, (eR (nwE S q n f) r (nI k).toNatClampNeg) = some w_1 → w_1 ∈ mL (nwE S q n f) ∧ (mK (nwE S q n f) q = 21 ∧ mK (nwE S q n f) w_1 = 1 ∨ mK (nwE S q n f) q = 22 ∧ mK (nwE S q n f) w_1 = 2 ∨ mK (nwE S q n f) q = 23 ∧ mK (nwE S q n f) w_1 = 5 ∨ mK (nwE S q n f) q = 24 ∧ mK (nwE S q n f) w_1 = 11 ∨ mK (nwE S q n f) q = 25 ∧ mK (nwE S q n f) w_1 = 13 ∨ mK (nwE S q n f) q = 26 ∧ (mK (nwE S q n f) w_1 = 4 ∨ mK (nwE S q n f) w_1 = 5) ∨ mK (nwE S q n f) q = 27 ∧ mK (nwE S q n f) w_1 = 16 ∨ mK (nwE S q n f) q = 28 ∧ mK (nwE S q n f) w_1 = 17)) ∧ (∃ k1, k1 < ((n - k) * 1000000 + h) ∧ I_so1 r n X G P S k1 [(3, .inl ((nI k) + (1 : Int32))), (2, .inr (.inr (some q))), (1, .inl (nI n)), (0, .inr (.inr (some r)))] [] (rR (nwE S q n f) q (va_up (eR (nwE S q n f) q) (nI h).toNatClampNeg (eR (nwE S q n f) r (nI k).toNatClampNeg))) 1 n)))) ∧ (¬ (nI h) ≤ 0 → (q ∈ mL (nwE S q n f) ∧ ¬ mK (nwE S q n f) q < 21 ∧ mK (nwE S q n f) q < 29 ∧ inR (nwE S q n f) q ((nI h) - (1 : Int32)) ∧ (0 = 0 ∧ ((pa (eR (nwE S q n f) q ((nI h) - (1 : Int32)).toNatClampNeg) fun a_2 => (∃ (g_3 : Nat), (isO (nwE S q n f) 5 a_2 ∧ mR (nwE S q n f) 500 a_2 = some g_3 ∧ isO (nwE S q n f) 1 g_3) ∧ 1 ≤ 1 ∧ n ≤ n ∧ ((r ∈ mL (nwE S q n f) ∧ ¬ mK (nwE S q n f) r < 21 ∧ mK (nwE S q n f) r < 29 ∧ inR (nwE S q n f) r (nI k) ∧ (0 = 0 ∧ ((pa (eR (nwE S q n f) r (nI k).toNatClampNeg) fun a_5 => (∃ (g_6 : Nat), (isO (nwE S q n f) 5 a_5 ∧ mR (nwE S q n f) 500 a_5 = some g_6 ∧ isO (nwE S q n f) 1 g_6) ∧ 1 ≤ 1 ∧ n ≤ n ∧ ((((lg_cmp (evId (nwE S q n f) a_2 g_3) (evId (nwE S q n f) a_5 g_6)) ≤ 0 → (r ∈ mL (nwE S q n f) ∧ ¬ mK (nwE S q n f) r < 21 ∧ mK (nwE S q n f) r < 29 ∧ inR (nwE S q n f) r (nI k) ∧ (q ∈ mL (nwE S q n f) ∧ ¬ mK (nwE S q n f) q < 21 ∧ mK (nwE S q n f) q < 29 ∧ inR (nwE S q n f) q (nI h) ∧ (∀ w_8, (eR (nwE S q n f) r (nI k).toNatClampNeg) = some w_8 → w_8 ∈ mL (nwE S q n f) ∧ (mK (nwE S q n f) q = 21 ∧ mK (nwE S q n f) w_8 = 1 ∨ mK (nwE S q n f) q = 22 ∧ mK (nwE S q n f) w_8 = 2 ∨ mK (nwE S q n f) q = 23 ∧ mK (nwE S q n f) w_8 = 5 ∨ mK (nwE S q n f) q = 24 ∧ mK (nwE S q n f) w_8 = 11 ∨ mK (nwE S q n f) q = 25 ∧ mK (nwE S q n f) w_8 = 13 ∨ mK (nwE S q n f) q = 26 ∧ (mK (nwE S q n f) w_8 = 4 ∨ mK (nwE S q n f) w_8 = 5) ∨ mK (nwE S q n f) q = 27 ∧ mK (nwE S q n f) w_8 = 16 ∨ mK (nwE S q n f) q = 28 ∧ mK (nwE S q n f) w_8 = 17)) ∧ (∃ k1, k1 < ((n - k) * 1000000 + h) ∧ I_so1 r n X G P S k1 [(3, .inl ((nI k) + (1 : Int32))), (2, .inr (.inr (some q))), (1, .inl (nI n)), (0, .inr (.inr (some r)))] [] (rR (nwE S q n f) q (va_up (eR (nwE S q n f) q) (nI h).toNatClampNeg (eR (nwE S q n f) r (nI k).toNatClampNeg))) 1 n)))) ∧ (¬ (lg_cmp (evId (nwE S q n f) a_2 g_3) (evId (nwE S q n f) a_5 g_6)) ≤ 0 → (q ∈ mL (nwE S q n f) ∧ ¬ mK (nwE S q n f) q < 21 ∧ mK (nwE S q n f) q < 29 ∧ inR (nwE S q n f) q ((nI h) - (1 : Int32)) ∧ (q ∈ mL (nwE S q n f) ∧ ¬ mK (nwE S q n f) q < 21 ∧ mK (nwE S q n f) q < 29 ∧ inR (nwE S q n f) q (nI h) ∧ (∀ w_9, (eR (nwE S q n f) q ((nI h) - (1 : Int32)).toNatClampNeg) = some w_9 → w_9 ∈ mL (nwE S q n f) ∧ (mK (nwE S q n f) q = 21 ∧ mK (nwE S q n f) w_9 = 1 ∨ mK (nwE S q n f) q = 22 ∧ mK (nwE S q n f) w_9 = 2 ∨ mK (nwE S q n f) q = 23 ∧ mK (nwE S q n f) w_9 = 5 ∨ mK (nwE S q n f) q = 24 ∧ mK (nwE S q n f) w_9 = 11 ∨ mK (nwE S q n f) q = 25 ∧ mK (nwE S q n f) w_9 = 13 ∨ mK (nwE S q n f) q = 26 ∧ (mK (nwE S q n f) w_9 = 4 ∨ mK (nwE S q n f) w_9 = 5) ∨ mK (nwE S q n f) q = 27 ∧ mK (nwE S q n f) w_9 = 16 ∨ mK (nwE S q n f) q = 28 ∧ mK (nwE S q n f) w_9 = 17)) ∧ (∃ k1, k1 < ((n - k) * 1000000 + h) ∧ I_so2 r n X G P S k1 [(4, .inl ((nI h) + (-1 : Int32))), (3, .inl (nI k)), (2, .inr (.inr (some q))), (1, .inl (nI n)), (0, .inr (.inr (some r)))] [] (rR (nwE S q n f) q (va_up (eR (nwE S q n f) q) (nI h).toNatClampNeg (eR (nwE S q n f) q ((nI h) - (1 : Int32)).toNatClampNeg))) 1 n)))))))))))))))))))
      obtain ⟨h1, ⟨r1, r2, r3, r4⟩, rfl, hn⟩ := hp
      have kp : Keep (fun _ => False) S (nwE S q P.length f) := nwE_keep hq
      have hE : EvT (nwE S q P.length f) X G := h1.keep kp (fun _ _ => ⟨fun z => z, fun z => z, fun z => z⟩) (fun _ _ z => z)
      obtain ⟨q1, q2, q3⟩ := nwE_q (S := S) (q := q) (n := P.length) (f := f)
      have rq : r ≠ q := fun e => hq (e ▸ r1.1)
      obtain ⟨e1, e2⟩ := r4 k hk
      have rO : isO (nwE S q P.length f) 23 r := kp.isO r1
      have rE : eR (nwE S q P.length f) r = eR S r := (kp.2.1 r r1.1 (fun z => z)).2.2.2.2.2
      have rN : mN (nwE S q P.length f) r = mN S r := (kp.1 r r1.1).2.2
      have hx : ∀ x, x < G.n → isO (nwE S q P.length f) 5 (X.ad x) := fun x hx => (hE.2.1 x hx).1
      have sl := hs.1
      have hLn : ∀ j, j < k → L.getD j 0 < G.n := fun j hj => by
        have g1 : L.getD j 0 ∈ L := by rw [getD_el (by omega)]; exact List.getElem_mem _
        have g2 := (hs.2.1 _).1 g1
        obtain ⟨i, g3, g4⟩ := List.mem_iff_getElem.1 (List.mem_of_mem_take g2)
        have g5 := (r4 i g3).2
        rw [getD_el g3, g4] at g5
        exact g5
      have as : ∀ x, x < G.n → (∀ w, some (X.ad x) = some w → w ∈ mL (nwE S q P.length f) ∧ (mK (nwE S q P.length f) q = 21 ∧ mK (nwE S q P.length f) w = 1 ∨ mK (nwE S q P.length f) q = 22 ∧ mK (nwE S q P.length f) w = 2 ∨ mK (nwE S q P.length f) q = 23 ∧ mK (nwE S q P.length f) w = 5 ∨ mK (nwE S q P.length f) q = 24 ∧ mK (nwE S q P.length f) w = 11 ∨ mK (nwE S q P.length f) q = 25 ∧ mK (nwE S q P.length f) w = 13 ∨ mK (nwE S q P.length f) q = 26 ∧ (mK (nwE S q P.length f) w = 4 ∨ mK (nwE S q P.length f) w = 5) ∨ mK (nwE S q P.length f) q = 27 ∧ mK (nwE S q P.length f) w = 16 ∨ mK (nwE S q P.length f) q = 28 ∧ mK (nwE S q P.length f) w = 17)) := by
        intro x hx2 w hw
        cases hw
        exact ⟨(hx x hx2).1, Or.inr (Or.inr (Or.inl ⟨q1.2, (hx x hx2).2⟩))⟩
      have m1 : ¬ mK (nwE S q P.length f) q < 21 := by rw [q1.2]; decide
      have m2 : mK (nwE S q P.length f) q < 29 := by rw [q1.2]; decide
      have m3 : mK (nwE S q P.length f) q < 29 := by rw [q1.2]; decide
      have m4 : ¬ mK (nwE S q P.length f) r < 21 := by rw [rO.2]; decide
      have m5 : mK (nwE S q P.length f) r < 29 := by rw [rO.2]; decide
      have ir : inR (nwE S q P.length f) r (nI k) := by rw [inR, rN]; exact vp_in_nI (by omega) (by omega)
      have iq : ∀ j, j ≤ k → inR (nwE S q P.length f) q (nI j) := fun j hj => by rw [inR, q2]; exact vp_in_nI (by omega) (by omega)
      rw [nI_clamp (by omega), nI_clamp (by omega), nwE_up, rE, e1]
      have done : (∀ j, j < h → G.key (L.getD j 0) < G.key (P.getD k 0)) → ∃ k1, k1 < (P.length - k) * 1000000 + h ∧ I_so1 r P.length X G P S k1 [(3, .inl (nI k + 1)), (2, .inr (.inr (some q))), (1, .inl (nI P.length)), (0, .inr (.inr (some r)))] [] (nwE S q P.length (va_up f h (some (X.ad (P.getD k 0))))) 1 P.length := by
        intro hlow
        refine ⟨(P.length - (k + 1)) * 1000000 + 999999, by omega, k + 1, q, _, L.take h ++ P.getD k 0 :: L.drop h, rfl, by omega, hq, hs.ins hk hh hlow (fun j g1 g2 => (hg j g1 g2).2), fun j hj => ?_, by rw [nI_1], rfl, rfl, rfl, rfl⟩
        show (if j = h then _ else f j) = _
        have hlen : (L.take h ++ P.getD k 0 :: L.drop h).length = k + 1 := by rw [List.length_append, List.length_cons, List.length_take, List.length_drop]; omega
        have hth : (L.take h).length = h := by rw [List.length_take]; omega
        rw [getD_q (L.take h ++ P.getD k 0 :: L.drop h) j, List.getElem?_append, hth]
        by_cases z : j = h
        · rw [if_pos z, if_neg (by omega), z, Nat.sub_self]; rfl
        · rw [if_neg z]
          by_cases w : j < h
          · rw [if_pos w, List.getElem?_take, if_pos w, hf j w, getD_q L j]
          · obtain ⟨t, ht⟩ : ∃ t, j - h = t + 1 := ⟨j - h - 1, by omega⟩
            rw [if_neg w, ht, List.getElem?_cons_succ, List.getElem?_drop]
            have := (hg (j - 1) (by omega) (by omega)).1
            rw [show j - 1 + 1 = j by omega] at this
            rw [this, getD_q L (j - 1), show h + t = j - 1 by omega]
      refine if_le (b := 0) (by omega) (by decide) (fun z => ⟨rO.1, m4, m5, ir, q1.1, m1, m2, iq h hh, as _ e2, done (fun j hj => by omega)⟩) (fun z => ?_)
      have eh : nI h - (1 : Int32) = nI (h - 1) := pk_sub (b := 1) (by omega)
      have em : nI h + (-1 : Int32) = nI (h - 1) := by rw [← eh]; exact (Int32.sub_eq_add_neg _ _).symm
      have hl1 := hLn (h - 1) (by omega)
      rw [eh, em, nI_clamp (n := h - 1) (by omega), q3, hf (h - 1) (by omega)]
      refine ⟨q1.1, m1, m3, iq (h - 1) (by omega), rfl, _, ⟨hx _ hl1, (hE.2.1 _ hl1).2.1, (hE.agk hl1).1⟩, Nat.le_refl _, Nat.le_refl _, rO.1, m4, m5, ir, rfl, _, ⟨hx _ e2, (hE.2.1 _ e2).2.1, (hE.agk e2).1⟩, Nat.le_refl _, Nat.le_refl _, ?_⟩
      rw [hE.id hl1, hE.id e2]
      have k1 := lNk (hE.key_lt hl1) (hE.key_lt e2)
      refine ⟨fun u => ⟨rO.1, m4, m5, ir, q1.1, m1, m2, iq h hh, as _ e2, done (fun j hj => ?_)⟩, fun u => ⟨q1.1, m1, m3, iq (h - 1) (by omega), q1.1, m1, m2, iq h hh, as _ hl1, (P.length - k) * 1000000 + (h - 1), by omega, k, h - 1, q, va_up f h (some (X.ad (L.getD (h - 1) 0))), L, rfl, hk, by omega, hq, hs, fun j hj => ?_, fun j g1 g2 => ?_, rfl, rfl, nwE_up2, rfl, rfl⟩⟩
      · have u2 := k1.2.1.1 ((lg_cmp_le _ _).1 u)
        have hne : L.getD (h - 1) 0 ≠ P.getD k 0 := fun e => by
          have g1 : L.getD (h - 1) 0 ∈ L := by rw [getD_el (by omega)]; exact List.getElem_mem _
          have g2 := (hs.2.1 _).1 g1
          rw [e, getD_el hk] at g2
          obtain ⟨i, g3, g4⟩ := List.mem_iff_getElem.1 g2
          rw [List.length_take] at g3
          rw [List.getElem_take] at g4
          exact List.pairwise_iff_getElem.1 hn i k (by omega) hk (by omega) g4
        have hlt : G.key (L.getD (h - 1) 0) < G.key (P.getD k 0) := by
          have : G.key (L.getD (h - 1) 0) ≠ G.key (P.getD k 0) := fun e => hne (Gr.key_inj h1.1 hl1 e2 e)
          omega
        by_cases w : j = h - 1
        · rw [w]; exact hlt
        · have := List.pairwise_iff_getElem.1 hs.2.2 j (h - 1) (by omega) (by omega) (by omega)
          rw [← getD_el, ← getD_el] at this
          omega
      · show (if j = h then _ else f j) = _
        rw [if_neg (by omega)]; exact hf j (by omega)
      · have u2 : G.key (P.getD k 0) < G.key (L.getD (h - 1) 0) := by
          refine Decidable.byContradiction (fun w => u ((lg_cmp_le _ _).2 (k1.2.1.2 (by omega))))
        by_cases w : j = h - 1
        · subst w
          refine ⟨?_, u2⟩
          show (if h - 1 + 1 = h then _ else _) = _
          rw [if_pos (by omega)]
        · obtain ⟨g3, g4⟩ := hg j (by omega) g2
          refine ⟨?_, g4⟩
          show (if j + 1 = h then _ else f (j + 1)) = _
          rw [if_neg (by omega)]; exact g3
theorem u_gso (l : Launch) : Us l yX5_sorted cX5_sorted 5 (some (.array (.object "WeaveText$Event"))) 1 20 99 T_gso := by
  intro Rc Rs av S cs sl K Kx h
  unfold T_gso at h
  split at h
  · rename_i r_o n_v
    obtain ⟨r, rfl, h_1⟩ := pa_of h
    obtain ⟨n, rfl, h_2⟩ := h_1
    obtain ⟨X, G, P, hp, hc, hs, hk⟩ := h_2
    refine ⟨(sp_gso r n X G P), c_gso l r n X G P, fun _ _ _ => trivial, ⟨rfl, hp⟩, hc, hs, fun v9 S' h8 => by
      obtain ⟨v8, h7, h8⟩ := h8
      cases h7
      exact hk _ _ h8, fun _ _ q => q.elim⟩
  · exact h.elim
/-! ===== wantWith ===== -/
/-- a row of sixteen counts -/
def WR (S : MM) (r : Nat) (w : Nat → Nat) : Prop := isO S 17 r ∧ mN S r = 16 ∧ ∀ s, s < 16 → eI S r s = nI (w s) ∧ w s ≤ 100000
def I_ww (g e wa m k : Nat) (G : Gr) (w : Nat → Nat) (S : MM) (t : Nat) : KT := fun lo st S1 cs sl => ∃ i f, i + t = m ∧ lo = [(2, .inl (nI i)), (0, .inr (.inr (some g))), (1, .inr (.inr (some e)))] ∧ st = [] ∧ S1 = rI S wa f ∧ (∀ s, s < 16 → f s = nI (if s < i then max (w s) ((G.ev k).pa s) else w s)) ∧ cs = 0 ∧ sl = 0
theorem Gr.cnt_m {G : Gr} (h : G.ok) {k s : Nat} (hk : k ≤ G.n) (hs : G.m ≤ s) : G.cnt k s = 0 := by
  induction k with
  | zero => rfl
  | succ k ih =>
    rw [Gr.cnt, ih (by omega), if_neg]
    have := h.sl1 k (by omega)
    omega
theorem Gr.pa_m {G : Gr} (h : G.ok) {k s : Nat} (hk : k < G.n) (hs : G.m ≤ s) : (G.ev k).pa s = 0 := by
  have := h.pa2 k s hk
  rw [Gr.cnt_m h (by omega) hs] at this
  omega
def T_gww : TR := fun Rc Rs av S cs sl K _Kx => match av with
  | [.inr (.inr g_o), .inr (.inr e_o)] => pa g_o fun g => (pa e_o fun e => (∃ (X : GX) (G : Gr) (wa ke : Nat) (w : Nat → Nat), (EvT S X G ∧ isO S 6 g ∧ mR S 607 g = some wa ∧ WR S wa w ∧ mI S 603 g = nI G.m ∧ ke < G.n ∧ e = X.ad ke ∧ wa ≠ X.bf ke) ∧ cs ≤ Rc ∧ sl ≤ Rs ∧ (∀ (S' : MM), (∃ fw, S' = rI S wa fw ∧ ∀ s, s < 16 → fw s = nI (max (w s) (G.full ke s))) → K none S' cs sl)))
  | _ => False
def sp_gww (g : Nat) (e : Nat) (X : GX) (G : Gr) (wa ke : Nat) (w : Nat → Nat) : Sp := (fun av S => av = [.inr (.inr (some g)), .inr (.inr (some e))] ∧ (EvT S X G ∧ isO S 6 g ∧ mR S 607 g = some wa ∧ WR S wa w ∧ mI S 603 g = nI G.m ∧ ke < G.n ∧ e = X.ad ke ∧ wa ≠ X.bf ke), fun _ S => 0, fun _ S => 0, fun _ S rv S' => rv = none ∧ (∃ fw, S' = rI S wa fw ∧ ∀ s, s < 16 → fw s = nI (max (w s) (G.full ke s))), fun _ _ _ _ => False)
def tX5_wantWith : CD := [(0, .iconst 0), (1, .istore_n 2), (2, .iload_n 2), (3, .aload_n 0), (4, .getfield 36), (7, .if_icmp .ge 29), (10, .aload_n 0), (11, .getfield 50), (14, .iload_n 2), (15, .aload_n 0), (16, .getfield 50), (19, .iload_n 2), (20, .iaload), (21, .aload_n 1), (22, .iload_n 2), (23, .invokevirtual 116), (26, .invokestatic 119), (29, .iastore), (30, .iinc 2 1), (33, .goto (-31)), (36, .aload_n 1), (37, .getfield 125), (40, .getfield 98), (43, .istore_n 2), (44, .aload_n 0), (45, .getfield 50), (48, .iload_n 2), (49, .aload_n 0), (50, .getfield 50), (53, .iload_n 2), (54, .iaload), (55, .aload_n 1), (56, .getfield 129), (59, .iconst 1), (60, .iadd), (61, .invokestatic 119), (64, .iastore), (65, .return_)]
set_option maxRecDepth 100000 in
theorem kX5_wantWith : chk cX5_wantWith tX5_wantWith = true := by decide +kernel
theorem vX5_wantWith_116 : ∀ w ∈ ([.methodLink RX5 116 yX4_ancestorsOf, .instanceMethod yX4_ancestorsOf, .selects yX4_ancestorsOf.cls yX4_ancestorsOf yX4_ancestorsOf, .initialized yX4_ancestorsOf.cls, .code yX4_ancestorsOf cX4_ancestorsOf 2 (some .int)] : List Cond), w ∈ lw_good := List.forall_mem_cons.mpr ⟨mgd 883 (by decide +kernel) (by decide +kernel), List.forall_mem_cons.mpr ⟨mgd 884 (by decide +kernel) (by decide +kernel), List.forall_mem_cons.mpr ⟨mgd 885 (by decide +kernel) (by decide +kernel), List.forall_mem_cons.mpr ⟨mgd 126 (by decide +kernel) (by decide +kernel), List.forall_mem_cons.mpr ⟨mgd 886 (by decide +kernel) (by decide +kernel), fun _ h => absurd h List.not_mem_nil⟩⟩⟩⟩⟩
theorem vX5_wantWith_119 : ∀ w ∈ ([.methodLink RX5 119 Lib.Math.max.name, .static Lib.Math.max.name, .initialized "java/lang/Math", .code Lib.Math.max.name Lib.Math.max.code 2 (some .int)] : List Cond), w ∈ lw_good := List.forall_mem_cons.mpr ⟨mgd 887 (by decide +kernel) (by decide +kernel), List.forall_mem_cons.mpr ⟨mgd 888 (by decide +kernel) (by decide +kernel), List.forall_mem_cons.mpr ⟨mgd 143 (by decide +kernel) (by decide +kernel), List.forall_mem_cons.mpr ⟨mgd 889 (by decide +kernel) (by decide +kernel), fun _ h => absurd h List.not_mem_nil⟩⟩⟩⟩
set_option maxRecDepth 100000 in
set_option maxHeartbeats 2000000 in
theorem c_gww (l : Launch) : ∀ (g : Nat) (e : Nat) (X : GX) (G : Gr) (wa ke : Nat) (w : Nat → Nat), Ct l yX5_wantWith cX5_wantWith 3 none 1 21 (sp_gww g e X G wa ke w) := by
  intro g e X G wa ke w
  refine Ct.of (fX5, nX5, aX5, iX5, lX5, [(116, 0, 2, 1, T_anc), (119, 2, 2, 1, T_max)], qX5, gX5, []) false tX5_wantWith (fun _ S => look [(2, ([2,0,1], I_ww g e wa G.m ke G w S))]) (by decide) (by decide) kX5_wantWith ⟨_, _, rfl⟩ fX5_ok nX5_ok aX5_ok iX5_ok lX5_ok (fun p e R s m args below meth c Q D cy z r A C hR1 hR2 => List.forall_mem_cons.mpr ⟨cOK_use (fun _ _ _ _ _ _ _ _ h => let ⟨sp, h1, h2, h3⟩ := u_anc l _ _ _ _ _ _ _ _ h; ⟨sp, cOK_V C h1 vX5_wantWith_116 ⟨by decide, by decide, by decide +kernel⟩ ⟨by rw [hR1]; decide, by rw [hR2]; decide⟩ (k := 5) (T := TX4) (N := 16) rfl (by decide) h2, h3⟩), List.forall_mem_cons.mpr ⟨cOK_use (fun _ _ _ _ _ _ _ _ h => ⟨sp_max, cOK_max C vX5_wantWith_119 ⟨by rw [hR1]; decide, by rw [hR2]; decide⟩, T_max_ok h⟩), fun _ h => absurd h List.not_mem_nil⟩⟩) qX5_ok gX5_ok rfl ?_ ?_
  · rintro _ S ⟨rfl, hp⟩
    refine ⟨Nat.le_of_ble_eq_true rfl, 300, ?_⟩
    show (∃ k1, I_ww g e wa G.m ke G w S k1 [(2, .inl (0 : Int32)), (0, .inr (.inr (some g))), (1, .inr (.inr (some e)))] [] S 0 0)
    obtain ⟨h1, h2, h3, h4, h5, h6, rfl, h8⟩ := hp
    refine ⟨G.m, 0, eI S wa, by omega, rfl, rfl, ?_, fun s hs => ?_, rfl, rfl⟩
    · rw [rI_id rfl]
    · rw [if_neg (Nat.not_lt_zero _)]; exact (h4.2.2 s hs).1
  · intro av S hpre pc I hI k lo st S1 cs sl h
    obtain ⟨rfl, hp⟩ := hpre
    have hm := look_in hI
    rw [List.mem_singleton] at hm
    cases hm
    obtain ⟨i, f, hi, rfl, rfl, rfl, hf, rfl, rfl⟩ := h
    refine ⟨300, ?_⟩
    show (isO (rI S wa f) 6 g ∧ (((mI (rI S wa f) 603 g) ≤ (nI i) → (isO (rI S wa f) 5 e ∧ (pa (mR (rI S wa f) 500 e) fun a_1 => isO (rI S wa f) 1 a_1 ∧ (isO (rI S wa f) 6 g ∧ (isO (rI S wa f) 6 g ∧ (pa (mR (rI S wa f) 607 g) fun a_2 => ∃ v_3 : Int32, (isO (rI S wa f) 17 a_2 ∧ inR (rI S wa f) a_2 (mI (rI S wa f) 101 a_1) ∧ v_3 = eI (rI S wa f) a_2 (mI (rI S wa f) 101 a_1).toNatClampNeg ∨ a_2 = (mQ (rI S wa f)).1 ∧ vp_in (mI (rI S wa f) 101 a_1) 16 ∧ v_3 = mRem (mI (rI S wa f) 101 a_1).toNatClampNeg) ∧ (isO (rI S wa f) 5 e ∧ (2 = 2 ∧ (True ∧ 0 ≤ 0 ∧ 0 ≤ 0 ∧ ((pa (mR (rI S wa f) 607 g) fun a_5 => isO (rI S wa f) 17 a_5 ∧ inR (rI S wa f) a_5 (mI (rI S wa f) 101 a_1) ∧ (([] : List MV) = [] ∧ mret none (sp_gww g e X G wa ke w) [.inr (.inr (some g)), .inr (.inr (some e))] S none (rI (rI S wa f) a_5 (upd (eI (rI S wa f) a_5) (mI (rI S wa f) 101 a_1).toNatClampNeg (imax v_3 ((mI (rI S wa f) 501 e) + (1 : Int32))))) 0 0)))))))))))) ∧ (¬ (mI (rI S wa f) 603 g) ≤ (nI i) → (isO (rI S wa f) 6 g ∧ (isO (rI S wa f) 6 g ∧ (pa (mR (rI S wa f) 607 g) fun a_6 => ∃ v_7 : Int32, (isO (rI S wa f) 17 a_6 ∧ inR (rI S wa f) a_6 (nI i) ∧ v_7 = eI (rI S wa f) a_6 (nI i).toNatClampNeg ∨ a_6 = (mQ (rI S wa f)).1 ∧ vp_in (nI i) 16 ∧ v_7 = mRem (nI i).toNatClampNeg) ∧ (0 = 0 ∧ (∃ (g_8 b_9 : Nat), (isO (rI S wa f) 5 e ∧ mR (rI S wa f) 500 e = some g_8 ∧ isO (rI S wa f) 1 g_8 ∧ mR (rI S wa f) 504 e = some b_9 ∧ isO (rI S wa f) 17 b_9 ∧ (¬ (nI i) = mI (rI S wa f) 101 g_8 → inR (rI S wa f) b_9 (nI i))) ∧ 0 ≤ 0 ∧ 0 ≤ 0 ∧ ((2 = 2 ∧ (True ∧ 0 ≤ 0 ∧ 0 ≤ 0 ∧ ((pa (mR (rI S wa f) 607 g) fun a_12 => isO (rI S wa f) 17 a_12 ∧ inR (rI S wa f) a_12 (nI i) ∧ (∃ k1, k1 < k ∧ I_ww g e wa G.m ke G w S k1 [(2, .inl ((nI i) + (1 : Int32))), (0, .inr (.inr (some g))), (1, .inr (.inr (some e)))] [] (rI (rI S wa f) a_12 (upd (eI (rI S wa f) a_12) (nI i).toNatClampNeg (imax v_7 (evAnc (rI S wa f) e g_8 b_9 (nI i))))) 0 0))))))))))))))
    obtain ⟨h1, h2, h3, ⟨w1, w2, w3⟩, h5, h6, rfl, h8⟩ := hp
    have hm := h1.1.hm
    have eW : eI (rI S wa f) wa = f := va_up_self _ _ _
    have eB : eI (rI S wa f) (X.bf ke) = eI S (X.bf ke) := va_up_ne _ _ (fun e => h8 e.symm)
    obtain ⟨b1, b2, b3, -⟩ := h1.2.1 ke h6
    obtain ⟨g1, g2, g3⟩ := h1.agk h6
    have hsl := h1.sl h6
    have hnu := h1.nu h6
    have i603 : mI (rI S wa f) 603 g = nI G.m := h5
    have i607 : mR (rI S wa f) 607 g = some wa := h3
    rw [i603, i607]
    refine ⟨h2, if_le (by omega) (by omega) (fun z => ?_) (fun z => ?_)⟩
    · have r500 : mR (rI S wa f) 500 (X.ad ke) = some (X.aa (G.ev ke).sl) := b2
      have i101 : mI (rI S wa f) 101 (X.aa (G.ev ke).sl) = nI (G.ev ke).sl := g3
      have i501 : mI (rI S wa f) 501 (X.ad ke) = nI (G.ev ke).nu := b3
      rw [r500]
      refine ⟨b1, g1, h2, h2, ?_⟩
      rw [i101, i501, nI_1, nI_clamp (by omega)]
      refine ⟨f (G.ev ke).sl, Or.inl ⟨w1, by rw [inR]; show vp_in _ (mN S wa); rw [w2]; exact vp_in_nI hsl (by decide), by rw [eW]⟩, b1, rfl, trivial, Nat.le_refl _, Nat.le_refl _, w1, by rw [inR]; show vp_in _ (mN S wa); rw [w2]; exact vp_in_nI hsl (by decide), rfl, trivial, ⟨rfl, _, rI_rI, fun s hs => ?_⟩, Nat.le_refl _, Nat.le_refl _⟩
      rw [eW]
      have hp9 := h1.pa h6 s
      obtain ⟨w4, w5⟩ := w3 s hs
      by_cases y : s = (G.ev ke).sl
      · subst y
        rw [pk_us, hf _ hs, if_pos (by have := h1.1.sl1 ke h6; omega), imax_nI (by omega) (by omega), Gr.full, if_pos rfl, h1.1.pa1 ke h6]
        congr 1
        omega
      · rw [pk_un y, hf s hs, Gr.full, if_neg y]
        by_cases x : s < i
        · rw [if_pos x]
        · rw [if_neg x, Gr.pa_m h1.1 h6 (by omega), Nat.max_eq_left (Nat.zero_le _)]
    · have hi16 : i < 16 := by omega
      obtain ⟨w4, w5⟩ := w3 i hi16
      have hp9 := h1.pa h6 i
      obtain ⟨p1, p2, p3, p4, p5, p6⟩ := h1.ancP h6 hi16
      have eA : evAnc (rI S wa f) (X.ad ke) (X.aa (G.ev ke).sl) (X.bf ke) (nI i) = nI ((G.ev ke).pa i) := by
        rw [← h1.anc h6 hi16]
        show (if _ then _ else eI (rI S wa f) (X.bf ke) _) = (if _ then _ else eI S (X.bf ke) _)
        rw [eB]; rfl
      refine ⟨h2, h2, f i, Or.inl ⟨w1, by rw [inR]; show vp_in _ (mN S wa); rw [w2]; exact vp_in_nI hi16 (by decide), by rw [eW, nI_clamp (by omega)]⟩, rfl, _, _, ⟨p1, p2, p3, p4, p5, p6⟩, Nat.le_refl _, Nat.le_refl _, rfl, trivial, Nat.le_refl _, Nat.le_refl _, w1, by rw [inR]; show vp_in _ (mN S wa); rw [w2]; exact vp_in_nI hi16 (by decide), k - 1, by omega, i + 1, _, by omega, by rw [nI_1], rfl, rI_rI, fun s hs => ?_, rfl, rfl⟩
      rw [eA, eW, nI_clamp (by omega), hf i hi16, if_neg (by omega), imax_nI (by omega) (by omega)]
      by_cases y : s = i
      · subst y
        rw [pk_us, if_pos (by omega)]
      · rw [pk_un y, hf s hs]
        by_cases x : s < i
        · rw [if_pos x, if_pos (by omega)]
        · rw [if_neg x, if_neg (by omega)]
theorem u_gww (l : Launch) : Us l yX5_wantWith cX5_wantWith 3 none 1 21 6 T_gww := by
  intro Rc Rs av S cs sl K Kx h
  unfold T_gww at h
  split at h
  · rename_i g_o e_o
    obtain ⟨g, rfl, h_1⟩ := pa_of h
    obtain ⟨e, rfl, h_2⟩ := pa_of h_1
    obtain ⟨X, G, wa, ke, w, hp, hc, hs, hk⟩ := h_2
    refine ⟨(sp_gww g e X G wa ke w), c_gww l g e X G wa ke w, fun _ _ h9 => ⟨_, _, h9.1, h9.2.2.1⟩, ⟨rfl, hp⟩, hc, hs, fun S' h8 => by
      obtain ⟨-, h8⟩ := h8
      exact hk _ h8, fun _ _ q => q.elim⟩
  · exact h.elim
