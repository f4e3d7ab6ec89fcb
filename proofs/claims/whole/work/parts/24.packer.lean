/-! ===== rows: filling, writes over writes ===== -/
theorem rI_rI {S : MM} {a : Nat} {f g : Nat → Int32} : rI (rI S a f) a g = rI S a g := by
  unfold rI
  have e : va_up (eI (mL S, mK S, mI S, mR S, mJ S, mN S, va_up (eI S) a f, eJ S, eR S, mZ S, mQ S)) a g = va_up (eI S) a g := by
    funext b
    show (if b = a then g else if b = a then f else eI S b) = if b = a then g else eI S b
    split <;> rfl
  rw [e]
  rfl
theorem rI_id {S : MM} {a : Nat} {f : Nat → Int32} (h : eI S a = f) : rI S a f = S := by
  have e : va_up (eI S) a f = eI S := by
    funext b
    show (if b = a then f else eI S b) = eI S b
    split
    · rename_i h1
      rw [h1, h]
    · rfl
  unfold rI
  rw [e]
  rfl
def fillF (f : Nat → Int32) (n : Nat) (v : Int32) : Nat → Int32 := fun j => if j < n then v else f j
theorem fillF_0 (f : Nat → Int32) (v : Int32) : fillF f 0 v = f := by funext j; exact if_neg (Nat.not_lt_zero _)
theorem fillF_s (f : Nat → Int32) (n : Nat) (v : Int32) : upd (fillF f n v) n v = fillF f (n + 1) v := by
  funext j
  by_cases h : j = n
  · subst h; rw [pk_us, fillF, if_pos (by omega)]
  · rw [pk_un h, fillF, fillF]
    by_cases z : j < n
    · rw [if_pos z, if_pos (by omega)]
    · rw [if_neg z, if_neg (by omega)]
theorem fillF_in {f : Nat → Int32} {n j : Nat} {v : Int32} (h : j < n) : fillF f n v j = v := if_pos h
def I_fill (a : Nat) (v : Int32) (S : MM) (k : Nat) : KT := fun lo st S1 cs sl => ∃ t, t + k = mN S a ∧ lo = [(2, .inl (nI t)), (3, .inl (nI (mN S a))), (0, .inr (.inr (some a))), (1, .inl v)] ∧ st = [] ∧ S1 = rI S a (fillF (eI S a) t v) ∧ cs = 0 ∧ sl = 0
def T_fillI : TR := fun Rc Rs av S cs sl K _Kx => match av with
  | [.inr (.inr a_o), .inl v] => pa a_o fun a => ((isO S 17 a ∧ mN S a < 2147483648) ∧ cs ≤ Rc ∧ sl ≤ Rs ∧ (K none (rI S a (fillF (eI S a) (mN S a) v)) cs sl))
  | _ => False
def sp_fillI (a : Nat) (v : Int32)  : Sp := (fun av S => av = [.inr (.inr (some a)), .inl v] ∧ (isO S 17 a ∧ mN S a < 2147483648), fun _ S => 0, fun _ S => 0, fun _ S rv S' => rv = none ∧ S' = rI S a (fillF (eI S a) (mN S a) v), fun _ _ _ _ => False)
def tJ7_fill_53178 : CD := [(0, .iconst 0), (1, .istore_n 2), (2, .aload_n 0), (3, .arraylength), (4, .istore_n 3), (5, .iload_n 2), (6, .iload_n 3), (7, .if_icmp .ge 13), (10, .aload_n 0), (11, .iload_n 2), (12, .iload_n 1), (13, .iastore), (14, .iinc 2 1), (17, .goto (-12)), (20, .return_)]
set_option maxRecDepth 100000 in
theorem kJ7_fill_53178 : chk cJ7_fill_53178 tJ7_fill_53178 = true := by decide +kernel

set_option maxRecDepth 100000 in
set_option maxHeartbeats 2000000 in
theorem c_fillI (l : Launch) : ∀ (a : Nat) (v : Int32), Ct l yJ7_fill_53178 cJ7_fill_53178 4 none 0 0 (sp_fillI a v) := by
  intro a v
  refine Ct.of (fJ7, nJ7, aJ7, iJ7, lJ7, [], qJ7, gJ7, []) false tJ7_fill_53178 (fun _ S => look [(5, ([2,3,0,1], I_fill a v S))]) (by decide) (by decide) kJ7_fill_53178 ⟨_, _, rfl⟩ fJ7_ok nJ7_ok aJ7_ok iJ7_ok lJ7_ok (fun _ _ _ _ _ _ _ _ _ _ _ _ _ _ _ _ _ _ => no_all) qJ7_ok gJ7_ok rfl ?_ ?_
  · rintro _ S ⟨rfl, hp⟩
    refine ⟨Nat.le_of_ble_eq_true rfl, 300, ?_⟩
    show (∃ v_1 : Int32, (a ∈ mL S ∧ ¬ mK S a < 16 ∧ mK S a < 29 ∧ v_1 = Int32.ofNat (mN S a) ∨ a = mZ S ∧ v_1 = 0) ∧ (∃ k1, I_fill a v S k1 [(2, .inl (0 : Int32)), (3, .inl v_1), (0, .inr (.inr (some a))), (1, .inl v)] [] S 0 0))
    refine ⟨_, Or.inl ⟨hp.1.1, by rw [hp.1.2]; decide, by rw [hp.1.2]; decide, rfl⟩, mN S a, 0, by omega, rfl, rfl, ?_, rfl, rfl⟩
    rw [fillF_0, rI_id rfl]
  · intro av S hpre pc I hI k lo st S1 cs sl h
    obtain ⟨rfl, hp⟩ := hpre
    have hm := look_in hI
    rw [List.mem_singleton] at hm
    cases hm
    obtain ⟨t, ht, rfl, rfl, rfl, rfl, rfl⟩ := h
    refine ⟨300, ?_⟩
    show (((nI (mN S a)) ≤ (nI t) → (([] : List MV) = [] ∧ mret none (sp_fillI a v) [.inr (.inr (some a)), .inl v] S none (rI S a (fillF (eI S a) t v)) 0 0)) ∧ (¬ (nI (mN S a)) ≤ (nI t) → (isO (rI S a (fillF (eI S a) t v)) 17 a ∧ inR (rI S a (fillF (eI S a) t v)) a (nI t) ∧ (∃ k1, k1 < k ∧ I_fill a v S k1 [(2, .inl ((nI t) + (1 : Int32))), (3, .inl (nI (mN S a))), (0, .inr (.inr (some a))), (1, .inl v)] [] (rI (rI S a (fillF (eI S a) t v)) a (upd (eI (rI S a (fillF (eI S a) t v)) a) (nI t).toNatClampNeg v)) 0 0))))
    obtain ⟨h1, h2⟩ := hp
    refine if_le h2 (by omega) (fun h3 => ⟨rfl, trivial, ⟨rfl, ?_⟩, Nat.le_refl _, Nat.le_refl _⟩) (fun h3 => ⟨h1, vp_in_nI h3 h2, k - 1, by omega, t + 1, by omega, ?_, rfl, ?_, rfl, rfl⟩)
    · rw [show t = mN S a by omega]
    · rw [nI_1]
    · rw [rI_rI, nI_clamp (by omega), eI_rI, if_pos rfl, fillF_s]
theorem u_fillI (l : Launch) : Us l yJ7_fill_53178 cJ7_fill_53178 4 none 0 0 99 T_fillI := by
  intro Rc Rs av S cs sl K Kx h
  unfold T_fillI at h
  split at h
  · rename_i a_o v
    obtain ⟨a, rfl, h_1⟩ := pa_of h
    obtain ⟨hp, hc, hs, hk⟩ := h_1
    refine ⟨(sp_fillI a v), c_fillI l a v, fun _ _ _ => trivial, ⟨rfl, hp⟩, hc, hs, fun S' h8 => by
      obtain ⟨-, h8⟩ := h8
      subst h8
      exact hk, fun _ _ q => q.elim⟩
  · exact h.elim
/-! ===== Packer ===== -/
def hsh (R : List Nat) (p : Nat) : Nat := (((R.getD p 0 * 31 + R.getD (p + 1) 0) * 31 + R.getD (p + 2) 0) * 31 + R.getD (p + 3) 0) % 1024
def T_pchn : TR := fun Rc Rs av S cs sl K _Kx => match av with
  | [.inr (.inr k_o), .inl p_v] => pa k_o fun k => (∃ (p : Nat), p_v = nI p ∧ (∃ (r d : Nat) (R : List Nat), (isO S 8 k ∧ mR S 800 k = some r ∧ By S r d R ∧ p ≤ 100000) ∧ cs ≤ Rc ∧ sl ≤ Rs ∧ (K (some (.inl (nI (hsh R p)))) S cs sl)))
  | _ => False
def sp_pchn (k : Nat) (p : Nat) (r d : Nat) (R : List Nat) : Sp := (fun av S => av = [.inr (.inr (some k)), .inl (nI p)] ∧ (isO S 8 k ∧ mR S 800 k = some r ∧ By S r d R ∧ p ≤ 100000), fun _ S => 0, fun _ S => 0, fun _ S rv S' => rv = (some (.inl (nI (hsh R p)))) ∧ S' = S, fun _ _ _ _ => False)
def tX7_chainOf : CD := [(0, .aload_n 0), (1, .getfield 12), (4, .iload_n 1), (5, .invokevirtual 71), (8, .bipush 31), (10, .imul), (11, .aload_n 0), (12, .getfield 12), (15, .iload_n 1), (16, .iconst 1), (17, .iadd), (18, .invokevirtual 71), (21, .iadd), (22, .istore_n 2), (23, .iload_n 2), (24, .bipush 31), (26, .imul), (27, .aload_n 0), (28, .getfield 12), (31, .iload_n 1), (32, .iconst 2), (33, .iadd), (34, .invokevirtual 71), (37, .iadd), (38, .istore_n 2), (39, .iload_n 2), (40, .bipush 31), (42, .imul), (43, .aload_n 0), (44, .getfield 12), (47, .iload_n 1), (48, .iconst 3), (49, .iadd), (50, .invokevirtual 71), (53, .iadd), (54, .sipush 1024), (57, .irem), (58, .ireturn)]
set_option maxRecDepth 100000 in
theorem kX7_chainOf : chk cX7_chainOf tX7_chainOf = true := by decide +kernel
theorem vX7_chainOf_71 : ∀ w ∈ ([.methodLink RX7 71 yX1_get, .instanceMethod yX1_get, .selects yX1_get.cls yX1_get yX1_get, .initialized yX1_get.cls, .code yX1_get cX1_get 2 (some .int)] : List Cond), w ∈ lw_good := List.forall_mem_cons.mpr ⟨mgd 1423 (by decide +kernel) (by decide +kernel), List.forall_mem_cons.mpr ⟨mgd 840 (by decide +kernel) (by decide +kernel), List.forall_mem_cons.mpr ⟨mgd 841 (by decide +kernel) (by decide +kernel), List.forall_mem_cons.mpr ⟨mgd 122 (by decide +kernel) (by decide +kernel), List.forall_mem_cons.mpr ⟨mgd 842 (by decide +kernel) (by decide +kernel), fun _ h => absurd h List.not_mem_nil⟩⟩⟩⟩⟩
set_option maxRecDepth 100000 in
set_option maxHeartbeats 2000000 in
theorem c_pchn (l : Launch) : ∀ (k : Nat) (p : Nat) (r d : Nat) (R : List Nat), Ct l yX7_chainOf cX7_chainOf 3 (some .int) 1 21 (sp_pchn k p r d R) := by
  intro k p r d R
  refine Ct.of (fX7, nX7, aX7, iX7, lX7, [(71, 0, 2, 1, T_bget)], qX7, gX7, []) false tX7_chainOf (fun _ _ _ => none) (by decide) (by decide) kX7_chainOf ⟨_, _, rfl⟩ fX7_ok nX7_ok aX7_ok iX7_ok lX7_ok (fun p e R s m args below meth c Q D cy z r A C hR1 hR2 => List.forall_mem_cons.mpr ⟨cOK_use (fun _ _ _ _ _ _ _ _ h => let ⟨sp, h1, h2, h3⟩ := u_bget l _ _ _ _ _ _ _ _ h; ⟨sp, cOK_V C h1 vX7_chainOf_71 ⟨by decide, by decide, by decide +kernel⟩ ⟨by rw [hR1]; decide, by rw [hR2]; decide⟩ (k := 2) (T := TX1) (N := 3) rfl (by decide) h2, h3⟩), fun _ h => absurd h List.not_mem_nil⟩) qX7_ok gX7_ok rfl ?_ ?_
  · rintro _ S ⟨rfl, hp⟩
    refine ⟨Nat.le_of_ble_eq_true rfl, 300, ?_⟩
    show (isO S 8 k ∧ (0 = 0 ∧ ((pa (mR S 800 k) fun a_1 => (∃ (d_2 : Nat) (B_3 : List Nat), (By S a_1 d_2 B_3) ∧ 0 ≤ 0 ∧ 0 ≤ 0 ∧ ((isO S 8 k ∧ (0 = 0 ∧ ((pa (mR S 800 k) fun a_5 => (∃ (d_6 : Nat) (B_7 : List Nat), (By S a_5 d_6 B_7) ∧ 0 ≤ 0 ∧ 0 ≤ 0 ∧ ((isO S 8 k ∧ (0 = 0 ∧ ((pa (mR S 800 k) fun a_9 => (∃ (d_10 : Nat) (B_11 : List Nat), (By S a_9 d_10 B_11) ∧ 0 ≤ 0 ∧ 0 ≤ 0 ∧ ((isO S 8 k ∧ (0 = 0 ∧ ((pa (mR S 800 k) fun a_13 => (∃ (d_14 : Nat) (B_15 : List Nat), (By S a_13 d_14 B_15) ∧ 0 ≤ 0 ∧ 0 ≤ 0 ∧ ((¬ (1024 : Int32) = 0 ∧ (([] : List MV) = [] ∧ mret (some .int) (sp_pchn k p r d R) [.inr (.inr (some k)), .inl (nI p)] S (some (.inl ((((((((bAt B_3 (nI p)) * (31 : Int32)) + (bAt B_7 ((nI p) + (1 : Int32)))) * (31 : Int32)) + (bAt B_11 ((nI p) + (2 : Int32)))) * (31 : Int32)) + (bAt B_15 ((nI p) + (3 : Int32)))) - (((((((bAt B_3 (nI p)) * (31 : Int32)) + (bAt B_7 ((nI p) + (1 : Int32)))) * (31 : Int32)) + (bAt B_11 ((nI p) + (2 : Int32)))) * (31 : Int32)) + (bAt B_15 ((nI p) + (3 : Int32)))) / (1024 : Int32) * (1024 : Int32)))) S 0 0))))))))))))))))))))))))))
    obtain ⟨h1, h2, hB, h3⟩ := hp
    have hb := hB.bytesLt
    have b0 := getD_lt hb p
    have b1 := getD_lt hb (p + 1)
    have b2 := getD_lt hb (p + 2)
    have b3 := getD_lt hb (p + 3)
    rw [h2]
    refine ⟨h1, rfl, d, R, hB, Nat.le_refl _, Nat.le_refl _, h1, rfl, d, R, hB, Nat.le_refl _, Nat.le_refl _, h1, rfl, d, R, hB, Nat.le_refl _, Nat.le_refl _, h1, rfl, d, R, hB, Nat.le_refl _, Nat.le_refl _, by decide, rfl, trivial, ⟨?_, rfl⟩, Nat.le_refl _, Nat.le_refl _⟩
    rw [nI_1, show nI p + (2 : Int32) = nI (p + 2) from nI_add p 2, show nI p + (3 : Int32) = nI (p + 3) from nI_add p 3, bAt_nI (by omega), bAt_nI (by omega), bAt_nI (by omega), bAt_nI (by omega)]
    have e31 : ∀ n, nI n * (31 : Int32) = nI (n * 31) := fun n => pk_mul n 31
    rw [e31, nI_add, e31, nI_add, e31, nI_add]
    rw [show (1024 : Int32) = nI 1024 from rfl, pk_rem (by omega) (by decide) (by decide)]
    rfl
  · exact fun _ _ _ _ _ h => by cases h
theorem u_pchn (l : Launch) : Us l yX7_chainOf cX7_chainOf 3 (some .int) 1 21 8 T_pchn := by
  intro Rc Rs av S cs sl K Kx h
  unfold T_pchn at h
  split at h
  · rename_i k_o p_v
    obtain ⟨k, rfl, h_1⟩ := pa_of h
    obtain ⟨p, rfl, h_2⟩ := h_1
    obtain ⟨r, d, R, hp, hc, hs, hk⟩ := h_2
    refine ⟨(sp_pchn k p r d R), c_pchn l k p r d R, fun _ _ h9 => ⟨_, _, h9.1, h9.2.1⟩, ⟨rfl, hp⟩, hc, hs, fun v9 S' h8 => by
      obtain ⟨h7, h8⟩ := h8
      cases h7
      subst h8
      exact hk, fun _ _ q => q.elim⟩
  · exact h.elim
def mlenF (R : List Nat) (p b : Nat) : Nat → Nat → Nat
  | 0, n => n
  | t + 1, n => if R.getD (p + n) 0 = R.getD (p + n - b) 0 then mlenF R p b t (n + 1) else n
/-- how many bytes from p on are as those b before, at most m -/
def mlen (R : List Nat) (p b m : Nat) : Nat := mlenF R p b m 0
def I_same (k p b m r d : Nat) (R : List Nat) (S : MM) (t : Nat) : KT := fun lo st S1 cs sl => ∃ n, n + t = m ∧ lo = [(4, .inl (nI n)), (0, .inr (.inr (some k))), (1, .inl (nI p)), (2, .inl (nI b)), (3, .inl (nI m))] ∧ st = [] ∧ S = S1 ∧ cs = 0 ∧ sl = 0 ∧ mlen R p b m = mlenF R p b t n
def T_psame : TR := fun Rc Rs av S cs sl K _Kx => match av with
  | [.inr (.inr k_o), .inl p_v, .inl b_v, .inl m_v] => pa k_o fun k => (∃ (p : Nat), p_v = nI p ∧ (∃ (b : Nat), b_v = nI b ∧ (∃ (m : Nat), m_v = nI m ∧ (∃ (r d : Nat) (R : List Nat), (isO S 8 k ∧ mR S 800 k = some r ∧ By S r d R ∧ p ≤ 100000 ∧ b ≤ p ∧ m ≤ 100000) ∧ cs ≤ Rc ∧ sl ≤ Rs ∧ (K (some (.inl (nI (mlen R p b m)))) S cs sl)))))
  | _ => False
def sp_psame (k : Nat) (p : Nat) (b : Nat) (m : Nat) (r d : Nat) (R : List Nat) : Sp := (fun av S => av = [.inr (.inr (some k)), .inl (nI p), .inl (nI b), .inl (nI m)] ∧ (isO S 8 k ∧ mR S 800 k = some r ∧ By S r d R ∧ p ≤ 100000 ∧ b ≤ p ∧ m ≤ 100000), fun _ S => 0, fun _ S => 0, fun _ S rv S' => rv = (some (.inl (nI (mlen R p b m)))) ∧ S' = S, fun _ _ _ _ => False)
def tX7_sameBytes : CD := [(0, .iconst 0), (1, .istore 4), (3, .iload 4), (5, .iload_n 3), (6, .if_icmp .ge 36), (9, .aload_n 0), (10, .getfield 12), (13, .iload_n 1), (14, .iload 4), (16, .iadd), (17, .invokevirtual 71), (20, .aload_n 0), (21, .getfield 12), (24, .iload_n 1), (25, .iload 4), (27, .iadd), (28, .iload_n 2), (29, .isub), (30, .invokevirtual 71), (33, .if_icmp .ne 9), (36, .iinc 4 1), (39, .goto (-36)), (42, .iload 4), (44, .ireturn)]
set_option maxRecDepth 100000 in
theorem kX7_sameBytes : chk cX7_sameBytes tX7_sameBytes = true := by decide +kernel
theorem vX7_sameBytes_71 : ∀ w ∈ ([.methodLink RX7 71 yX1_get, .instanceMethod yX1_get, .selects yX1_get.cls yX1_get yX1_get, .initialized yX1_get.cls, .code yX1_get cX1_get 2 (some .int)] : List Cond), w ∈ lw_good := List.forall_mem_cons.mpr ⟨mgd 1423 (by decide +kernel) (by decide +kernel), List.forall_mem_cons.mpr ⟨mgd 840 (by decide +kernel) (by decide +kernel), List.forall_mem_cons.mpr ⟨mgd 841 (by decide +kernel) (by decide +kernel), List.forall_mem_cons.mpr ⟨mgd 122 (by decide +kernel) (by decide +kernel), List.forall_mem_cons.mpr ⟨mgd 842 (by decide +kernel) (by decide +kernel), fun _ h => absurd h List.not_mem_nil⟩⟩⟩⟩⟩
set_option maxRecDepth 100000 in
set_option maxHeartbeats 2000000 in
theorem c_psame (l : Launch) : ∀ (k : Nat) (p : Nat) (b : Nat) (m : Nat) (r d : Nat) (R : List Nat), Ct l yX7_sameBytes cX7_sameBytes 5 (some .int) 1 21 (sp_psame k p b m r d R) := by
  intro k p b m r d R
  refine Ct.of (fX7, nX7, aX7, iX7, lX7, [(71, 0, 2, 1, T_bget)], qX7, gX7, []) false tX7_sameBytes (fun _ S => look [(3, ([4,0,1,2,3], I_same k p b m r d R S))]) (by decide) (by decide) kX7_sameBytes ⟨_, _, rfl⟩ fX7_ok nX7_ok aX7_ok iX7_ok lX7_ok (fun p e R s m args below meth c Q D cy z r A C hR1 hR2 => List.forall_mem_cons.mpr ⟨cOK_use (fun _ _ _ _ _ _ _ _ h => let ⟨sp, h1, h2, h3⟩ := u_bget l _ _ _ _ _ _ _ _ h; ⟨sp, cOK_V C h1 vX7_sameBytes_71 ⟨by decide, by decide, by decide +kernel⟩ ⟨by rw [hR1]; decide, by rw [hR2]; decide⟩ (k := 2) (T := TX1) (N := 3) rfl (by decide) h2, h3⟩), fun _ h => absurd h List.not_mem_nil⟩) qX7_ok gX7_ok rfl ?_ ?_
  · rintro _ S ⟨rfl, hp⟩
    refine ⟨Nat.le_of_ble_eq_true rfl, 300, ?_⟩
    show (∃ k1, I_same k p b m r d R S k1 [(4, .inl (0 : Int32)), (0, .inr (.inr (some k))), (1, .inl (nI p)), (2, .inl (nI b)), (3, .inl (nI m))] [] S 0 0)
    exact ⟨m, 0, by omega, rfl, rfl, rfl, rfl, rfl, rfl⟩
  · intro av S hpre pc I hI t lo st S1 cs sl h
    obtain ⟨rfl, hp⟩ := hpre
    have hm := look_in hI
    rw [List.mem_singleton] at hm
    cases hm
    obtain ⟨n, ht, rfl, rfl, rfl, rfl, rfl, he⟩ := h
    refine ⟨300, ?_⟩
    show (((nI m) ≤ (nI n) → (([] : List MV) = [] ∧ mret (some .int) (sp_psame k p b m r d R) [.inr (.inr (some k)), .inl (nI p), .inl (nI b), .inl (nI m)] S (some (.inl (nI n))) S 0 0)) ∧ (¬ (nI m) ≤ (nI n) → (isO S 8 k ∧ (0 = 0 ∧ ((pa (mR S 800 k) fun a_1 => (∃ (d_2 : Nat) (B_3 : List Nat), (By S a_1 d_2 B_3) ∧ 0 ≤ 0 ∧ 0 ≤ 0 ∧ ((isO S 8 k ∧ (0 = 0 ∧ ((pa (mR S 800 k) fun a_5 => (∃ (d_6 : Nat) (B_7 : List Nat), (By S a_5 d_6 B_7) ∧ 0 ≤ 0 ∧ 0 ≤ 0 ∧ (((¬ (bAt B_3 ((nI p) + (nI n))) = (bAt B_7 (((nI p) + (nI n)) - (nI b))) → (([] : List MV) = [] ∧ mret (some .int) (sp_psame k p b m r d R) [.inr (.inr (some k)), .inl (nI p), .inl (nI b), .inl (nI m)] S (some (.inl (nI n))) S 0 0)) ∧ ((bAt B_3 ((nI p) + (nI n))) = (bAt B_7 (((nI p) + (nI n)) - (nI b))) → (∃ k1, k1 < t ∧ I_same k p b m r d R S k1 [(4, .inl ((nI n) + (1 : Int32))), (0, .inr (.inr (some k))), (1, .inl (nI p)), (2, .inl (nI b)), (3, .inl (nI m))] [] S 0 0)))))))))))))))))
    obtain ⟨h1, h2, hB, h3, h4, h5⟩ := hp
    rw [h2, nI_add, pk_sub (by omega), nI_1]
    refine if_le (by omega) (by omega) (fun h6 => ⟨rfl, trivial, ⟨?_, rfl⟩, Nat.le_refl _, Nat.le_refl _⟩) (fun h6 => ⟨h1, rfl, d, R, hB, Nat.le_refl _, Nat.le_refl _, h1, rfl, d, R, hB, Nat.le_refl _, Nat.le_refl _, ?_⟩)
    · rw [he, show t = 0 by omega]; rfl
    · obtain ⟨t, rfl⟩ : ∃ t', t = t' + 1 := ⟨t - 1, by omega⟩
      have b1 := getD_lt hB.bytesLt (p + n)
      have b2 := getD_lt hB.bytesLt (p + n - b)
      rw [bAt_nI (by omega), bAt_nI (by omega)]
      rw [mlenF] at he
      refine if_ne (by omega) (by omega) (fun h7 => ⟨rfl, trivial, ⟨?_, rfl⟩, Nat.le_refl _, Nat.le_refl _⟩) (fun h7 => ⟨t, by omega, n + 1, by omega, rfl, rfl, rfl, rfl, rfl, ?_⟩)
      · rw [he, if_neg h7]
      · rw [he, if_pos h7]
theorem u_psame (l : Launch) : Us l yX7_sameBytes cX7_sameBytes 5 (some .int) 1 21 8 T_psame := by
  intro Rc Rs av S cs sl K Kx h
  unfold T_psame at h
  split at h
  · rename_i k_o p_v b_v m_v
    obtain ⟨k, rfl, h_1⟩ := pa_of h
    obtain ⟨p, rfl, h_2⟩ := h_1
    obtain ⟨b, rfl, h_3⟩ := h_2
    obtain ⟨m, rfl, h_4⟩ := h_3
    obtain ⟨r, d, R, hp, hc, hs, hk⟩ := h_4
    refine ⟨(sp_psame k p b m r d R), c_psame l k p b m r d R, fun _ _ h9 => ⟨_, _, h9.1, h9.2.1⟩, ⟨rfl, hp⟩, hc, hs, fun v9 S' h8 => by
      obtain ⟨h7, h8⟩ := h8
      cases h7
      subst h8
      exact hk, fun _ _ q => q.elim⟩
  · exact h.elim
/-- the packer k with its bytes at r, its rows nw and od -/
def Pk (S : MM) (k r nw od : Nat) : Prop := isO S 8 k ∧ mR S 800 k = some r ∧ mR S 801 k = some nw ∧ isO S 17 nw ∧ mN S nw = 1024 ∧ mR S 802 k = some od ∧ isO S 17 od ∧ nw ≠ od ∧ 64 ≤ mN S od ∧ mN S od ≤ 32768
theorem hsh_lt (R : List Nat) (p : Nat) : hsh R p < 1024 := Nat.mod_lt _ (by decide)
def remS (S : MM) (R : List Nat) (nw od p : Nat) : MM := if p + 4 ≤ R.length then rI (rI S od (upd (eI S od) p (eI S nw (hsh R p)))) nw (upd (eI S nw) (hsh R p) (nI (p + 1))) else S
def T_prem : TR := fun Rc Rs av S cs sl K _Kx => match av with
  | [.inr (.inr k_o), .inl p_v] => pa k_o fun k => (∃ (p : Nat), p_v = nI p ∧ (∃ (r d nw od : Nat) (R : List Nat), (Pk S k r nw od ∧ By S r d R ∧ p ≤ 100000 ∧ R.length ≤ mN S od) ∧ cs ≤ Rc ∧ sl ≤ Rs ∧ (K none (remS S R nw od p) cs sl)))
  | _ => False
def sp_prem (k : Nat) (p : Nat) (r d nw od : Nat) (R : List Nat) : Sp := (fun av S => av = [.inr (.inr (some k)), .inl (nI p)] ∧ (Pk S k r nw od ∧ By S r d R ∧ p ≤ 100000 ∧ R.length ≤ mN S od), fun _ S => 0, fun _ S => 0, fun _ S rv S' => rv = none ∧ S' = remS S R nw od p, fun _ _ _ _ => False)
def tX7_remember : CD := [(0, .iload_n 1), (1, .iconst 4), (2, .iadd), (3, .aload_n 0), (4, .getfield 12), (7, .getfield 35), (10, .if_icmp .gt 30), (13, .aload_n 0), (14, .iload_n 1), (15, .invokevirtual 75), (18, .istore_n 2), (19, .aload_n 0), (20, .getfield 22), (23, .iload_n 1), (24, .aload_n 0), (25, .getfield 18), (28, .iload_n 2), (29, .iaload), (30, .iastore), (31, .aload_n 0), (32, .getfield 18), (35, .iload_n 2), (36, .iload_n 1), (37, .iconst 1), (38, .iadd), (39, .iastore), (40, .return_)]
set_option maxRecDepth 100000 in
theorem kX7_remember : chk cX7_remember tX7_remember = true := by decide +kernel
theorem vX7_remember_75 : ∀ w ∈ ([.methodLink RX7 75 yX7_chainOf, .instanceMethod yX7_chainOf, .selects yX7_chainOf.cls yX7_chainOf yX7_chainOf, .initialized yX7_chainOf.cls, .code yX7_chainOf cX7_chainOf 3 (some .int)] : List Cond), w ∈ lw_good := List.forall_mem_cons.mpr ⟨mgd 1419 (by decide +kernel) (by decide +kernel), List.forall_mem_cons.mpr ⟨mgd 1421 (by decide +kernel) (by decide +kernel), List.forall_mem_cons.mpr ⟨mgd 32 (by decide +kernel) (by decide +kernel), List.forall_mem_cons.mpr ⟨mgd 132 (by decide +kernel) (by decide +kernel), List.forall_mem_cons.mpr ⟨mgd 1422 (by decide +kernel) (by decide +kernel), fun _ h => absurd h List.not_mem_nil⟩⟩⟩⟩⟩
set_option maxRecDepth 100000 in
set_option maxHeartbeats 2000000 in
theorem c_prem (l : Launch) : ∀ (k : Nat) (p : Nat) (r d nw od : Nat) (R : List Nat), Ct l yX7_remember cX7_remember 3 none 2 43 (sp_prem k p r d nw od R) := by
  intro k p r d nw od R
  refine Ct.of (fX7, nX7, aX7, iX7, lX7, [(75, 0, 2, 1, T_pchn)], qX7, gX7, []) false tX7_remember (fun _ _ _ => none) (by decide) (by decide) kX7_remember ⟨_, _, rfl⟩ fX7_ok nX7_ok aX7_ok iX7_ok lX7_ok (fun p e R s m args below meth c Q D cy z r A C hR1 hR2 => List.forall_mem_cons.mpr ⟨cOK_use (fun _ _ _ _ _ _ _ _ h => let ⟨sp, h1, h2, h3⟩ := u_pchn l _ _ _ _ _ _ _ _ h; ⟨sp, cOK_V C h1 vX7_remember_75 ⟨by decide, by decide, by decide +kernel⟩ ⟨by rw [hR1]; decide, by rw [hR2]; decide⟩ (k := 8) (T := TX7) (N := 5) rfl (by decide) h2, h3⟩), fun _ h => absurd h List.not_mem_nil⟩) qX7_ok gX7_ok rfl ?_ ?_
  · rintro _ S ⟨rfl, hp⟩
    refine ⟨Nat.le_of_ble_eq_true rfl, 300, ?_⟩
    show (isO S 8 k ∧ (pa (mR S 800 k) fun a_1 => isO S 2 a_1 ∧ (((mI S 201 a_1) < ((nI p) + (4 : Int32)) → (([] : List MV) = [] ∧ mret none (sp_prem k p r d nw od R) [.inr (.inr (some k)), .inl (nI p)] S none S 0 0)) ∧ (¬ (mI S 201 a_1) < ((nI p) + (4 : Int32)) → (0 = 0 ∧ (∃ (p_2 : Nat), nI p = nI p_2 ∧ (∃ (r_3 d_4 : Nat) (R_5 : List Nat), (isO S 8 k ∧ mR S 800 k = some r_3 ∧ By S r_3 d_4 R_5 ∧ p_2 ≤ 100000) ∧ 0 ≤ 0 ∧ 0 ≤ 0 ∧ ((isO S 8 k ∧ (isO S 8 k ∧ (pa (mR S 801 k) fun a_7 => ∃ v_8 : Int32, (isO S 17 a_7 ∧ inR S a_7 (nI (hsh R_5 p_2)) ∧ v_8 = eI S a_7 (nI (hsh R_5 p_2)).toNatClampNeg ∨ a_7 = (mQ S).1 ∧ vp_in (nI (hsh R_5 p_2)) 16 ∧ v_8 = mRem (nI (hsh R_5 p_2)).toNatClampNeg) ∧ (pa (mR S 802 k) fun a_9 => isO S 17 a_9 ∧ inR S a_9 (nI p) ∧ (isO (rI S a_9 (upd (eI S a_9) (nI p).toNatClampNeg v_8)) 8 k ∧ (pa (mR (rI S a_9 (upd (eI S a_9) (nI p).toNatClampNeg v_8)) 801 k) fun a_10 => isO (rI S a_9 (upd (eI S a_9) (nI p).toNatClampNeg v_8)) 17 a_10 ∧ inR (rI S a_9 (upd (eI S a_9) (nI p).toNatClampNeg v_8)) a_10 (nI (hsh R_5 p_2)) ∧ (([] : List MV) = [] ∧ mret none (sp_prem k p r d nw od R) [.inr (.inr (some k)), .inl (nI p)] S none (rI (rI S a_9 (upd (eI S a_9) (nI p).toNatClampNeg v_8)) a_10 (upd (eI (rI S a_9 (upd (eI S a_9) (nI p).toNatClampNeg v_8)) a_10) (nI (hsh R_5 p_2)).toNatClampNeg ((nI p) + (1 : Int32)))) 0 0)))))))))))))))
    obtain ⟨⟨h1, h2, h3, h4, h5, h6, h7, h8, h9, h10⟩, hB, hp1, hlen⟩ := hp
    have hl := hB.len
    rw [h2]
    refine ⟨h1, hB.1, ?_⟩
    rw [hB.2.2.2.1, show nI p + (4 : Int32) = nI (p + 4) from nI_add p 4]
    refine if_lt (by omega) (by omega) (fun h11 => ⟨rfl, trivial, ⟨rfl, ?_⟩, Nat.le_refl _, Nat.le_refl _⟩) (fun h11 => ⟨rfl, p, rfl, r, d, R, ⟨h1, rfl, hB, hp1⟩, Nat.le_refl _, Nat.le_refl _, h1, ?_⟩)
    · rw [remS, if_neg (by omega)]
    · have hc := hsh_lt R p
      rw [h6, h3]
      refine ⟨h1, _, Or.inl ⟨h4, ?_, rfl⟩, ?_⟩
      · rw [inR, h5]; exact vp_in_nI hc (by decide)
      · rw [nI_clamp (by omega), nI_clamp (by omega)]
        refine ⟨h7, vp_in_nI (by omega) (by omega), h1, ?_⟩
        show pa (mR S 801 k) _
        rw [h3]
        refine ⟨h4, ?_, rfl, trivial, ⟨rfl, ?_⟩, Nat.le_refl _, Nat.le_refl _⟩
        · show vp_in _ (mN S nw)
          rw [h5]; exact vp_in_nI hc (by decide)
        · rw [remS, if_pos h11, nI_1]
          have : eI (rI S od (upd (eI S od) p (eI S nw (hsh R p)))) nw = eI S nw := by rw [eI_rI, if_neg h8]
          rw [this]
  · exact fun _ _ _ _ _ h => by cases h
theorem u_prem (l : Launch) : Us l yX7_remember cX7_remember 3 none 2 43 8 T_prem := by
  intro Rc Rs av S cs sl K Kx h
  unfold T_prem at h
  split at h
  · rename_i k_o p_v
    obtain ⟨k, rfl, h_1⟩ := pa_of h
    obtain ⟨p, rfl, h_2⟩ := h_1
    obtain ⟨r, d, nw, od, R, hp, hc, hs, hk⟩ := h_2
    refine ⟨(sp_prem k p r d nw od R), c_prem l k p r d nw od R, fun _ _ h9 => ⟨_, _, h9.1, h9.2.1.1⟩, ⟨rfl, hp⟩, hc, hs, fun S' h8 => by
      obtain ⟨-, h8⟩ := h8
      subst h8
      exact hk, fun _ _ q => q.elim⟩
  · exact h.elim
/-- a repeat's bytes -/
def repW (R : List Nat) (b : Nat) : Nat → List Nat
  | 0 => []
  | n + 1 => repW R b n ++ [(R ++ repW R b n).getD ((R ++ repW R b n).length - b) 0]
theorem repW_len (R : List Nat) (b : Nat) : ∀ n, (repW R b n).length = n
  | 0 => rfl
  | n + 1 => by rw [repW, List.length_append, repW_len R b n]; rfl
theorem b8_nI {x : Nat} (h : x < 256) : b8 (nI x) = x := by
  unfold b8
  rw [pk_tn (by omega)]
  omega
theorem map_b8 {l : List Nat} (h : ∀ x ∈ l, x < 256) : (l.map nI).map b8 = l := by
  rw [List.map_map]
  conv => rhs; rw [← List.map_id l]
  refine List.map_congr_left (fun x hx => ?_)
  exact b8_nI (h x hx)
theorem repW_lt {R : List Nat} {b : Nat} (h : ∀ x ∈ R, x < 256) : ∀ n, ∀ x ∈ repW R b n, x < 256
  | 0, x, hx => absurd hx List.not_mem_nil
  | n + 1, x, hx => by
    rw [repW] at hx
    rcases List.mem_append.mp hx with hx | hx
    · exact repW_lt h n x hx
    · rw [List.mem_singleton.mp hx]
      exact getD_lt (fun y hy => (List.mem_append.mp hy).elim (h y) (repW_lt h n y)) _
theorem bPuts_rep {R : List Nat} {b n : Nat} (h : ∀ x ∈ R, x < 256) (hl : R.length + n ≤ 32768) : bPuts R ((repW R b n).map nI) = R ++ repW R b n := by
  rw [bPuts_fit (by rw [List.length_map, repW_len]; exact hl), map_b8 (repW_lt h n)]
/-- one byte more, its cost -/
theorem App.cost1 {S S1 : MM} {a d d1 : Nat} {B : List Nat} {vs : List Int32} (hB : B.length ≤ 32768) (h1 : App S S1 a d d1 B vs) : addNC vs.length (mN S d) B.length + addNC 1 (mN S1 d1) (bPuts B vs).length = addNC (vs.length + 1) (mN S d) B.length ∧ addNS vs.length (mN S d) B.length + addNS 1 (mN S1 d1) (bPuts B vs).length = addNS (vs.length + 1) (mN S d) B.length := by
  obtain ⟨a1, -, -, -, a5⟩ := h1
  rw [bPuts_len hB, a5]
  exact ⟨(addNC_add _ _ _ 1).symm, (addNS_add _ _ _ 1).symm⟩
/-- some bytes more, their cost -/
theorem App.costN {S S1 : MM} {a d d1 : Nat} {B : List Nat} {vs : List Int32} (hB : B.length ≤ 32768) (h1 : App S S1 a d d1 B vs) (m : Nat) : addNC vs.length (mN S d) B.length + addNC m (mN S1 d1) (bPuts B vs).length = addNC (vs.length + m) (mN S d) B.length ∧ addNS vs.length (mN S d) B.length + addNS m (mN S1 d1) (bPuts B vs).length = addNS (vs.length + m) (mN S d) B.length := by
  obtain ⟨a1, -, -, -, a5⟩ := h1
  rw [bPuts_len hB, a5]
  exact ⟨(addNC_add _ _ _ m).symm, (addNS_add _ _ _ m).symm⟩
def repP (S S' : MM) (r d n : Nat) (o : Option Nat) (R : List Nat) (v : Int32) : Prop := (v = 1 ∧ ∃ x d', o = some x ∧ 4 ≤ n ∧ 1 ≤ x ∧ x ≤ R.length ∧ App S S' r d d' R ((repW R x n).map nI)) ∨ (v = 0 ∧ ¬ (4 ≤ n ∧ ∃ x, o = some x ∧ 1 ≤ x ∧ x ≤ R.length) ∧ S' = S)
/-- whether a repeat can be made -/
def repB (n : Nat) (o : Option Nat) (l : Nat) : Bool := match o with
  | some x => decide (4 ≤ n ∧ 1 ≤ x ∧ x ≤ l)
  | none => false
theorem repB_t {n x l : Nat} (h1 : 4 ≤ n) (h2 : 1 ≤ x) (h3 : x ≤ l) : repB n (some x) l = true := decide_eq_true ⟨h1, h2, h3⟩
def I_rep (k n r d : Nat) (o : Option Nat) (R : List Nat) (b : Int32) (S : MM) (t : Nat) : KT := fun lo st S1 cs sl => ∃ x i d1, o = some x ∧ i + t = n ∧ 4 ≤ n ∧ b = nI x ∧ 1 ≤ x ∧ x ≤ R.length ∧ lo = [(3, .inl (nI i)), (1, .inl (nI n)), (2, .inl b), (0, .inr (.inr (some k)))] ∧ st = [] ∧ App S S1 r d d1 R ((repW R x i).map nI) ∧ cs = addNC i (mN S d) R.length ∧ sl = addNS i (mN S d) R.length
def T_prep : TR := fun Rc Rs av S cs sl K _Kx => match av with
  | [.inr (.inr k_o), .inl n_v, .inl b] => pa k_o fun k => (∃ (n : Nat), n_v = nI n ∧ (∃ (r d : Nat) (o : Option Nat) (R : List Nat), (isO S 8 k ∧ mR S 800 k = some r ∧ By S r d R ∧ R.length + n ≤ 32768 ∧ b = oI o ∧ (∀ x, o = some x → x < 2147483648)) ∧ cs + (if repB n o R.length = true then addNC n (mN S d) R.length else 0) ≤ Rc ∧ sl + (if repB n o R.length = true then addNS n (mN S d) R.length else 0) ≤ Rs ∧ (∀ (v : Int32) (S' : MM), (repP S S' r d n o R v) → K (some (.inl v)) S' (cs + (if repB n o R.length = true then addNC n (mN S d) R.length else 0)) (sl + (if repB n o R.length = true then addNS n (mN S d) R.length else 0)))))
  | _ => False
def sp_prep (k : Nat) (n : Nat) (b : Int32) (r d : Nat) (o : Option Nat) (R : List Nat) : Sp := (fun av S => av = [.inr (.inr (some k)), .inl (nI n), .inl b] ∧ (isO S 8 k ∧ mR S 800 k = some r ∧ By S r d R ∧ R.length + n ≤ 32768 ∧ b = oI o ∧ (∀ x, o = some x → x < 2147483648)), fun _ S => (if repB n o R.length = true then addNC n (mN S d) R.length else 0), fun _ S => (if repB n o R.length = true then addNS n (mN S d) R.length else 0), fun _ S rv S' => ∃ v, rv = (some (.inl v)) ∧ (repP S S' r d n o R v), fun _ _ _ _ => False)
def tX7_repeat : CD := [(0, .iload_n 1), (1, .iconst 4), (2, .if_icmp .lt 19), (5, .iload_n 2), (6, .iconst 1), (7, .if_icmp .lt 14), (10, .iload_n 2), (11, .aload_n 0), (12, .getfield 12), (15, .getfield 35), (18, .if_icmp .le 5), (21, .iconst 0), (22, .ireturn), (23, .iconst 0), (24, .istore_n 3), (25, .iload_n 3), (26, .iload_n 1), (27, .if_icmp .ge 32), (30, .aload_n 0), (31, .getfield 12), (34, .aload_n 0), (35, .getfield 12), (38, .aload_n 0), (39, .getfield 12), (42, .getfield 35), (45, .iload_n 2), (46, .isub), (47, .invokevirtual 71), (50, .invokevirtual 100), (53, .iinc 3 1), (56, .goto (-31)), (59, .iconst 1), (60, .ireturn)]
set_option maxRecDepth 100000 in
theorem kX7_repeat : chk cX7_repeat tX7_repeat = true := by decide +kernel
theorem vX7_repeat_71 : ∀ w ∈ ([.methodLink RX7 71 yX1_get, .instanceMethod yX1_get, .selects yX1_get.cls yX1_get yX1_get, .initialized yX1_get.cls, .code yX1_get cX1_get 2 (some .int)] : List Cond), w ∈ lw_good := List.forall_mem_cons.mpr ⟨mgd 1423 (by decide +kernel) (by decide +kernel), List.forall_mem_cons.mpr ⟨mgd 840 (by decide +kernel) (by decide +kernel), List.forall_mem_cons.mpr ⟨mgd 841 (by decide +kernel) (by decide +kernel), List.forall_mem_cons.mpr ⟨mgd 122 (by decide +kernel) (by decide +kernel), List.forall_mem_cons.mpr ⟨mgd 842 (by decide +kernel) (by decide +kernel), fun _ h => absurd h List.not_mem_nil⟩⟩⟩⟩⟩
theorem vX7_repeat_100 : ∀ w ∈ ([.methodLink RX7 100 yX1_add, .instanceMethod yX1_add, .selects yX1_add.cls yX1_add yX1_add, .initialized yX1_add.cls, .code yX1_add cX1_add 2 none] : List Cond), w ∈ lw_good := List.forall_mem_cons.mpr ⟨mgd 1527 (by decide +kernel) (by decide +kernel), List.forall_mem_cons.mpr ⟨mgd 772 (by decide +kernel) (by decide +kernel), List.forall_mem_cons.mpr ⟨mgd 773 (by decide +kernel) (by decide +kernel), List.forall_mem_cons.mpr ⟨mgd 122 (by decide +kernel) (by decide +kernel), List.forall_mem_cons.mpr ⟨mgd 774 (by decide +kernel) (by decide +kernel), fun _ h => absurd h List.not_mem_nil⟩⟩⟩⟩⟩
set_option maxRecDepth 100000 in
set_option maxHeartbeats 2000000 in
theorem c_prep (l : Launch) : ∀ (k : Nat) (n : Nat) (b : Int32) (r d : Nat) (o : Option Nat) (R : List Nat), Ct l yX7_repeat cX7_repeat 4 (some .boolean) 3 75 (sp_prep k n b r d o R) := by
  intro k n b r d o R
  refine Ct.of (fX7, nX7, aX7, iX7, lX7, [(71, 0, 2, 1, T_bget), (100, 0, 2, 0, T_badd)], qX7, gX7, []) false tX7_repeat (fun _ S => look [(25, ([3,1,2,0], I_rep k n r d o R b S))]) (by decide) (by decide) kX7_repeat ⟨_, _, rfl⟩ fX7_ok nX7_ok aX7_ok iX7_ok lX7_ok (fun p e R s m args below meth c Q D cy z r A C hR1 hR2 => List.forall_mem_cons.mpr ⟨cOK_use (fun _ _ _ _ _ _ _ _ h => let ⟨sp, h1, h2, h3⟩ := u_bget l _ _ _ _ _ _ _ _ h; ⟨sp, cOK_V C h1 vX7_repeat_71 ⟨by decide, by decide, by decide +kernel⟩ ⟨by rw [hR1]; decide, by rw [hR2]; decide⟩ (k := 2) (T := TX1) (N := 3) rfl (by decide) h2, h3⟩), List.forall_mem_cons.mpr ⟨cOK_use (fun _ _ _ _ _ _ _ _ h => let ⟨sp, h1, h2, h3⟩ := u_badd l _ _ _ _ _ _ _ _ h; ⟨sp, cOK_V C h1 vX7_repeat_100 ⟨by decide, by decide, by decide +kernel⟩ ⟨by rw [hR1]; decide, by rw [hR2]; decide⟩ (k := 2) (T := TX1) (N := 3) rfl (by decide) h2, h3⟩), fun _ h => absurd h List.not_mem_nil⟩⟩) qX7_ok gX7_ok rfl ?_ ?_
  · rintro _ S ⟨rfl, hp⟩
    refine ⟨Nat.le_of_ble_eq_true rfl, 300, ?_⟩
    show (((nI n) < (4 : Int32) → (([] : List MV) = [] ∧ mret (some .boolean) (sp_prep k n b r d o R) [.inr (.inr (some k)), .inl (nI n), .inl b] S (some (.inl (0 : Int32))) S 0 0)) ∧ (¬ (nI n) < (4 : Int32) → ((b < (1 : Int32) → (([] : List MV) = [] ∧ mret (some .boolean) (sp_prep k n b r d o R) [.inr (.inr (some k)), .inl (nI n), .inl b] S (some (.inl (0 : Int32))) S 0 0)) ∧ (¬ b < (1 : Int32) → (isO S 8 k ∧ (pa (mR S 800 k) fun a_1 => isO S 2 a_1 ∧ ((b ≤ (mI S 201 a_1) → (∃ k1, I_rep k n r d o R b S k1 [(3, .inl (0 : Int32)), (1, .inl (nI n)), (2, .inl b), (0, .inr (.inr (some k)))] [] S 0 0)) ∧ (¬ b ≤ (mI S 201 a_1) → (([] : List MV) = [] ∧ mret (some .boolean) (sp_prep k n b r d o R) [.inr (.inr (some k)), .inl (nI n), .inl b] S (some (.inl (0 : Int32))) S 0 0)))))))))
    obtain ⟨h1, h2, hB, h3, h4, h5⟩ := hp
    have hl := hB.len
    have hno : ∀ (z : ¬ (4 ≤ n ∧ ∃ x, o = some x ∧ 1 ≤ x ∧ x ≤ R.length)), mret (some .boolean) (sp_prep k n b r d o R) [.inr (.inr (some k)), .inl (nI n), .inl b] S (some (.inl 0)) S 0 0 := fun z => ⟨Or.inl rfl, ⟨0, rfl, Or.inr ⟨rfl, z, rfl⟩⟩, Nat.zero_le _, Nat.zero_le _⟩
    refine if_lt (b := 4) (by omega) (by decide) (fun h6 => ⟨rfl, hno (by omega)⟩) (fun h6 => ?_)
    cases o with
    | none => exact ⟨fun _ => ⟨rfl, hno (fun ⟨_, x, hx, _⟩ => by cases hx)⟩, fun z => absurd (by rw [h4]; decide) z⟩
    | some x =>
      have hx := h5 x rfl
      have h4 : b = nI x := h4
      rw [h4, h2]
      refine if_lt (b := 1) hx (by decide) (fun h7 => ⟨rfl, hno (fun ⟨_, y, hy, hz⟩ => by cases hy; omega)⟩) (fun h7 => ⟨h1, hB.1, ?_⟩)
      rw [hB.2.2.2.1]
      refine if_le hx (by omega) (fun h8 => ⟨n, x, 0, d, rfl, by omega, h6, rfl, h7, h8, rfl, rfl, App.nil hB, rfl, rfl⟩) (fun h8 => ⟨rfl, hno (fun ⟨_, y, hy, hz⟩ => by cases hy; omega)⟩)
  · intro av S hpre pc I hI t lo st S1 cs sl h
    obtain ⟨rfl, hp⟩ := hpre
    have hm := look_in hI
    rw [List.mem_singleton] at hm
    cases hm
    obtain ⟨x, i, d1, ho, hi, h4n, hb, hx1, hx2, rfl, rfl, A, rfl, rfl⟩ := h
    refine ⟨300, ?_⟩
    show (((nI n) ≤ (nI i) → (([] : List MV) = [] ∧ mret (some .boolean) (sp_prep k n b r d o R) [.inr (.inr (some k)), .inl (nI n), .inl b] S (some (.inl (1 : Int32))) S1 (addNC i (mN S d) R.length) (addNS i (mN S d) R.length))) ∧ (¬ (nI n) ≤ (nI i) → (isO S1 8 k ∧ (isO S1 8 k ∧ (isO S1 8 k ∧ (pa (mR S1 800 k) fun a_1 => isO S1 2 a_1 ∧ (0 = 0 ∧ ((pa (mR S1 800 k) fun a_2 => (∃ (d_3 : Nat) (B_4 : List Nat), (By S1 a_2 d_3 B_4) ∧ addNC i (mN S d) R.length ≤ (if repB n o R.length = true then addNC n (mN S d) R.length else 0) ∧ addNS i (mN S d) R.length ≤ (if repB n o R.length = true then addNS n (mN S d) R.length else 0) ∧ ((0 = 0 ∧ ((pa (mR S1 800 k) fun a_6 => (∃ (d_7 : Nat) (B_8 : List Nat), (By S1 a_6 d_7 B_8) ∧ addNC i (mN S d) R.length + (addNC 1 (mN S1 d_7) B_8.length) ≤ (if repB n o R.length = true then addNC n (mN S d) R.length else 0) ∧ addNS i (mN S d) R.length + (addNS 1 (mN S1 d_7) B_8.length) ≤ (if repB n o R.length = true then addNS n (mN S d) R.length else 0) ∧ (∀ (S_9 : MM), (∃ d', App S1 S_9 a_6 d_7 d' B_8 [(bAt B_4 ((mI S1 201 a_1) - b))]) → (∃ k1, k1 < t ∧ I_rep k n r d o R b S k1 [(3, .inl ((nI i) + (1 : Int32))), (1, .inl (nI n)), (2, .inl b), (0, .inr (.inr (some k)))] [] S_9 (addNC i (mN S d) R.length + (addNC 1 (mN S1 d_7) B_8.length)) (addNS i (mN S d) R.length + (addNS 1 (mN S1 d_7) B_8.length)))))))))))))))))))
    obtain ⟨h1, h2, hB, h3, h4, h5⟩ := hp
    have hl := hB.len
    have hk : ¬ (k = r ∨ k = d) := fun z => z.elim (isO_ne h1 hB.1 (by decide)) (isO_ne h1 hB.2.2.1 (by decide))
    have h1' : isO S1 8 k := A.2.1.isO h1
    have h2' : mR S1 800 k = some r := by rw [(A.2.1.2.1 k h1.1 hk).2.1]; exact h2
    have hB1 := A.1
    have hlen : (bPuts R ((repW R x i).map nI)).length = R.length + i := by rw [bPuts_rep hB.bytesLt (by omega), List.length_append, repW_len]
    have hc := A.cost1 hl
    rw [List.length_map, repW_len] at hc
    have hrb : repB n o R.length = true := by rw [ho]; exact repB_t h4n hx1 hx2
    rw [h2', if_pos hrb, if_pos hrb]
    refine if_le (by omega) (by omega) (fun h6 => ⟨rfl, Or.inr rfl, ⟨1, rfl, Or.inl ⟨rfl, x, d1, ho, h4n, hx1, hx2, ?_⟩⟩, ?_, ?_⟩) (fun h6 => ⟨h1', h1', h1', hB1.1, ?_⟩)
    · rw [show n = i by omega]; exact A
    · show addNC i _ _ ≤ if repB n o R.length = true then addNC n _ _ else 0
      rw [if_pos hrb]; exact addNC_mono _ _ (by omega)
    · show addNS i _ _ ≤ if repB n o R.length = true then addNS n _ _ else 0
      rw [if_pos hrb]; exact addNS_mono _ _ (by omega)
    · rw [hB1.2.2.2.1, hlen, hb, pk_sub (by omega)]
      refine ⟨rfl, d1, _, hB1, Nat.le_trans (addNC_mono _ _ (by omega)) (Nat.le_refl _), Nat.le_trans (addNS_mono _ _ (by omega)) (Nat.le_refl _), rfl, d1, _, hB1, ?_, ?_, fun S2 h7 => ?_⟩
      · rw [hc.1]; exact addNC_mono _ _ (by omega)
      · rw [hc.2]; exact addNS_mono _ _ (by omega)
      · obtain ⟨d2, A2⟩ := h7
        have e9 : bAt (bPuts R ((repW R x i).map nI)) (nI (R.length + i - x)) = nI ((R ++ repW R x i).getD ((R ++ repW R x i).length - x) 0) := by
          rw [bAt_nI (by omega), bPuts_rep hB.bytesLt (by omega), List.length_append, repW_len]
        rw [e9] at A2
        have A3 := A.app hl A2
        refine ⟨t - 1, by omega, x, i + 1, d2, ho, by omega, h4n, rfl, hx1, hx2, ?_, rfl, ?_, hc.1, hc.2⟩
        · rw [nI_1]
        · rw [repW, List.map_append]; exact A3
theorem u_prep (l : Launch) : Us l yX7_repeat cX7_repeat 4 (some .boolean) 3 75 8 T_prep := by
  intro Rc Rs av S cs sl K Kx h
  unfold T_prep at h
  split at h
  · rename_i k_o n_v b
    obtain ⟨k, rfl, h_1⟩ := pa_of h
    obtain ⟨n, rfl, h_2⟩ := h_1
    obtain ⟨r, d, o, R, hp, hc, hs, hk⟩ := h_2
    refine ⟨(sp_prep k n b r d o R), c_prep l k n b r d o R, fun _ _ h9 => ⟨_, _, h9.1, h9.2.1⟩, ⟨rfl, hp⟩, hc, hs, fun v9 S' h8 => by
      obtain ⟨v8, h7, h8⟩ := h8
      cases h7
      exact hk _ _ h8, fun _ _ q => q.elim⟩
  · exact h.elim
