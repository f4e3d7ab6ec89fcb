/-! ===== Packer.seekRepeat ===== -/
theorem imin_nI {a b : Nat} (ha : a < 2147483648) (hb : b < 2147483648) : imin (nI a) (nI b) = nI (min a b) := by
  unfold imin
  by_cases h : b < a
  · rw [if_pos ((nI_ltI hb ha).mpr h), Nat.min_eq_right (by omega)]
  · rw [if_neg (fun q => h ((nI_ltI hb ha).mp q)), Nat.min_eq_left (by omega)]
theorem imax_nI {a b : Nat} (ha : a < 2147483648) (hb : b < 2147483648) : imax (nI a) (nI b) = nI (max a b) := by
  unfold imax
  by_cases h : a < b
  · rw [if_pos ((nI_ltI ha hb).mpr h), Nat.max_eq_right (by omega)]
  · rw [if_neg (fun q => h ((nI_ltI ha hb).mp q)), Nat.max_eq_left (by omega)]
/-- the place behind the last one before n whose bytes mix to c -/
def lastP (R : List Nat) (c : Nat) : Nat → Nat
  | 0 => 0
  | n + 1 => if hsh R n = c then n + 1 else lastP R c n
theorem lastP_le (R : List Nat) (c : Nat) : ∀ n, lastP R c n ≤ n
  | 0 => Nat.le_refl _
  | n + 1 => by
    rw [lastP]
    split
    · exact Nat.le_refl _
    · exact Nat.le_succ_of_le (lastP_le R c n)
theorem lastP_hit {R : List Nat} {c : Nat} : ∀ {n t}, lastP R c n = t + 1 → hsh R t = c
  | 0, t, h => by cases h
  | n + 1, t, h => by
    rw [lastP] at h
    split at h
    · cases h; assumption
    · exact lastP_hit h
theorem lastP_gap {R : List Nat} {c : Nat} : ∀ {n q}, lastP R c n ≤ q → q < n → hsh R q ≠ c
  | 0, q, _, h => absurd h (Nat.not_lt_zero _)
  | n + 1, q, h1, h2 => by
    rw [lastP] at h1
    split at h1
    · omega
    · rename_i h3
      rcases Nat.lt_or_ge q n with z | z
      · exact lastP_gap h1 z
      · rw [show q = n by omega]; exact h3
theorem mlenF_le {R : List Nat} {p b : Nat} : ∀ {t n}, n ≤ mlenF R p b t n ∧ mlenF R p b t n ≤ n + t
  | 0, n => ⟨Nat.le_refl _, Nat.le_refl _⟩
  | t + 1, n => by
    rw [mlenF]
    split
    · have := mlenF_le (R := R) (p := p) (b := b) (t := t) (n := n + 1)
      omega
    · omega
theorem mlenF_eq {R : List Nat} {p b : Nat} : ∀ {t n i}, n ≤ i → i < mlenF R p b t n → R.getD (p + i) 0 = R.getD (p + i - b) 0
  | 0, n, i, h1, h2 => by rw [mlenF] at h2; omega
  | t + 1, n, i, h1, h2 => by
    rw [mlenF] at h2
    split at h2
    · rename_i h3
      rcases Nat.lt_or_ge n i with z | z
      · exact mlenF_eq (by omega) h2
      · rw [show i = n by omega]; exact h3
    · omega
theorem mlen_le (R : List Nat) (p b m : Nat) : mlen R p b m ≤ m := by have := (mlenF_le (R := R) (p := p) (b := b) (t := m) (n := 0)).2; unfold mlen; omega
theorem mlen_hsh {R : List Nat} {p b m : Nat} (h : 4 ≤ mlen R p b m) (hb : b ≤ p) : hsh R (p - b) = hsh R p := by
  have e : ∀ i, i < 4 → R.getD (p + i) 0 = R.getD (p - b + i) 0 := fun i hi => by
    rw [mlenF_eq (t := m) (n := 0) (b := b) (Nat.zero_le _) (Nat.lt_of_lt_of_le hi h), show p + i - b = p - b + i by omega]
  unfold hsh
  rw [show R.getD p 0 = R.getD (p - b) 0 from e 0 (by decide), e 1 (by decide), e 2 (by decide), e 3 (by decide)]
def bst (R : List Nat) (p m : Nat) : Nat → Nat × Nat
  | 0 => (0, 0)
  | d + 1 => if (bst R p m d).1 < mlen R p (d + 1) m then (mlen R p (d + 1) m, d + 1) else bst R p m d
/-- the longest repeat at p, of these the nearest -/
def best (R : List Nat) (p : Nat) : Nat × Nat := bst R p (min 64 (R.length - p)) (min p 4095)
theorem bst_ch (R : List Nat) (p m : Nat) : ∀ D, (∀ b, 1 ≤ b → b ≤ D → mlen R p b m ≤ (bst R p m D).1) ∧ ((bst R p m D).1 ≠ 0 → 1 ≤ (bst R p m D).2 ∧ (bst R p m D).2 ≤ D ∧ mlen R p (bst R p m D).2 m = (bst R p m D).1 ∧ ∀ b, 1 ≤ b → b < (bst R p m D).2 → mlen R p b m < (bst R p m D).1)
  | 0 => ⟨fun b h1 h2 => by omega, fun h => absurd rfl h⟩
  | D + 1 => by
    obtain ⟨i1, i2⟩ := bst_ch R p m D
    rw [bst]
    split
    · rename_i h
      refine ⟨fun b h1 h2 => ?_, fun _ => ⟨Nat.succ_pos _, Nat.le_refl _, rfl, fun b h1 h2 => ?_⟩⟩
      · rcases Nat.lt_or_ge D b with z | z
        · rw [show b = D + 1 by omega]; exact Nat.le_refl _
        · exact Nat.le_of_lt (Nat.lt_of_le_of_lt (i1 b h1 z) h)
      · exact Nat.lt_of_le_of_lt (i1 b h1 (by omega)) h
    · rename_i h
      refine ⟨fun b h1 h2 => ?_, fun hz => ?_⟩
      · rcases Nat.lt_or_ge D b with z | z
        · rw [show b = D + 1 by omega]; exact Nat.le_of_not_lt h
        · exact i1 b h1 z
      · obtain ⟨a1, a2, a3, a4⟩ := i2 hz
        exact ⟨a1, Nat.le_succ_of_le a2, a3, a4⟩
def Hid (P : Prop) : Prop := P
def SK (R : List Nat) (p x : Nat) (y : Int32) : Prop := (4 ≤ (best R p).1 → x = (best R p).1 ∧ y = nI (best R p).2) ∧ ((best R p).1 < 4 → x = 0)
/-- what is found so far, down to the place fr -/
def BS (R : List Nat) (p m fr x : Nat) (y : Int32) : Prop := x ≤ m ∧ (x = 0 ∨ 4 ≤ x) ∧ (∀ q, fr ≤ q → q < p → p - q ≤ 4095 → mlen R p (p - q) m ≤ max x 3) ∧ (x ≠ 0 → ∃ b, y = nI b ∧ 1 ≤ b ∧ b ≤ 4095 ∧ b ≤ p ∧ mlen R p b m = x ∧ ∀ b', 1 ≤ b' → b' < b → mlen R p b' m < x)
theorem BS.fin {R : List Nat} {p m fr x : Nat} {y : Int32} (h : BS R p m fr x y) (hm : m = min 64 (R.length - p)) (hx : fr = 0 ∨ 4095 ≤ p - fr ∨ m ≤ x ∨ (0 < fr ∧ fr ≤ p ∧ 4095 < p - fr + 1)) : SK R p x y := by
  obtain ⟨h1, h2, h3, h4⟩ := h
  have hall : ∀ b, 1 ≤ b → b ≤ min p 4095 → mlen R p b m ≤ max x 3 := fun b b1 b2 => by
    rcases Nat.lt_or_ge (p - b) fr with z | z
    · rcases hx with hx | hx | hx | hx
      · omega
      · omega
      · have := mlen_le R p b m; omega
      · omega
    · have := h3 (p - b) z (by omega) (by omega)
      rw [show p - (p - b) = b by omega] at this
      exact this
  obtain ⟨c1, c2⟩ := bst_ch R p m (min p 4095)
  have eb : best R p = bst R p m (min p 4095) := by rw [best, hm]
  rw [SK, eb]
  refine ⟨fun h5 => ?_, fun h5 => ?_⟩
  · obtain ⟨a1, a2, a3, a4⟩ := c2 (by omega)
    have h6 := hall _ a1 a2
    rw [a3] at h6
    obtain ⟨b, b1, b2, b3, b4, b5, b6⟩ := h4 (by omega)
    have h7 := c1 b b2 (by omega)
    have hxe : x = (bst R p m (min p 4095)).1 := by omega
    refine ⟨hxe, ?_⟩
    have : b = (bst R p m (min p 4095)).2 := by
      rcases Nat.lt_trichotomy b (bst R p m (min p 4095)).2 with z | z | z
      · have := a4 b b2 z; omega
      · exact z
      · have := b6 _ a1 z; omega
    rw [b1, this]
  · rcases h2 with h2 | h2
    · exact h2
    · obtain ⟨b, b1, b2, b3, b4, b5, b6⟩ := h4 (by omega)
      have h7 := c1 b b2 (by omega)
      omega
theorem BS.step {R : List Nat} {p m fr x : Nat} {y : Int32} (h : BS R p m (fr + 1) x y) (hfr : fr < p) (hb : p - fr ≤ 4095) (hp : m ≤ 64) {x' : Nat} {y' : Int32} (hn : (4 ≤ mlen R p (p - fr) m ∧ x < mlen R p (p - fr) m ∧ x' = mlen R p (p - fr) m ∧ y' = nI (p - fr)) ∨ (¬ (4 ≤ mlen R p (p - fr) m ∧ x < mlen R p (p - fr) m) ∧ x' = x ∧ y' = y)) : BS R p m (lastP R (hsh R p) fr) x' y' := by
  obtain ⟨h1, h2, h3, h4'⟩ := h
  have h4 : Hid (x ≠ 0 → ∃ b, y = nI b ∧ 1 ≤ b ∧ b ≤ 4095 ∧ b ≤ p ∧ mlen R p b m = x ∧ ∀ b', 1 ≤ b' → b' < b → mlen R p b' m < x) := h4'
  clear h4'
  have hml := mlen_le R p (p - fr) m
  have hx : x ≤ x' ∧ mlen R p (p - fr) m ≤ max x' 3 := by
    rcases hn with ⟨a1, a2, rfl, a4⟩ | ⟨a1, rfl, rfl⟩ <;> omega
  refine ⟨?_, ?_, fun q q1 q2 q3 => ?_, fun hz => ?_⟩
  · rcases hn with ⟨a1, a2, rfl, a4⟩ | ⟨a1, rfl, rfl⟩ <;> omega
  · rcases hn with ⟨a1, a2, rfl, a4⟩ | ⟨a1, rfl, rfl⟩ <;> omega
  · rcases Nat.lt_or_ge fr q with z | z
    · have := h3 q (by omega) q2 q3; omega
    · rcases Nat.lt_or_ge q fr with z2 | z2
      · have h5 := lastP_gap q1 z2
        rcases Nat.lt_or_ge (mlen R p (p - q) m) 4 with z3 | z3
        · omega
        · exact absurd (by have := mlen_hsh z3 (by omega); rw [show p - (p - q) = q by omega] at this; exact this) h5
      · rw [show q = fr by omega]; exact hx.2
  · rcases hn with ⟨a1, a2, rfl, rfl⟩ | ⟨a1, rfl, rfl⟩
    · refine ⟨p - fr, rfl, by omega, hb, by omega, rfl, fun b' b1 b2 => ?_⟩
      have := h3 (p - b') (by omega) (by omega) (by omega)
      rw [show p - (p - b') = b' by omega] at this
      omega
    · exact h4 hz
/-- the chains of the places before n -/
def Ix (S : MM) (R : List Nat) (nw od n : Nat) : Prop := (∀ c, c < 1024 → eI S nw c = nI (lastP R c n)) ∧ ∀ p, p < n → eI S od p = nI (lastP R (hsh R p) p)
def seekS (S : MM) (k x : Nat) (y : Int32) : MM := sI (sI S 803 k (nI x)) 804 k y
def I_seek (k p r d nw od : Nat) (R : List Nat) (S : MM) (t : Nat) : KT := fun lo st S1 cs sl => ∃ j fr x y, t = 2 * fr ∧ j ≤ p - fr ∧ fr ≤ p ∧ (∀ f, fr = f + 1 → hsh R f = hsh R p) ∧ p + 4 ≤ R.length ∧ lo = [(4, .inl (nI j)), (3, .inl (nI fr)), (2, .inl (nI (min 64 (R.length - p)))), (0, .inr (.inr (some k))), (1, .inl (nI p))] ∧ st = [] ∧ S1 = seekS S k x y ∧ cs = 0 ∧ sl = 0 ∧ BS R p (min 64 (R.length - p)) fr x y
def I_seek2 (k p r d nw od : Nat) (R : List Nat) (S : MM) (t : Nat) : KT := fun lo st S1 cs sl => ∃ j fr x y, t = 2 * fr + 1 ∧ j ≤ p - (fr + 1) ∧ fr + 1 ≤ p ∧ hsh R fr = hsh R p ∧ p + 4 ≤ R.length ∧ lo = [(4, .inl (nI j)), (3, .inl (nI (fr + 1))), (2, .inl (nI (min 64 (R.length - p)))), (0, .inr (.inr (some k))), (1, .inl (nI p))] ∧ st = [] ∧ S1 = seekS S k x y ∧ cs = 0 ∧ sl = 0 ∧ BS R p (min 64 (R.length - p)) (lastP R (hsh R p) fr) x y
theorem seekS_id (S : MM) (k x : Nat) : sI S 803 k (nI x) = seekS S k x (mI S 804 k) := by
  unfold seekS
  rw [sI_id (S := sI S 803 k (nI x)) (i := 804) (a := k)]
  rw [mI_sI, if_neg (fun q => absurd q.1 (by decide))]
theorem seekS_2 (S : MM) (k x x' : Nat) (y y' : Int32) : sI (sI (seekS S k x y) 803 k (nI x')) 804 k y' = seekS S k x' y' := by
  unfold seekS
  have e : ∀ f : Nat → Nat → Int32, up2 (up2 (up2 (up2 f 803 k (nI x)) 804 k y) 803 k (nI x')) 804 k y' = up2 (up2 f 803 k (nI x')) 804 k y' := fun f => by
    funext i b
    unfold up2
    by_cases h1 : i = 804 ∧ b = k
    · rw [if_pos h1, if_pos h1]
    · rw [if_neg h1, if_neg h1]
      by_cases h2 : i = 803 ∧ b = k
      · rw [if_pos h2, if_neg h1, if_pos h2]
      · rw [if_neg h2, if_neg h1, if_neg h2, if_neg h2]
  show (mL S, mK S, up2 (up2 (up2 (up2 (mI S) 803 k (nI x)) 804 k y) 803 k (nI x')) 804 k y', mR S, mJ S, mN S, eI S, eJ S, eR S, mZ S, mQ S) = _
  rw [e]
  rfl
def T_pseek : TR := fun Rc Rs av S cs sl K _Kx => match av with
  | [.inr (.inr k_o), .inl p_v] => pa k_o fun k => (∃ (p : Nat), p_v = nI p ∧ (∃ (r d nw od : Nat) (R : List Nat), (Pk S k r nw od ∧ By S r d R ∧ p < R.length ∧ R.length ≤ mN S od ∧ Ix S R nw od (min p (R.length - 3))) ∧ cs ≤ Rc ∧ sl ≤ Rs ∧ (∀ (S' : MM), (∃ x y, S' = seekS S k x y ∧ SK R p x y) → K none S' cs sl)))
  | _ => False
def sp_pseek (k : Nat) (p : Nat) (r d nw od : Nat) (R : List Nat) : Sp := (fun av S => av = [.inr (.inr (some k)), .inl (nI p)] ∧ (Pk S k r nw od ∧ By S r d R ∧ p < R.length ∧ R.length ≤ mN S od ∧ Ix S R nw od (min p (R.length - 3))), fun _ S => 0, fun _ S => 0, fun _ S rv S' => rv = none ∧ (∃ x y, S' = seekS S k x y ∧ SK R p x y), fun _ _ _ _ => False)
def tX7_seekRepeat : CD := [(0, .aload_n 0), (1, .iconst 0), (2, .putfield 25), (5, .bipush 64), (7, .aload_n 0), (8, .getfield 12), (11, .getfield 35), (14, .iload_n 1), (15, .isub), (16, .invokestatic 49), (19, .istore_n 2), (20, .iload_n 2), (21, .iconst 4), (22, .if_icmp .ge 4), (25, .return_), (26, .aload_n 0), (27, .getfield 18), (30, .aload_n 0), (31, .iload_n 1), (32, .invokevirtual 75), (35, .iaload), (36, .istore_n 3), (37, .iconst 0), (38, .istore 4), (40, .iload 4), (42, .sipush 4095), (45, .if_icmp .ge 83), (48, .iload_n 3), (49, .ifCond .le 79), (52, .aload_n 0), (53, .getfield 25), (56, .iload_n 2), (57, .if_icmp .ge 71), (60, .iload_n 1), (61, .iload_n 3), (62, .isub), (63, .iconst 1), (64, .iadd), (65, .istore 5), (67, .iload 5), (69, .sipush 4095), (72, .if_icmp .le 4), (75, .return_), (76, .aload_n 0), (77, .iload_n 1), (78, .iload 5), (80, .iload_n 2), (81, .invokevirtual 78), (84, .istore 6), (86, .iload 6), (88, .iconst 4), (89, .if_icmp .lt 24), (92, .iload 6), (94, .aload_n 0), (95, .getfield 25), (98, .if_icmp .le 15), (101, .aload_n 0), (102, .iload 6), (104, .putfield 25), (107, .aload_n 0), (108, .iload 5), (110, .putfield 29), (113, .aload_n 0), (114, .getfield 22), (117, .iload_n 3), (118, .iconst 1), (119, .isub), (120, .iaload), (121, .istore_n 3), (122, .iinc 4 1), (125, .goto (-85)), (128, .return_)]
set_option maxRecDepth 100000 in
theorem kX7_seekRepeat : chk cX7_seekRepeat tX7_seekRepeat = true := by decide +kernel
theorem vX7_seekRepeat_49 : ∀ w ∈ ([.methodLink RX7 49 Lib.Math.min.name, .static Lib.Math.min.name, .initialized "java/lang/Math", .code Lib.Math.min.name Lib.Math.min.code 2 (some .int)] : List Cond), w ∈ lw_good := List.forall_mem_cons.mpr ⟨mgd 1413 (by decide +kernel) (by decide +kernel), List.forall_mem_cons.mpr ⟨mgd 777 (by decide +kernel) (by decide +kernel), List.forall_mem_cons.mpr ⟨mgd 143 (by decide +kernel) (by decide +kernel), List.forall_mem_cons.mpr ⟨mgd 778 (by decide +kernel) (by decide +kernel), fun _ h => absurd h List.not_mem_nil⟩⟩⟩⟩
theorem vX7_seekRepeat_75 : ∀ w ∈ ([.methodLink RX7 75 yX7_chainOf, .instanceMethod yX7_chainOf, .selects yX7_chainOf.cls yX7_chainOf yX7_chainOf, .initialized yX7_chainOf.cls, .code yX7_chainOf cX7_chainOf 3 (some .int)] : List Cond), w ∈ lw_good := List.forall_mem_cons.mpr ⟨mgd 1419 (by decide +kernel) (by decide +kernel), List.forall_mem_cons.mpr ⟨mgd 1421 (by decide +kernel) (by decide +kernel), List.forall_mem_cons.mpr ⟨mgd 32 (by decide +kernel) (by decide +kernel), List.forall_mem_cons.mpr ⟨mgd 132 (by decide +kernel) (by decide +kernel), List.forall_mem_cons.mpr ⟨mgd 1422 (by decide +kernel) (by decide +kernel), fun _ h => absurd h List.not_mem_nil⟩⟩⟩⟩⟩
theorem vX7_seekRepeat_78 : ∀ w ∈ ([.methodLink RX7 78 yX7_sameBytes, .instanceMethod yX7_sameBytes, .selects yX7_sameBytes.cls yX7_sameBytes yX7_sameBytes, .initialized yX7_sameBytes.cls, .code yX7_sameBytes cX7_sameBytes 5 (some .int)] : List Cond), w ∈ lw_good := List.forall_mem_cons.mpr ⟨mgd 1424 (by decide +kernel) (by decide +kernel), List.forall_mem_cons.mpr ⟨mgd 1426 (by decide +kernel) (by decide +kernel), List.forall_mem_cons.mpr ⟨mgd 33 (by decide +kernel) (by decide +kernel), List.forall_mem_cons.mpr ⟨mgd 132 (by decide +kernel) (by decide +kernel), List.forall_mem_cons.mpr ⟨mgd 1427 (by decide +kernel) (by decide +kernel), fun _ h => absurd h List.not_mem_nil⟩⟩⟩⟩⟩
set_option maxRecDepth 100000 in
set_option maxHeartbeats 2000000 in
theorem c_pseek (l : Launch) : ∀ (k : Nat) (p : Nat) (r d nw od : Nat) (R : List Nat), Ct l yX7_seekRepeat cX7_seekRepeat 7 none 2 45 (sp_pseek k p r d nw od R) := by
  intro k p r d nw od R
  refine Ct.of (fX7, nX7, aX7, iX7, lX7, [(49, 2, 2, 1, T_min), (75, 0, 2, 1, T_pchn), (78, 0, 4, 1, T_psame)], qX7, gX7, []) false tX7_seekRepeat (fun _ S => look [(40, ([4,3,2,0,1], I_seek k p r d nw od R S)), (113, ([4,3,2,0,1], I_seek2 k p r d nw od R S))]) (by decide) (by decide) kX7_seekRepeat ⟨_, _, rfl⟩ fX7_ok nX7_ok aX7_ok iX7_ok lX7_ok (fun p e R s m args below meth c Q D cy z r A C hR1 hR2 => List.forall_mem_cons.mpr ⟨cOK_use (fun _ _ _ _ _ _ _ _ h => ⟨sp_min, cOK_min C vX7_seekRepeat_49 ⟨by rw [hR1]; decide, by rw [hR2]; decide⟩, T_min_ok h⟩), List.forall_mem_cons.mpr ⟨cOK_use (fun _ _ _ _ _ _ _ _ h => let ⟨sp, h1, h2, h3⟩ := u_pchn l _ _ _ _ _ _ _ _ h; ⟨sp, cOK_V C h1 vX7_seekRepeat_75 ⟨by decide, by decide, by decide +kernel⟩ ⟨by rw [hR1]; decide, by rw [hR2]; decide⟩ (k := 8) (T := TX7) (N := 5) rfl (by decide) h2, h3⟩), List.forall_mem_cons.mpr ⟨cOK_use (fun _ _ _ _ _ _ _ _ h => let ⟨sp, h1, h2, h3⟩ := u_psame l _ _ _ _ _ _ _ _ h; ⟨sp, cOK_V C h1 vX7_seekRepeat_78 ⟨by decide, by decide, by decide +kernel⟩ ⟨by rw [hR1]; decide, by rw [hR2]; decide⟩ (k := 8) (T := TX7) (N := 5) rfl (by decide) h2, h3⟩), fun _ h => absurd h List.not_mem_nil⟩⟩⟩) qX7_ok gX7_ok rfl ?_ ?_
  · rintro _ S ⟨rfl, hp⟩
    refine ⟨Nat.le_of_ble_eq_true rfl, 300, ?_⟩
    show (True ∧ (isO S 8 k ∧ (isO (sI S 803 k (0 : Int32)) 8 k ∧ (pa (mR (sI S 803 k (0 : Int32)) 800 k) fun a_1 => isO (sI S 803 k (0 : Int32)) 2 a_1 ∧ (2 = 2 ∧ (True ∧ 0 ≤ 0 ∧ 0 ≤ 0 ∧ ((((4 : Int32) ≤ (imin (64 : Int32) ((mI (sI S 803 k (0 : Int32)) 201 a_1) - (nI p))) → (isO (sI S 803 k (0 : Int32)) 8 k ∧ (0 = 0 ∧ (∃ (p_3 : Nat), nI p = nI p_3 ∧ (∃ (r_4 d_5 : Nat) (R_6 : List Nat), (isO (sI S 803 k (0 : Int32)) 8 k ∧ mR (sI S 803 k (0 : Int32)) 800 k = some r_4 ∧ By (sI S 803 k (0 : Int32)) r_4 d_5 R_6 ∧ p_3 ≤ 100000) ∧ 0 ≤ 0 ∧ 0 ≤ 0 ∧ ((pa (mR (sI S 803 k (0 : Int32)) 801 k) fun a_8 => ∃ v_9 : Int32, (isO (sI S 803 k (0 : Int32)) 17 a_8 ∧ inR (sI S 803 k (0 : Int32)) a_8 (nI (hsh R_6 p_3)) ∧ v_9 = eI (sI S 803 k (0 : Int32)) a_8 (nI (hsh R_6 p_3)).toNatClampNeg ∨ a_8 = (mQ (sI S 803 k (0 : Int32))).1 ∧ vp_in (nI (hsh R_6 p_3)) 16 ∧ v_9 = mRem (nI (hsh R_6 p_3)).toNatClampNeg) ∧ (∃ k1, I_seek k p r d nw od R S k1 [(4, .inl (0 : Int32)), (3, .inl v_9), (2, .inl (imin (64 : Int32) ((mI (sI S 803 k (0 : Int32)) 201 a_1) - (nI p)))), (0, .inr (.inr (some k))), (1, .inl (nI p))] [] (sI S 803 k (0 : Int32)) 0 0)))))))) ∧ (¬ (4 : Int32) ≤ (imin (64 : Int32) ((mI (sI S 803 k (0 : Int32)) 201 a_1) - (nI p))) → (([] : List MV) = [] ∧ mret none (sp_pseek k p r d nw od R) [.inr (.inr (some k)), .inl (nI p)] S none (sI S 803 k (0 : Int32)) 0 0))))))))))
    obtain ⟨hK, hB, hp1, hlen, hI⟩ := hp
    obtain ⟨h1, h2, h3, h4, h5, h6, h7, h8, h9, h10⟩ := id hK
    have hl := hB.len
    have hB1 : By (sI S 803 k 0) r d R := hB.keep (Keep.rf.sI (P := fun b => b = k) rfl) (fun e => absurd e (isO_ne hB.1 h1 (by decide))) (fun e => absurd e (isO_ne hB.2.2.1 h1 (by decide)))
    have e1 : mR (sI S 803 k 0) 800 k = some r := h2
    have e2 : mI (sI S 803 k 0) 201 r = nI R.length := hB1.2.2.2.1
    have e3 : mR (sI S 803 k 0) 801 k = some nw := h3
    rw [e1]
    refine ⟨trivial, h1, h1, hB1.1, ?_⟩
    rw [e2, pk_sub (by omega), e3, show (64 : Int32) = nI 64 from rfl, imin_nI (by decide) (by omega)]
    have hs0 := seekS_id S k 0
    refine ⟨rfl, trivial, Nat.le_refl _, Nat.le_refl _, if_le (a := 4) (by decide) (by omega) (fun h11 => ⟨h1, rfl, p, rfl, r, d, R, ⟨h1, rfl, hB1, by omega⟩, Nat.le_refl _, Nat.le_refl _, _, Or.inl ⟨h4, ?_, rfl⟩, ?_⟩) (fun h11 => ⟨rfl, trivial, ⟨rfl, 0, mI S 804 k, hs0, ?_⟩, Nat.le_refl _, Nat.le_refl _⟩)⟩
    · show vp_in _ (mN S nw)
      rw [h5]; exact vp_in_nI (hsh_lt R p) (by decide)
    · have hc := hsh_lt R p
      have hmin : min p (R.length - 3) = p := by omega
      rw [hmin] at hI
      rw [nI_clamp (by omega)]
      show ∃ k1, I_seek k p r d nw od R S k1 [(4, .inl 0), (3, .inl (eI S nw (hsh R p))), _, _, _] _ _ _ _
      rw [hI.1 _ hc]
      have hle := lastP_le R (hsh R p) p
      exact ⟨_, 0, lastP R (hsh R p) p, 0, mI S 804 k, rfl, Nat.zero_le _, hle, fun f hf => lastP_hit hf, by omega, rfl, rfl, hs0, rfl, rfl, Nat.zero_le _, Or.inl rfl, fun q q1 q2 q3 => by
        have h12 := lastP_gap q1 q2
        rcases Nat.lt_or_ge (mlen R p (p - q) (min 64 (R.length - p))) 4 with z3 | z3
        · omega
        · exact absurd (by have := mlen_hsh z3 (by omega); rw [show p - (p - q) = q by omega] at this; exact this) h12, fun z => absurd rfl z⟩
    · have hb0 : (best R p).1 ≤ min 64 (R.length - p) := by
        obtain ⟨c1, c2⟩ := bst_ch R p (min 64 (R.length - p)) (min p 4095)
        by_cases z : (best R p).1 = 0
        · omega
        · obtain ⟨-, -, a3, -⟩ := c2 z
          have := mlen_le R p (best R p).2 (min 64 (R.length - p))
          rw [best] at this ⊢
          rw [a3] at this
          exact this
      exact ⟨fun z => by omega, fun _ => rfl⟩
  · intro av S hpre pc I hI k lo st S1 cs sl h
    obtain ⟨rfl, hp⟩ := hpre
    have hm := look_in hI
    simp only [List.mem_cons, List.not_mem_nil, or_false] at hm
    rcases hm with hm | hm
    · cases hm
      obtain ⟨j, fr, x, y, rfl, hj, hfp, hfh, hp4, rfl, rfl, rfl, rfl, rfl, hbs⟩ := h
      refine ⟨300, ?_⟩
      show (((4095 : Int32) ≤ (nI j) → (([] : List MV) = [] ∧ mret none (sp_pseek k p r d nw od R) [.inr (.inr (some k)), .inl (nI p)] S none (seekS S k x y) 0 0)) ∧ (¬ (4095 : Int32) ≤ (nI j) → (((nI fr) ≤ 0 → (([] : List MV) = [] ∧ mret none (sp_pseek k p r d nw od R) [.inr (.inr (some k)), .inl (nI p)] S none (seekS S k x y) 0 0)) ∧ (¬ (nI fr) ≤ 0 → (isO (seekS S k x y) 8 k ∧ (((nI (min 64 (R.length - p))) ≤ (mI (seekS S k x y) 803 k) → (([] : List MV) = [] ∧ mret none (sp_pseek k p r d nw od R) [.inr (.inr (some k)), .inl (nI p)] S none (seekS S k x y) 0 0)) ∧ (¬ (nI (min 64 (R.length - p))) ≤ (mI (seekS S k x y) 803 k) → (((((nI p) - (nI fr)) + (1 : Int32)) ≤ (4095 : Int32) → (0 = 0 ∧ (∃ (p_1 : Nat), nI p = nI p_1 ∧ (∃ (b_2 : Nat), ((nI p) - (nI fr)) + (1 : Int32) = nI b_2 ∧ (∃ (m_3 : Nat), nI (min 64 (R.length - p)) = nI m_3 ∧ (∃ (r_4 d_5 : Nat) (R_6 : List Nat), (isO (seekS S k x y) 8 k ∧ mR (seekS S k x y) 800 k = some r_4 ∧ By (seekS S k x y) r_4 d_5 R_6 ∧ p_1 ≤ 100000 ∧ b_2 ≤ p_1 ∧ m_3 ≤ 100000) ∧ 0 ≤ 0 ∧ 0 ≤ 0 ∧ ((((nI (mlen R_6 p_1 b_2 m_3)) < (4 : Int32) → (∃ k1, k1 < 2 * fr ∧ I_seek2 k p r d nw od R S k1 [(4, .inl (nI j)), (3, .inl (nI fr)), (2, .inl (nI (min 64 (R.length - p)))), (0, .inr (.inr (some k))), (1, .inl (nI p))] [] (seekS S k x y) 0 0)) ∧ (¬ (nI (mlen R_6 p_1 b_2 m_3)) < (4 : Int32) → (isO (seekS S k x y) 8 k ∧ (((nI (mlen R_6 p_1 b_2 m_3)) ≤ (mI (seekS S k x y) 803 k) → (∃ k1, k1 < 2 * fr ∧ I_seek2 k p r d nw od R S k1 [(4, .inl (nI j)), (3, .inl (nI fr)), (2, .inl (nI (min 64 (R.length - p)))), (0, .inr (.inr (some k))), (1, .inl (nI p))] [] (seekS S k x y) 0 0)) ∧ (¬ (nI (mlen R_6 p_1 b_2 m_3)) ≤ (mI (seekS S k x y) 803 k) → (True ∧ (isO (seekS S k x y) 8 k ∧ (True ∧ (isO (sI (seekS S k x y) 803 k (nI (mlen R_6 p_1 b_2 m_3))) 8 k ∧ (∃ k1, k1 < 2 * fr ∧ I_seek2 k p r d nw od R S k1 [(4, .inl (nI j)), (3, .inl (nI fr)), (2, .inl (nI (min 64 (R.length - p)))), (0, .inr (.inr (some k))), (1, .inl (nI p))] [] (sI (sI (seekS S k x y) 803 k (nI (mlen R_6 p_1 b_2 m_3))) 804 k (((nI p) - (nI fr)) + (1 : Int32))) 0 0))))))))))))))))) ∧ (¬ (((nI p) - (nI fr)) + (1 : Int32)) ≤ (4095 : Int32) → (([] : List MV) = [] ∧ mret none (sp_pseek k p r d nw od R) [.inr (.inr (some k)), .inl (nI p)] S none (seekS S k x y) 0 0))))))))))
      obtain ⟨hK, hB, hp1, hlen, hI⟩ := hp
      obtain ⟨h1, h2, h3, h4, h5, h6, h7, h8, h9, h10⟩ := id hK
      have hl := hB.len
      have hx := hbs.1
      have e1 : mI (seekS S k x y) 803 k = nI x := by unfold seekS; simp [mL_sI, mL_sR, mL_sJ, mL_rI, mL_rJ, mL_rR, mK_sI, mK_sR, mK_sJ, mK_rI, mK_rJ, mK_rR, mI_sR, mI_sJ, mI_rI, mI_rJ, mI_rR, mR_sI, mR_sJ, mR_rI, mR_rJ, mR_rR, mJ_sI, mJ_sR, mJ_rI, mJ_rJ, mJ_rR, mN_sI, mN_sR, mN_sJ, mN_rI, mN_rJ, mN_rR, eI_sI, eI_sR, eI_sJ, eI_rJ, eI_rR, eJ_sI, eJ_sR, eJ_sJ, eJ_rI, eJ_rR, eR_sI, eR_sR, eR_sJ, eR_rI, eR_rJ, mZ_sI, mZ_sR, mZ_sJ, mZ_rI, mZ_rJ, mZ_rR, mQ_sI, mQ_sR, mQ_sJ, mQ_rI, mQ_rJ, mQ_rR, mI_nA, mR_nA, mJ_nA, mZ_nA, mQ_nA, mN_nO, eI_nO, eJ_nO, eR_nO, mZ_nO, mQ_nO, mI_sI, mR_sR, mJ_sJ, eI_rI, eR_rR, eJ_rJ, eI_nA, mN_nA, mK_nA, mK_nO, mI_nO, mR_nO]
      have hB1 : By (seekS S k x y) r d R := hB.keep ((Keep.rf.sI (P := fun b => b = k) rfl).sI rfl) (fun e => absurd e (isO_ne hB.1 h1 (by decide))) (fun e => absurd e (isO_ne hB.2.2.1 h1 (by decide)))
      have hret : ∀ (z : fr = 0 ∨ 4095 ≤ p - fr ∨ min 64 (R.length - p) ≤ x ∨ (0 < fr ∧ fr ≤ p ∧ 4095 < p - fr + 1)), mret none (sp_pseek k p r d nw od R) [.inr (.inr (some k)), .inl (nI p)] S none (seekS S k x y) 0 0 := fun z => ⟨trivial, ⟨rfl, x, y, rfl, hbs.fin rfl z⟩, Nat.le_refl _, Nat.le_refl _⟩
      rw [e1, pk_sub hfp, nI_1]
      refine if_le (a := 4095) (by decide) (by omega) (fun h11 => ⟨rfl, hret (by omega)⟩) (fun h11 => if_le (b := 0) (by omega) (by decide) (fun h12 => ⟨rfl, hret (by omega)⟩) (fun h12 => ⟨h1, if_le (by omega) (by omega) (fun h13 => ⟨rfl, hret (by omega)⟩) (fun h13 => if_le (b := 4095) (by omega) (by decide) (fun h14 => ?_) (fun h14 => ⟨rfl, hret (by omega)⟩))⟩))
      obtain ⟨f, rfl⟩ : ∃ f, fr = f + 1 := ⟨fr - 1, by omega⟩
      have hbk : p - (f + 1) + 1 = p - f := by omega
      rw [hbk]
      have hm := mlen_le R p (p - f) (min 64 (R.length - p))
      refine ⟨rfl, p, rfl, p - f, rfl, min 64 (R.length - p), rfl, r, d, R, ⟨h1, h2, hB1, by omega, by omega, by omega⟩, Nat.le_refl _, Nat.le_refl _, if_lt (b := 4) (by omega) (by decide) (fun h15 => ?_) (fun h15 => ⟨h1, if_le (by omega) (by omega) (fun h16 => ?_) (fun h16 => ⟨trivial, h1, trivial, h1, ?_⟩)⟩)⟩
      · exact ⟨2 * f + 1, by omega, j, f, x, y, rfl, by omega, by omega, hfh f rfl, hp4, rfl, rfl, rfl, rfl, rfl, hbs.step (by omega) (by omega) (by omega) (Or.inr ⟨by omega, rfl, rfl⟩)⟩
      · exact ⟨2 * f + 1, by omega, j, f, x, y, rfl, by omega, by omega, hfh f rfl, hp4, rfl, rfl, rfl, rfl, rfl, hbs.step (by omega) (by omega) (by omega) (Or.inr ⟨by omega, rfl, rfl⟩)⟩
      · refine ⟨2 * f + 1, by omega, j, f, _, nI (p - f), rfl, by omega, by omega, hfh f rfl, hp4, rfl, rfl, seekS_2 S k x _ y _, rfl, rfl, hbs.step (by omega) (by omega) (by omega) (Or.inl ⟨h15, h16, rfl, rfl⟩)⟩
    · cases hm
      obtain ⟨j, fr, x, y, rfl, hj, hfp, hfh, hp4, rfl, rfl, rfl, rfl, rfl, hbs⟩ := h
      refine ⟨300, ?_⟩
      show (isO (seekS S k x y) 8 k ∧ (pa (mR (seekS S k x y) 802 k) fun a_1 => ∃ v_2 : Int32, (isO (seekS S k x y) 17 a_1 ∧ inR (seekS S k x y) a_1 ((nI (fr + 1)) - (1 : Int32)) ∧ v_2 = eI (seekS S k x y) a_1 ((nI (fr + 1)) - (1 : Int32)).toNatClampNeg ∨ a_1 = (mQ (seekS S k x y)).1 ∧ vp_in ((nI (fr + 1)) - (1 : Int32)) 16 ∧ v_2 = mRem ((nI (fr + 1)) - (1 : Int32)).toNatClampNeg) ∧ (∃ k1, k1 < 2 * fr + 1 ∧ I_seek k p r d nw od R S k1 [(4, .inl ((nI j) + (1 : Int32))), (3, .inl v_2), (2, .inl (nI (min 64 (R.length - p)))), (0, .inr (.inr (some k))), (1, .inl (nI p))] [] (seekS S k x y) 0 0)))
      obtain ⟨hK, hB, hp1, hlen, hI⟩ := hp
      obtain ⟨h1, h2, h3, h4, h5, h6, h7, h8, h9, h10⟩ := id hK
      have hl := hB.len
      have hmin : min p (R.length - 3) = p := by omega
      rw [hmin] at hI
      have e1 : mR (seekS S k x y) 802 k = some od := h6
      rw [e1, nI_pred, nI_1, nI_clamp (by omega)]
      refine ⟨h1, _, Or.inl ⟨h7, vp_in_nI (by show fr < mN S od; omega) (by show mN S od < 2147483648; omega), rfl⟩, ?_⟩
      show ∃ k1, k1 < _ ∧ I_seek k p r d nw od R S k1 [_, (3, .inl (eI S od fr)), _, _, _] _ _ _ _
      rw [hI.2 fr (by omega), hfh]
      have hle := lastP_le R (hsh R p) fr
      exact ⟨2 * lastP R (hsh R p) fr, by omega, j + 1, _, x, y, rfl, by omega, by omega, fun f hf => lastP_hit hf, hp4, rfl, rfl, rfl, rfl, rfl, hbs⟩
theorem u_pseek (l : Launch) : Us l yX7_seekRepeat cX7_seekRepeat 7 none 2 45 8 T_pseek := by
  intro Rc Rs av S cs sl K Kx h
  unfold T_pseek at h
  split at h
  · rename_i k_o p_v
    obtain ⟨k, rfl, h_1⟩ := pa_of h
    obtain ⟨p, rfl, h_2⟩ := h_1
    obtain ⟨r, d, nw, od, R, hp, hc, hs, hk⟩ := h_2
    refine ⟨(sp_pseek k p r d nw od R), c_pseek l k p r d nw od R, fun _ _ h9 => ⟨_, _, h9.1, h9.2.1.1⟩, ⟨rfl, hp⟩, hc, hs, fun S' h8 => by
      obtain ⟨-, h8⟩ := h8
      exact hk _ h8, fun _ _ q => q.elim⟩
  · exact h.elim
