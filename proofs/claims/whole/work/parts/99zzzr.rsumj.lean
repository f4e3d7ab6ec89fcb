/-! ===== The reference takes a summary ===== -/
theorem lgZ {x y : Int} (hx1 : -9223372036854775808 ≤ x) (hx2 : x < 9223372036854775808) (hy1 : -9223372036854775808 ≤ y) (hy2 : y < 9223372036854775808) : lg_cmp (lZ x) (lZ y) ≤ 0 ↔ x ≤ y := by
  rw [lg_cmp_le, Int64.le_iff_toInt_le, lZ_int hx1 hx2, lZ_int hy1 hy2]
/-- the agent before, -1 for none: m is one more -/
def lmJ : Nat → Int64
  | 0 => -1
  | k + 1 => lN k
theorem lmJ_Z (m : Nat) : lmJ m = lZ ((m : Int) - 1) := by
  cases m with
  | zero => rfl
  | succ k => rw [lmJ, lN_Z]; exact congrArg lZ (by omega)
theorem bf_le {o : Option Nat} {m : Nat} (ho : ∀ a, o = some a → a < 2147483648) (hm : m ≤ 2147483648) : lg_cmp (oJ o) (lmJ m) ≤ 0 ↔ ∀ a, o = some a → a < m := by
  rw [lmJ_Z]
  cases o with
  | none =>
    rw [show oJ none = lZ (-1) from rfl, lgZ (by decide) (by decide) (by omega) (by omega)]
    exact ⟨(fun _ a e => by cases e), fun _ => by omega⟩
  | some a =>
    have := ho a rfl
    rw [show oJ (some a) = lZ a from lN_Z a, lgZ (by omega) (by omega) (by omega) (by omega)]
    exact ⟨(fun w b e => by cases e; omega), fun w => by have := w a rfl; omega⟩
section LRN
variable {B : List Nat} {q n p m a c : Nat}
theorem lrnR_1 (h : (vint B q p).1 = none) : lrnR B q (n + 1) p m = none := by rw [lrnR, h]
theorem lrnR_2 (h : (vint B q p).1 = some a) (hn : ¬ (m ≤ a ∧ a < 256)) : lrnR B q (n + 1) p m = none := by rw [lrnR, h]; exact if_neg hn
theorem lrnR_3 (h : (vint B q p).1 = some a) (h2 : (vint B q (vint B q p).2).1 = none) : lrnR B q (n + 1) p m = none := by
  rw [lrnR, h]
  by_cases hn : m ≤ a ∧ a < 256
  · exact (if_pos hn).trans (by rw [h2])
  · exact if_neg hn
theorem lrnR_4 (h : (vint B q p).1 = some a) (h2 : (vint B q (vint B q p).2).1 = some c) (hc : ¬ 1 ≤ c) : lrnR B q (n + 1) p m = none := by
  rw [lrnR, h]
  by_cases hn : m ≤ a ∧ a < 256
  · exact (if_pos hn).trans (by rw [h2]; exact if_neg hc)
  · exact if_neg hn
theorem lrnR_5 (h : (vint B q p).1 = some a) (hn : m ≤ a ∧ a < 256) (h2 : (vint B q (vint B q p).2).1 = some c) (hc : 1 ≤ c) : lrnR B q (n + 1) p m = (lrnR B q n (vint B q (vint B q p).2).2 (a + 1)).map (fun r => ((a, c) :: r.1, r.2)) := by
  rw [lrnR, h]
  exact (if_pos hn).trans (by rw [h2]; exact if_pos hc)
end LRN
/-- the second number of a pair, if the first is there -/
def o2S (B : List Nat) (q p : Nat) : Option Nat := (vint B q p).1.bind fun _ => (vint B q (vint B q p).2).1
def jsF (B : List Nat) (m k p mm : Nat) (dn : List (Nat × Nat)) : Prop := (vint B (B.length - 4) 3).1 = some m ∧ m < 2147483648 ∧ k ≤ m ∧ mm ≤ 256 ∧ lrnR B (B.length - 4) m (vint B (B.length - 4) 3).2 0 = (lrnR B (B.length - 4) k p mm).map (fun r => (dn ++ r.1, r.2)) ∧ ∀ j, kfold dn j < 2147483648
def jsB (S S1 : MM) (t r : Nat) (z : Nat → Nat) (B : List Nat) (p : Nat) (dn : List (Nat × Nat)) : Prop := rK [23] [1535] S S1 t z ∧ rdP9 S1 t r B p (B.length - 4) ∧ ∀ j, j < 256 → eI S1 (z 23) j = nI (kfold dn j)
def I_js1 (t n r : Nat) (z : Nat → Nat) (B : List Nat) (S : MM) (k : Nat) : KT := fun lo st S1 cs sl => ∃ (m k' p mm : Nat) (dn : List (Nat × Nat)), k = 10 * k' + 1 ∧ jsF B m k' p mm dn ∧ jsB S S1 t r z B p dn ∧ lo = [(0, .inr (.inr (some t))), (1, .inl (nI n)), (2, .inr (.inl (lN m))), (4, .inr (.inl (lmJ mm))), (6, .inr (.inl (lN (m - k'))))] ∧ st = [] ∧ cs = 0 ∧ sl = 0
def I_js2 (t n r : Nat) (z : Nat → Nat) (B : List Nat) (S : MM) (k : Nat) : KT := fun lo st S1 cs sl => ∃ (m k' p p2 mm : Nat) (dn : List (Nat × Nat)), k = 10 * k' + 9 ∧ jsF B m (k' + 1) p mm dn ∧ (∀ a c, (vint B (B.length - 4) p).1 = some a → (vint B (B.length - 4) (vint B (B.length - 4) p).2).1 = some c → p2 = (vint B (B.length - 4) (vint B (B.length - 4) p).2).2) ∧ jsB S S1 t r z B p2 dn ∧ lo = [(0, .inr (.inr (some t))), (1, .inl (nI n)), (2, .inr (.inl (lN m))), (4, .inr (.inl (lmJ mm))), (6, .inr (.inl (lN (m - (k' + 1))))), (8, .inr (.inl (oJ (vint B (B.length - 4) p).1))), (10, .inr (.inl (oJ (o2S B (B.length - 4) p))))] ∧ st = [] ∧ cs = 0 ∧ sl = 0
def I_js3 (t n r : Nat) (z : Nat → Nat) (B : List Nat) (S : MM) (k : Nat) : KT := fun lo st S1 cs sl => ∃ (m k' p mm a c : Nat) (dn : List (Nat × Nat)), k = 10 * k' + 8 ∧ jsF B m (k' + 1) p mm dn ∧ (vint B (B.length - 4) p).1 = some a ∧ (mm ≤ a ∧ a < 256) ∧ (vint B (B.length - 4) (vint B (B.length - 4) p).2).1 = some c ∧ 1 ≤ c ∧ jsB S S1 t r z B (vint B (B.length - 4) (vint B (B.length - 4) p).2).2 dn ∧ lo = [(0, .inr (.inr (some t))), (1, .inl (nI n)), (2, .inr (.inl (lN m))), (6, .inr (.inl (lN (m - (k' + 1))))), (8, .inr (.inl (lN a))), (10, .inr (.inl (lN c)))] ∧ st = [] ∧ cs = 0 ∧ sl = 0
def I_js4 (t n r : Nat) (z : Nat → Nat) (B : List Nat) (S : MM) (k : Nat) : KT := fun lo st S1 cs sl => ∃ (p : Nat) (dn : List (Nat × Nat)), k = 0 ∧ lrn B = some dn ∧ (∀ j, kfold dn j < 2147483648) ∧ jsB S S1 t r z B p dn ∧ lo = [(0, .inr (.inr (some t))), (1, .inl (nI n))] ∧ st = [] ∧ cs = 0 ∧ sl = 0
/-- a peer's known counts of one peer are written anew -/
theorem RP.kn {S : MM} {F : Nat → Nat × Nat} {i : Nat} {y : Nat → Nat} {G : Gr} {T : Tr} {Kn : Nat → Nat → Nat} {C : List (Bool × Nat × Nat)} {o : Nat} {v : Nat → Int32} {K' : Nat → Nat} (h : RP S F i y G T Kn C) (ho : o < 4) (hv : ∀ j, j < 256 → v j = nI (K' j) ∧ K' j < 2147483648) : RP (rI S (y (120 + o)) v) F i y G T (fun q j => if q = o then K' j else Kn q j) C := by
  obtain ⟨hG, hn, hc⟩ := h
  have ao := hn o ho
  have hk : Keep (fun c => c = y (120 + o)) S (rI S (y (120 + o)) v) := Keep.rI (P := fun c => c = y (120 + o)) Keep.rf rfl
  have ne : ∀ k, 3 ≤ k → k ≤ 25 → k ≠ 17 → y k ≠ y (120 + o) := fun k h1 h2 h3 e => by
    have r := hG.rk h1 h2 h3
    have e2 := r.2.1
    rw [e, ao.2.2.1] at e2
    injection e2 with _ e2
    omega
  have rr : ∀ k, 3 ≤ k → k ≤ 25 → k ≠ 17 → eI (rI S (y (120 + o)) v) (y k) = eI S (y k) := fun k h1 h2 h3 => by rw [eI_rI, if_neg (ne k h1 h2 h3)]
  have na : ∀ s, s < 16 → y (100 + s) ≠ y (120 + o) := fun s hs e => by
    have e2 := (hG 4 s hs).2.2.1
    rw [e, ao.2.2.1] at e2
    injection e2 with _ e2
    omega
  refine ⟨?_, fun q hq => ?_, hc.1, hc.2.1, fun k hk9 => ?_⟩
  · intro j
    match j with
    | 0 => exact hG 0
    | 1 => exact hG 1
    | 2 => exact hG 2
    | 3 => rw [RGf, rr 3 (by decide) (by decide) (by decide), rr 4 (by decide) (by decide) (by decide)]; exact hG 3
    | 4 =>
      intro s hs
      rw [show eI (rI S (y (120 + o)) v) (y (100 + s)) = eI S (y (100 + s)) from by rw [eI_rI, if_neg (na s hs)]]
      exact hG 4 s hs
    | 5 => rw [RGf, rr 6 (by decide) (by decide) (by decide), rr 7 (by decide) (by decide) (by decide), rr 8 (by decide) (by decide) (by decide), rr 10 (by decide) (by decide) (by decide)]; exact hG 5
    | 6 => rw [RGf, rr 9 (by decide) (by decide) (by decide), rr 11 (by decide) (by decide) (by decide), rr 18 (by decide) (by decide) (by decide)]; exact hG 6
    | 7 => rw [RGf, rr 21 (by decide) (by decide) (by decide)]; exact hG 7
    | 8 => rw [RGf, rr 13 (by decide) (by decide) (by decide), rr 14 (by decide) (by decide) (by decide), rr 15 (by decide) (by decide) (by decide)]; exact hG 8
    | 9 => exact hG 9
    | 10 =>
      have dk : ∀ L, dlC (rI S (y (120 + o)) v) (y 19) L ↔ dlC S (y 19) L := fun L => by
        induction L with
        | nil => exact Iff.rfl
        | cons k L ih => rw [dlC, dlC, rr 19 (by decide) (by decide) (by decide), ih]
      intro k hk9
      rw [rr 20 (by decide) (by decide) (by decide), dk]
      exact hG 10 k hk9
    | 11 => exact hG 11
    | 12 => intro s hs; rw [rr 4 (by decide) (by decide) (by decide)]; exact hG 12 s hs
    | n + 13 => trivial
  · obtain ⟨a1, a2, a3, a4, a5⟩ := hn q hq
    refine ⟨a1, a2, a3, a4, fun j hj => ?_⟩
    show eI (rI S (y (120 + o)) v) (y (120 + q)) j = nI (if q = o then K' j else Kn q j) ∧ (if q = o then K' j else Kn q j) < 2147483648
    by_cases c : q = o
    · subst c
      rw [if_pos rfl, eI_rI, if_pos rfl]; exact hv j hj
    · have : y (120 + q) ≠ y (120 + o) := fun e => by
        rw [e, ao.2.2.1] at a3
        injection a3 with _ a3
        omega
      rw [if_neg c, eI_rI, if_neg this]; exact a5 j hj
  · rw [rr 23 (by decide) (by decide) (by decide), rr 24 (by decide) (by decide) (by decide), rr 25 (by decide) (by decide) (by decide)]
    exact hc.2.2 k hk9
def jsR (R : Rb) (n : Nat) (B : List Nat) : Rb := R.sP n (R.Q.G n) (R.Q.T n) (lrnK (R.Q.Kn n) B) (R.C n)
def jsQ (S S' : MM) (F : Nat → Nat × Nat) (t : Nat) (z : Nat → Nat) (Y : Nat → Nat → Nat) (R : Rb) (kz : Nat → Nat) (n : Nat) (B : List Nat) : Prop := MD S' F t z Y (jsR R n B) kz ∧ rH n [23] [1535] S S' F F t z z
theorem jsQ.no {S S1 : MM} {F : Nat → Nat × Nat} {t : Nat} {z : Nat → Nat} {Y : Nat → Nat → Nat} {R : Rb} {kz : Nat → Nat} {n : Nat} {B : List Nat} (hM : MD S F t z Y R kz) (hn : n < 4) (hk : rK [23] [1535] S S1 t z) (hl : lrn B = none) : jsQ S S1 F t z Y R kz n B := by
  have M1 := hk.md hM (by decide) (by decide)
  refine ⟨?_, hk.rg.rh n⟩
  have hM2 := M1.gp hn Keep.rf (M1 2 n hn).2 rfl (fun _ _ => rfl) (M1 12) (fun s => Nat.le_refl _) (fun x hx => hx)
  rw [upY_own] at hM2
  have e : lrnK (R.Q.Kn n) B = R.Q.Kn n := by unfold lrnK; rw [hl]
  unfold jsR
  rw [e]; exact hM2
def T_rjs : TR := fun Rc Rs av S cs sl K _Kx => match av with
  | [.inr (.inr t_o), .inl n_v] => pa t_o fun t => (∃ (n : Nat), n_v = nI n ∧ (∃ (F : Nat → Nat × Nat) (z : Nat → Nat) (Y : Nat → Nat → Nat) (R : Rb) (kz : Nat → Nat) (r : Nat) (B : List Nat), (MD S F t z Y R kz ∧ n < 4 ∧ rdP9 S t r B 3 (B.length - 4) ∧ 7 ≤ B.length ∧ B.getD 2 0 < 4 ∧ eI S r 2 = nI (B.getD 2 0)) ∧ cs ≤ Rc ∧ sl ≤ Rs ∧ (∀ (S' : MM), (jsQ S S' F t z Y R kz n B) → K (some (.inl (nI (lrF B)))) S' cs sl)))
  | _ => False
def sp_rjs (t : Nat) (n : Nat) (F : Nat → Nat × Nat) (z : Nat → Nat) (Y : Nat → Nat → Nat) (R : Rb) (kz : Nat → Nat) (r : Nat) (B : List Nat) : Sp := (fun av S => av = [.inr (.inr (some t)), .inl (nI n)] ∧ (MD S F t z Y R kz ∧ n < 4 ∧ rdP9 S t r B 3 (B.length - 4) ∧ 7 ≤ B.length ∧ B.getD 2 0 < 4 ∧ eI S r 2 = nI (B.getD 2 0)), fun _ S => 0, fun _ S => 0, fun _ S rv S' => rv = (some (.inl (nI (lrF B)))) ∧ (jsQ S S' F t z Y R kz n B), fun _ _ _ _ => False)
theorem rjs_no {t n : Nat} {F : Nat → Nat × Nat} {z : Nat → Nat} {Y : Nat → Nat → Nat} {R : Rb} {kz : Nat → Nat} {r : Nat} {B : List Nat} {S S1 : MM} (hM : MD S F t z Y R kz) (hn : n < 4) (hk : rK [23] [1535] S S1 t z) (hl : lrn B = none) : ([] : List MV) = [] ∧ mret (some .int) (sp_rjs t n F z Y R kz r B) [.inr (.inr (some t)), .inl (nI n)] S (some (.inl (2 : Int32))) S1 0 0 := ⟨rfl, trivial, ⟨by unfold lrF; rw [hl]; rfl, jsQ.no hM hn hk hl⟩, Nat.le_refl _, Nat.le_refl _⟩
theorem jsB.nu {S S1 S2 : MM} {F : Nat → Nat × Nat} {t r : Nat} {z : Nat → Nat} {Y : Nat → Nat → Nat} {R : Rb} {kz : Nat → Nat} {B : List Nat} {p : Nat} {dn : List (Nat × Nat)} (h : jsB S S1 t r z B p dn) (hM : MD S F t z Y R kz) (hq : nuQ S1 S2 t B p (B.length - 4)) : ∃ p', p ≤ p' ∧ p' ≤ B.length - 4 ∧ jsB S S2 t r z B p' dn ∧ ∀ n, (vint B (B.length - 4) p).1 = some n → p' = (vint B (B.length - 4) p).2 := by
  obtain ⟨hK, ⟨x1, x2, x3, x4, x5, x6⟩, hO⟩ := h
  obtain ⟨p', a1, a2, rfl, a4⟩ := hq
  have M1 := hK.md hM (by decide) (by decide)
  have k1 : rK [] [1535] S1 (sI S1 1535 t (nI p')) t z := rK.sf 1535 (nI p')
  refine ⟨p', a1, a2, ⟨hK.tr (k1.mono (fun k hk => by cases hk) (by decide)), ⟨x1, k1.by M1 x2 (fun k hk => by cases hk), ?_, ?_, a2, x6⟩, hO⟩, a4⟩
  · rw [mI_sI, if_pos ⟨rfl, rfl⟩]
  · rw [mI_sI, if_neg (fun e => absurd e.1 (by decide))]; exact x4
theorem jsF.no {B : List Nat} {m k p mm : Nat} {dn : List (Nat × Nat)} (h : jsF B m k p mm dn) (h2 : lrnR B (B.length - 4) k p mm = none) : lrn B = none := by
  unfold lrn
  rw [h.1]
  show (match lrnR B (B.length - 4) m (vint B (B.length - 4) 3).2 0 with
    | none => none
    | some r => if B.length - 4 ≤ r.2 then some r.1 else none) = none
  rw [h.2.2.2.2.1, h2]; rfl
theorem jsF.fin {B : List Nat} {m p mm : Nat} {dn : List (Nat × Nat)} (h : jsF B m 0 p mm dn) : lrn B = if B.length - 4 ≤ p then some dn else none := by
  unfold lrn
  rw [h.1]
  show (match lrnR B (B.length - 4) m (vint B (B.length - 4) 3).2 0 with
    | none => none
    | some r => if B.length - 4 ≤ r.2 then some r.1 else none) = _
  rw [h.2.2.2.2.1]
  show (if B.length - 4 ≤ p then some (dn ++ []) else none) = _
  rw [List.append_nil]
def tX14_judgeSummary : CD := [(0, .aload_n 0), (1, .getfield 70), (4, .iconst 0), (5, .invokestatic 132), (8, .aload_n 0), (9, .invokevirtual 431), (12, .lstore_n 2), (13, .ldc2_w 404), (16, .lstore 4), (18, .lload_n 2), (19, .lconst 0), (20, .lcmp), (21, .ifCond .ge 5), (24, .iconst 2), (25, .ireturn), (26, .lconst 0), (27, .lstore 6), (29, .lload 6), (31, .lload_n 2), (32, .lcmp), (33, .ifCond .ge 78), (36, .aload_n 0), (37, .invokevirtual 431), (40, .lstore 8), (42, .lload 8), (44, .lconst 0), (45, .lcmp), (46, .ifCond .ge 9), (49, .ldc2_w 404), (52, .goto 7), (55, .aload_n 0), (56, .invokevirtual 431), (59, .lstore 10), (61, .lload 8), (63, .lload 4), (65, .lcmp), (66, .ifCond .le 19), (69, .lload 8), (71, .ldc2_w 434), (74, .lcmp), (75, .ifCond .gt 10), (78, .lload 10), (80, .lconst 1), (81, .lcmp), (82, .ifCond .ge 5), (85, .iconst 2), (86, .ireturn), (87, .aload_n 0), (88, .getfield 70), (91, .lload 8), (93, .l2i), (94, .lload 10), (96, .l2i), (97, .iastore), (98, .lload 8), (100, .lstore 4), (102, .lload 6), (104, .lconst 1), (105, .ladd), (106, .lstore 6), (108, .goto (-79)), (111, .aload_n 0), (112, .getfield 398), (115, .aload_n 0), (116, .getfield 401), (119, .if_icmp .eq 5), (122, .iconst 2), (123, .ireturn), (124, .aload_n 0), (125, .getfield 70), (128, .iconst 0), (129, .aload_n 0), (130, .getfield 11), (133, .iload_n 1), (134, .aaload), (135, .getfield 390), (138, .aload_n 0), (139, .getfield 406), (142, .iconst 2), (143, .baload), (144, .aaload), (145, .iconst 0), (146, .sipush 256), (149, .invokestatic 288), (152, .iconst 0), (153, .ireturn)]
set_option maxRecDepth 100000 in
theorem kX14_judgeSummary : chk cX14_judgeSummary tX14_judgeSummary = true := by decide +kernel
theorem vX14_judgeSummary_132 : ∀ w ∈ ([.methodLink RX14 132 yJ7_fill_53178, .static yJ7_fill_53178, .initialized yJ7_fill_53178.cls, .code yJ7_fill_53178 cJ7_fill_53178 4 none] : List Cond), w ∈ lw_good := List.forall_mem_cons.mpr ⟨mgd 1749 (by decide +kernel) (by decide +kernel), List.forall_mem_cons.mpr ⟨mgd 604 (by decide +kernel) (by decide +kernel), List.forall_mem_cons.mpr ⟨mgd 135 (by decide +kernel) (by decide +kernel), List.forall_mem_cons.mpr ⟨mgd 605 (by decide +kernel) (by decide +kernel), fun _ h => absurd h List.not_mem_nil⟩⟩⟩⟩
theorem vX14_judgeSummary_431 : ∀ w ∈ ([.methodLink RX14 431 yX14_number, .instanceMethod yX14_number, .selects yX14_number.cls yX14_number yX14_number, .initialized yX14_number.cls, .code yX14_number cX14_number 5 (some .long)] : List Cond), w ∈ lw_good := List.forall_mem_cons.mpr ⟨mgd 2346 (by decide +kernel) (by decide +kernel), List.forall_mem_cons.mpr ⟨mgd 2348 (by decide +kernel) (by decide +kernel), List.forall_mem_cons.mpr ⟨mgd 100 (by decide +kernel) (by decide +kernel), List.forall_mem_cons.mpr ⟨mgd 136 (by decide +kernel) (by decide +kernel), List.forall_mem_cons.mpr ⟨mgd 2349 (by decide +kernel) (by decide +kernel), fun _ h => absurd h List.not_mem_nil⟩⟩⟩⟩⟩
theorem vX14_judgeSummary_288 : ∀ w ∈ ([.methodLink RX14 288 arraycopyName, .native arraycopyName, .static arraycopyName, .initialized "java/lang/System"] : List Cond), w ∈ lw_good := List.forall_mem_cons.mpr ⟨mgd 2183 (by decide +kernel) (by decide +kernel), List.forall_mem_cons.mpr ⟨mgd 792 (by decide +kernel) (by decide +kernel), List.forall_mem_cons.mpr ⟨mgd 791 (by decide +kernel) (by decide +kernel), List.forall_mem_cons.mpr ⟨mgd 144 (by decide +kernel) (by decide +kernel), fun _ h => absurd h List.not_mem_nil⟩⟩⟩⟩
set_option maxRecDepth 100000 in
set_option maxHeartbeats 2000000 in
theorem c_rjs (l : Launch) : ∀ (t : Nat) (n : Nat) (F : Nat → Nat × Nat) (z : Nat → Nat) (Y : Nat → Nat → Nat) (R : Rb) (kz : Nat → Nat) (r : Nat) (B : List Nat), Ct l yX14_judgeSummary cX14_judgeSummary 12 (some .int) 1 32 (sp_rjs t n F z Y R kz r B) := by
  intro t n F z Y R kz r B
  refine Ct.of (fX14, nX14, aX14, iX14, lX14, [(132, 2, 2, 0, T_fillI), (431, 0, 1, 2, T_rnum), (288, 2, 5, 0, T_acopy)], qX14, gX14, []) false tX14_judgeSummary (fun _ S => look [(29, ([0,1,2,4,6], I_js1 t n r z B S)), (61, ([0,1,2,4,6,8,10], I_js2 t n r z B S)), (87, ([0,1,2,6,8,10], I_js3 t n r z B S)), (124, ([0,1], I_js4 t n r z B S))]) (by decide) (by decide) kX14_judgeSummary ⟨_, _, rfl⟩ fX14_ok nX14_ok aX14_ok iX14_ok lX14_ok (fun p e R s m args below meth c Q D cy z r A C hR1 hR2 => List.forall_mem_cons.mpr ⟨cOK_use (fun _ _ _ _ _ _ _ _ h => let ⟨sp, h1, _, h3⟩ := u_fillI l _ _ _ _ _ _ _ _ h; ⟨sp, cOK_S C h1 vX14_judgeSummary_132 ⟨by decide, by decide, by decide +kernel⟩ ⟨by rw [hR1]; decide, by rw [hR2]; decide⟩, h3⟩), List.forall_mem_cons.mpr ⟨cOK_use (fun _ _ _ _ _ _ _ _ h => let ⟨sp, h1, h2, h3⟩ := u_rnum l _ _ _ _ _ _ _ _ h; ⟨sp, cOK_V C h1 vX14_judgeSummary_431 ⟨by decide, by decide, by decide +kernel⟩ ⟨by rw [hR1]; decide, by rw [hR2]; decide⟩ (k := 15) (T := TX14) (N := 52) rfl (by decide) h2, h3⟩), List.forall_mem_cons.mpr ⟨cOK_use (fun _ _ _ _ _ _ _ _ h => ⟨sp_acopy, cOK_acopy C vX14_judgeSummary_288 ⟨by rw [hR1]; decide, by rw [hR2]; decide⟩, T_acopy_ok h⟩), fun _ h => absurd h List.not_mem_nil⟩⟩⟩) qX14_ok gX14_ok rfl ?_ ?_
  · rintro _ S ⟨rfl, hp⟩
    refine ⟨Nat.le_of_ble_eq_true rfl, 300, ?_⟩
    show (isO S 15 t ∧ (2 = 2 ∧ ((pa (mR S 1523 t) fun a_1 => ((isO S 17 a_1 ∧ mN S a_1 < 2147483648) ∧ 0 ≤ 0 ∧ 0 ≤ 0 ∧ ((0 = 0 ∧ (∃ (F_3 : Nat → Nat × Nat) (z_4 : Nat → Nat) (Y_5 : Nat → Nat → Nat) (R_6 : Rb) (kz_7 : Nat → Nat) (r_8 : Nat) (B_9 : List Nat) (p_10 q_11 : Nat), (MD (rI S a_1 (fillF (eI S a_1) (mN S a_1) (0 : Int32))) F_3 t z_4 Y_5 R_6 kz_7 ∧ rdP9 (rI S a_1 (fillF (eI S a_1) (mN S a_1) (0 : Int32))) t r_8 B_9 p_10 q_11) ∧ 0 ≤ 0 ∧ 0 ≤ 0 ∧ (∀ (S_12 : MM), (nuQ (rI S a_1 (fillF (eI S a_1) (mN S a_1) (0 : Int32))) S_12 t B_9 p_10 q_11) → ((0 ≤ (lg_cmp (oJ (vint B_9 q_11 p_10).1) (0 : Int64)) → (∃ k1, I_js1 t n r z B S k1 [(0, .inr (.inr (some t))), (1, .inl (nI n)), (2, .inr (.inl (oJ (vint B_9 q_11 p_10).1))), (4, .inr (.inl (-1 : Int64))), (6, .inr (.inl (0 : Int64)))] [] S_12 0 0)) ∧ (¬ 0 ≤ (lg_cmp (oJ (vint B_9 q_11 p_10).1) (0 : Int64)) → (([] : List MV) = [] ∧ mret (some .int) (sp_rjs t n F z Y R kz r B) [.inr (.inr (some t)), .inl (nI n)] S (some (.inl (2 : Int32))) S_12 0 0))))))))))))
    obtain ⟨hM, hn, hR, h7, h2, h22⟩ := hp
    have r23 := hM 1 23 (by decide)
    have n23 : mN S (z 23) = 256 := r23.2.2.2
    have k0 : rK [23] [1535] S (rI S (z 23) (fillF (eI S (z 23)) (mN S (z 23)) 0)) t z := ⟨Keep.rI (P := fun c => c = t ∨ ∃ k, k ∈ [23] ∧ c = z k) Keep.rf (Or.inr ⟨23, by decide, rfl⟩), fun _ _ => rfl, fun _ => rfl⟩
    have k9 : rK [23] [] S (rI S (z 23) (fillF (eI S (z 23)) (mN S (z 23)) 0)) t z := ⟨Keep.rI (P := fun c => c = t ∨ ∃ k, k ∈ [23] ∧ c = z k) Keep.rf (Or.inr ⟨23, by decide, rfl⟩), fun _ _ => rfl, fun _ => rfl⟩
    have g9 : rG [23] [] S (rI S (z 23) (fillF (eI S (z 23)) (mN S (z 23)) 0)) F F t z z := k9.rg
    have M0 := k0.md hM (by decide) (by decide)
    have hR0 := hR.rg g9 hM (by decide) (by decide) (by decide)
    have hB0 : jsB S (rI S (z 23) (fillF (eI S (z 23)) (mN S (z 23)) 0)) t r z B 3 [] := ⟨k0, hR0, fun j hj => by rw [eI_rI, if_pos rfl, n23, fillF_in hj]; rfl⟩
    refine ⟨(hM 0).1, rfl, pa_i r23.1 ⟨⟨r23.2.2.1, by rw [n23]; decide⟩, Nat.le_refl _, Nat.le_refl _, rfl, F, z, Y, R, kz, r, B, 3, B.length - 4, ⟨M0, hR0⟩, Nat.le_refl _, Nat.le_refl _, fun S12 hq => ?_⟩⟩
    obtain ⟨p', a1, a2, hB1, hp'⟩ := hB0.nu hM hq
    cases hv : (vint B (B.length - 4) 3).1 with
    | none =>
      refine ⟨fun w => absurd w (by decide), fun _ => rjs_no hM hn hB1.1 ?_⟩
      unfold lrn; rw [hv]
    | some m =>
      have hlt := vint_lt hR.2.1.2.2.2.1 hv
      have hp9 := hp' m hv
      subst hp9
      refine ⟨fun _ => ⟨10 * m + 1, m, m, _, 0, [], rfl, ⟨hv, hlt, Nat.le_refl _, Nat.zero_le _, ?_, fun j => by show 0 < 2147483648; decide⟩, hB1, by rw [Nat.sub_self]; rfl, rfl, rfl, rfl⟩, fun w => absurd ((lgg (a := m) (b := 0) (by omega) (by decide)).2 (Nat.zero_le _)) w⟩
      cases lrnR B (B.length - 4) m (vint B (B.length - 4) 3).2 0 <;> rfl
  · intro av S hpre pc I hI k lo st S1 cs sl h
    obtain ⟨rfl, hp⟩ := hpre
    have hm := look_in hI
    simp only [List.mem_cons, List.not_mem_nil, or_false] at hm
    rcases hm with hm | hm | hm | hm
    · cases hm
      obtain ⟨m, k', p, mm, dn, rfl, hF, hB, rfl, rfl, rfl, rfl⟩ := h
      refine ⟨300, ?_⟩
      show ((0 ≤ (lg_cmp (lN (m - k')) (lN m)) → (isO S1 15 t ∧ (isO S1 15 t ∧ (((mI S1 1535 t) = (mI S1 1536 t) → (∃ k1, k1 < 10 * k' + 1 ∧ I_js4 t n r z B S k1 [(0, .inr (.inr (some t))), (1, .inl (nI n))] [] S1 0 0)) ∧ (¬ (mI S1 1535 t) = (mI S1 1536 t) → (([] : List MV) = [] ∧ mret (some .int) (sp_rjs t n F z Y R kz r B) [.inr (.inr (some t)), .inl (nI n)] S (some (.inl (2 : Int32))) S1 0 0)))))) ∧ (¬ 0 ≤ (lg_cmp (lN (m - k')) (lN m)) → (0 = 0 ∧ (∃ (F_1 : Nat → Nat × Nat) (z_2 : Nat → Nat) (Y_3 : Nat → Nat → Nat) (R_4 : Rb) (kz_5 : Nat → Nat) (r_6 : Nat) (B_7 : List Nat) (p_8 q_9 : Nat), (MD S1 F_1 t z_2 Y_3 R_4 kz_5 ∧ rdP9 S1 t r_6 B_7 p_8 q_9) ∧ 0 ≤ 0 ∧ 0 ≤ 0 ∧ (∀ (S_10 : MM), (nuQ S1 S_10 t B_7 p_8 q_9) → ((0 ≤ (lg_cmp (oJ (vint B_7 q_9 p_8).1) (0 : Int64)) → (0 = 0 ∧ (∃ (F_11 : Nat → Nat × Nat) (z_12 : Nat → Nat) (Y_13 : Nat → Nat → Nat) (R_14 : Rb) (kz_15 : Nat → Nat) (r_16 : Nat) (B_17 : List Nat) (p_18 q_19 : Nat), (MD S_10 F_11 t z_12 Y_13 R_14 kz_15 ∧ rdP9 S_10 t r_16 B_17 p_18 q_19) ∧ 0 ≤ 0 ∧ 0 ≤ 0 ∧ (∀ (S_20 : MM), (nuQ S_10 S_20 t B_17 p_18 q_19) → (∃ k1, k1 < 10 * k' + 1 ∧ I_js2 t n r z B S k1 [(0, .inr (.inr (some t))), (1, .inl (nI n)), (2, .inr (.inl (lN m))), (4, .inr (.inl (lmJ mm))), (6, .inr (.inl (lN (m - k')))), (8, .inr (.inl (oJ (vint B_7 q_9 p_8).1))), (10, .inr (.inl (oJ (vint B_17 q_19 p_18).1)))] [] S_20 0 0))))) ∧ (¬ 0 ≤ (lg_cmp (oJ (vint B_7 q_9 p_8).1) (0 : Int64)) → (∃ k1, k1 < 10 * k' + 1 ∧ I_js2 t n r z B S k1 [(0, .inr (.inr (some t))), (1, .inl (nI n)), (2, .inr (.inl (lN m))), (4, .inr (.inl (lmJ mm))), (6, .inr (.inl (lN (m - k')))), (8, .inr (.inl (oJ (vint B_7 q_9 p_8).1))), (10, .inr (.inl (-1 : Int64)))] [] S_10 0 0))))))))
      obtain ⟨hM, hn, hR, h7, h2, h22⟩ := hp
      obtain ⟨hK, ⟨x1, x2, x3, x4, x5, x6⟩, hO⟩ := id hB
      have M1 := hK.md hM (by decide) (by decide)
      have hB8 : B.length ≤ 32768 := x2.2.2.1
      have hgg : 0 ≤ lg_cmp (lN (m - k')) (lN m) ↔ m ≤ m - k' := lgg (by have := hF.2.1; omega) (by have := hF.2.1; omega)
      have hkm := hF.2.2.1
      rw [x3, x4]
      refine ⟨fun w => ?_, fun w => ?_⟩
      · have w := hgg.1 w
        by_cases k0 : k' = 0
        · subst k0
          have hf := hF.fin
          refine ⟨(M1 0).1, (M1 0).1, if_eq (by omega) (by omega) (fun w2 => ?_) (fun w2 => rjs_no hM hn hK (by rw [hf, if_neg (by omega)]))⟩
          exact ⟨0, by omega, p, dn, rfl, by rw [hf, if_pos (by omega)], hF.2.2.2.2.2, hB, rfl, rfl, rfl, rfl⟩
        · omega
      · obtain ⟨k', rfl⟩ : ∃ k'', k' = k'' + 1 := ⟨k' - 1, by
          have : k' ≠ 0 := fun e => w (hgg.2 (by omega))
          omega⟩
        refine ⟨rfl, F, z, Y, R, kz, r, B, p, B.length - 4, ⟨M1, x1, x2, x3, x4, x5, x6⟩, Nat.le_refl _, Nat.le_refl _, fun S10 hq => ?_⟩
        obtain ⟨p1, a1, a2, hB1, hp1⟩ := hB.nu hM hq
        cases hv : (vint B (B.length - 4) p).1 with
        | none =>
          refine ⟨fun w => absurd w (by decide), fun _ => ⟨10 * k' + 9, by omega, m, k', p, p1, mm, dn, rfl, hF, fun a c e => (by rw [hv] at e; cases e), hB1, by unfold o2S; rw [hv]; rfl, rfl, rfl, rfl⟩⟩
        | some a =>
          have hlt := vint_lt x2.2.2.2.1 hv
          have e1 := hp1 a hv
          subst e1
          have M2 := hB1.1.md hM (by decide) (by decide)
          refine ⟨fun _ => ⟨rfl, F, z, Y, R, kz, r, B, _, B.length - 4, ⟨M2, hB1.2.1⟩, Nat.le_refl _, Nat.le_refl _, fun S20 hq2 => ?_⟩, fun w => absurd ((lgg (a := a) (b := 0) (by omega) (by decide)).2 (Nat.zero_le _)) w⟩
          obtain ⟨p2, a3, a4, hB2, hp2⟩ := hB1.nu hM hq2
          exact ⟨10 * k' + 9, by omega, m, k', p, p2, mm, dn, rfl, hF, fun a c _ e => hp2 c e, hB2, by unfold o2S; rw [hv]; rfl, rfl, rfl, rfl⟩
    · cases hm
      obtain ⟨m, k', p, p2, mm, dn, rfl, hF, hp2, hB, rfl, rfl, rfl, rfl⟩ := h
      refine ⟨300, ?_⟩
      show (((lg_cmp (oJ (vint B (B.length - 4) p).1) (lmJ mm)) ≤ 0 → (([] : List MV) = [] ∧ mret (some .int) (sp_rjs t n F z Y R kz r B) [.inr (.inr (some t)), .inl (nI n)] S (some (.inl (2 : Int32))) S1 0 0)) ∧ (¬ (lg_cmp (oJ (vint B (B.length - 4) p).1) (lmJ mm)) ≤ 0 → ((0 < (lg_cmp (oJ (vint B (B.length - 4) p).1) (255 : Int64)) → (([] : List MV) = [] ∧ mret (some .int) (sp_rjs t n F z Y R kz r B) [.inr (.inr (some t)), .inl (nI n)] S (some (.inl (2 : Int32))) S1 0 0)) ∧ (¬ 0 < (lg_cmp (oJ (vint B (B.length - 4) p).1) (255 : Int64)) → ((0 ≤ (lg_cmp (oJ (o2S B (B.length - 4) p)) (1 : Int64)) → (∃ k1, k1 < 10 * k' + 9 ∧ I_js3 t n r z B S k1 [(0, .inr (.inr (some t))), (1, .inl (nI n)), (2, .inr (.inl (lN m))), (6, .inr (.inl (lN (m - (k' + 1))))), (8, .inr (.inl (oJ (vint B (B.length - 4) p).1))), (10, .inr (.inl (oJ (o2S B (B.length - 4) p))))] [] S1 0 0)) ∧ (¬ 0 ≤ (lg_cmp (oJ (o2S B (B.length - 4) p)) (1 : Int64)) → (([] : List MV) = [] ∧ mret (some .int) (sp_rjs t n F z Y R kz r B) [.inr (.inr (some t)), .inl (nI n)] S (some (.inl (2 : Int32))) S1 0 0)))))))
      obtain ⟨hM, hn, hR, h7, h2, h22⟩ := hp
      have hBy := hR.2.1.2.2.2.1
      have hmm := hF.2.2.2.1
      have hbf := bf_le (o := (vint B (B.length - 4) p).1) (m := mm) (fun a e => vint_lt hBy e) (by omega)
      cases hv : (vint B (B.length - 4) p).1 with
      | none =>
        rw [hv] at hbf
        exact ⟨fun _ => rjs_no hM hn hB.1 (hF.no (lrnR_1 hv)), fun w => absurd (hbf.2 (fun a e => by cases e)) w⟩
      | some a =>
        rw [hv] at hbf
        have hlt := vint_lt hBy hv
        have h255 : 0 < lg_cmp (oJ (some a)) 255 ↔ 255 < a := (lgc (a := a) (b := 255) (by omega) (by decide)).1
        have e2 : o2S B (B.length - 4) p = (vint B (B.length - 4) (vint B (B.length - 4) p).2).1 := by unfold o2S; rw [hv]; rfl
        rw [e2]
        refine ⟨fun w => rjs_no hM hn hB.1 (hF.no (lrnR_2 hv (fun q => by have := hbf.1 w a rfl; omega))), fun w => ⟨fun w2 => rjs_no hM hn hB.1 (hF.no (lrnR_2 hv (fun q => by have := h255.1 w2; omega))), fun w2 => ?_⟩⟩
        have hma : mm ≤ a ∧ a < 256 := ⟨Nat.le_of_not_lt (fun q => w (hbf.2 (fun b e => by cases e; exact q))), Nat.lt_of_not_le (fun q => w2 (h255.2 q))⟩
        cases hv2 : (vint B (B.length - 4) (vint B (B.length - 4) p).2).1 with
        | none => exact ⟨fun q => absurd q (by decide), fun _ => rjs_no hM hn hB.1 (hF.no (lrnR_3 hv hv2))⟩
        | some c =>
          have hlc := vint_lt hBy hv2
          have hgg : 0 ≤ lg_cmp (oJ (some c)) 1 ↔ 1 ≤ c := lgg (a := c) (b := 1) (by omega) (by decide)
          have ep := hp2 a c hv hv2
          subst ep
          exact ⟨fun q => ⟨10 * k' + 8, by omega, m, k', p, mm, a, c, dn, rfl, hF, hv, hma, hv2, hgg.1 q, hB, rfl, rfl, rfl, rfl⟩, fun q => rjs_no hM hn hB.1 (hF.no (lrnR_4 hv hv2 (fun e => q (hgg.2 e))))⟩
    · cases hm
      obtain ⟨m, k', p, mm, a, c, dn, rfl, hF, hv, hma, hv2, hc1, hB, rfl, rfl, rfl, rfl⟩ := h
      refine ⟨300, ?_⟩
      show (isO S1 15 t ∧ (pa (mR S1 1523 t) fun a_1 => isO S1 17 a_1 ∧ inR S1 a_1 ((lN a).toInt32) ∧ (∃ k1, k1 < 10 * k' + 8 ∧ I_js1 t n r z B S k1 [(0, .inr (.inr (some t))), (1, .inl (nI n)), (2, .inr (.inl (lN m))), (4, .inr (.inl (lN a))), (6, .inr (.inl ((lN (m - (k' + 1))) + (1 : Int64))))] [] (rI S1 a_1 (upd (eI S1 a_1) ((lN a).toInt32).toNatClampNeg ((lN c).toInt32))) 0 0)))
      obtain ⟨hM, hn, hR, h7, h2, h22⟩ := hp
      obtain ⟨hK, hR1, hO⟩ := id hB
      have hBy := hR.2.1.2.2.2.1
      have M1 := hK.md hM (by decide) (by decide)
      have r23 := M1 1 23 (by decide)
      have n23 : mN S1 (z 23) = 256 := r23.2.2.2
      have hlc := vint_lt hBy hv2
      have hkm := hF.2.2.1
      have k9 : rK [23] [] S1 (rI S1 (z 23) (upd (eI S1 (z 23)) a (nI c))) t z := ⟨Keep.rI (P := fun c => c = t ∨ ∃ k, k ∈ [23] ∧ c = z k) Keep.rf (Or.inr ⟨23, by decide, rfl⟩), fun _ _ => rfl, fun _ => rfl⟩
      have g9 : rG [23] [] S1 (rI S1 (z 23) (upd (eI S1 (z 23)) a (nI c))) F F t z z := k9.rg
      have ca : (nI a).toNatClampNeg = a := nI_clamp (by omega)
      rw [lN_32 (by omega), lN_32 hlc, ca]
      refine ⟨(M1 0).1, pa_i r23.1 ⟨r23.2.2.1, inRn n23 hma.2 (by decide), 10 * k' + 1, by omega, m, k', _, a + 1, dn ++ [(a, c)], rfl, ⟨hF.1, hF.2.1, by omega, by omega, ?_, fun j => ?_⟩, ⟨hK.tr (k9.mono (fun k hk => hk) (fun f hf => by cases hf)), hR1.rg g9 M1 (by decide) (by decide) (by decide), fun j hj => ?_⟩, ?_, rfl, rfl, rfl⟩⟩
      · rw [hF.2.2.2.2.1, lrnR_5 hv hma hv2 hc1]
        cases lrnR B (B.length - 4) k' (vint B (B.length - 4) (vint B (B.length - 4) p).2).2 (a + 1) with
        | none => rfl
        | some x => show some (dn ++ (a, c) :: x.1, x.2) = some (dn ++ [(a, c)] ++ x.1, x.2); rw [List.append_assoc]; rfl
      · rw [kfold_snoc]
        unfold updN
        split
        · exact hlc
        · exact hF.2.2.2.2.2 j
      · rw [eI_rI, if_pos rfl, kfold_snoc, upd]
        unfold updN
        by_cases e : j = a
        · rw [if_pos e, if_pos e]
        · rw [if_neg e, if_neg e]; exact hO j hj
      · rw [show (1 : Int64) = lN 1 from rfl, lN_plus, show m - (k' + 1) + 1 = m - k' by omega]; rfl
    · cases hm
      obtain ⟨p, dn, rfl, hl, hkf, hB, rfl, rfl, rfl, rfl⟩ := h
      refine ⟨300, ?_⟩
      show (isO S1 15 t ∧ (isO S1 15 t ∧ (pa (mR S1 1500 t) fun a_1 => a_1 ∈ mL S1 ∧ ¬ mK S1 a_1 < 21 ∧ mK S1 a_1 < 29 ∧ inR S1 a_1 (nI n) ∧ (pa (eR S1 a_1 (nI n).toNatClampNeg) fun a_2 => isO S1 13 a_2 ∧ (isO S1 15 t ∧ (pa (mR S1 1534 t) fun a_3 => (isO S1 16 a_3 ∨ isO S1 20 a_3) ∧ inR S1 a_3 (2 : Int32) ∧ (pa (mR S1 1322 a_2) fun a_4 => a_4 ∈ mL S1 ∧ ¬ mK S1 a_4 < 21 ∧ mK S1 a_4 < 29 ∧ inR S1 a_4 (eI S1 a_3 (2 : Int32).toNatClampNeg) ∧ (2 = 2 ∧ ((pa (mR S1 1523 t) fun a_5 => ((pa (eR S1 a_4 (eI S1 a_3 (2 : Int32).toNatClampNeg).toNatClampNeg) fun a_6 => (∃ (k_7 : Nat), (acP S1 a_5 a_6 (0 : Int32) (0 : Int32) (256 : Int32) k_7) ∧ 0 ≤ 0 ∧ 0 ≤ 0 ∧ ((([] : List MV) = [] ∧ mret (some .int) (sp_rjs t n F z Y R kz r B) [.inr (.inr (some t)), .inl (nI n)] S (some (.inl (0 : Int32))) (rI S1 a_6 (va_cpy (eI S1 a_5) (eI S1 a_6) (0 : Int32).toNatClampNeg (0 : Int32).toNatClampNeg (256 : Int32).toNatClampNeg)) 0 0)))))))))))))))
      obtain ⟨hM, hn, hR, h7, h2, h22⟩ := hp
      obtain ⟨hK, hR1, hO⟩ := id hB
      have M1 := hK.md hM (by decide) (by decide)
      have r0 := M1 1 0 (by decide)
      have r23 := M1 1 23 (by decide)
      have n23 : mN S1 (z 23) = 256 := r23.2.2.2
      have cn : (nI n).toNatClampNeg = n := nI_clamp (by omega)
      have hRP := (M1 2 n hn).2
      have er : eR S1 (z 0) (nI n).toNatClampNeg = some (Y n 0) := by rw [cn]; exact (M1 2 n hn).1
      have r22 := hRP.1.rk (k := 22) (by decide) (by decide) (by decide)
      have q2 := hRP.2.1 (B.getD 2 0) h2
      have hby := hR1.2.1
      have nr : r ≠ z 23 := hR.2.1.nz hM (by decide) (by decide)
      have e2 : eI S1 r (2 : Int32).toNatClampNeg = nI (B.getD 2 0) := by
        have nt : r ≠ t := fun e => by
          have a1 := hR.2.1.1.2
          rw [e, (hM 0).1.2] at a1
          exact absurd a1 (by decide)
        have := hK.1.2.1 r hR.2.1.1.1 (fun q => by
          rcases q with q | ⟨k, k1, q⟩
          · exact nt q
          · rw [List.mem_singleton.1 k1] at q; exact nr q)
        rw [this.2.2.2.1]; exact h22
      have c2 : (nI (B.getD 2 0)).toNatClampNeg = B.getD 2 0 := nI_clamp (by omega)
      have er2 : eR S1 (Y n 22) (nI (B.getD 2 0)).toNatClampNeg = some (Y n (120 + B.getD 2 0)) := by rw [c2]; exact q2.1
      refine ⟨(M1 0).1, (M1 0).1, pa_i r0.1 ⟨r0.2.2.1.1, by rw [r0.2.2.1.2]; decide, by rw [r0.2.2.1.2]; decide, inRn (N := 4) r0.2.2.2 hn (by decide), pa_i er ⟨(hRP.1 0).1, (M1 0).1, pa_i hR1.1 ⟨Or.inl hby.1, inRl (i := 2) (by have := hby.2.1; omega) (by decide), pa_i r22.1 ⟨r22.2.2.1.1, by rw [r22.2.2.1.2]; decide, by rw [r22.2.2.1.2]; decide, ?_, rfl, pa_i r23.1 ?_⟩⟩⟩⟩⟩
      · rw [e2]; exact inRn (N := 4) r22.2.2.2 h2 (by decide)
      · rw [e2]
        refine pa_i er2 ⟨17, ⟨r23.2.2.1, q2.2.1, Or.inl rfl, by decide, by decide, by decide, by rw [n23]; decide, by rw [q2.2.2.2.1]; decide⟩, Nat.le_refl _, Nat.le_refl _, rfl, trivial, ⟨by unfold lrF; rw [hl]; rfl, ?_⟩, Nat.le_refl _, Nat.le_refl _⟩
        have hkn := hRP.kn h2 (v := va_cpy (eI S1 (z 23)) (eI S1 (Y n (120 + B.getD 2 0))) (0 : Int32).toNatClampNeg (0 : Int32).toNatClampNeg (256 : Int32).toNatClampNeg) (K' := kfold dn) (fun j hj => ⟨?_, hkf j⟩)
        · have hk8 : Keep (fun c => (F c).1 = 101 + n) S1 (rI S1 (Y n (120 + B.getD 2 0)) (va_cpy (eI S1 (z 23)) (eI S1 (Y n (120 + B.getD 2 0))) (0 : Int32).toNatClampNeg (0 : Int32).toNatClampNeg (256 : Int32).toNatClampNeg)) := Keep.rI (P := fun c => (F c).1 = 101 + n) Keep.rf (by show (F (Y n (120 + B.getD 2 0))).1 = 101 + n; rw [q2.2.2.1])
          have hM2 := M1.gp hn hk8 hkn rfl (fun _ _ => rfl) (fun b hb => (hk8.1 b (M1 12 b hb)).1) (fun s => Nat.le_refl _) (fun x hx => hx)
          rw [upY_own] at hM2
          have eK : lrnK (R.Q.Kn n) B = fun o j => if o = B.getD 2 0 then kfold dn j else R.Q.Kn n o j := by unfold lrnK; rw [hl]
          refine ⟨by unfold jsR; rw [eK]; exact hM2, (hK.rg.rh n).tr ⟨hk8.mono (fun b _ e => Or.inr (Or.inr e)), fun _ _ => rfl, fun _ _ => rfl, fun _ _ => rfl, fun _ => Or.inl rfl⟩⟩
        · show va_cpy (eI S1 (z 23)) (eI S1 (Y n (120 + B.getD 2 0))) 0 0 256 j = _
          rw [← hO j hj]
          unfold va_cpy
          rw [if_pos ⟨Nat.zero_le _, by omega⟩, Nat.zero_add]
          rfl
theorem u_rjs (l : Launch) : Us l yX14_judgeSummary cX14_judgeSummary 12 (some .int) 1 32 15 T_rjs := by
  intro Rc Rs av S cs sl K Kx h
  unfold T_rjs at h
  split at h
  · rename_i t_o n_v
    obtain ⟨t, rfl, h_1⟩ := pa_of h
    obtain ⟨n, rfl, h_2⟩ := h_1
    obtain ⟨F, z, Y, R, kz, r, B, hp, hc, hs, hk⟩ := h_2
    refine ⟨(sp_rjs t n F z Y R kz r B), c_rjs l t n F z Y R kz r B, fun _ _ h9 => ⟨_, _, h9.1, (h9.2.1 0).1⟩, ⟨rfl, hp⟩, hc, hs, fun v9 S' h8 => by
      obtain ⟨h7, h8⟩ := h8
      cases h7
      exact hk _ h8, fun _ _ q => q.elim⟩
  · exact h.elim
