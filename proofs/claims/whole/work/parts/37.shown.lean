/-! ===== Graph: the version that is shown ===== -/
def wI (S : MM) (μ : Nat → Nat → Int32) : MM := (mL S, mK S, μ, mR S, mJ S, mN S, eI S, eJ S, eR S, mZ S, mQ S)
theorem wI_mI (S : MM) (μ : Nat → Nat → Int32) : mI (wI S μ) = μ := rfl
theorem sI_wI (S : MM) (μ : Nat → Nat → Int32) (i a : Nat) (v : Int32) : sI (wI S μ) i a v = wI S (up2 μ i a v) := rfl
theorem sI_w (S : MM) (i a : Nat) (v : Int32) : sI S i a v = wI S (up2 (mI S) i a v) := rfl
/-- the memory without what changes in events: pointers, state, rank -/
def msk0 (S : MM) : MM := (mL S, mK S, (fun i b => if 507 < i ∧ i < 516 then 0 else mI S i b), (fun i b => if 507 < i ∧ i < 516 then none else mR S i b), mJ S, mN S, eI S, eJ S, eR S, mZ S, mQ S)
theorem EvT.msk {S : MM} {X : GX} {G : Gr} : EvT (msk0 S) X G ↔ EvT S X G := Iff.rfl
theorem AL.msk {S : MM} {a d c kk : Nat} {L : List Nat} : AL (msk0 S) a d c kk L ↔ AL S a d c kk L := Iff.rfl
theorem WR.msk {S : MM} {r : Nat} {w : Nat → Nat} : WR (msk0 S) r w ↔ WR S r w := Iff.rfl
/-- deletes and characters are as they should be -/
def Gr.okt (G : Gr) : Prop := ∀ k, k < G.n → (∀ c, (G.ev k).ch = some c → c < 2000000) ∧ ((G.ev k).ch = none → (G.ev k).tg < k ∧ (G.ev (G.ev k).tg).ch ≠ none)
/-- whether one of the first N events deletes a node in a version -/
def del (G : Gr) (W : Nat → Nat) : Nat → Nat → Bool
  | 0, _ => false
  | N + 1, k => del G W N k || (decide ((G.ev N).ch = none ∧ (G.ev N).tg = k) && G.has W N)
/-- a node's state by the first N events -/
def stV (G : Gr) (W : Nat → Nat) (N k : Nat) : Nat := if G.has W k = true then (if del G W N k = true then 2 else 1) else 0
/-- the nodes of the first N events that are seen -/
def c1 (G : Gr) (W : Nat → Nat) (N : Nat) : Nat := ((List.range N).filter (fun k => decide ((G.ev k).ch ≠ none ∧ stV G W N k = 1))).length
theorem c1_le (G : Gr) (W : Nat → Nat) (N : Nat) : c1 G W N ≤ N := by
  have := List.length_filter_le (fun k => decide ((G.ev k).ch ≠ none ∧ stV G W N k = 1)) (List.range N)
  rw [List.length_range] at this
  exact this
theorem del_ins {G : Gr} {W : Nat → Nat} {N k : Nat} (h : (G.ev N).ch ≠ none) : del G W (N + 1) k = del G W N k := by
  rw [del, show decide ((G.ev N).ch = none ∧ (G.ev N).tg = k) = false from decide_eq_false (fun z => h z.1)]; simp
theorem del_out {G : Gr} {W : Nat → Nat} {N k : Nat} (h : G.has W N = false) : del G W (N + 1) k = del G W N k := by
  rw [del, h]; simp
theorem del_oth {G : Gr} {W : Nat → Nat} {N k : Nat} (h : (G.ev N).tg ≠ k) : del G W (N + 1) k = del G W N k := by
  rw [del, show decide ((G.ev N).ch = none ∧ (G.ev N).tg = k) = false from decide_eq_false (fun z => h z.2)]; simp
theorem del_hit {G : Gr} {W : Nat → Nat} {N : Nat} (h : (G.ev N).ch = none) (h2 : G.has W N = true) : del G W (N + 1) (G.ev N).tg = true := by
  rw [del, show decide ((G.ev N).ch = none ∧ (G.ev N).tg = (G.ev N).tg) = true from decide_eq_true ⟨h, rfl⟩, h2]; simp
theorem del_lt {G : Gr} {W : Nat → Nat} (ht : G.okt) {N k : Nat} (hN : N ≤ G.n) (h : N ≤ k + 1) : del G W N k = false := by
  induction N with
  | zero => rfl
  | succ N ih =>
    rw [del, ih (by omega) (by omega)]
    by_cases z : (G.ev N).ch = none ∧ (G.ev N).tg = k
    · have := ((ht N (by omega)).2 z.1).1
      omega
    · rw [decide_eq_false z]; rfl
theorem fil_same {L : List Nat} {p q : Nat → Bool} (h : ∀ x, x ∈ L → q x = p x) : (L.filter q).length = (L.filter p).length := by rw [List.filter_congr h]
theorem fil_drop {L : List Nat} {p q : Nat → Bool} {t : Nat} (hn : L.Nodup) (ht : t ∈ L) (hp : p t = true) (hq : q t = false) (h : ∀ x, x ∈ L → x ≠ t → q x = p x) : (L.filter q).length + 1 = (L.filter p).length := by
  induction L with
  | nil => cases ht
  | cons y L ih =>
    rw [List.nodup_cons] at hn
    rw [List.filter_cons, List.filter_cons]
    by_cases z : y = t
    · subst z
      rw [hp, hq]
      show (L.filter q).length + 1 = (y :: L.filter p).length
      rw [fil_same (p := p) (q := q) (fun x hx => h x (List.mem_cons_of_mem _ hx) (fun e => hn.1 (e ▸ hx))), List.length_cons]
    · have ih2 := ih hn.2 ((List.mem_cons.1 ht).resolve_left (fun e => z e.symm)) (fun x hx hne => h x (List.mem_cons_of_mem _ hx) hne)
      rw [h y List.mem_cons_self z]
      by_cases w : p y = true
      · rw [if_pos w, if_pos w, List.length_cons, List.length_cons]; omega
      · rw [if_neg w, if_neg w]; exact ih2
theorem c1_ins {G : Gr} {W : Nat → Nat} (ht : G.okt) {N : Nat} (hN : N < G.n) (h : (G.ev N).ch ≠ none) : c1 G W (N + 1) = c1 G W N + if G.has W N = true then 1 else 0 := by
  unfold c1
  rw [List.range_succ, List.filter_append, List.length_append]
  have e1 : ((List.range N).filter (fun k => decide ((G.ev k).ch ≠ none ∧ stV G W (N + 1) k = 1))).length = ((List.range N).filter (fun k => decide ((G.ev k).ch ≠ none ∧ stV G W N k = 1))).length := fil_same (fun x _ => by rw [stV, stV, del_ins h])
  rw [e1, List.filter_cons, List.filter_nil]
  have e2 : stV G W (N + 1) N = if G.has W N = true then 1 else 0 := by
    rw [stV, del_lt ht (by omega) (by omega)]; rfl
  by_cases z : G.has W N = true
  · rw [if_pos z] at e2 ⊢
    rw [if_pos (decide_eq_true ⟨h, e2⟩)]; rfl
  · rw [if_neg z] at e2 ⊢
    rw [if_neg (fun q => by have := (of_decide_eq_true q).2; omega)]; rfl
theorem c1_del {G : Gr} {W : Nat → Nat} (ht : G.okt) {N : Nat} (hN : N < G.n) (h : (G.ev N).ch = none) : c1 G W (N + 1) + (if G.has W N = true ∧ stV G W N (G.ev N).tg = 1 then 1 else 0) = c1 G W N := by
  unfold c1
  rw [List.range_succ, List.filter_append, List.length_append, List.filter_cons, List.filter_nil, if_neg (fun q => (of_decide_eq_true q).1 h)]
  obtain ⟨t1, t2⟩ := (ht N hN).2 h
  by_cases z : G.has W N = true ∧ stV G W N (G.ev N).tg = 1
  · rw [if_pos z]
    have hh : G.has W (G.ev N).tg = true := by
      refine Decidable.byContradiction (fun q => ?_)
      have := z.2
      rw [stV, if_neg q] at this
      omega
    refine fil_drop List.nodup_range (List.mem_range.2 t1) (decide_eq_true ⟨t2, z.2⟩) (decide_eq_false (fun q => ?_)) (fun x _ hx => ?_)
    · have := q.2
      rw [stV, if_pos hh, del_hit h z.1, if_pos rfl] at this
      omega
    · rw [stV, stV, del_oth (fun e => hx e.symm)]
  · rw [if_neg z]
    show _ + 0 + 0 = _
    refine fil_same (fun x _ => ?_)
    by_cases y : (G.ev N).tg = x
    · subst y
      cases w : G.has W N with
      | false => rw [stV, stV, del_out w]
      | true =>
        have hs : stV G W N (G.ev N).tg ≠ 1 := fun q => z ⟨w, q⟩
        have hs2 : stV G W (N + 1) (G.ev N).tg ≠ 1 := by
          rw [stV, del_hit h w]
          split <;> simp
        rw [decide_eq_false (fun q => hs2 q.2), decide_eq_false (fun q => hs q.2)]
    · rw [stV, stV, del_oth y]
/-- the memory with other states and counts -/
def rbF (S : MM) (X : GX) (G : Gr) (g : Nat) (μ : Nat → Nat → Int32) : Prop := ∀ i b, ¬ (i = 513 ∧ ∃ k, k < G.n ∧ b = X.ad k) → ¬ (b = g ∧ (i = 609 ∨ i = 611)) → μ i b = mI S i b
theorem rbF.keep {S : MM} {X : GX} {G : Gr} {g : Nat} {μ : Nat → Nat → Int32} {o : Option Nat} (h : rbF S X G g μ) : Keep (fun b => b = g) (msk0 S) (msk0 (wI (sR S 610 g o) μ)) := by
  refine ⟨fun b hb => ⟨hb, rfl, rfl⟩, fun b _ hp => ⟨fun i => ?_, fun i => ?_, fun _ => rfl, rfl, rfl, rfl⟩, rfl, rfl⟩
  · show (if 507 < i ∧ i < 516 then 0 else μ i b) = if 507 < i ∧ i < 516 then 0 else mI S i b
    by_cases z : 507 < i ∧ i < 516
    · rw [if_pos z, if_pos z]
    · rw [if_neg z, if_neg z]
      exact h i b (fun q => z (by omega)) (fun q => hp q.1)
  · show (if 507 < i ∧ i < 516 then none else mR (sR S 610 g o) i b) = if 507 < i ∧ i < 516 then none else mR S i b
    have e : mR (sR S 610 g o) i b = mR S i b := by rw [mR_sR, if_neg (fun q : i = 610 ∧ b = g => hp q.2)]
    rw [e]
theorem EvT.keepM {S S1 : MM} {X : GX} {G : Gr} {g : Nat} (h : EvT S X G) (hg : isO S 6 g) (hk : Keep (fun b => b = g) (msk0 S) (msk0 S1)) : EvT S1 X G := by
  refine EvT.msk.1 ((EvT.msk.2 h).keep hk (fun k q => ?_) (fun s q => ?_))
  · obtain ⟨a1, a2, a3, a4, a5, a6, a7, a8, a9, a10, -⟩ := h.2.1 k q
    exact ⟨isO_ne a1 hg (by decide), isO_ne a6 hg (by decide), isO_ne a10 hg (by decide)⟩
  · obtain ⟨a1, -⟩ := h.2.2.1 s q
    exact isO_ne a1 hg (by decide)
theorem AL.keepM {S S1 : MM} {g a d c kk : Nat} {L : List Nat} (h : AL S a d c kk L) (hg : isO S 6 g) (hk : Keep (fun b => b = g) (msk0 S) (msk0 S1)) : AL S1 a d c kk L :=
  AL.msk.1 ((AL.msk.2 h).keep hk (isO_ne h.1 hg (by decide)) (fun q => isO_ne (show isO S 26 d from q) hg (by decide)))
theorem chI_m1 {o : Option Nat} (h : ∀ c, o = some c → c < 2000000) : chI o = -1 ↔ o = none := by
  cases o with
  | none => exact ⟨fun _ => rfl, fun _ => rfl⟩
  | some c =>
    refine ⟨fun z => ?_, fun z => by cases z⟩
    have hc := h c rfl
    have z : nI c = -1 := z
    have := nI_pos (n := c) (by omega)
    rw [z] at this
    exact absurd (by decide) this
def rbP (S S' : MM) (X : GX) (G : Gr) (g rt : Nat) (W : Nat → Nat) : Prop := ∃ μ, S' = wI (sR S 610 g (some rt)) μ ∧ rbF S X G g μ ∧ μ 609 g = nI (c1 G W G.n) ∧ μ 611 g = 0 ∧ (∀ k, k < G.n → (G.ev k).ch ≠ none → μ 513 (X.ad k) = nI (stV G W G.n k)) ∧ ∀ k, k < G.n → (G.ev k).ch = none → μ 513 (X.ad k) = mI S 513 (X.ad k)
def I_rb (g rt : Nat) (X : GX) (G : Gr) (W : Nat → Nat) (S : MM) (t : Nat) : KT := fun lo st S1 cs sl => ∃ N μ, N + t = G.n ∧ lo = [(1, .inl (nI N)), (0, .inr (.inr (some g)))] ∧ st = [] ∧ S1 = wI (sR S 610 g (some rt)) μ ∧ rbF S X G g μ ∧ μ 609 g = nI (c1 G W N) ∧ μ 611 g = 0 ∧ (∀ k, k < N → (G.ev k).ch ≠ none → μ 513 (X.ad k) = nI (stV G W N k)) ∧ (∀ k, k < G.n → (G.ev k).ch = none → μ 513 (X.ad k) = mI S 513 (X.ad k)) ∧ cs = 0 ∧ sl = 0
def T_grb : TR := fun Rc Rs av S cs sl K _Kx => match av with
  | [.inr (.inr g_o)] => pa g_o fun g => (∃ (rt tk d c sh : Nat) (X : GX) (G : Gr) (W : Nat → Nat), (isO S 6 g ∧ mR S 600 g = some rt ∧ mR S 601 g = some tk ∧ AL S tk d c 5 ((List.range G.n).map X.ad) ∧ mR S 606 g = some sh ∧ WR S sh W ∧ EvT S X G ∧ G.okt) ∧ cs ≤ Rc ∧ sl ≤ Rs ∧ (∀ (S' : MM), (rbP S S' X G g rt W) → K none S' cs sl))
  | _ => False
def sp_grb (g : Nat) (rt tk d c sh : Nat) (X : GX) (G : Gr) (W : Nat → Nat) : Sp := (fun av S => av = [.inr (.inr (some g))] ∧ (isO S 6 g ∧ mR S 600 g = some rt ∧ mR S 601 g = some tk ∧ AL S tk d c 5 ((List.range G.n).map X.ad) ∧ mR S 606 g = some sh ∧ WR S sh W ∧ EvT S X G ∧ G.okt), fun _ S => 0, fun _ S => 0, fun _ S rv S' => rv = none ∧ (rbP S S' X G g rt W), fun _ _ _ _ => False)
def tX5_rebuildShown : CD := [(0, .aload_n 0), (1, .iconst 0), (2, .putfield 56), (5, .aload_n 0), (6, .aload_n 0), (7, .getfield 19), (10, .putfield 59), (13, .aload_n 0), (14, .iconst 0), (15, .putfield 62), (18, .iconst 0), (19, .istore_n 1), (20, .iload_n 1), (21, .aload_n 0), (22, .getfield 28), (25, .invokevirtual 68), (28, .if_icmp .ge 120), (31, .aload_n 0), (32, .getfield 28), (35, .iload_n 1), (36, .invokevirtual 76), (39, .checkcast 9), (42, .astore_n 2), (43, .aload_n 2), (44, .getfield 129), (47, .aload_n 0), (48, .getfield 46), (51, .aload_n 2), (52, .getfield 125), (55, .getfield 98), (58, .iaload), (59, .if_icmp .ge 7), (62, .iconst 1), (63, .goto 4), (66, .iconst 0), (67, .istore_n 3), (68, .aload_n 2), (69, .invokevirtual 135), (72, .ifCond .eq 37), (75, .aload_n 2), (76, .iload_n 3), (77, .ifCond .eq 7), (80, .iconst 1), (81, .goto 4), (84, .iconst 0), (85, .putfield 138), (88, .aload_n 0), (89, .dup), (90, .getfield 56), (93, .iload_n 3), (94, .ifCond .eq 7), (97, .iconst 1), (98, .goto 4), (101, .iconst 0), (102, .iadd), (103, .putfield 56), (106, .goto 36), (109, .iload_n 3), (110, .ifCond .eq 32), (113, .aload_n 2), (114, .getfield 141), (117, .getfield 138), (120, .iconst 1), (121, .if_icmp .ne 21), (124, .aload_n 2), (125, .getfield 141), (128, .iconst 2), (129, .putfield 138), (132, .aload_n 0), (133, .dup), (134, .getfield 56), (137, .iconst 1), (138, .isub), (139, .putfield 56), (142, .iinc 1 1), (145, .goto (-125)), (148, .return_)]
set_option maxRecDepth 100000 in
theorem kX5_rebuildShown : chk cX5_rebuildShown tX5_rebuildShown = true := by decide +kernel
theorem vX5_rebuildShown_68 : ∀ w ∈ ([.methodLink RX5 68 yJx4a65c_size_8abf5, .instanceMethod yJx4a65c_size_8abf5, .selects yJx4a65c_size_8abf5.cls yJx4a65c_size_8abf5 yJx4a65c_size_8abf5, .initialized yJx4a65c_size_8abf5.cls, .code yJx4a65c_size_8abf5 cJx4a65c_size_8abf5 1 (some .int)] : List Cond), w ∈ lw_good := List.forall_mem_cons.mpr ⟨mgd 672 (by decide +kernel) (by decide +kernel), List.forall_mem_cons.mpr ⟨mgd 673 (by decide +kernel) (by decide +kernel), List.forall_mem_cons.mpr ⟨mgd 674 (by decide +kernel) (by decide +kernel), List.forall_mem_cons.mpr ⟨mgd 130 (by decide +kernel) (by decide +kernel), List.forall_mem_cons.mpr ⟨mgd 675 (by decide +kernel) (by decide +kernel), fun _ h => absurd h List.not_mem_nil⟩⟩⟩⟩⟩
theorem vX5_rebuildShown_76 : ∀ w ∈ ([.methodLink RX5 76 yJx4a65c_get_915e3, .instanceMethod yJx4a65c_get_915e3, .selects yJx4a65c_get_915e3.cls yJx4a65c_get_915e3 yJx4a65c_get_915e3, .initialized yJx4a65c_get_915e3.cls, .code yJx4a65c_get_915e3 cJx4a65c_get_915e3 2 (some (.object "java/lang/Object"))] : List Cond), w ∈ lw_good := List.forall_mem_cons.mpr ⟨mgd 676 (by decide +kernel) (by decide +kernel), List.forall_mem_cons.mpr ⟨mgd 677 (by decide +kernel) (by decide +kernel), List.forall_mem_cons.mpr ⟨mgd 678 (by decide +kernel) (by decide +kernel), List.forall_mem_cons.mpr ⟨mgd 130 (by decide +kernel) (by decide +kernel), List.forall_mem_cons.mpr ⟨mgd 679 (by decide +kernel) (by decide +kernel), fun _ h => absurd h List.not_mem_nil⟩⟩⟩⟩⟩
theorem vX5_rebuildShown_135 : ∀ w ∈ ([.methodLink RX5 135 yX4_inserts, .instanceMethod yX4_inserts, .selects yX4_inserts.cls yX4_inserts yX4_inserts, .initialized yX4_inserts.cls, .code yX4_inserts cX4_inserts 1 (some .boolean)] : List Cond), w ∈ lw_good := List.forall_mem_cons.mpr ⟨mgd 690 (by decide +kernel) (by decide +kernel), List.forall_mem_cons.mpr ⟨mgd 691 (by decide +kernel) (by decide +kernel), List.forall_mem_cons.mpr ⟨mgd 692 (by decide +kernel) (by decide +kernel), List.forall_mem_cons.mpr ⟨mgd 126 (by decide +kernel) (by decide +kernel), List.forall_mem_cons.mpr ⟨mgd 693 (by decide +kernel) (by decide +kernel), fun _ h => absurd h List.not_mem_nil⟩⟩⟩⟩⟩
set_option maxRecDepth 100000 in
set_option maxHeartbeats 2000000 in
theorem c_grb (l : Launch) : ∀ (g : Nat) (rt tk d c sh : Nat) (X : GX) (G : Gr) (W : Nat → Nat), Ct l yX5_rebuildShown cX5_rebuildShown 4 none 3 64 (sp_grb g rt tk d c sh X G W) := by
  intro g rt tk d c sh X G W
  refine Ct.of (fX5, nX5, aX5, iX5, lX5, [(68, 0, 1, 1, T_alsz), (76, 0, 2, 3, T_alget), (135, 0, 1, 1, T_ins)], qX5, gX5, []) false tX5_rebuildShown (fun _ S => look [(20, ([1,0], I_rb g rt X G W S))]) (by decide) (by decide) kX5_rebuildShown ⟨_, _, rfl⟩ fX5_ok nX5_ok aX5_ok iX5_ok lX5_ok (fun p e R s m args below meth c Q D cy z r A C hR1 hR2 => List.forall_mem_cons.mpr ⟨cOK_use (fun _ _ _ _ _ _ _ _ h => let ⟨sp, h1, h2, h3⟩ := u_alsz l _ _ _ _ _ _ _ _ h; ⟨sp, cOK_V C h1 vX5_rebuildShown_68 ⟨by decide, by decide, by decide +kernel⟩ ⟨by rw [hR1]; decide, by rw [hR2]; decide⟩ (k := 0) (T := TJx4a65c) (N := 3) rfl (by decide) h2, h3⟩), List.forall_mem_cons.mpr ⟨cOK_use (fun _ _ _ _ _ _ _ _ h => let ⟨sp, h1, h2, h3⟩ := u_alget l _ _ _ _ _ _ _ _ h; ⟨sp, cOK_V C h1 vX5_rebuildShown_76 ⟨by decide, by decide, by decide +kernel⟩ ⟨by rw [hR1]; decide, by rw [hR2]; decide⟩ (k := 0) (T := TJx4a65c) (N := 3) rfl (by decide) h2, h3⟩), List.forall_mem_cons.mpr ⟨cOK_use (fun _ _ _ _ _ _ _ _ h => let ⟨sp, h1, h2, h3⟩ := u_ins l _ _ _ _ _ _ _ _ h; ⟨sp, cOK_V C h1 vX5_rebuildShown_135 ⟨by decide, by decide, by decide +kernel⟩ ⟨by rw [hR1]; decide, by rw [hR2]; decide⟩ (k := 5) (T := TX4) (N := 16) rfl (by decide) h2, h3⟩), fun _ h => absurd h List.not_mem_nil⟩⟩⟩) qX5_ok gX5_ok rfl ?_ ?_
  · rintro _ S ⟨rfl, hp⟩
    refine ⟨Nat.le_of_ble_eq_true rfl, 300, ?_⟩
    show (True ∧ (isO S 6 g ∧ (isO (sI S 609 g (0 : Int32)) 6 g ∧ (True ∧ (isO (sI S 609 g (0 : Int32)) 6 g ∧ (True ∧ (isO (sR (sI S 609 g (0 : Int32)) 610 g (mR (sI S 609 g (0 : Int32)) 600 g)) 6 g ∧ (∃ k1, I_rb g rt X G W S k1 [(1, .inl (0 : Int32)), (0, .inr (.inr (some g)))] [] (sI (sR (sI S 609 g (0 : Int32)) 610 g (mR (sI S 609 g (0 : Int32)) 600 g)) 611 g (0 : Int32)) 0 0))))))))
    obtain ⟨h1, h2, h3, h4, h5, h6, h7, h8⟩ := hp
    have e1 : mR (sI S 609 g (0 : Int32)) 600 g = some rt := h2
    rw [e1]
    refine ⟨trivial, h1, h1, trivial, h1, trivial, h1, G.n, 0, up2 (up2 (mI S) 609 g 0) 611 g 0, by omega, rfl, rfl, rfl, fun i b q1 q2 => ?_, ?_, ?_, fun j hj => absurd hj (Nat.not_lt_zero _), fun j _ _ => ?_, rfl, rfl⟩
    · show (if i = 611 ∧ b = g then _ else if i = 609 ∧ b = g then _ else mI S i b) = _
      rw [if_neg (fun z => q2 ⟨z.2, Or.inr z.1⟩), if_neg (fun z => q2 ⟨z.2, Or.inl z.1⟩)]
    · show (if 609 = 611 ∧ g = g then (0 : Int32) else if 609 = 609 ∧ g = g then 0 else mI S 609 g) = _
      rw [if_neg (fun z => absurd z.1 (by decide)), if_pos ⟨rfl, rfl⟩]; rfl
    · show (if 611 = 611 ∧ g = g then (0 : Int32) else _) = _
      rw [if_pos ⟨rfl, rfl⟩]
    · show (if 513 = 611 ∧ _ then _ else if 513 = 609 ∧ _ then _ else mI S 513 _) = _
      rw [if_neg (fun z => absurd z.1 (by decide)), if_neg (fun z => absurd z.1 (by decide))]
  · intro av S hpre pc I hI k lo st S1 cs sl h
    obtain ⟨rfl, hp⟩ := hpre
    have hm := look_in hI
    rw [List.mem_singleton] at hm
    cases hm
    obtain ⟨N, μ, hN, rfl, rfl, rfl, hF, hs, ht, hst, hdl, rfl, rfl⟩ := h
    refine ⟨300, ?_⟩
    show (isO (wI (sR S 610 g (some rt)) μ) 6 g ∧ (0 = 0 ∧ ((pa (mR (wI (sR S 610 g (some rt)) μ) 601 g) fun a_1 => (∃ (d_2 c_3 kk_4 : Nat) (L_5 : List Nat), (AL (wI (sR S 610 g (some rt)) μ) a_1 d_2 c_3 kk_4 L_5) ∧ 0 ≤ 0 ∧ 0 ≤ 0 ∧ ((((nI L_5.length) ≤ (nI N) → (([] : List MV) = [] ∧ mret none (sp_grb g rt tk d c sh X G W) [.inr (.inr (some g))] S none (wI (sR S 610 g (some rt)) μ) 0 0)) ∧ (¬ (nI L_5.length) ≤ (nI N) → (isO (wI (sR S 610 g (some rt)) μ) 6 g ∧ (0 = 0 ∧ ((pa (mR (wI (sR S 610 g (some rt)) μ) 601 g) fun a_7 => (∃ (i_8 : Nat), nI N = nI i_8 ∧ (∃ (d_9 c_10 kk_11 : Nat) (L_12 : List Nat), (AL (wI (sR S 610 g (some rt)) μ) a_7 d_9 c_10 kk_11 L_12 ∧ i_8 < L_12.length) ∧ 0 ≤ 0 ∧ 0 ≤ 0 ∧ (((∀ w_14, (L_12[i_8]?) = some w_14 → isO (wI (sR S 610 g (some rt)) μ) 5 w_14) ∧ (pa (L_12[i_8]?) fun a_15 => isO (wI (sR S 610 g (some rt)) μ) 5 a_15 ∧ (isO (wI (sR S 610 g (some rt)) μ) 6 g ∧ (pa (L_12[i_8]?) fun a_16 => isO (wI (sR S 610 g (some rt)) μ) 5 a_16 ∧ (pa (mR (wI (sR S 610 g (some rt)) μ) 500 a_16) fun a_17 => isO (wI (sR S 610 g (some rt)) μ) 1 a_17 ∧ (pa (mR (wI (sR S 610 g (some rt)) μ) 606 g) fun a_18 => ∃ v_19 : Int32, (isO (wI (sR S 610 g (some rt)) μ) 17 a_18 ∧ inR (wI (sR S 610 g (some rt)) μ) a_18 (mI (wI (sR S 610 g (some rt)) μ) 101 a_17) ∧ v_19 = eI (wI (sR S 610 g (some rt)) μ) a_18 (mI (wI (sR S 610 g (some rt)) μ) 101 a_17).toNatClampNeg ∨ a_18 = (mQ (wI (sR S 610 g (some rt)) μ)).1 ∧ vp_in (mI (wI (sR S 610 g (some rt)) μ) 101 a_17) 16 ∧ v_19 = mRem (mI (wI (sR S 610 g (some rt)) μ) 101 a_17).toNatClampNeg) ∧ ((v_19 ≤ (mI (wI (sR S 610 g (some rt)) μ) 501 a_15) → (0 = 0 ∧ ((pa (L_12[i_8]?) fun a_20 => ((isO (wI (sR S 610 g (some rt)) μ) 5 a_20) ∧ 0 ≤ 0 ∧ 0 ≤ 0 ∧ ((((if mI (wI (sR S 610 g (some rt)) μ) 505 a_20 = -1 then 0 else 1) = 0 → (((0 : Int32) = 0 → (∃ k1, k1 < k ∧ I_rb g rt X G W S k1 [(1, .inl ((nI N) + (1 : Int32))), (0, .inr (.inr (some g)))] [] (wI (sR S 610 g (some rt)) μ) 0 0)) ∧ (¬ (0 : Int32) = 0 → (pa (L_12[i_8]?) fun a_22 => isO (wI (sR S 610 g (some rt)) μ) 5 a_22 ∧ (pa (mR (wI (sR S 610 g (some rt)) μ) 507 a_22) fun a_23 => isO (wI (sR S 610 g (some rt)) μ) 5 a_23 ∧ ((¬ (mI (wI (sR S 610 g (some rt)) μ) 513 a_23) = (1 : Int32) → (∃ k1, k1 < k ∧ I_rb g rt X G W S k1 [(1, .inl ((nI N) + (1 : Int32))), (0, .inr (.inr (some g)))] [] (wI (sR S 610 g (some rt)) μ) 0 0)) ∧ ((mI (wI (sR S 610 g (some rt)) μ) 513 a_23) = (1 : Int32) → (pa (L_12[i_8]?) fun a_24 => isO (wI (sR S 610 g (some rt)) μ) 5 a_24 ∧ (True ∧ (pa (mR (wI (sR S 610 g (some rt)) μ) 507 a_24) fun a_25 => isO (wI (sR S 610 g (some rt)) μ) 5 a_25 ∧ (isO (sI (wI (sR S 610 g (some rt)) μ) 513 a_25 (2 : Int32)) 6 g ∧ (True ∧ (isO (sI (wI (sR S 610 g (some rt)) μ) 513 a_25 (2 : Int32)) 6 g ∧ (∃ k1, k1 < k ∧ I_rb g rt X G W S k1 [(1, .inl ((nI N) + (1 : Int32))), (0, .inr (.inr (some g)))] [] (sI (sI (wI (sR S 610 g (some rt)) μ) 513 a_25 (2 : Int32)) 609 g ((mI (sI (wI (sR S 610 g (some rt)) μ) 513 a_25 (2 : Int32)) 609 g) - (1 : Int32))) 0 0)))))))))))))) ∧ (¬ (if mI (wI (sR S 610 g (some rt)) μ) 505 a_20 = -1 then 0 else 1) = 0 → (((0 : Int32) = 0 → (True ∧ (pa (L_12[i_8]?) fun a_26 => isO (wI (sR S 610 g (some rt)) μ) 5 a_26 ∧ (isO (sI (wI (sR S 610 g (some rt)) μ) 513 a_26 (0 : Int32)) 6 g ∧ (((0 : Int32) = 0 → (True ∧ (isO (sI (wI (sR S 610 g (some rt)) μ) 513 a_26 (0 : Int32)) 6 g ∧ (∃ k1, k1 < k ∧ I_rb g rt X G W S k1 [(1, .inl ((nI N) + (1 : Int32))), (0, .inr (.inr (some g)))] [] (sI (sI (wI (sR S 610 g (some rt)) μ) 513 a_26 (0 : Int32)) 609 g ((mI (sI (wI (sR S 610 g (some rt)) μ) 513 a_26 (0 : Int32)) 609 g) + (0 : Int32))) 0 0)))) ∧ (¬ (0 : Int32) = 0 → (True ∧ (isO (sI (wI (sR S 610 g (some rt)) μ) 513 a_26 (0 : Int32)) 6 g ∧ (∃ k1, k1 < k ∧ I_rb g rt X G W S k1 [(1, .inl ((nI N) + (1 : Int32))), (0, .inr (.inr (some g)))] [] (sI (sI (wI (sR S 610 g (some rt)) μ) 513 a_26 (0 : Int32)) 609 g ((mI (sI (wI (sR S 610 g (some rt)) μ) 513 a_26 (0 : Int32)) 609 g) + (1 : Int32))) 0 0))))))))) ∧ (¬ (0 : Int32) = 0 → (True ∧ (pa (L_12[i_8]?) fun a_27 => isO (wI (sR S 610 g (some rt)) μ) 5 a_27 ∧ (isO (sI (wI (sR S 610 g (some rt)) μ) 513 a_27 (1 : Int32)) 6 g ∧ (((0 : Int32) = 0 → (True ∧ (isO (sI (wI (sR S 610 g (some rt)) μ) 513 a_27 (1 : Int32)) 6 g ∧ (∃ k1, k1 < k ∧ I_rb g rt X G W S k1 [(1, .inl ((nI N) + (1 : Int32))), (0, .inr (.inr (some g)))] [] (sI (sI (wI (sR S 610 g (some rt)) μ) 513 a_27 (1 : Int32)) 609 g ((mI (sI (wI (sR S 610 g (some rt)) μ) 513 a_27 (1 : Int32)) 609 g) + (0 : Int32))) 0 0)))) ∧ (¬ (0 : Int32) = 0 → (True ∧ (isO (sI (wI (sR S 610 g (some rt)) μ) 513 a_27 (1 : Int32)) 6 g ∧ (∃ k1, k1 < k ∧ I_rb g rt X G W S k1 [(1, .inl ((nI N) + (1 : Int32))), (0, .inr (.inr (some g)))] [] (sI (sI (wI (sR S 610 g (some rt)) μ) 513 a_27 (1 : Int32)) 609 g ((mI (sI (wI (sR S 610 g (some rt)) μ) 513 a_27 (1 : Int32)) 609 g) + (1 : Int32))) 0 0)))))))))))))))))) ∧ (¬ v_19 ≤ (mI (wI (sR S 610 g (some rt)) μ) 501 a_15) → (0 = 0 ∧ ((pa (L_12[i_8]?) fun a_28 => ((isO (wI (sR S 610 g (some rt)) μ) 5 a_28) ∧ 0 ≤ 0 ∧ 0 ≤ 0 ∧ ((((if mI (wI (sR S 610 g (some rt)) μ) 505 a_28 = -1 then 0 else 1) = 0 → (((1 : Int32) = 0 → (∃ k1, k1 < k ∧ I_rb g rt X G W S k1 [(1, .inl ((nI N) + (1 : Int32))), (0, .inr (.inr (some g)))] [] (wI (sR S 610 g (some rt)) μ) 0 0)) ∧ (¬ (1 : Int32) = 0 → (pa (L_12[i_8]?) fun a_30 => isO (wI (sR S 610 g (some rt)) μ) 5 a_30 ∧ (pa (mR (wI (sR S 610 g (some rt)) μ) 507 a_30) fun a_31 => isO (wI (sR S 610 g (some rt)) μ) 5 a_31 ∧ ((¬ (mI (wI (sR S 610 g (some rt)) μ) 513 a_31) = (1 : Int32) → (∃ k1, k1 < k ∧ I_rb g rt X G W S k1 [(1, .inl ((nI N) + (1 : Int32))), (0, .inr (.inr (some g)))] [] (wI (sR S 610 g (some rt)) μ) 0 0)) ∧ ((mI (wI (sR S 610 g (some rt)) μ) 513 a_31) = (1 : Int32) → (pa (L_12[i_8]?) fun a_32 => isO (wI (sR S 610 g (some rt)) μ) 5 a_32 ∧ (True ∧ (pa (mR (wI (sR S 610 g (some rt)) μ) 507 a_32) fun a_33 => isO (wI (sR S 610 g (some rt)) μ) 5 a_33 ∧ (isO (sI (wI (sR S 610 g (some rt)) μ) 513 a_33 (2 : Int32)) 6 g ∧ (True ∧ (isO (sI (wI (sR S 610 g (some rt)) μ) 513 a_33 (2 : Int32)) 6 g ∧ (∃ k1, k1 < k ∧ I_rb g rt X G W S k1 [(1, .inl ((nI N) + (1 : Int32))), (0, .inr (.inr (some g)))] [] (sI (sI (wI (sR S 610 g (some rt)) μ) 513 a_33 (2 : Int32)) 609 g ((mI (sI (wI (sR S 610 g (some rt)) μ) 513 a_33 (2 : Int32)) 609 g) - (1 : Int32))) 0 0)))))))))))))) ∧ (¬ (if mI (wI (sR S 610 g (some rt)) μ) 505 a_28 = -1 then 0 else 1) = 0 → (((1 : Int32) = 0 → (True ∧ (pa (L_12[i_8]?) fun a_34 => isO (wI (sR S 610 g (some rt)) μ) 5 a_34 ∧ (isO (sI (wI (sR S 610 g (some rt)) μ) 513 a_34 (0 : Int32)) 6 g ∧ (((1 : Int32) = 0 → (True ∧ (isO (sI (wI (sR S 610 g (some rt)) μ) 513 a_34 (0 : Int32)) 6 g ∧ (∃ k1, k1 < k ∧ I_rb g rt X G W S k1 [(1, .inl ((nI N) + (1 : Int32))), (0, .inr (.inr (some g)))] [] (sI (sI (wI (sR S 610 g (some rt)) μ) 513 a_34 (0 : Int32)) 609 g ((mI (sI (wI (sR S 610 g (some rt)) μ) 513 a_34 (0 : Int32)) 609 g) + (0 : Int32))) 0 0)))) ∧ (¬ (1 : Int32) = 0 → (True ∧ (isO (sI (wI (sR S 610 g (some rt)) μ) 513 a_34 (0 : Int32)) 6 g ∧ (∃ k1, k1 < k ∧ I_rb g rt X G W S k1 [(1, .inl ((nI N) + (1 : Int32))), (0, .inr (.inr (some g)))] [] (sI (sI (wI (sR S 610 g (some rt)) μ) 513 a_34 (0 : Int32)) 609 g ((mI (sI (wI (sR S 610 g (some rt)) μ) 513 a_34 (0 : Int32)) 609 g) + (1 : Int32))) 0 0))))))))) ∧ (¬ (1 : Int32) = 0 → (True ∧ (pa (L_12[i_8]?) fun a_35 => isO (wI (sR S 610 g (some rt)) μ) 5 a_35 ∧ (isO (sI (wI (sR S 610 g (some rt)) μ) 513 a_35 (1 : Int32)) 6 g ∧ (((1 : Int32) = 0 → (True ∧ (isO (sI (wI (sR S 610 g (some rt)) μ) 513 a_35 (1 : Int32)) 6 g ∧ (∃ k1, k1 < k ∧ I_rb g rt X G W S k1 [(1, .inl ((nI N) + (1 : Int32))), (0, .inr (.inr (some g)))] [] (sI (sI (wI (sR S 610 g (some rt)) μ) 513 a_35 (1 : Int32)) 609 g ((mI (sI (wI (sR S 610 g (some rt)) μ) 513 a_35 (1 : Int32)) 609 g) + (0 : Int32))) 0 0)))) ∧ (¬ (1 : Int32) = 0 → (True ∧ (isO (sI (wI (sR S 610 g (some rt)) μ) 513 a_35 (1 : Int32)) 6 g ∧ (∃ k1, k1 < k ∧ I_rb g rt X G W S k1 [(1, .inl ((nI N) + (1 : Int32))), (0, .inr (.inr (some g)))] [] (sI (sI (wI (sR S 610 g (some rt)) μ) 513 a_35 (1 : Int32)) 609 g ((mI (sI (wI (sR S 610 g (some rt)) μ) 513 a_35 (1 : Int32)) 609 g) + (1 : Int32))) 0 0))))))))))))))))))))))))))))))))))))))))
    obtain ⟨h1, h2, h3, h4, h5, ⟨w1, w2, w3⟩, h7, h8⟩ := hp
    have kM := hF.keep (o := some rt)
    have hE := h7.keepM h1 kM
    have hA := h4.keepM h1 kM
    have hn := h7.1.hn
    have g1 : isO (wI (sR S 610 g (some rt)) μ) 6 g := h1
    have r601 : mR (wI (sR S 610 g (some rt)) μ) 601 g = some tk := by
      show mR (sR S 610 g (some rt)) 601 g = _
      rw [mR_sR, if_neg (fun z => absurd z.1 (by decide))]; exact h3
    have r606 : mR (wI (sR S 610 g (some rt)) μ) 606 g = some sh := by
      show mR (sR S 610 g (some rt)) 606 g = _
      rw [mR_sR, if_neg (fun z => absurd z.1 (by decide))]; exact h5
    have hll : ((List.range G.n).map X.ad).length = G.n := by rw [List.length_map, List.length_range]
    rw [r601]
    refine ⟨g1, rfl, d, c, 5, _, hA, Nat.le_refl _, Nat.le_refl _, ?_⟩
    rw [hll]
    refine if_le (by omega) (by omega) (fun z => ⟨rfl, trivial, ⟨rfl, μ, rfl, hF, ?_, ht, ?_, hdl⟩, Nat.le_refl _, Nat.le_refl _⟩) (fun z => ?_)
    · rw [hs, show N = G.n by omega]
    · rw [show N = G.n by omega] at hst; exact hst
    have el : ((List.range G.n).map X.ad)[N]? = some (X.ad N) := by
      rw [List.getElem?_map, List.getElem?_range z]; rfl
    obtain ⟨a1, a2, a3, a4, a5, a6, a7, a8, a9, a10, a11, a12, a13, a14, a15⟩ := hE.2.1 N z
    obtain ⟨b1, b2, b3⟩ := hE.agk z
    have hsl := hE.sl z
    have hnu := hE.nu z
    obtain ⟨w4, w5⟩ := w3 _ hsl
    have i513 : ∀ (a : Nat) (v : Int32), mI (sI (wI (sR S 610 g (some rt)) μ) 513 a v) 609 g = nI (c1 G W N) := fun a v => by rw [mI_sI, if_neg (fun q => absurd q.1 (by decide))]; exact hs
    have nx : ∀ (q : Nat) (v s : Int32), q < N + 1 → (G.ev q).ch ≠ none → s = nI (c1 G W (N + 1)) → v = nI (stV G W (N + 1) q) → (∀ j, j < N + 1 → j ≠ q → (G.ev j).ch ≠ none → j < N ∧ stV G W (N + 1) j = stV G W N j) → ∃ k1, k1 < k ∧ I_rb g rt X G W S k1 [(1, .inl (nI N + 1)), (0, .inr (.inr (some g)))] [] (sI (sI (wI (sR S 610 g (some rt)) μ) 513 (X.ad q) v) 609 g s) 0 0 := by
      intro q v s q1 q2 q3 q4 q5
      rw [sI_wI, sI_wI]
      refine ⟨k - 1, by omega, N + 1, _, by omega, by rw [nI_1], rfl, rfl, fun i b p1 p2 => ?_, ?_, ?_, fun j j1 j2 => ?_, fun j j1 j2 => ?_, rfl, rfl⟩
      · show (if i = 609 ∧ b = g then _ else if i = 513 ∧ b = X.ad q then _ else μ i b) = _
        rw [if_neg (fun u => p2 ⟨u.2, Or.inl u.1⟩), if_neg (fun u => p1 ⟨u.1, q, by omega, u.2⟩)]
        exact hF i b p1 p2
      · show (if 609 = 609 ∧ g = g then s else _) = _
        rw [if_pos ⟨rfl, rfl⟩, q3]
      · show (if 611 = 609 ∧ g = g then _ else if 611 = 513 ∧ g = X.ad q then _ else μ 611 g) = _
        rw [if_neg (fun u => absurd u.1 (by decide)), if_neg (fun u => absurd u.1 (by decide)), ht]
      · show (if 513 = 609 ∧ X.ad j = g then _ else if 513 = 513 ∧ X.ad j = X.ad q then v else μ 513 (X.ad j)) = _
        rw [if_neg (fun u => absurd u.1 (by decide))]
        by_cases y : j = q
        · rw [y, if_pos ⟨rfl, rfl⟩, q4]
        · obtain ⟨y1, y2⟩ := q5 j j1 y j2
          rw [if_neg (fun u => y (h7.2.2.2 j q (by omega) (by omega) u.2)), y2]
          exact hst j y1 j2
      · show (if 513 = 609 ∧ X.ad j = g then _ else if 513 = 513 ∧ X.ad j = X.ad q then v else μ 513 (X.ad j)) = _
        rw [if_neg (fun u => absurd u.1 (by decide)), if_neg (fun u => q2 (by rw [← h7.2.2.2 j q j1 (by omega) u.2]; exact j2))]
        exact hdl j j1 j2
    have stay : (G.ev N).ch = none → c1 G W (N + 1) = c1 G W N → (∀ j, j < N → (G.ev j).ch ≠ none → stV G W (N + 1) j = stV G W N j) → ∃ k1, k1 < k ∧ I_rb g rt X G W S k1 [(1, .inl (nI N + 1)), (0, .inr (.inr (some g)))] [] (wI (sR S 610 g (some rt)) μ) 0 0 := by
      intro q1 q2 q3
      refine ⟨k - 1, by omega, N + 1, μ, by omega, by rw [nI_1], rfl, rfl, hF, by rw [q2]; exact hs, ht, fun j j1 j2 => ?_, hdl, rfl, rfl⟩
      by_cases y : j = N
      · exact absurd (y ▸ q1) j2
      · rw [q3 j (by omega) j2]; exact hst j (by omega) j2
    have hchv : mI (wI (sR S 610 g (some rt)) μ) 505 (X.ad N) = -1 ↔ (G.ev N).ch = none := by rw [a13]; exact chI_m1 (h8 N z).1
    have hhas : ∀ P Q : Prop, (G.has W N = false → P) → (G.has W N = true → Q) → (nI (W (G.ev N).sl) ≤ mI (wI (sR S 610 g (some rt)) μ) 501 (X.ad N) → P) ∧ (¬ nI (W (G.ev N).sl) ≤ mI (wI (sR S 610 g (some rt)) μ) 501 (X.ad N) → Q) := by
      intro P Q p1 p2
      rw [a3]
      exact if_le (by omega) (by omega) (fun u => p1 (decide_eq_false (by omega))) (fun u => p2 (decide_eq_true u))
    refine ⟨g1, rfl, N, rfl, d, c, 5, _, ⟨hA, by rw [hll]; exact z⟩, Nat.le_refl _, Nat.le_refl _, fun w hw => hA.el (List.mem_of_getElem? hw), ?_⟩
    rw [el]
    refine ⟨a1, g1, a1, ?_⟩
    rw [a2]
    refine ⟨b1, ?_⟩
    rw [r606, b3, nI_clamp (by omega)]
    refine ⟨nI (W (G.ev N).sl), Or.inl ⟨w1, by rw [inR]; show vp_in _ (mN S sh); rw [w2]; exact vp_in_nI hsl (by decide), by rw [← w4]; rfl⟩, hhas _ _ (fun hh => ⟨rfl, a1, Nat.le_refl _, Nat.le_refl _, ?_⟩) (fun hh => ⟨rfl, a1, Nat.le_refl _, Nat.le_refl _, ?_⟩)⟩
    · by_cases hc : (G.ev N).ch = none
      · rw [if_pos (hchv.2 hc)]
        refine ⟨fun _ => ⟨fun _ => stay hc ?_ (fun j _ _ => by rw [stV, stV, del_out hh]), fun u => absurd rfl u⟩, fun u => absurd rfl u⟩
        have := c1_del (W := W) h8 z hc
        rw [hh] at this
        simpa using this
      · rw [if_neg (fun u => hc (hchv.1 u))]
        refine ⟨fun u => absurd u (by decide), fun _ => ⟨fun _ => ⟨trivial, a1, g1, fun _ => ⟨trivial, g1, ?_⟩, fun u => absurd rfl u⟩, fun u => absurd rfl u⟩⟩
        rw [i513, Int32.add_zero]
        refine nx N 0 _ (by omega) hc ?_ ?_ (fun j j1 j2 j3 => ⟨by omega, by rw [stV, stV, del_ins hc]⟩)
        · rw [c1_ins h8 z hc, hh]; rfl
        · rw [stV, hh]; rfl
    · by_cases hc : (G.ev N).ch = none
      · obtain ⟨t1, t2⟩ := (h8 N z).2 hc
        rw [if_pos (hchv.2 hc)]
        refine ⟨fun _ => ⟨fun u => absurd u (by decide), fun _ => ⟨a1, ?_⟩⟩, fun u => absurd rfl u⟩
        rw [a15 hc]
        have tO := (hE.2.1 (G.ev N).tg (by omega)).1
        have tS : mI (wI (sR S 610 g (some rt)) μ) 513 (X.ad (G.ev N).tg) = nI (stV G W N (G.ev N).tg) := hst _ t1 t2
        have sv : stV G W N (G.ev N).tg < 3 := by unfold stV; split <;> (try split) <;> omega
        refine ⟨tO, ?_⟩
        rw [tS]
        have cd := c1_del (W := W) h8 z hc
        refine ⟨fun u => stay hc ?_ (fun j j1 j2 => ?_), fun u => ⟨a1, trivial, pa_i (a15 hc) ⟨tO, g1, trivial, g1, ?_⟩⟩⟩
        · rw [if_neg (fun v => u (by rw [v.2]; rfl))] at cd; exact cd
        · by_cases y : (G.ev N).tg = j
          · subst y
            have ns : stV G W N (G.ev N).tg ≠ 1 := fun v => u (by rw [v]; rfl)
            unfold stV at ns ⊢
            by_cases v : G.has W (G.ev N).tg = true
            · rw [if_pos v, if_pos v]
              rw [if_pos v] at ns
              by_cases x : del G W N (G.ev N).tg = true
              · rw [del_hit hc hh, x]
              · rw [if_neg x] at ns; exact absurd rfl ns
            · rw [if_neg v, if_neg v]
          · rw [stV, stV, del_oth y]
        · have hs1 : stV G W N (G.ev N).tg = 1 := (nI_eq (a := stV G W N (G.ev N).tg) (b := 1) (by omega) (by decide)).1 u
          rw [if_pos ⟨hh, hs1⟩] at cd
          have hht : G.has W (G.ev N).tg = true := by
            refine Decidable.byContradiction (fun q => ?_)
            rw [stV, if_neg q] at hs1
            omega
          rw [i513, show nI (c1 G W N) - (1 : Int32) = nI (c1 G W (N + 1)) by rw [← cd]; exact pk_sub (a := c1 G W (N + 1) + 1) (b := 1) (by omega)]
          refine nx (G.ev N).tg 2 _ (by omega) t2 rfl ?_ (fun j j1 j2 j3 => ⟨?_, by rw [stV, stV, del_oth (fun e => j2 e.symm)]⟩)
          · rw [stV, if_pos hht, del_hit hc hh]; rfl
          · have : j ≠ N := fun e => j3 (e ▸ hc)
            omega
      · rw [if_neg (fun u => hc (hchv.1 u))]
        refine ⟨fun u => absurd u (by decide), fun _ => ⟨fun u => absurd u (by decide), fun _ => ⟨trivial, a1, g1, fun u => absurd u (by decide), fun _ => ⟨trivial, g1, ?_⟩⟩⟩⟩
        rw [i513, nI_1 (c1 G W N)]
        refine nx N 1 _ (by omega) hc ?_ ?_ (fun j j1 j2 j3 => ⟨by omega, by rw [stV, stV, del_ins hc]⟩)
        · rw [c1_ins h8 z hc, hh]; rfl
        · rw [stV, hh, del_lt h8 (by omega) (by omega)]; rfl
theorem u_grb (l : Launch) : Us l yX5_rebuildShown cX5_rebuildShown 4 none 3 64 6 T_grb := by
  intro Rc Rs av S cs sl K Kx h
  unfold T_grb at h
  split at h
  · rename_i g_o
    obtain ⟨g, rfl, h_1⟩ := pa_of h
    obtain ⟨rt, tk, d, c, sh, X, G, W, hp, hc, hs, hk⟩ := h_1
    refine ⟨(sp_grb g rt tk d c sh X G W), c_grb l g rt tk d c sh X G W, fun _ _ h9 => ⟨_, _, h9.1, h9.2.1⟩, ⟨rfl, hp⟩, hc, hs, fun S' h8 => by
      obtain ⟨-, h8⟩ := h8
      exact hk _ h8, fun _ _ q => q.elim⟩
  · exact h.elim
