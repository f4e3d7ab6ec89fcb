/-! ===== Graph.hang ===== -/
/-- the same for events -/
def AgE (S S1 : MM) : Prop := (∀ k b, isO S1 k b ↔ isO S k b) ∧ (∀ i b, i ≠ 610 → mR S1 i b = mR S i b) ∧ ∀ i b, i ≠ 611 → mI S1 i b = mI S i b
theorem AgE.rf {S : MM} : AgE S S := ⟨fun _ _ => Iff.rfl, fun _ _ _ => rfl, fun _ _ _ => rfl⟩
theorem AgE.fg {S : MM} {g f t : Nat} : AgE S (fgS S g f t) := ⟨fun _ _ => Iff.rfl, fun _ _ h => fgS_R h, fun _ _ h => fgS_I h⟩
theorem AgE.fL {S S1 : MM} (h : AgE S S1) : fL S1 = fL S := funext (fun a => h.2.1 508 a (by decide))
theorem AgE.fR {S S1 : MM} (h : AgE S S1) : fR S1 = fR S := funext (fun a => h.2.1 509 a (by decide))
theorem AgE.sB {S S1 : MM} (h : AgE S S1) : sB S1 = sB S := funext (fun a => h.2.1 510 a (by decide))
theorem AgE.rp {S S1 : MM} (h : AgE S S1) {n : Nat} {p : Option Nat} {A : List Nat} (hr : RpS S n p A) : RpS S1 n p A := by
  unfold RpS
  rw [h.fL, h.fR, h.sB]
  exact ⟨hr.1, fun y hy => (h.1 5 y).2 (hr.2 y hy)⟩
theorem AgE.hg {S S1 : MM} (h : AgE S S1) {y : Nat} (hy : hasG S y) : hasG S1 y := by
  obtain ⟨a, g, b, c⟩ := hy
  exact ⟨(h.1 5 y).2 a, g, by rw [h.2.1 500 y (by decide)]; exact b, (h.1 1 g).2 c⟩
theorem AgE.lt {S S1 : MM} (h : AgE S S1) (e : Nat) : ltA S1 e = ltA S e := by
  funext y
  have hi : ∀ z, idA S1 z = idA S z := fun z => by
    unfold idA evId
    rw [h.2.1 500 z (by decide), h.2.2 100 _ (by decide), h.2.2 501 _ (by decide)]
  unfold ltA
  rw [hi, hi]
theorem AgE.ch {S S1 : MM} (h : AgE S S1) : ∀ {R : List Nat} {p : Option Nat}, chn S p R → chn S1 p R
  | [], _, q => q
  | v :: R, p, ⟨q1, q2, q3⟩ => ⟨q1, (h.1 5 v).2 q2, by rw [h.2.1 512 v (by decide)]; exact AgE.ch h q3⟩
theorem ChP.chn {S : MM} {rt : Nat} {O : List Nat} (h : ChP S rt O) : ∀ {B A : List Nat}, O = A ++ B → chn S (mR S 512 (A.getLastD rt)) B
  | [], A, e => by
    show mR S 512 (A.getLastD rt) = none
    rw [h.2.2.1 A [] e]; rfl
  | v :: B, A, e => by
    have e2 : O = (A ++ [v]) ++ B := by rw [e]; simp
    have := ChP.chn h e2
    rw [List.getLastD_concat] at this
    exact ⟨by rw [h.2.2.1 A (v :: B) e]; rfl, h.2.1 v (by rw [e]; simp), this⟩
theorem lstW_mem {lt : Nat → Bool} {fl fr sb : Nat → Option Nat} {n x : Nat} {p : Option Nat} {O : List Nat} (h : Rp fl fr sb n p O) (hx : lstW lt sb n none p = some x) : x ∈ O := by
  induction n generalizing p O with
  | zero => cases p <;> simp [lstW] at hx
  | succ n ih =>
    cases p with
    | none => simp [lstW] at hx
    | some y =>
      obtain ⟨A, B, C, a, b, c, rfl⟩ := h
      unfold lstW at hx
      by_cases q : lt y = true
      · rw [if_pos q, lstW_or] at hx
        cases h9 : lstW lt sb n none (sb y) with
        | none => rw [h9] at hx; simp at hx; rw [hx]; simp
        | some w => rw [h9] at hx; simp at hx; subst hx; have := ih c h9; simp [this]
      · rw [if_neg q] at hx; cases hx
/-- the node in front of which, or behind which, an event of index i goes -/
def lfP (S S1 : MM) (g rt i lf : Nat) (O : List Nat) : Prop := (i = 0 ∧ lf = rt ∧ S1 = S) ∨ ∃ A B, O = A ++ lf :: B ∧ 0 < i ∧ mI S 513 lf = 1 ∧ seenC S A = i - 1 ∧ S1 = fgS S g lf i
theorem lfP.ag {S S1 : MM} {g rt i lf : Nat} {O : List Nat} (h : lfP S S1 g rt i lf O) : AgE S S1 := by
  rcases h with ⟨-, -, rfl⟩ | ⟨A, B, -, -, -, -, rfl⟩
  · exact AgE.rf
  · exact AgE.fg
theorem lfP.sp {S S1 : MM} {g rt i lf : Nat} {O : List Nat} (h : lfP S S1 g rt i lf O) : ∃ A B, O = A ++ B ∧ A.getLastD rt = lf := by
  rcases h with ⟨-, rfl, -⟩ | ⟨A, B, h1, -⟩
  · exact ⟨[], O, rfl, rfl⟩
  · exact ⟨A ++ [lf], B, by rw [h1]; simp, List.getLastD_concat ..⟩
def shnB (S : MM) (y : Nat) : Bool := decide (mI S 513 y ≠ 0)
def rgP (S : MM) (rt n lf : Nat) (O : List Nat) (rg : Option Nat) : Prop := ∃ A B, O = A ++ B ∧ A.getLastD rt = lf ∧ (((∃ y ∈ sibW (sB S) n (fR S lf), mI S 513 y ≠ 0) ∧ rg = B.find? (shnB S)) ∨ (¬ (∃ y ∈ sibW (sB S) n (fR S lf), mI S 513 y ≠ 0) ∧ rg = none))
def fsO (S : MM) (lf : Nat) (rg : Option Nat) : Option Nat := match rg with
  | none => fR S lf
  | some r => fL S r
def bsP (S S1 : MM) (n e lf : Nat) (O : List Nat) (rg : Option Nat) (T : MM) : Prop :=
  (∃ x D, lstW (ltA S e) (sB S) n none (fsO S lf rg) = some x ∧ x ∈ O ∧ RpS S n (fR S x) D ∧ D.getLastD x ∈ O ∧ T = sR (sR (lkS S1 e (D.getLastD x)) 510 e (sB S x)) 510 x (some e)) ∨
  (lstW (ltA S e) (sB S) n none (fsO S lf rg) = none ∧ rg = none ∧ T = sR (sR (lkS S1 e lf) 510 e (fR S lf)) 509 lf (some e)) ∨
  ∃ r D p, lstW (ltA S e) (sB S) n none (fsO S lf rg) = none ∧ rg = some r ∧ r ∈ O ∧ RpS S n (fL S r) D ∧ D.headD r ∈ O ∧ mR S 511 (D.headD r) = some p ∧ T = sR (sR (lkS S1 e p) 510 e (fL S r)) 508 r (some e)
def hgF (S T : MM) (g e i : Nat) : MM := sI (sR (sI (sI (sI T 513 e 1) 609 g (mI S 609 g + 1)) 605 g (mI S 605 g + 1)) 610 g (some e)) 611 g (nI (i + 1))
def hgP (S S' : MM) (g rt e i n : Nat) (O : List Nat) : Prop := ∃ S1 lf rg T, lfP S S1 g rt i lf O ∧ rgP S rt n lf O rg ∧ bsP S S1 n e lf O rg T ∧ S' = hgF S T g e i
/-- what hanging an event asks -/
def HgQ (S : MM) (g e rt i n : Nat) (O A B : List Nat) : Prop := isO S 6 g ∧ hasG S e ∧ mI S 506 e = nI i ∧ mR S 600 g = some rt ∧ ChP S rt O ∧ O.length ≤ 100000 ∧ O = A ++ B ∧ mR S 610 g = some (A.getLastD rt) ∧ mI S 611 g = nI (seenC S A) ∧ i ≤ seenC S O ∧ RpS S n (fR S rt) O ∧ O.Nodup ∧ ∀ y, y ∈ O → hasG S y
theorem HgQ.nd {S : MM} {g e rt i n : Nat} {O A B : List Nat} (h : HgQ S g e rt i n O A B) {x : Nat} (hx : x ∈ O) : ∃ C D, RpS S n (fL S x) C ∧ RpS S n (fR S x) D ∧ (∀ y ∈ C, y ∈ O) ∧ ∀ y ∈ D, y ∈ O := by
  obtain ⟨h1, h2, h3, h4, hC, h6, h7, h8, h9, h10, hT, hn, hG⟩ := h
  obtain ⟨X, C, D, Y, r1, r2, r3, -⟩ := hT.1.at hn hx
  have s1 : ∀ y ∈ C, y ∈ O := fun y hy => by rw [r3]; simp [hy]
  have s2 : ∀ y ∈ D, y ∈ O := fun y hy => by rw [r3]; simp [hy]
  exact ⟨C, D, ⟨r1, fun y hy => hT.2 y (s1 y hy)⟩, ⟨r2, fun y hy => hT.2 y (s2 y hy)⟩, s1, s2⟩
/-- what hangs at the right of the left node -/
theorem HgQ.rt {S S1 : MM} {g e rt i n lf : Nat} {O A B : List Nat} (h : HgQ S g e rt i n O A B) (hl : lfP S S1 g rt i lf O) : ∃ D, RpS S n (fR S lf) D ∧ (∀ y ∈ D, y ∈ O) ∧ isO S 5 lf := by
  rcases hl with ⟨-, rfl, -⟩ | ⟨A1, B1, h1, -⟩
  · exact ⟨O, h.2.2.2.2.2.2.2.2.2.2.1, fun y hy => hy, h.2.2.2.2.1.1⟩
  · have hm : lf ∈ O := by rw [h1]; simp
    obtain ⟨C, D, r1, r2, s1, s2⟩ := h.nd hm
    exact ⟨D, r2, s2, (h.2.2.2.2.2.2.2.2.2.2.2.2 lf hm).1⟩
theorem rgP.mem {S : MM} {rt n lf : Nat} {O : List Nat} {r : Nat} (h : rgP S rt n lf O (some r)) : r ∈ O := by
  obtain ⟨A, B, e, -, ⟨-, h2⟩ | ⟨-, h2⟩⟩ := h
  · rw [e, List.mem_append]; exact Or.inr (List.mem_of_find?_eq_some h2.symm)
  · cases h2
theorem lkS_O {S : MM} {e x k b : Nat} : isO (lkS S e x) k b ↔ isO S k b := by
  unfold lkS
  split <;> exact Iff.rfl
theorem lkS_I (S : MM) (e x : Nat) : mI (lkS S e x) = mI S := by
  unfold lkS
  split <;> rfl
theorem lkS_R {S : MM} {e x i b : Nat} (h1 : i ≠ 511) (h2 : i ≠ 512) : mR (lkS S e x) i b = mR S i b := by
  unfold lkS
  split
  · rw [mR_sR, if_neg (fun z => h2 z.1), mR_sR, if_neg (fun z => h1 z.1), mR_sR, if_neg (fun z => h2 z.1), mR_sR, if_neg (fun z => h1 z.1)]
  · rw [mR_sR, if_neg (fun z => h2 z.1), mR_sR, if_neg (fun z => h2 z.1), mR_sR, if_neg (fun z => h1 z.1)]
theorem bsP.ag {S S1 T : MM} {n e lf : Nat} {O : List Nat} {rg : Option Nat} (h : bsP S S1 n e lf O rg T) : (∀ k b, isO T k b ↔ isO S1 k b) ∧ mI T = mI S1 := by
  rcases h with ⟨x, D, -, -, -, -, rfl⟩ | ⟨-, -, rfl⟩ | ⟨r, D, p, -, -, -, -, -, -, rfl⟩
  · exact ⟨fun k b => lkS_O (S := S1), by rw [mI_sR, mI_sR, lkS_I]⟩
  · exact ⟨fun k b => lkS_O (S := S1), by rw [mI_sR, mI_sR, lkS_I]⟩
  · exact ⟨fun k b => lkS_O (S := S1), by rw [mI_sR, mI_sR, lkS_I]⟩
theorem ChP.nx {S : MM} {rt : Nat} {O A B : List Nat} (h : ChP S rt O) (e : O = A ++ B) {y : Nat} (hy : mR S 512 (A.getLastD rt) = some y) : isO S 5 y := by
  rw [h.2.2.1 A B e] at hy
  exact h.2.1 y (by rw [e, List.mem_append]; exact Or.inr (List.mem_of_mem_head? hy))
def I_h1 (g e rt i n : Nat) (O : List Nat) (S : MM) (t : Nat) : KT := fun lo st S1 cs sl => ∃ lf, t = 4 ∧ lfP S S1 g rt i lf O ∧ lo = [(2, .inr (.inr (some lf))), (0, .inr (.inr (some g))), (1, .inr (.inr (some e)))] ∧ st = [] ∧ cs = 0 ∧ sl = 0
def I_h2 (g e rt i n : Nat) (O : List Nat) (S : MM) (t : Nat) : KT := fun lo st S1 cs sl => ∃ lf rg, t = 3 ∧ lfP S S1 g rt i lf O ∧ rgP S rt n lf O rg ∧ lo = [(3, .inr (.inr rg)), (2, .inr (.inr (some lf))), (0, .inr (.inr (some g))), (1, .inr (.inr (some e)))] ∧ st = [] ∧ cs = 0 ∧ sl = 0
def I_h3 (g e rt i n : Nat) (O : List Nat) (S : MM) (t : Nat) : KT := fun lo st S1 cs sl => ∃ lf rg, t = 2 ∧ lfP S S1 g rt i lf O ∧ rgP S rt n lf O rg ∧ lo = [(4, .inr (.inr (fsO S lf rg))), (3, .inr (.inr rg)), (2, .inr (.inr (some lf))), (0, .inr (.inr (some g))), (1, .inr (.inr (some e)))] ∧ st = [] ∧ cs = 0 ∧ sl = 0
def I_h4 (g e rt i n : Nat) (O : List Nat) (S : MM) (t : Nat) : KT := fun lo st T cs sl => ∃ S1 lf rg, t = 1 ∧ lfP S S1 g rt i lf O ∧ rgP S rt n lf O rg ∧ bsP S S1 n e lf O rg T ∧ lo = [(0, .inr (.inr (some g))), (1, .inr (.inr (some e)))] ∧ st = [] ∧ cs = 0 ∧ sl = 0
def T_ghg : TR := fun Rc Rs av S cs sl K _Kx => match av with
  | [.inr (.inr g_o), .inr (.inr e_o)] => pa g_o fun g => (pa e_o fun e => (∃ (rt i n : Nat) (O A B : List Nat), (HgQ S g e rt i n O A B) ∧ cs ≤ Rc ∧ sl ≤ Rs ∧ (∀ (S' : MM), (hgP S S' g rt e i n O) → K none S' cs sl)))
  | _ => False
def sp_ghg (g : Nat) (e : Nat) (rt i n : Nat) (O A B : List Nat) : Sp := (fun av S => av = [.inr (.inr (some g)), .inr (.inr (some e))] ∧ (HgQ S g e rt i n O A B), fun _ S => 0, fun _ S => 0, fun _ S rv S' => rv = none ∧ (hgP S S' g rt e i n O), fun _ _ _ _ => False)
def tX5_hang : CD := [(0, .aload_n 1), (1, .getfield 175), (4, .ifCond .ne 10), (7, .aload_n 0), (8, .getfield 19), (11, .goto 13), (14, .aload_n 0), (15, .aload_n 1), (16, .getfield 175), (19, .iconst 1), (20, .isub), (21, .invokevirtual 178), (24, .astore_n 2), (25, .aload_n 2), (26, .invokestatic 190), (29, .ifCond .eq 10), (32, .aload_n 2), (33, .invokestatic 193), (36, .goto 4), (39, .aconst_null), (40, .astore_n 3), (41, .aload_n 3), (42, .ifnonnull 10), (45, .aload_n 2), (46, .getfield 197), (49, .goto 7), (52, .aload_n 3), (53, .getfield 200), (56, .astore 4), (58, .aload_n 1), (59, .aload 4), (61, .invokestatic 203), (64, .astore 5), (66, .aload 5), (68, .ifnull 30), (71, .aload_n 1), (72, .aload 5), (74, .invokestatic 207), (77, .invokestatic 210), (80, .aload_n 1), (81, .aload 5), (83, .getfield 214), (86, .putfield 214), (89, .aload 5), (91, .aload_n 1), (92, .putfield 214), (95, .goto 48), (98, .aload_n 3), (99, .ifnonnull 22), (102, .aload_n 1), (103, .aload_n 2), (104, .invokestatic 210), (107, .aload_n 1), (108, .aload 4), (110, .putfield 214), (113, .aload_n 2), (114, .aload_n 1), (115, .putfield 197), (118, .goto 25), (121, .aload_n 1), (122, .aload_n 3), (123, .invokestatic 217), (126, .getfield 144), (129, .invokestatic 210), (132, .aload_n 1), (133, .aload 4), (135, .putfield 214), (138, .aload_n 3), (139, .aload_n 1), (140, .putfield 200), (143, .aload_n 1), (144, .iconst 1), (145, .putfield 138), (148, .aload_n 0), (149, .dup), (150, .getfield 56), (153, .iconst 1), (154, .iadd), (155, .putfield 56), (158, .aload_n 0), (159, .dup), (160, .getfield 43), (163, .iconst 1), (164, .iadd), (165, .putfield 43), (168, .aload_n 0), (169, .aload_n 1), (170, .putfield 59), (173, .aload_n 0), (174, .aload_n 1), (175, .getfield 175), (178, .iconst 1), (179, .iadd), (180, .putfield 62), (183, .return_)]
set_option maxRecDepth 100000 in
theorem kX5_hang : chk cX5_hang tX5_hang = true := by decide +kernel
theorem vX5_hang_178 : ∀ w ∈ ([.methodLink RX5 178 yX5_shownNode, .instanceMethod yX5_shownNode, .selects yX5_shownNode.cls yX5_shownNode yX5_shownNode, .initialized yX5_shownNode.cls, .code yX5_shownNode cX5_shownNode 3 (some (.object "WeaveText$Event"))] : List Cond), w ∈ lw_good := List.forall_mem_cons.mpr ⟨mgd 918 (by decide +kernel) (by decide +kernel), List.forall_mem_cons.mpr ⟨mgd 920 (by decide +kernel) (by decide +kernel), List.forall_mem_cons.mpr ⟨mgd 7 (by decide +kernel) (by decide +kernel), List.forall_mem_cons.mpr ⟨mgd 125 (by decide +kernel) (by decide +kernel), List.forall_mem_cons.mpr ⟨mgd 921 (by decide +kernel) (by decide +kernel), fun _ h => absurd h List.not_mem_nil⟩⟩⟩⟩⟩
theorem vX5_hang_190 : ∀ w ∈ ([.methodLink RX5 190 yX5_hasShownRight, .static yX5_hasShownRight, .initialized yX5_hasShownRight.cls, .code yX5_hasShownRight cX5_hasShownRight 2 (some .boolean)] : List Cond), w ∈ lw_good := List.forall_mem_cons.mpr ⟨mgd 922 (by decide +kernel) (by decide +kernel), List.forall_mem_cons.mpr ⟨mgd 923 (by decide +kernel) (by decide +kernel), List.forall_mem_cons.mpr ⟨mgd 125 (by decide +kernel) (by decide +kernel), List.forall_mem_cons.mpr ⟨mgd 924 (by decide +kernel) (by decide +kernel), fun _ h => absurd h List.not_mem_nil⟩⟩⟩⟩
theorem vX5_hang_193 : ∀ w ∈ ([.methodLink RX5 193 yX5_nextShown, .static yX5_nextShown, .initialized yX5_nextShown.cls, .code yX5_nextShown cX5_nextShown 2 (some (.object "WeaveText$Event"))] : List Cond), w ∈ lw_good := List.forall_mem_cons.mpr ⟨mgd 925 (by decide +kernel) (by decide +kernel), List.forall_mem_cons.mpr ⟨mgd 926 (by decide +kernel) (by decide +kernel), List.forall_mem_cons.mpr ⟨mgd 125 (by decide +kernel) (by decide +kernel), List.forall_mem_cons.mpr ⟨mgd 927 (by decide +kernel) (by decide +kernel), fun _ h => absurd h List.not_mem_nil⟩⟩⟩⟩
theorem vX5_hang_203 : ∀ w ∈ ([.methodLink RX5 203 yX5_lastBefore, .static yX5_lastBefore, .initialized yX5_lastBefore.cls, .code yX5_lastBefore cX5_lastBefore 4 (some (.object "WeaveText$Event"))] : List Cond), w ∈ lw_good := List.forall_mem_cons.mpr ⟨mgd 928 (by decide +kernel) (by decide +kernel), List.forall_mem_cons.mpr ⟨mgd 929 (by decide +kernel) (by decide +kernel), List.forall_mem_cons.mpr ⟨mgd 125 (by decide +kernel) (by decide +kernel), List.forall_mem_cons.mpr ⟨mgd 930 (by decide +kernel) (by decide +kernel), fun _ h => absurd h List.not_mem_nil⟩⟩⟩⟩
theorem vX5_hang_207 : ∀ w ∈ ([.methodLink RX5 207 yX5_lastBelow, .static yX5_lastBelow, .initialized yX5_lastBelow.cls, .code yX5_lastBelow cX5_lastBelow 3 (some (.object "WeaveText$Event"))] : List Cond), w ∈ lw_good := List.forall_mem_cons.mpr ⟨mgd 931 (by decide +kernel) (by decide +kernel), List.forall_mem_cons.mpr ⟨mgd 932 (by decide +kernel) (by decide +kernel), List.forall_mem_cons.mpr ⟨mgd 125 (by decide +kernel) (by decide +kernel), List.forall_mem_cons.mpr ⟨mgd 933 (by decide +kernel) (by decide +kernel), fun _ h => absurd h List.not_mem_nil⟩⟩⟩⟩
theorem vX5_hang_210 : ∀ w ∈ ([.methodLink RX5 210 yX5_linkBehind, .static yX5_linkBehind, .initialized yX5_linkBehind.cls, .code yX5_linkBehind cX5_linkBehind 2 none] : List Cond), w ∈ lw_good := List.forall_mem_cons.mpr ⟨mgd 934 (by decide +kernel) (by decide +kernel), List.forall_mem_cons.mpr ⟨mgd 935 (by decide +kernel) (by decide +kernel), List.forall_mem_cons.mpr ⟨mgd 125 (by decide +kernel) (by decide +kernel), List.forall_mem_cons.mpr ⟨mgd 936 (by decide +kernel) (by decide +kernel), fun _ h => absurd h List.not_mem_nil⟩⟩⟩⟩
theorem vX5_hang_217 : ∀ w ∈ ([.methodLink RX5 217 yX5_firstBelow, .static yX5_firstBelow, .initialized yX5_firstBelow.cls, .code yX5_firstBelow cX5_firstBelow 3 (some (.object "WeaveText$Event"))] : List Cond), w ∈ lw_good := List.forall_mem_cons.mpr ⟨mgd 937 (by decide +kernel) (by decide +kernel), List.forall_mem_cons.mpr ⟨mgd 938 (by decide +kernel) (by decide +kernel), List.forall_mem_cons.mpr ⟨mgd 125 (by decide +kernel) (by decide +kernel), List.forall_mem_cons.mpr ⟨mgd 939 (by decide +kernel) (by decide +kernel), fun _ h => absurd h List.not_mem_nil⟩⟩⟩⟩
set_option maxRecDepth 100000 in
set_option maxHeartbeats 2000000 in
theorem c_ghg (l : Launch) : ∀ (g : Nat) (e : Nat) (rt i n : Nat) (O A B : List Nat), Ct l yX5_hang cX5_hang 6 none 2 43 (sp_ghg g e rt i n O A B) := by
  intro g e rt i n O A B
  refine Ct.of (fX5, nX5, aX5, iX5, lX5, [(178, 0, 2, 3, T_gsn), (190, 2, 1, 1, T_ghsr), (193, 2, 1, 3, T_gnsh), (203, 2, 2, 3, T_glbf), (207, 2, 1, 3, T_glb), (210, 2, 2, 0, T_glk), (217, 2, 1, 3, T_gfb)], qX5, gX5, []) false tX5_hang (fun _ S => look [(25, ([2,0,1], I_h1 g e rt i n O S)), (41, ([3,2,0,1], I_h2 g e rt i n O S)), (58, ([4,3,2,0,1], I_h3 g e rt i n O S)), (143, ([0,1], I_h4 g e rt i n O S))]) (by decide) (by decide) kX5_hang ⟨_, _, rfl⟩ fX5_ok nX5_ok aX5_ok iX5_ok lX5_ok (fun p e R s m args below meth c Q D cy z r A C hR1 hR2 => List.forall_mem_cons.mpr ⟨cOK_use (fun _ _ _ _ _ _ _ _ h => let ⟨sp, h1, h2, h3⟩ := u_gsn l _ _ _ _ _ _ _ _ h; ⟨sp, cOK_V C h1 vX5_hang_178 ⟨by decide, by decide, by decide +kernel⟩ ⟨by rw [hR1]; decide, by rw [hR2]; decide⟩ (k := 6) (T := TX5) (N := 12) rfl (by decide) h2, h3⟩), List.forall_mem_cons.mpr ⟨cOK_use (fun _ _ _ _ _ _ _ _ h => let ⟨sp, h1, _, h3⟩ := u_ghsr l _ _ _ _ _ _ _ _ h; ⟨sp, cOK_S C h1 vX5_hang_190 ⟨by decide, by decide, by decide +kernel⟩ ⟨by rw [hR1]; decide, by rw [hR2]; decide⟩, h3⟩), List.forall_mem_cons.mpr ⟨cOK_use (fun _ _ _ _ _ _ _ _ h => let ⟨sp, h1, _, h3⟩ := u_gnsh l _ _ _ _ _ _ _ _ h; ⟨sp, cOK_S C h1 vX5_hang_193 ⟨by decide, by decide, by decide +kernel⟩ ⟨by rw [hR1]; decide, by rw [hR2]; decide⟩, h3⟩), List.forall_mem_cons.mpr ⟨cOK_use (fun _ _ _ _ _ _ _ _ h => let ⟨sp, h1, _, h3⟩ := u_glbf l _ _ _ _ _ _ _ _ h; ⟨sp, cOK_S C h1 vX5_hang_203 ⟨by decide, by decide, by decide +kernel⟩ ⟨by rw [hR1]; decide, by rw [hR2]; decide⟩, h3⟩), List.forall_mem_cons.mpr ⟨cOK_use (fun _ _ _ _ _ _ _ _ h => let ⟨sp, h1, _, h3⟩ := u_glb l _ _ _ _ _ _ _ _ h; ⟨sp, cOK_S C h1 vX5_hang_207 ⟨by decide, by decide, by decide +kernel⟩ ⟨by rw [hR1]; decide, by rw [hR2]; decide⟩, h3⟩), List.forall_mem_cons.mpr ⟨cOK_use (fun _ _ _ _ _ _ _ _ h => let ⟨sp, h1, _, h3⟩ := u_glk l _ _ _ _ _ _ _ _ h; ⟨sp, cOK_S C h1 vX5_hang_210 ⟨by decide, by decide, by decide +kernel⟩ ⟨by rw [hR1]; decide, by rw [hR2]; decide⟩, h3⟩), List.forall_mem_cons.mpr ⟨cOK_use (fun _ _ _ _ _ _ _ _ h => let ⟨sp, h1, _, h3⟩ := u_gfb l _ _ _ _ _ _ _ _ h; ⟨sp, cOK_S C h1 vX5_hang_217 ⟨by decide, by decide, by decide +kernel⟩ ⟨by rw [hR1]; decide, by rw [hR2]; decide⟩, h3⟩), fun _ h => absurd h List.not_mem_nil⟩⟩⟩⟩⟩⟩⟩) qX5_ok gX5_ok rfl ?_ ?_
  · rintro _ S ⟨rfl, hp⟩
    refine ⟨Nat.le_of_ble_eq_true rfl, 300, ?_⟩
    show (isO S 5 e ∧ ((¬ (mI S 506 e) = 0 → (isO S 5 e ∧ (0 = 0 ∧ (∃ (i_1 : Nat), (mI S 506 e) - (1 : Int32) = nI i_1 ∧ (∃ (rt_2 f_3 : Nat) (O_4 A_5 B_6 : List Nat), (isO S 6 g ∧ mR S 600 g = some rt_2 ∧ ChP S rt_2 O_4 ∧ O_4.length ≤ 100000 ∧ O_4 = A_5 ++ B_6 ∧ mR S 610 g = some (A_5.getLastD rt_2) ∧ mI S 611 g = nI (seenC S A_5) ∧ i_1 < seenC S O_4) ∧ 0 ≤ 0 ∧ 0 ≤ 0 ∧ (∀ (x_8 : Option Nat) (S_7 : MM), (ndP S S_7 g i_1 O_4 x_8) → (∃ k1, I_h1 g e rt i n O S k1 [(2, .inr (.inr x_8)), (0, .inr (.inr (some g))), (1, .inr (.inr (some e)))] [] S_7 0 0))))))) ∧ ((mI S 506 e) = 0 → (isO S 6 g ∧ (∃ k1, I_h1 g e rt i n O S k1 [(2, .inr (.inr (mR S 600 g))), (0, .inr (.inr (some g))), (1, .inr (.inr (some e)))] [] S 0 0)))))
    have hp0 := hp
    obtain ⟨h1, h2, h3, h4, hC, h6, h7, h8, h9, h10, hT, hn, hG⟩ := hp
    have hle := seenC_le S O
    rw [h3]
    refine ⟨h2.1, if_ne (b := 0) (by omega) (by decide) (fun z => ⟨h2.1, rfl, i - 1, pk_sub (b := 1) (by omega), rt, 0, O, A, B, ⟨h1, h4, hC, h6, h7, h8, h9, by omega⟩, Nat.le_refl _, Nat.le_refl _, fun x S7 hx => ?_⟩) (fun z => ⟨h1, 4, rt, rfl, Or.inl ⟨z, rfl, rfl⟩, by rw [h4], rfl, rfl, rfl⟩)⟩
    obtain ⟨A1, y, B1, rfl, hO, hy, hc, rfl⟩ := hx
    exact ⟨4, y, rfl, Or.inr ⟨A1, B1, hO, by omega, hy, hc, by rw [Nat.sub_add_cancel (by omega)]⟩, rfl, rfl, rfl, rfl⟩
  · intro av S hpre pc I hI k lo st S1 cs sl h
    obtain ⟨rfl, hp⟩ := hpre
    have hm := look_in hI
    simp only [List.mem_cons, List.not_mem_nil, or_false] at hm
    rcases hm with hm | hm | hm | hm
    · cases hm
      obtain ⟨lf, rfl, hl, rfl, rfl, rfl, rfl⟩ := h
      refine ⟨300, ?_⟩
      show (2 = 2 ∧ (∃ (n_1 : Nat) (A_2 : List Nat), (isO S1 5 lf ∧ RpS S1 n_1 (fR S1 lf) A_2) ∧ 0 ≤ 0 ∧ 0 ≤ 0 ∧ ((((tf (∃ y ∈ sibW (sB S1) n_1 (fR S1 lf), mI S1 513 y ≠ 0)) = 0 → (∃ k1, k1 < 4 ∧ I_h2 g e rt i n O S k1 [(3, .inr (.inr none)), (2, .inr (.inr (some lf))), (0, .inr (.inr (some g))), (1, .inr (.inr (some e)))] [] S1 0 0)) ∧ (¬ (tf (∃ y ∈ sibW (sB S1) n_1 (fR S1 lf), mI S1 513 y ≠ 0)) = 0 → (2 = 2 ∧ (∃ (R_4 : List Nat), (isO S1 5 lf ∧ chn S1 (mR S1 512 lf) R_4) ∧ 0 ≤ 0 ∧ 0 ≤ 0 ∧ ((∃ k1, k1 < 4 ∧ I_h2 g e rt i n O S k1 [(3, .inr (.inr (R_4.find? (fun y => decide (mI S1 513 y ≠ 0))))), (2, .inr (.inr (some lf))), (0, .inr (.inr (some g))), (1, .inr (.inr (some e)))] [] S1 0 0)))))))))
      have ag := hl.ag
      obtain ⟨D, d1, d2, d3⟩ := hp.rt hl
      obtain ⟨A1, B1, e1, e2⟩ := hl.sp
      have hC := hp.2.2.2.2.1
      have lf5 := (ag.1 5 lf).2 d3
      have hP : (∃ y ∈ sibW (sB S1) n (fR S1 lf), mI S1 513 y ≠ 0) ↔ (∃ y ∈ sibW (sB S) n (fR S lf), mI S 513 y ≠ 0) := by
        rw [ag.sB, ag.fR]
        exact ⟨fun ⟨y, a, b⟩ => ⟨y, a, by rw [← ag.2.2 513 y (by decide)]; exact b⟩, fun ⟨y, a, b⟩ => ⟨y, a, by rw [ag.2.2 513 y (by decide)]; exact b⟩⟩
      have hf : (fun y => decide (mI S1 513 y ≠ 0)) = shnB S := funext (fun y => by unfold shnB; rw [ag.2.2 513 y (by decide)])
      refine ⟨rfl, n, D, ⟨lf5, by rw [ag.fR]; exact ag.rp d1⟩, Nat.le_refl _, Nat.le_refl _, if_tf (fun q => ⟨3, by decide, lf, none, rfl, hl, ⟨A1, B1, e1, e2, Or.inr ⟨fun u => q (hP.2 u), rfl⟩⟩, rfl, rfl, rfl, rfl⟩) (fun q => ⟨rfl, B1, ⟨lf5, ?_⟩, Nat.le_refl _, Nat.le_refl _, 3, by decide, lf, _, rfl, hl, ⟨A1, B1, e1, e2, Or.inl ⟨hP.1 q, ?_⟩⟩, rfl, rfl, rfl, rfl⟩)⟩
      · rw [ag.2.1 512 _ (by decide), ← e2]; exact ag.ch (hC.chn e1)
      · rw [hf]
    · cases hm
      obtain ⟨lf, rg, rfl, hl, hr, rfl, rfl, rfl, rfl⟩ := h
      refine ⟨300, ?_⟩
      show ((∀ w_1, rg = some w_1 → (pa rg fun a_2 => isO S1 5 a_2 ∧ (∃ k1, k1 < 3 ∧ I_h3 g e rt i n O S k1 [(4, .inr (.inr (mR S1 508 a_2))), (3, .inr (.inr rg)), (2, .inr (.inr (some lf))), (0, .inr (.inr (some g))), (1, .inr (.inr (some e)))] [] S1 0 0))) ∧ (rg = none → (isO S1 5 lf ∧ (∃ k1, k1 < 3 ∧ I_h3 g e rt i n O S k1 [(4, .inr (.inr (mR S1 509 lf))), (3, .inr (.inr rg)), (2, .inr (.inr (some lf))), (0, .inr (.inr (some g))), (1, .inr (.inr (some e)))] [] S1 0 0))))
      have ag := hl.ag
      obtain ⟨D, d1, d2, d3⟩ := hp.rt hl
      refine ⟨fun w hw => ?_, fun hw => ?_⟩
      · subst hw
        have w5 := (hp.2.2.2.2.1).2.1 w hr.mem
        refine ⟨(ag.1 5 w).2 w5, 2, by decide, lf, some w, rfl, hl, hr, ?_, rfl, rfl, rfl⟩
        rw [ag.2.1 508 w (by decide)]; rfl
      · subst hw
        refine ⟨(ag.1 5 lf).2 d3, 2, by decide, lf, none, rfl, hl, hr, ?_, rfl, rfl, rfl⟩
        rw [ag.2.1 509 lf (by decide)]; rfl
    · cases hm
      obtain ⟨lf, rg, rfl, hl, hr, rfl, rfl, rfl, rfl⟩ := h
      refine ⟨300, ?_⟩
      show (2 = 2 ∧ (∃ (n_1 : Nat) (A_2 : List Nat), (hasG S1 e ∧ RpS S1 n_1 (fsO S lf rg) A_2 ∧ (∀ y ∈ A_2, hasG S1 y)) ∧ 0 ≤ 0 ∧ 0 ≤ 0 ∧ ((((lstW (ltA S1 e) (sB S1) n_1 none (fsO S lf rg)) = none → ((∀ w_5, rg = some w_5 → (2 = 2 ∧ ((pa rg fun a_6 => (∃ (n_7 : Nat) (A_8 : List Nat), (isO S1 5 a_6 ∧ RpS S1 n_7 (fL S1 a_6) A_8) ∧ 0 ≤ 0 ∧ 0 ≤ 0 ∧ ((isO S1 5 (A_8.headD a_6) ∧ (2 = 2 ∧ ((pa (mR S1 511 (A_8.headD a_6)) fun a_10 => ((isO S1 5 e ∧ isO S1 5 a_10 ∧ (∀ y, mR S1 512 a_10 = some y → isO S1 5 y)) ∧ 0 ≤ 0 ∧ 0 ≤ 0 ∧ ((True ∧ (isO (lkS S1 e a_10) 5 e ∧ (True ∧ (pa rg fun a_12 => isO (sR (lkS S1 e a_10) 510 e (fsO S lf rg)) 5 a_12 ∧ (∃ k1, k1 < 2 ∧ I_h4 g e rt i n O S k1 [(0, .inr (.inr (some g))), (1, .inr (.inr (some e)))] [] (sR (sR (lkS S1 e a_10) 510 e (fsO S lf rg)) 508 a_12 (some e)) 0 0))))))))))))))))) ∧ (rg = none → (2 = 2 ∧ ((isO S1 5 e ∧ isO S1 5 lf ∧ (∀ y, mR S1 512 lf = some y → isO S1 5 y)) ∧ 0 ≤ 0 ∧ 0 ≤ 0 ∧ ((True ∧ (isO (lkS S1 e lf) 5 e ∧ (True ∧ (isO (sR (lkS S1 e lf) 510 e (fsO S lf rg)) 5 lf ∧ (∃ k1, k1 < 2 ∧ I_h4 g e rt i n O S k1 [(0, .inr (.inr (some g))), (1, .inr (.inr (some e)))] [] (sR (sR (lkS S1 e lf) 510 e (fsO S lf rg)) 509 lf (some e)) 0 0))))))))))) ∧ (∀ w_4, (lstW (ltA S1 e) (sB S1) n_1 none (fsO S lf rg)) = some w_4 → (2 = 2 ∧ ((pa (lstW (ltA S1 e) (sB S1) n_1 none (fsO S lf rg)) fun a_14 => (∃ (n_15 : Nat) (A_16 : List Nat), (isO S1 5 a_14 ∧ RpS S1 n_15 (fR S1 a_14) A_16) ∧ 0 ≤ 0 ∧ 0 ≤ 0 ∧ ((2 = 2 ∧ ((isO S1 5 e ∧ isO S1 5 (A_16.getLastD a_14) ∧ (∀ y, mR S1 512 (A_16.getLastD a_14) = some y → isO S1 5 y)) ∧ 0 ≤ 0 ∧ 0 ≤ 0 ∧ ((pa (lstW (ltA S1 e) (sB S1) n_1 none (fsO S lf rg)) fun a_19 => isO (lkS S1 e (A_16.getLastD a_14)) 5 a_19 ∧ (True ∧ (isO (lkS S1 e (A_16.getLastD a_14)) 5 e ∧ (True ∧ (pa (lstW (ltA S1 e) (sB S1) n_1 none (fsO S lf rg)) fun a_20 => isO (sR (lkS S1 e (A_16.getLastD a_14)) 510 e (mR (lkS S1 e (A_16.getLastD a_14)) 510 a_19)) 5 a_20 ∧ (∃ k1, k1 < 2 ∧ I_h4 g e rt i n O S k1 [(0, .inr (.inr (some g))), (1, .inr (.inr (some e)))] [] (sR (sR (lkS S1 e (A_16.getLastD a_14)) 510 e (mR (lkS S1 e (A_16.getLastD a_14)) 510 a_19)) 510 a_20 (some e)) 0 0)))))))))))))))))))
      have ag := hl.ag
      have hp0 := hp
      obtain ⟨D0, d1, d2, d3⟩ := hp.rt hl
      obtain ⟨h1, h2, h3, h4, hC, h6, h7, h8, h9, h10, hT, hn, hG⟩ := hp
      have hF : ∃ F, RpS S n (fsO S lf rg) F ∧ ∀ y ∈ F, y ∈ O := by
        cases rg with
        | none => exact ⟨D0, d1, d2⟩
        | some r =>
          obtain ⟨C, D, r1, r2, s1, s2⟩ := hp0.nd hr.mem
          exact ⟨C, r1, s1⟩
      obtain ⟨F, f1, f2⟩ := hF
      have e5 : isO S1 5 e := (ag.1 5 e).2 h2.1
      have nx : ∀ A B, O = A ++ B → ∀ y, mR S1 512 (A.getLastD rt) = some y → isO S1 5 y := fun A B q y hy => (ag.1 5 y).2 (hC.nx q (by rw [← ag.2.1 512 _ (by decide)]; exact hy))
      refine ⟨rfl, n, F, ⟨ag.hg h2, ag.rp f1, fun y hy => ag.hg (hG y (f2 y hy))⟩, Nat.le_refl _, Nat.le_refl _, ?_⟩
      rw [ag.lt, ag.sB]
      refine ⟨fun hz => ⟨fun w hw => ?_, fun hw => ?_⟩, fun x hx => ?_⟩
      · subst hw
        obtain ⟨C, D, r1, r2, s1, s2⟩ := hp0.nd hr.mem
        have hh : C.headD w ∈ O := by
          cases C with
          | nil => exact hr.mem
          | cons c C => exact s1 c List.mem_cons_self
        obtain ⟨A2, B2, e2⟩ := List.append_of_mem hh
        have hpv := hC.2.2.2 A2 _ B2 e2
        refine ⟨rfl, n, C, ⟨(ag.1 5 w).2 (hC.2.1 w hr.mem), by rw [ag.fL]; exact ag.rp r1⟩, Nat.le_refl _, Nat.le_refl _, (ag.1 5 _).2 (hC.2.1 _ hh), rfl, ?_⟩
        rw [ag.2.1 511 _ (by decide), hpv]
        exact ⟨⟨e5, (ag.1 5 _).2 (hC.in e2), nx _ _ e2⟩, Nat.le_refl _, Nat.le_refl _, trivial, lkS_O.2 e5, trivial, lkS_O.2 ((ag.1 5 w).2 (hC.2.1 w hr.mem)), 1, by decide, S1, lf, some w, rfl, hl, hr, Or.inr (Or.inr ⟨w, C, _, hz, rfl, hr.mem, r1, hh, hpv, rfl⟩), rfl, rfl, rfl, rfl⟩
      · subst hw
        obtain ⟨A1, B1, e1, e2⟩ := hl.sp
        have lf5 := (ag.1 5 lf).2 d3
        exact ⟨rfl, ⟨e5, lf5, by rw [← e2]; exact nx _ _ e1⟩, Nat.le_refl _, Nat.le_refl _, trivial, lkS_O.2 e5, trivial, lkS_O.2 lf5, 1, by decide, S1, lf, none, rfl, hl, hr, Or.inr (Or.inl ⟨hz, rfl, rfl⟩), rfl, rfl, rfl, rfl⟩
      · rw [hx]
        have hxO := f2 x (lstW_mem f1.1 hx)
        obtain ⟨C, D, r1, r2, s1, s2⟩ := hp0.nd hxO
        have hzO : D.getLastD x ∈ O := by
          rcases snoc_cases D with q | ⟨D2, v, q⟩
          · rw [q]; exact hxO
          · rw [q, List.getLastD_concat]; exact s2 v (by rw [q]; simp)
        obtain ⟨A2, B2, e2⟩ := List.append_of_mem hzO
        have e3 : O = (A2 ++ [D.getLastD x]) ++ B2 := by rw [e2]; simp
        have x5 := (ag.1 5 x).2 (hC.2.1 x hxO)
        have z5 := (ag.1 5 _).2 (hC.2.1 _ hzO)
        have nz := nx _ _ e3
        rw [List.getLastD_concat] at nz
        refine ⟨rfl, n, D, ⟨x5, by rw [ag.fR]; exact ag.rp r2⟩, Nat.le_refl _, Nat.le_refl _, rfl, ⟨e5, z5, nz⟩, Nat.le_refl _, Nat.le_refl _, lkS_O.2 x5, trivial, lkS_O.2 e5, trivial, lkS_O.2 x5, 1, by decide, S1, lf, rg, rfl, hl, hr, Or.inl ⟨x, D, hx, hxO, r2, hzO, ?_⟩, rfl, rfl, rfl, rfl⟩
        rw [lkS_R (by decide) (by decide), ag.2.1 510 x (by decide)]; rfl
    · cases hm
      obtain ⟨S9, lf, rg, rfl, hl, hr, hb, rfl, rfl, rfl, rfl⟩ := h
      refine ⟨300, ?_⟩
      show (True ∧ (isO S1 5 e ∧ (isO (sI S1 513 e (1 : Int32)) 6 g ∧ (True ∧ (isO (sI S1 513 e (1 : Int32)) 6 g ∧ (isO (sI (sI S1 513 e (1 : Int32)) 609 g ((mI (sI S1 513 e (1 : Int32)) 609 g) + (1 : Int32))) 6 g ∧ (True ∧ (isO (sI (sI S1 513 e (1 : Int32)) 609 g ((mI (sI S1 513 e (1 : Int32)) 609 g) + (1 : Int32))) 6 g ∧ (True ∧ (isO (sI (sI (sI S1 513 e (1 : Int32)) 609 g ((mI (sI S1 513 e (1 : Int32)) 609 g) + (1 : Int32))) 605 g ((mI (sI (sI S1 513 e (1 : Int32)) 609 g ((mI (sI S1 513 e (1 : Int32)) 609 g) + (1 : Int32))) 605 g) + (1 : Int32))) 6 g ∧ (isO (sR (sI (sI (sI S1 513 e (1 : Int32)) 609 g ((mI (sI S1 513 e (1 : Int32)) 609 g) + (1 : Int32))) 605 g ((mI (sI (sI S1 513 e (1 : Int32)) 609 g ((mI (sI S1 513 e (1 : Int32)) 609 g) + (1 : Int32))) 605 g) + (1 : Int32))) 610 g (some e)) 5 e ∧ (True ∧ (isO (sR (sI (sI (sI S1 513 e (1 : Int32)) 609 g ((mI (sI S1 513 e (1 : Int32)) 609 g) + (1 : Int32))) 605 g ((mI (sI (sI S1 513 e (1 : Int32)) 609 g ((mI (sI S1 513 e (1 : Int32)) 609 g) + (1 : Int32))) 605 g) + (1 : Int32))) 610 g (some e)) 6 g ∧ (([] : List MV) = [] ∧ mret none (sp_ghg g e rt i n O A B) [.inr (.inr (some g)), .inr (.inr (some e))] S none (sI (sR (sI (sI (sI S1 513 e (1 : Int32)) 609 g ((mI (sI S1 513 e (1 : Int32)) 609 g) + (1 : Int32))) 605 g ((mI (sI (sI S1 513 e (1 : Int32)) 609 g ((mI (sI S1 513 e (1 : Int32)) 609 g) + (1 : Int32))) 605 g) + (1 : Int32))) 610 g (some e)) 611 g ((mI (sR (sI (sI (sI S1 513 e (1 : Int32)) 609 g ((mI (sI S1 513 e (1 : Int32)) 609 g) + (1 : Int32))) 605 g ((mI (sI (sI S1 513 e (1 : Int32)) 609 g ((mI (sI S1 513 e (1 : Int32)) 609 g) + (1 : Int32))) 605 g) + (1 : Int32))) 610 g (some e)) 506 e) + (1 : Int32))) 0 0))))))))))))))
      have ag := hl.ag
      obtain ⟨bO, bI⟩ := hb.ag
      obtain ⟨h1, h2, h3, -⟩ := hp
      have g6 : isO S1 6 g := (bO 6 g).2 ((ag.1 6 g).2 h1)
      have e5 : isO S1 5 e := (bO 5 e).2 ((ag.1 5 e).2 h2.1)
      have e609 : mI (sI S1 513 e (1 : Int32)) 609 g = mI S 609 g := by rw [mI_sI, if_neg (fun z => absurd z.1 (by decide)), bI, ag.2.2 609 g (by decide)]
      rw [e609]
      have e605 : mI (sI (sI S1 513 e (1 : Int32)) 609 g (mI S 609 g + (1 : Int32))) 605 g = mI S 605 g := by rw [mI_sI, if_neg (fun z => absurd z.1 (by decide)), mI_sI, if_neg (fun z => absurd z.1 (by decide)), bI, ag.2.2 605 g (by decide)]
      rw [e605]
      have e506 : mI (sR (sI (sI (sI S1 513 e (1 : Int32)) 609 g (mI S 609 g + (1 : Int32))) 605 g (mI S 605 g + (1 : Int32))) 610 g (some e)) 506 e = nI i := by rw [mI_sR, mI_sI, if_neg (fun z => absurd z.1 (by decide)), mI_sI, if_neg (fun z => absurd z.1 (by decide)), mI_sI, if_neg (fun z => absurd z.1 (by decide)), bI, ag.2.2 506 e (by decide)]; exact h3
      rw [e506, nI_1]
      exact ⟨trivial, e5, isO_sI g6, trivial, isO_sI g6, isO_sI (isO_sI g6), trivial, isO_sI (isO_sI g6), trivial, isO_sI (isO_sI (isO_sI g6)), isO_sR (isO_sI (isO_sI (isO_sI e5))), trivial, isO_sR (isO_sI (isO_sI (isO_sI g6))), rfl, trivial, ⟨rfl, S9, lf, rg, S1, hl, hr, hb, rfl⟩, Nat.le_refl _, Nat.le_refl _⟩
theorem u_ghg (l : Launch) : Us l yX5_hang cX5_hang 6 none 2 43 6 T_ghg := by
  intro Rc Rs av S cs sl K Kx h
  unfold T_ghg at h
  split at h
  · rename_i g_o e_o
    obtain ⟨g, rfl, h_1⟩ := pa_of h
    obtain ⟨e, rfl, h_2⟩ := pa_of h_1
    obtain ⟨rt, i, n, O, A, B, hp, hc, hs, hk⟩ := h_2
    refine ⟨(sp_ghg g e rt i n O A B), c_ghg l g e rt i n O A B, fun _ _ h9 => ⟨_, _, h9.1, h9.2.1⟩, ⟨rfl, hp⟩, hc, hs, fun S' h8 => by
      obtain ⟨-, h8⟩ := h8
      exact hk _ h8, fun _ _ q => q.elim⟩
  · exact h.elim
