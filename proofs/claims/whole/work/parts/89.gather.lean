/-! ===== PatchWriter.gather ===== -/
theorem KnR.keep {P : Nat → Prop} {S S' : MM} {b kn : Nat} {kr : Nat → Nat} {Kn : Nat → Nat → Nat} (h : KnR S b kn kr Kn) (hb9 : b ∈ mL S) (hk : Keep P S S') (h1 : ¬ P b) (h2 : ¬ P kn) (h3 : ∀ o, o < 4 → ¬ P (kr o)) : KnR S' b kn kr Kn := by
  obtain ⟨k1, k2, k3, k4⟩ := h
  refine ⟨((hk.2.1 b hb9 h1).2.1 _).trans k1, hk.isO k2, (hk.1 kn k2.1).2.2.trans k3, fun o ho => ?_⟩
  obtain ⟨r1, r2, r3, r4⟩ := k4 o ho
  refine ⟨by rw [(hk.2.1 kn k2.1 h2).2.2.2.2.2]; exact r1, hk.isO r2, (hk.1 _ r2.1).2.2.trans r3, fun j hj => ?_⟩
  rw [(hk.2.1 _ r2.1 (h3 o ho)).2.2.2.1]
  exact r4 j hj
abbrev Wt : Type := (Nat → List Int32) × List Nat × Cur × Option Nat × Int32
def aeS (G : Gr) (s : Wt) (y : Nat) : Wt := (aeV G s.1 s.2.1 s.2.2.1 s.2.2.2.1 s.2.2.2.2 y, aeM G s.2.1 s.2.2.1 s.2.2.2.1 y, aeC G s.2.2.1 y, aeB G s.2.2.1 s.2.2.2.1 y, aeE G s.2.2.1 s.2.2.2.2 y)
def lckB (G : Gr) (Kn : Nat → Nat → Nat) (o : Option Nat) (l : Nat) : Bool := match o with
  | none => true
  | some o => decide (Kn o (G.ag (G.ev l).sl) ≤ (G.ev l).nu)
theorem lckB_on {G : Gr} {Kn : Nat → Nat → Nat} {o : Option Nat} {l : Nat} : lckB G Kn o l = true ↔ lckP G Kn o l := by
  cases o with
  | none => exact ⟨fun _ => trivial, fun _ => rfl⟩
  | some o => exact decide_eq_true_iff
/-- the writer behind the first events -/
def gaS (G : Gr) (Kn : Nat → Nat → Nat) (o : Option Nat) (V : Nat → List Int32) : Nat → Wt
  | 0 => (bgV V, [], none, none, 0)
  | k + 1 => if lckB G Kn o k = true then aeS G (gaS G Kn o V k) k else gaS G Kn o V k
def gaV (G : Gr) (Kn : Nat → Nat → Nat) (o : Option Nat) (V : Nat → List Int32) : Nat → List Int32 := csV G (gaS G Kn o V G.n).1 (gaS G Kn o V G.n).2.1 (gaS G Kn o V G.n).2.2.1 (gaS G Kn o V G.n).2.2.2.1 (gaS G Kn o V G.n).2.2.2.2
def gaM (G : Gr) (Kn : Nat → Nat → Nat) (o : Option Nat) (V : Nat → List Int32) : List Nat := csM G (gaS G Kn o V G.n).2.1 (gaS G Kn o V G.n).2.2.1 (gaS G Kn o V G.n).2.2.2.1
def mtV (M : List Nat) : Nat → List Int32
  | 0 => vbs 4 (nI M.length)
  | k + 1 => mtV M k ++ vbs 4 (nI (M.getD k 0))
def gaA (G : Gr) (Kn : Nat → Nat → Nat) (o : Option Nat) (V : Nat → List Int32) (n : Nat) : Nat → List Int32 := updI (gaV G Kn o V) 0 (gaV G Kn o V 0 ++ mtV (gaM G Kn o V) n)
def gaP (G : Gr) (Kn : Nat → Nat → Nat) (o : Option Nat) (V : Nat → List Int32) : Nat → List Int32 := gaA G Kn o V (gaM G Kn o V).length
def gaR (G : Gr) (Kn : Nat → Nat → Nat) (o : Option Nat) (V : Nat → List Int32) : List Nat := bPuts [] (gaP G Kn o V 5)
def gaF (G : Gr) (Kn : Nat → Nat → Nat) (o : Option Nat) (V : Nat → List Int32) : Nat → List Int32 := updI (gaP G Kn o V) 4 (packV (gaR G Kn o V))
theorem csV_ge {G : Gr} {V : Nat → List Int32} {M : List Nat} {cu : Cur} {sb : Option Nat} {ex : Int32} (k : Nat) : (V k).length ≤ (csV G V M cu sb ex k).length := by
  cases cu with
  | none => exact Nat.le_refl _
  | some q =>
    obtain ⟨f, la, z, kd⟩ := q
    exact Nat.le_trans (Nat.le_trans (updI_ge (V := V) (k := 1) k) (updI_ge k)) (updI_ge k)
theorem aeV_geL {G : Gr} {V : Nat → List Int32} {M : List Nat} {cu : Cur} {sb : Option Nat} {ex : Int32} {y : Nat} (k : Nat) : (V k).length ≤ (aeV G V M cu sb ex y k).length := by
  have h1 : (V k).length ≤ (aeW G V M cu sb ex y k).length := by
    unfold aeW
    split
    · exact Nat.le_refl _
    · exact csV_ge k
  unfold aeV
  cases (G.ev y).ch with
  | none => exact h1
  | some c => exact Nat.le_trans h1 (updI_ge k)
theorem gaS_ge {G : Gr} {Kn : Nat → Nat → Nat} {o : Option Nat} {V : Nat → List Int32} {n : Nat} (i : Nat) : ∀ {m : Nat}, n ≤ m → ((gaS G Kn o V n).1 i).length ≤ ((gaS G Kn o V m).1 i).length
  | 0, h => by rw [show n = 0 by omega]; exact Nat.le_refl _
  | m + 1, h => by
    rcases Nat.lt_or_ge m n with q | q
    · rw [show n = m + 1 by omega]; exact Nat.le_refl _
    · refine Nat.le_trans (gaS_ge i q) ?_
      rw [gaS]
      split
      · exact aeV_geL i
      · exact Nat.le_refl _
theorem mtV_ge {M : List Nat} {n : Nat} : ∀ {m : Nat}, n ≤ m → (mtV M n).length ≤ (mtV M m).length
  | 0, h => by rw [show n = 0 by omega]; exact Nat.le_refl _
  | m + 1, h => by
    rcases Nat.lt_or_ge m n with q | q
    · rw [show n = m + 1 by omega]; exact Nat.le_refl _
    · refine Nat.le_trans (mtV_ge q) ?_
      rw [mtV, List.length_append]
      exact Nat.le_add_right _ _
/-- the open span holds no more events than were read -/
theorem gaS_cu {G : Gr} {Kn : Nat → Nat → Nat} {o : Option Nat} {V : Nat → List Int32} : ∀ n q, (gaS G Kn o V n).2.2.1 = some q → q.2.2.1 ≤ n
  | 0, q, h => by cases h
  | n + 1, q, h => by
    rw [gaS] at h
    split at h
    · have h : aeC G (gaS G Kn o V n).2.2.1 n = some q := h
      unfold aeC at h
      cases h
      show (aeK G (gaS G Kn o V n).2.2.1 n).2.1 + 1 ≤ n + 1
      unfold aeK
      cases hc : (gaS G Kn o V n).2.2.1 with
      | none => exact Nat.succ_le_succ (Nat.zero_le _)
      | some r =>
        obtain ⟨f, la, z, kd⟩ := r
        have := gaS_cu n _ hc
        dsimp only at this ⊢
        split
        · exact Nat.succ_le_succ this
        · exact Nat.succ_le_succ (Nat.zero_le _)
    · exact Nat.le_succ_of_le (gaS_cu n q h)
theorem csV_4 {G : Gr} {V : Nat → List Int32} {M : List Nat} {cu : Cur} {sb : Option Nat} {ex : Int32} : csV G V M cu sb ex 4 = V 4 := by
  cases cu with
  | none => rfl
  | some q =>
    obtain ⟨f, la, z, kd⟩ := q
    show updI (updI (updI V 1 _) 2 _) 3 _ 4 = V 4
    rw [updI_o (by decide), updI_o (by decide), updI_o (by decide)]
theorem aeV_4 {G : Gr} {V : Nat → List Int32} {M : List Nat} {cu : Cur} {sb : Option Nat} {ex : Int32} {y : Nat} : aeV G V M cu sb ex y 4 = V 4 := by
  have h1 : aeW G V M cu sb ex y 4 = V 4 := by
    unfold aeW
    split
    · rfl
    · exact csV_4
  unfold aeV
  cases (G.ev y).ch with
  | none => exact h1
  | some c => exact (updI_o (by decide)).trans h1
theorem gaS_4 {G : Gr} {Kn : Nat → Nat → Nat} {o : Option Nat} {V : Nat → List Int32} : ∀ n, (gaS G Kn o V n).1 4 = V 4
  | 0 => rfl
  | n + 1 => by
    rw [gaS]
    split
    · exact aeV_4.trans (gaS_4 n)
    · exact gaS_4 n
theorem gaP_4 {G : Gr} {Kn : Nat → Nat → Nat} {o : Option Nat} {V : Nat → List Int32} : gaP G Kn o V 4 = V 4 := by
  unfold gaP gaA
  rw [updI_o (by decide)]
  exact csV_4.trans (gaS_4 _)
theorem gaA_le {G : Gr} {Kn : Nat → Nat → Nat} {o : Option Nat} {V : Nat → List Int32} {cap : Nat → Nat} {n : Nat} (h : n ≤ (gaM G Kn o V).length) : wcC (gaA G Kn o V n) cap ≤ wcC (gaP G Kn o V) cap ∧ wcZ (gaA G Kn o V n) cap ≤ wcZ (gaP G Kn o V) cap := by
  unfold gaP gaA
  refine wcC_mono (updI_len ?_)
  have := mtV_ge (M := gaM G Kn o V) h
  rw [List.length_append, List.length_append]
  omega
theorem gaV_le {G : Gr} {Kn : Nat → Nat → Nat} {o : Option Nat} {V : Nat → List Int32} {cap : Nat → Nat} : wcC (gaV G Kn o V) cap ≤ wcC (gaP G Kn o V) cap ∧ wcZ (gaV G Kn o V) cap ≤ wcZ (gaP G Kn o V) cap := wcC_mono (fun k => updI_ge k)
theorem gaS_le {G : Gr} {Kn : Nat → Nat → Nat} {o : Option Nat} {V : Nat → List Int32} {cap : Nat → Nat} {n : Nat} (h : n ≤ G.n) : wcC (gaS G Kn o V n).1 cap ≤ wcC (gaV G Kn o V) cap ∧ wcZ (gaS G Kn o V n).1 cap ≤ wcZ (gaV G Kn o V) cap := wcC_mono (fun k => Nat.le_trans (gaS_ge k h) (csV_ge k))
theorem szN_le (vs : List Int32) : szN vs ≤ 32771 := by
  unfold szN vwN
  split
  · split
    · split <;> omega
    · omega
  · omega
def PWG0 (S : MM) (F : Nat → Nat × Nat) (j w pk pl me : Nat) (a d : Nat → Nat) (V : Nat → List Int32) (cap : Nat → Nat) (i : Nat) (A : Nat → Nat) (X : GX) (G : Gr) (T : Tr) (H : List Nat) (W : Nat → Nat) : Prop := PW0 S F j w pk pl me a d V cap ∧ GI S F i A X G T H W ∧ i ≠ 0 ∧ i ≠ j
section PG0
variable {S S' S1 : MM} {F F' F1 : Nat → Nat × Nat} {j w pk pl me i : Nat} {a d : Nat → Nat} {V : Nat → List Int32} {cap : Nat → Nat} {A : Nat → Nat} {X : GX} {G : Gr} {T : Tr} {H : List Nat} {W : Nat → Nat}
theorem PWG0.gi {S S' : MM} {F F' : Nat → Nat × Nat} {j w pk pl me : Nat} {a d : Nat → Nat} {V : Nat → List Int32} {cap : Nat → Nat} {i : Nat} {A : Nat → Nat} {X : GX} {G : Gr} {T : Tr} {H : List Nat} {W : Nat → Nat} (h : PWG0 S F j w pk pl me a d V cap i A X G T H W) (hk : Keep (fun b => (F b).1 = j) S S') (hf : ∀ b, b ∈ mL S → F' b = F b) : GI S' F' i A X G T H W := h.2.1.keep hk (fun b hb z => h.2.2.2 (hb.symm.trans z)) h.1.2.2.2.2.2.2.2.2.2.2.1 h.2.2.1 hf
end PG0
def gaQr (S : MM) (F : Nat → Nat × Nat) (j w pk pl me : Nat) (a d : Nat → Nat) (V : Nat → List Int32) (cap : Nat → Nat) (M : List Nat) (i : Nat) (A : Nat → Nat) (X : GX) (G : Gr) (T : Tr) (H : List Nat) (W : Nat → Nat) (b kn : Nat) (kr : Nat → Nat) (Kn : Nat → Nat → Nat) (oo : Option Nat) (to : Int32) : Prop :=
  PWG0 S F j w pk pl me a d V cap i A X G T H W ∧ isO S 11 b ∧ mR S 1101 b = some (A 0) ∧ KnR S b kn kr Kn ∧ (F b).1 ≠ j ∧ (F kn).1 ≠ j ∧ (∀ o, o < 4 → (F (kr o)).1 ≠ j) ∧ to = loI oo ∧ ∀ q, oo = some q → q < 4
def gaC (G : Gr) (Kn : Nat → Nat → Nat) (o : Option Nat) (V : Nat → List Int32) (cap : Nat → Nat) (on : Nat) : Nat := (wcC (gaP G Kn o V) (bgC V cap) - wcC (bgV V) (bgC V cap)) + (addNC (packV (gaR G Kn o V)).length (capN (V 4).length (cap 4) 0) 0 + odC on (gaR G Kn o V).length)
def gaZ (G : Gr) (Kn : Nat → Nat → Nat) (o : Option Nat) (V : Nat → List Int32) (cap : Nat → Nat) (on : Nat) : Nat := (wcZ (gaP G Kn o V) (bgC V cap) - wcZ (bgV V) (bgC V cap)) + (addNS (packV (gaR G Kn o V)).length (capN (V 4).length (cap 4) 0) 0 + odS on (gaR G Kn o V).length)
def gaQ (S S' : MM) (F : Nat → Nat × Nat) (j w pk pl me : Nat) (a : Nat → Nat) (V : Nat → List Int32) (cap : Nat → Nat) (G : Gr) (Kn : Nat → Nat → Nat) (oo : Option Nat) : Prop := ∃ F' d' o', PW S' F' j w pk pl me (updN a 7 o') d' (gaF G Kn oo V) (updN (bgC V cap) 4 (capN (V 4).length (cap 4) 0)) (gaM G Kn oo V) ∧ (∀ b, b ∈ mL S → F' b = F b) ∧ Keep (fun b => (F b).1 = j) S S' ∧ mN S' o' = odN (mN S (a 7)) (gaR G Kn oo V).length
/-- between: the writer stands at V1, M1, cu, sb, ex -/
def gaI (S S1 : MM) (F : Nat → Nat × Nat) (j w pk pl me : Nat) (a : Nat → Nat) (cap : Nat → Nat) (X : GX) (G : Gr) (s : Wt) : Prop := ∃ F1 d1, PW S1 F1 j w pk pl me a d1 s.1 cap s.2.1 ∧ (∀ b, b ∈ mL S → F1 b = F b) ∧ Keep (fun b => (F b).1 = j) S S1 ∧ WS S1 w X G s.2.2.1 s.2.2.2.1 s.2.2.2.2
def I_ga1 (w b : Nat) (to : Int32) (F : Nat → Nat × Nat) (j pk pl me : Nat) (a : Nat → Nat) (V : Nat → List Int32) (cap : Nat → Nat) (A : Nat → Nat) (X : GX) (G : Gr) (Kn : Nat → Nat → Nat) (oo : Option Nat) (S : MM) (t : Nat) : KT := fun lo st S1 cs sl => ∃ k, k ≤ G.n ∧ t = 1000 + (G.n - k) ∧ lo = [(4, .inl (nI k)), (3, .inr (.inr (some (A 2)))), (0, .inr (.inr (some w))), (1, .inr (.inr (some b))), (2, .inl to)] ∧ st = [] ∧ gaI S S1 F j w pk pl me a (bgC V cap) X G (gaS G Kn oo V k) ∧ cs + wcC (bgV V) (bgC V cap) = wcC (gaS G Kn oo V k).1 (bgC V cap) ∧ sl + wcZ (bgV V) (bgC V cap) = wcZ (gaS G Kn oo V k).1 (bgC V cap)
def I_ga2 (w : Nat) (F : Nat → Nat × Nat) (j pk pl me : Nat) (a : Nat → Nat) (V : Nat → List Int32) (cap : Nat → Nat) (G : Gr) (Kn : Nat → Nat → Nat) (oo : Option Nat) (S : MM) (t : Nat) : KT := fun lo st S1 cs sl => ∃ k, k ≤ (gaM G Kn oo V).length ∧ t = 100 + ((gaM G Kn oo V).length - k) ∧ lo = [(4, .inl (nI k)), (0, .inr (.inr (some w)))] ∧ st = [] ∧ (∃ F1 d1, PW S1 F1 j w pk pl me a d1 (gaA G Kn oo V k) (bgC V cap) (gaM G Kn oo V) ∧ (∀ b, b ∈ mL S → F1 b = F b) ∧ Keep (fun b => (F b).1 = j) S S1) ∧ cs + wcC (bgV V) (bgC V cap) = wcC (gaA G Kn oo V k) (bgC V cap) ∧ sl + wcZ (bgV V) (bgC V cap) = wcZ (gaA G Kn oo V k) (bgC V cap)
def T_wga : TR := fun Rc Rs av S cs sl K _Kx => match av with
  | [.inr (.inr w_o), .inr (.inr b_o), .inl to] => pa w_o fun w => (pa b_o fun b => (∃ (F : Nat → Nat × Nat) (j pk pl me : Nat) (a d : Nat → Nat) (V : Nat → List Int32) (cap : Nat → Nat) (M : List Nat) (i : Nat) (A : Nat → Nat) (X : GX) (G : Gr) (T : Tr) (H : List Nat) (W : Nat → Nat) (kn : Nat) (kr : Nat → Nat) (Kn : Nat → Nat → Nat) (oo : Option Nat), (gaQr S F j w pk pl me a d V cap M i A X G T H W b kn kr Kn oo to) ∧ cs + (gaC G Kn oo V cap (mN S (a 7))) ≤ Rc ∧ sl + (gaZ G Kn oo V cap (mN S (a 7))) ≤ Rs ∧ (∀ (S' : MM), (gaQ S S' F j w pk pl me a V cap G Kn oo) → K none S' (cs + (gaC G Kn oo V cap (mN S (a 7)))) (sl + (gaZ G Kn oo V cap (mN S (a 7)))))))
  | _ => False
def sp_wga (w : Nat) (b : Nat) (to : Int32) (F : Nat → Nat × Nat) (j pk pl me : Nat) (a d : Nat → Nat) (V : Nat → List Int32) (cap : Nat → Nat) (M : List Nat) (i : Nat) (A : Nat → Nat) (X : GX) (G : Gr) (T : Tr) (H : List Nat) (W : Nat → Nat) (kn : Nat) (kr : Nat → Nat) (Kn : Nat → Nat → Nat) (oo : Option Nat) : Sp := (fun av S => av = [.inr (.inr (some w)), .inr (.inr (some b)), .inl to] ∧ (gaQr S F j w pk pl me a d V cap M i A X G T H W b kn kr Kn oo to), fun _ S => gaC G Kn oo V cap (mN S (a 7)), fun _ S => gaZ G Kn oo V cap (mN S (a 7)), fun _ S rv S' => rv = none ∧ (gaQ S S' F j w pk pl me a V cap G Kn oo), fun _ _ _ _ => False)
def tX9_gather : CD := [(0, .aload_n 0), (1, .invokevirtual 64), (4, .aload_n 1), (5, .getfield 67), (8, .getfield 73), (11, .astore_n 3), (12, .iconst 0), (13, .istore 4), (15, .iload 4), (17, .aload_n 3), (18, .invokevirtual 79), (21, .if_icmp .ge 36), (24, .aload_n 3), (25, .iload 4), (27, .invokevirtual 84), (30, .checkcast 88), (33, .astore 5), (35, .aload_n 1), (36, .iload_n 2), (37, .aload 5), (39, .invokevirtual 90), (42, .ifCond .eq 9), (45, .aload_n 0), (46, .aload 5), (48, .invokevirtual 94), (51, .iinc 4 1), (54, .goto (-39)), (57, .aload_n 0), (58, .invokevirtual 98), (61, .aload_n 0), (62, .getfield 12), (65, .aload_n 0), (66, .getfield 37), (69, .invokevirtual 101), (72, .iconst 0), (73, .istore 4), (75, .iload 4), (77, .aload_n 0), (78, .getfield 37), (81, .if_icmp .ge 23), (84, .aload_n 0), (85, .getfield 12), (88, .aload_n 0), (89, .getfield 34), (92, .iload 4), (94, .iaload), (95, .invokevirtual 101), (98, .iinc 4 1), (101, .goto (-26)), (104, .aload_n 0), (105, .getfield 60), (108, .aload_n 0), (109, .getfield 27), (112, .invokevirtual 105), (115, .return_)]
set_option maxRecDepth 100000 in
theorem kX9_gather : chk cX9_gather tX9_gather = true := by decide +kernel
theorem vX9_gather_64 : ∀ w ∈ ([.methodLink RX9 64 yX9_begin, .instanceMethod yX9_begin, .selects yX9_begin.cls yX9_begin yX9_begin, .initialized yX9_begin.cls, .code yX9_begin cX9_begin 1 none] : List Cond), w ∈ lw_good := List.forall_mem_cons.mpr ⟨mgd 1366 (by decide +kernel) (by decide +kernel), List.forall_mem_cons.mpr ⟨mgd 1368 (by decide +kernel) (by decide +kernel), List.forall_mem_cons.mpr ⟨mgd 25 (by decide +kernel) (by decide +kernel), List.forall_mem_cons.mpr ⟨mgd 133 (by decide +kernel) (by decide +kernel), List.forall_mem_cons.mpr ⟨mgd 1369 (by decide +kernel) (by decide +kernel), fun _ h => absurd h List.not_mem_nil⟩⟩⟩⟩⟩
theorem vX9_gather_79 : ∀ w ∈ ([.methodLink RX9 79 yJx4a65c_size_8abf5, .instanceMethod yJx4a65c_size_8abf5, .selects yJx4a65c_size_8abf5.cls yJx4a65c_size_8abf5 yJx4a65c_size_8abf5, .initialized yJx4a65c_size_8abf5.cls, .code yJx4a65c_size_8abf5 cJx4a65c_size_8abf5 1 (some .int)] : List Cond), w ∈ lw_good := List.forall_mem_cons.mpr ⟨mgd 1372 (by decide +kernel) (by decide +kernel), List.forall_mem_cons.mpr ⟨mgd 673 (by decide +kernel) (by decide +kernel), List.forall_mem_cons.mpr ⟨mgd 674 (by decide +kernel) (by decide +kernel), List.forall_mem_cons.mpr ⟨mgd 130 (by decide +kernel) (by decide +kernel), List.forall_mem_cons.mpr ⟨mgd 675 (by decide +kernel) (by decide +kernel), fun _ h => absurd h List.not_mem_nil⟩⟩⟩⟩⟩
theorem vX9_gather_84 : ∀ w ∈ ([.methodLink RX9 84 yJx4a65c_get_915e3, .instanceMethod yJx4a65c_get_915e3, .selects yJx4a65c_get_915e3.cls yJx4a65c_get_915e3 yJx4a65c_get_915e3, .initialized yJx4a65c_get_915e3.cls, .code yJx4a65c_get_915e3 cJx4a65c_get_915e3 2 (some (.object "java/lang/Object"))] : List Cond), w ∈ lw_good := List.forall_mem_cons.mpr ⟨mgd 1373 (by decide +kernel) (by decide +kernel), List.forall_mem_cons.mpr ⟨mgd 677 (by decide +kernel) (by decide +kernel), List.forall_mem_cons.mpr ⟨mgd 678 (by decide +kernel) (by decide +kernel), List.forall_mem_cons.mpr ⟨mgd 130 (by decide +kernel) (by decide +kernel), List.forall_mem_cons.mpr ⟨mgd 679 (by decide +kernel) (by decide +kernel), fun _ h => absurd h List.not_mem_nil⟩⟩⟩⟩⟩
theorem vX9_gather_90 : ∀ w ∈ ([.methodLink RX9 90 yX10_lacks, .instanceMethod yX10_lacks, .selects yX10_lacks.cls yX10_lacks yX10_lacks, .initialized yX10_lacks.cls, .code yX10_lacks cX10_lacks 3 (some .boolean)] : List Cond), w ∈ lw_good := List.forall_mem_cons.mpr ⟨mgd 1375 (by decide +kernel) (by decide +kernel), List.forall_mem_cons.mpr ⟨mgd 1376 (by decide +kernel) (by decide +kernel), List.forall_mem_cons.mpr ⟨mgd 1377 (by decide +kernel) (by decide +kernel), List.forall_mem_cons.mpr ⟨mgd 124 (by decide +kernel) (by decide +kernel), List.forall_mem_cons.mpr ⟨mgd 1378 (by decide +kernel) (by decide +kernel), fun _ h => absurd h List.not_mem_nil⟩⟩⟩⟩⟩
theorem vX9_gather_94 : ∀ w ∈ ([.methodLink RX9 94 yX9_addEvent, .instanceMethod yX9_addEvent, .selects yX9_addEvent.cls yX9_addEvent yX9_addEvent, .initialized yX9_addEvent.cls, .code yX9_addEvent cX9_addEvent 2 none] : List Cond), w ∈ lw_good := List.forall_mem_cons.mpr ⟨mgd 1379 (by decide +kernel) (by decide +kernel), List.forall_mem_cons.mpr ⟨mgd 1381 (by decide +kernel) (by decide +kernel), List.forall_mem_cons.mpr ⟨mgd 26 (by decide +kernel) (by decide +kernel), List.forall_mem_cons.mpr ⟨mgd 133 (by decide +kernel) (by decide +kernel), List.forall_mem_cons.mpr ⟨mgd 1382 (by decide +kernel) (by decide +kernel), fun _ h => absurd h List.not_mem_nil⟩⟩⟩⟩⟩
theorem vX9_gather_98 : ∀ w ∈ ([.methodLink RX9 98 yX9_closeSpan, .instanceMethod yX9_closeSpan, .selects yX9_closeSpan.cls yX9_closeSpan yX9_closeSpan, .initialized yX9_closeSpan.cls, .code yX9_closeSpan cX9_closeSpan 2 none] : List Cond), w ∈ lw_good := List.forall_mem_cons.mpr ⟨mgd 1388 (by decide +kernel) (by decide +kernel), List.forall_mem_cons.mpr ⟨mgd 1390 (by decide +kernel) (by decide +kernel), List.forall_mem_cons.mpr ⟨mgd 28 (by decide +kernel) (by decide +kernel), List.forall_mem_cons.mpr ⟨mgd 133 (by decide +kernel) (by decide +kernel), List.forall_mem_cons.mpr ⟨mgd 1391 (by decide +kernel) (by decide +kernel), fun _ h => absurd h List.not_mem_nil⟩⟩⟩⟩⟩
theorem vX9_gather_101 : ∀ w ∈ ([.methodLink RX9 101 yX1_addVarint, .instanceMethod yX1_addVarint, .selects yX1_addVarint.cls yX1_addVarint yX1_addVarint, .initialized yX1_addVarint.cls, .code yX1_addVarint cX1_addVarint 4 none] : List Cond), w ∈ lw_good := List.forall_mem_cons.mpr ⟨mgd 1396 (by decide +kernel) (by decide +kernel), List.forall_mem_cons.mpr ⟨mgd 1341 (by decide +kernel) (by decide +kernel), List.forall_mem_cons.mpr ⟨mgd 1342 (by decide +kernel) (by decide +kernel), List.forall_mem_cons.mpr ⟨mgd 122 (by decide +kernel) (by decide +kernel), List.forall_mem_cons.mpr ⟨mgd 1343 (by decide +kernel) (by decide +kernel), fun _ h => absurd h List.not_mem_nil⟩⟩⟩⟩⟩
theorem vX9_gather_105 : ∀ w ∈ ([.methodLink RX9 105 yX7_pack, .instanceMethod yX7_pack, .selects yX7_pack.cls yX7_pack yX7_pack, .initialized yX7_pack.cls, .code yX7_pack cX7_pack 6 none] : List Cond), w ∈ lw_good := List.forall_mem_cons.mpr ⟨mgd 1405 (by decide +kernel) (by decide +kernel), List.forall_mem_cons.mpr ⟨mgd 1406 (by decide +kernel) (by decide +kernel), List.forall_mem_cons.mpr ⟨mgd 1407 (by decide +kernel) (by decide +kernel), List.forall_mem_cons.mpr ⟨mgd 132 (by decide +kernel) (by decide +kernel), List.forall_mem_cons.mpr ⟨mgd 1408 (by decide +kernel) (by decide +kernel), fun _ h => absurd h List.not_mem_nil⟩⟩⟩⟩⟩
set_option maxRecDepth 100000 in
set_option maxHeartbeats 2000000 in
theorem c_wga (l : Launch) : ∀ (w : Nat) (b : Nat) (to : Int32) (F : Nat → Nat × Nat) (j pk pl me : Nat) (a d : Nat → Nat) (V : Nat → List Int32) (cap : Nat → Nat) (M : List Nat) (i : Nat) (A : Nat → Nat) (X : GX) (G : Gr) (T : Tr) (H : List Nat) (W : Nat → Nat) (kn : Nat) (kr : Nat → Nat) (Kn : Nat → Nat → Nat) (oo : Option Nat), Ct l yX9_gather cX9_gather 6 none 7 162 (sp_wga w b to F j pk pl me a d V cap M i A X G T H W kn kr Kn oo) := by
  intro w b to F j pk pl me a d V cap M i A X G T H W kn kr Kn oo
  refine Ct.of (fX9, nX9, aX9, iX9, lX9, [(64, 0, 1, 0, T_wbg), (79, 0, 1, 1, T_alsz), (84, 0, 2, 3, T_alget), (90, 0, 3, 1, T_plk), (94, 0, 2, 0, T_wae), (98, 0, 1, 0, T_wcs), (101, 0, 2, 0, T_bvar), (105, 0, 2, 0, T_ppack)], qX9, gX9, []) false tX9_gather (fun _ S => look [(15, ([4,3,0,1,2], I_ga1 w b to F j pk pl me a V cap A X G Kn oo S)), (75, ([4,0], I_ga2 w F j pk pl me a V cap G Kn oo S))]) (by decide) (by decide) kX9_gather ⟨_, _, rfl⟩ fX9_ok nX9_ok aX9_ok iX9_ok lX9_ok (fun p e R s m args below meth c Q D cy z r A C hR1 hR2 => List.forall_mem_cons.mpr ⟨cOK_use (fun _ _ _ _ _ _ _ _ h => let ⟨sp, h1, h2, h3⟩ := u_wbg l _ _ _ _ _ _ _ _ h; ⟨sp, cOK_V C h1 vX9_gather_64 ⟨by decide, by decide, by decide +kernel⟩ ⟨by rw [hR1]; decide, by rw [hR2]; decide⟩ (k := 10) (T := TX9) (N := 15) rfl (by decide) h2, h3⟩), List.forall_mem_cons.mpr ⟨cOK_use (fun _ _ _ _ _ _ _ _ h => let ⟨sp, h1, h2, h3⟩ := u_alsz l _ _ _ _ _ _ _ _ h; ⟨sp, cOK_V C h1 vX9_gather_79 ⟨by decide, by decide, by decide +kernel⟩ ⟨by rw [hR1]; decide, by rw [hR2]; decide⟩ (k := 0) (T := TJx4a65c) (N := 3) rfl (by decide) h2, h3⟩), List.forall_mem_cons.mpr ⟨cOK_use (fun _ _ _ _ _ _ _ _ h => let ⟨sp, h1, h2, h3⟩ := u_alget l _ _ _ _ _ _ _ _ h; ⟨sp, cOK_V C h1 vX9_gather_84 ⟨by decide, by decide, by decide +kernel⟩ ⟨by rw [hR1]; decide, by rw [hR2]; decide⟩ (k := 0) (T := TJx4a65c) (N := 3) rfl (by decide) h2, h3⟩), List.forall_mem_cons.mpr ⟨cOK_use (fun _ _ _ _ _ _ _ _ h => let ⟨sp, h1, h2, h3⟩ := u_plk l _ _ _ _ _ _ _ _ h; ⟨sp, cOK_V C h1 vX9_gather_90 ⟨by decide, by decide, by decide +kernel⟩ ⟨by rw [hR1]; decide, by rw [hR2]; decide⟩ (k := 11) (T := TX10) (N := 6) rfl (by decide) h2, h3⟩), List.forall_mem_cons.mpr ⟨cOK_use (fun _ _ _ _ _ _ _ _ h => let ⟨sp, h1, h2, h3⟩ := u_wae l _ _ _ _ _ _ _ _ h; ⟨sp, cOK_V C h1 vX9_gather_94 ⟨by decide, by decide, by decide +kernel⟩ ⟨by rw [hR1]; decide, by rw [hR2]; decide⟩ (k := 10) (T := TX9) (N := 15) rfl (by decide) h2, h3⟩), List.forall_mem_cons.mpr ⟨cOK_use (fun _ _ _ _ _ _ _ _ h => let ⟨sp, h1, h2, h3⟩ := u_wcs l _ _ _ _ _ _ _ _ h; ⟨sp, cOK_V C h1 vX9_gather_98 ⟨by decide, by decide, by decide +kernel⟩ ⟨by rw [hR1]; decide, by rw [hR2]; decide⟩ (k := 10) (T := TX9) (N := 15) rfl (by decide) h2, h3⟩), List.forall_mem_cons.mpr ⟨cOK_use (fun _ _ _ _ _ _ _ _ h => let ⟨sp, h1, h2, h3⟩ := u_bvar l _ _ _ _ _ _ _ _ h; ⟨sp, cOK_V C h1 vX9_gather_101 ⟨by decide, by decide, by decide +kernel⟩ ⟨by rw [hR1]; decide, by rw [hR2]; decide⟩ (k := 2) (T := TX1) (N := 3) rfl (by decide) h2, h3⟩), List.forall_mem_cons.mpr ⟨cOK_use (fun _ _ _ _ _ _ _ _ h => let ⟨sp, h1, h2, h3⟩ := u_ppack l _ _ _ _ _ _ _ _ h; ⟨sp, cOK_V C h1 vX9_gather_105 ⟨by decide, by decide, by decide +kernel⟩ ⟨by rw [hR1]; decide, by rw [hR2]; decide⟩ (k := 8) (T := TX7) (N := 5) rfl (by decide) h2, h3⟩), fun _ h => absurd h List.not_mem_nil⟩⟩⟩⟩⟩⟩⟩⟩) qX9_ok gX9_ok rfl ?_ ?_
  · rintro _ S ⟨rfl, hp⟩
    refine ⟨Nat.le_of_ble_eq_true rfl, 300, ?_⟩
    show (0 = 0 ∧ (∃ (F_1 : Nat → Nat × Nat) (j_2 pk_3 pl_4 me_5 : Nat) (a_6 d_7 : Nat → Nat) (V_8 : Nat → List Int32) (cap_9 : Nat → Nat) (M_10 : List Nat), (PW0 S F_1 j_2 w pk_3 pl_4 me_5 a_6 d_7 V_8 cap_9) ∧ 0 ≤ gaC G Kn oo V cap (mN S (a 7)) ∧ 0 ≤ gaZ G Kn oo V cap (mN S (a 7)) ∧ (∀ (S_11 : MM), (bgQ S S_11 F_1 j_2 w pk_3 pl_4 me_5 a_6 d_7 V_8 cap_9) → (isO S_11 11 b ∧ (pa (mR S_11 1101 b) fun a_12 => isO S_11 6 a_12 ∧ (∃ k1, I_ga1 w b to F j pk pl me a V cap A X G Kn oo S k1 [(4, .inl (0 : Int32)), (3, .inr (.inr (mR S_11 601 a_12))), (0, .inr (.inr (some w))), (1, .inr (.inr (some b))), (2, .inl to)] [] S_11 0 0))))))
    obtain ⟨hPG, ob, e1, hKn, n1, n2, n3, rfl, hoo⟩ := hp
    refine ⟨rfl, F, j, pk, pl, me, a, d, V, cap, M, hPG.1, Nat.zero_le _, Nat.zero_le _, fun S11 hS11 => ?_⟩
    obtain ⟨p1, p2, p9, p13, p14⟩ := hS11
    have hG1 : GI S11 F i A X G T H W := hPG.gi p2 (fun _ _ => rfl)
    have kb := p2.2.1 b ob.1 n1
    refine ⟨p2.isO ob, pa_i ((kb.2.1 1101).trans e1) ⟨(hG1 0).1, 1000 + (G.n - 0), 0, Nat.zero_le _, rfl, ?_, rfl, ⟨F, d, p1, fun _ _ => rfl, p2, p9, p13, (fun q hq => by cases hq), p14⟩, Nat.zero_add _, Nat.zero_add _⟩⟩
    rw [(hG1 2).1]; rfl
  · intro av S hpre pc I hI k lo st S1 cs sl h
    obtain ⟨rfl, hp⟩ := hpre
    have hm := look_in hI
    simp only [List.mem_cons, List.not_mem_nil, or_false] at hm
    rcases hm with hm | hm
    · cases hm
      obtain ⟨k9, hk9, rfl, rfl, rfl, hQ, hcs, hsl⟩ := h
      refine ⟨300, ?_⟩
      show (0 = 0 ∧ (∃ (d_1 c_2 kk_3 : Nat) (L_4 : List Nat), (AL S1 (A 2) d_1 c_2 kk_3 L_4) ∧ cs ≤ gaC G Kn oo V cap (mN S (a 7)) ∧ sl ≤ gaZ G Kn oo V cap (mN S (a 7)) ∧ ((((nI L_4.length) ≤ (nI k9) → (0 = 0 ∧ (∃ (F_6 : Nat → Nat × Nat) (j_7 pk_8 pl_9 me_10 : Nat) (a_11 d_12 : Nat → Nat) (V_13 : Nat → List Int32) (cap_14 : Nat → Nat) (M_15 : List Nat) (i_16 : Nat) (A_17 : Nat → Nat) (X_18 : GX) (G_19 : Gr) (T_20 : Tr) (H_21 : List Nat) (W_22 : Nat → Nat) (cu_23 : Cur) (sb_24 : Option Nat) (ex_25 : Int32), (PWG S1 F_6 j_7 w pk_8 pl_9 me_10 a_11 d_12 V_13 cap_14 M_15 i_16 A_17 X_18 G_19 T_20 H_21 W_22 ∧ WS S1 w X_18 G_19 cu_23 sb_24 ex_25) ∧ cs + (wcC (csV G_19 V_13 M_15 cu_23 sb_24 ex_25) cap_14 - wcC V_13 cap_14) ≤ gaC G Kn oo V cap (mN S (a 7)) ∧ sl + (wcZ (csV G_19 V_13 M_15 cu_23 sb_24 ex_25) cap_14 - wcZ V_13 cap_14) ≤ gaZ G Kn oo V cap (mN S (a 7)) ∧ (∀ (S_26 : MM), (csQ S1 S_26 F_6 j_7 w pk_8 pl_9 me_10 a_11 V_13 cap_14 M_15 X_18 G_19 cu_23 sb_24 ex_25) → (isO S_26 10 w ∧ (isO S_26 10 w ∧ (0 = 0 ∧ ((pa (mR S_26 1000 w) fun a_27 => (∃ (d_28 : Nat) (B_29 : List Nat), (By S_26 a_27 d_28 B_29) ∧ cs + (wcC (csV G_19 V_13 M_15 cu_23 sb_24 ex_25) cap_14 - wcC V_13 cap_14) + (addNC (vbs 4 (mI S_26 1008 w)).length (mN S_26 d_28) B_29.length) ≤ gaC G Kn oo V cap (mN S (a 7)) ∧ sl + (wcZ (csV G_19 V_13 M_15 cu_23 sb_24 ex_25) cap_14 - wcZ V_13 cap_14) + (addNS (vbs 4 (mI S_26 1008 w)).length (mN S_26 d_28) B_29.length) ≤ gaZ G Kn oo V cap (mN S (a 7)) ∧ (∀ (S_30 : MM), (∃ d', App S_26 S_30 a_27 d_28 d' B_29 (vbs 4 (mI S_26 1008 w))) → (∃ k1, k1 < 1000 + (G.n - k9) ∧ I_ga2 w F j pk pl me a V cap G Kn oo S k1 [(4, .inl (0 : Int32)), (0, .inr (.inr (some w)))] [] S_30 (cs + (wcC (csV G_19 V_13 M_15 cu_23 sb_24 ex_25) cap_14 - wcC V_13 cap_14) + (addNC (vbs 4 (mI S_26 1008 w)).length (mN S_26 d_28) B_29.length)) (sl + (wcZ (csV G_19 V_13 M_15 cu_23 sb_24 ex_25) cap_14 - wcZ V_13 cap_14) + (addNS (vbs 4 (mI S_26 1008 w)).length (mN S_26 d_28) B_29.length)))))))))))))) ∧ (¬ (nI L_4.length) ≤ (nI k9) → (0 = 0 ∧ (∃ (i_31 : Nat), nI k9 = nI i_31 ∧ (∃ (d_32 c_33 kk_34 : Nat) (L_35 : List Nat), (AL S1 (A 2) d_32 c_33 kk_34 L_35 ∧ i_31 < L_35.length) ∧ cs ≤ gaC G Kn oo V cap (mN S (a 7)) ∧ sl ≤ gaZ G Kn oo V cap (mN S (a 7)) ∧ (((∀ w_37, (L_35[i_31]?) = some w_37 → isO S1 5 w_37) ∧ (0 = 0 ∧ ((pa (L_35[i_31]?) fun a_38 => (∃ (F_39 : Nat → Nat × Nat) (i_40 : Nat) (A_41 : Nat → Nat) (X_42 : GX) (G_43 : Gr) (T_44 : Tr) (H_45 : List Nat) (W_46 : Nat → Nat) (kn_47 : Nat) (kr_48 : Nat → Nat) (Kn_49 : Nat → Nat → Nat) (oo_50 : Option Nat) (l9_51 : Nat), (isO S1 11 b ∧ KnR S1 b kn_47 kr_48 Kn_49 ∧ GI S1 F_39 i_40 A_41 X_42 G_43 T_44 H_45 W_46 ∧ l9_51 < G_43.n ∧ a_38 = X_42.ad l9_51 ∧ to = loI oo_50 ∧ (∀ q, oo_50 = some q → q < 4)) ∧ cs ≤ gaC G Kn oo V cap (mN S (a 7)) ∧ sl ≤ gaZ G Kn oo V cap (mN S (a 7)) ∧ ((((tf (lckP G_43 Kn_49 oo_50 l9_51)) = 0 → (∃ k1, k1 < 1000 + (G.n - k9) ∧ I_ga1 w b to F j pk pl me a V cap A X G Kn oo S k1 [(4, .inl ((nI k9) + (1 : Int32))), (3, .inr (.inr (some (A 2)))), (0, .inr (.inr (some w))), (1, .inr (.inr (some b))), (2, .inl to)] [] S1 cs sl)) ∧ (¬ (tf (lckP G_43 Kn_49 oo_50 l9_51)) = 0 → (0 = 0 ∧ ((pa (L_35[i_31]?) fun a_53 => (∃ (F_54 : Nat → Nat × Nat) (j_55 pk_56 pl_57 me_58 : Nat) (a_59 d_60 : Nat → Nat) (V_61 : Nat → List Int32) (cap_62 : Nat → Nat) (M_63 : List Nat) (i_64 : Nat) (A_65 : Nat → Nat) (X_66 : GX) (G_67 : Gr) (T_68 : Tr) (H_69 : List Nat) (W_70 : Nat → Nat) (cu_71 : Cur) (sb_72 : Option Nat) (ex_73 : Int32) (y_74 : Nat), (aeR S1 F_54 j_55 w pk_56 pl_57 me_58 a_59 d_60 V_61 cap_62 M_63 i_64 A_65 X_66 G_67 T_68 H_69 W_70 cu_71 sb_72 ex_73 y_74 a_53) ∧ cs + (wcC (aeV G_67 V_61 M_63 cu_71 sb_72 ex_73 y_74) cap_62 - wcC V_61 cap_62) ≤ gaC G Kn oo V cap (mN S (a 7)) ∧ sl + (wcZ (aeV G_67 V_61 M_63 cu_71 sb_72 ex_73 y_74) cap_62 - wcZ V_61 cap_62) ≤ gaZ G Kn oo V cap (mN S (a 7)) ∧ (∀ (S_75 : MM), (aeQ S1 S_75 F_54 j_55 w pk_56 pl_57 me_58 a_59 V_61 cap_62 M_63 X_66 G_67 cu_71 sb_72 ex_73 y_74) → (∃ k1, k1 < 1000 + (G.n - k9) ∧ I_ga1 w b to F j pk pl me a V cap A X G Kn oo S k1 [(4, .inl ((nI k9) + (1 : Int32))), (3, .inr (.inr (some (A 2)))), (0, .inr (.inr (some w))), (1, .inr (.inr (some b))), (2, .inl to)] [] S_75 (cs + (wcC (aeV G_67 V_61 M_63 cu_71 sb_72 ex_73 y_74) cap_62 - wcC V_61 cap_62)) (sl + (wcZ (aeV G_67 V_61 M_63 cu_71 sb_72 ex_73 y_74) cap_62 - wcZ V_61 cap_62)))))))))))))))))))))))))
      obtain ⟨hPG, ob, e1, hKn, n1, n2, n3, rfl, hoo⟩ := hp
      obtain ⟨F1, d1, p1, p2, p3, hS⟩ := hQ
      have hG1 := hPG.gi p3 p2
      have hPG1 : PWG S1 F1 j w pk pl me a d1 (gaS G Kn oo V k9).1 (bgC V cap) (gaS G Kn oo V k9).2.1 i A X G T H W := ⟨p1, hG1, hPG.2.2.1, hPG.2.2.2⟩
      have gn := hG1.ok.hn
      have lS := gaS_le (Kn := Kn) (o := oo) (V := V) (cap := bgC V cap) hk9
      have lV := gaV_le (G := G) (Kn := Kn) (o := oo) (V := V) (cap := bgC V cap)
      have hc0 : cs ≤ gaC G Kn oo V cap (mN S (a 7)) := by unfold gaC; omega
      have hz0 : sl ≤ gaZ G Kn oo V cap (mN S (a 7)) := by unfold gaZ; omega
      have el : ((List.range G.n).map X.ad).length = G.n := by rw [List.length_map, List.length_range]
      refine ⟨rfl, A 3, capF G.n, 5, _, (hG1 2).2.2.2, hc0, hz0, ?_⟩
      rw [el]
      refine if_le (by omega) (by omega) (fun z => ?_) (fun z => ?_)
      · have e9 : k9 = G.n := by omega
        subst e9
        have hu : csV G (gaS G Kn oo V G.n).1 (gaS G Kn oo V G.n).2.1 (gaS G Kn oo V G.n).2.2.1 (gaS G Kn oo V G.n).2.2.2.1 (gaS G Kn oo V G.n).2.2.2.2 = gaV G Kn oo V := rfl
        refine ⟨rfl, F1, j, pk, pl, me, a, d1, (gaS G Kn oo V G.n).1, bgC V cap, (gaS G Kn oo V G.n).2.1, i, A, X, G, T, H, W, (gaS G Kn oo V G.n).2.2.1, (gaS G Kn oo V G.n).2.2.2.1, (gaS G Kn oo V G.n).2.2.2.2, ⟨hPG1, hS⟩, ?_, ?_, fun S26 hS26 => ?_⟩
        · rw [hu]; unfold gaC; omega
        · rw [hu]; unfold gaZ; omega
        · obtain ⟨F2, d2, q1, q2, q3, -⟩ := hS26
          have q1 : PW S26 F2 j w pk pl me a d2 (gaV G Kn oo V) (bgC V cap) (gaM G Kn oo V) := q1
          have m9 : mI S26 1008 w = nI (gaM G Kn oo V).length := q1.2.2.2.2.1.2.2.2.2.2.2.2.2.1
          have ml := len_256 q1.2.2.2.2.1.2.2.2.2.2.2.2.2.2.1 q1.2.2.2.2.1.2.2.2.2.2.2.2.2.2.2.1
          have ow := q1.2.2.2.2.1.1
          refine ⟨ow, ow, rfl, pa_i (q1.2.2.2.2.2.1 0 (by decide)) ?_⟩
          rw [m9, hu]
          obtain ⟨c1, z1⟩ := WC.cost q1.2.2.2.2.2.2.2.2.2.1 (k := 0) (by decide) (vbs 4 (nI (gaM G Kn oo V).length))
          have hA : updI (gaV G Kn oo V) 0 (gaV G Kn oo V 0 ++ vbs 4 (nI (gaM G Kn oo V).length)) = gaA G Kn oo V 0 := rfl
          rw [hA] at c1 z1
          have lA := gaA_le (G := G) (Kn := Kn) (o := oo) (V := V) (cap := bgC V cap) (Nat.zero_le _)
          refine ⟨d2 0, _, (q1.2.2.2.2.2.2.2.2.2.1 0 (by decide)).1, by unfold gaC; omega, by unfold gaZ; omega, fun S30 hS30 => ?_⟩
          obtain ⟨d', ha⟩ := hS30
          obtain ⟨F3, d3, r1, r2, r3, -⟩ := q1.app (k := 0) (by decide) ha
          rw [hA] at r1
          have k26 : Keep (fun b => (F b).1 = j) S S26 := p3.trN q3 (fun b hb q => by rw [← p2 b hb]; exact q)
          have f26 : ∀ b, b ∈ mL S → F2 b = F b := fun b hb => (q2 b (p3.1 b hb).1).trans (p2 b hb)
          exact ⟨100 + ((gaM G Kn oo V).length - 0), by omega, 0, Nat.zero_le _, rfl, rfl, rfl, ⟨F3, d3, r1, fun b hb => (r2 b (k26.1 b hb).1).trans (f26 b hb), k26.trN r3 (fun b hb q => by rw [← f26 b hb]; exact q)⟩, by omega, by omega⟩
      · have e5 : ((List.range G.n).map X.ad)[k9]? = some (X.ad k9) := by
          rw [List.getElem?_map, List.getElem?_range z]; rfl
        have v1 := (hG1.ev.2.1 k9 z).1
        have nJ : ∀ {x : Nat}, (F x).1 ≠ j → ¬ (fun b => (F b).1 = j) x := fun h q => h q
        have hKn1 : KnR S1 b kn kr Kn := hKn.keep ob.1 p3 n1 n2 n3
        refine ⟨rfl, k9, rfl, A 3, capF G.n, 5, _, ⟨(hG1 2).2.2.2, by rw [el]; exact z⟩, hc0, hz0, ?_⟩
        rw [e5]
        refine ⟨(fun w1 hw => by cases hw; exact v1), rfl, F1, i, A, X, G, T, H, W, kn, kr, Kn, oo, k9, ⟨p3.isO ob, hKn1, hG1, z, rfl, rfl, hoo⟩, hc0, hz0, fun t0 => ?_, fun t1 => ?_⟩
        · have hb : ¬ lckB G Kn oo k9 = true := fun q => by rw [tf_t (lckB_on.1 q)] at t0; exact absurd t0 (by decide)
          have eS : gaS G Kn oo V (k9 + 1) = gaS G Kn oo V k9 := if_neg hb
          refine ⟨1000 + (G.n - (k9 + 1)), by omega, k9 + 1, z, rfl, by rw [nI_1], rfl, ?_⟩
          rw [eS]
          exact ⟨⟨F1, d1, p1, p2, p3, hS⟩, hcs, hsl⟩
        · have hb : lckB G Kn oo k9 = true := lckB_on.2 (Decidable.byContradiction (p := lckP G Kn oo k9) (dec := Classical.propDecidable _) (fun q => t1 (tf_f q)))
          have eS : gaS G Kn oo V (k9 + 1) = aeS G (gaS G Kn oo V k9) k9 := if_pos hb
          have lS1 := gaS_le (Kn := Kn) (o := oo) (V := V) (cap := bgC V cap) (n := k9 + 1) z
          rw [eS] at lS1
          have lm := wcC_mono (cap := bgC V cap) (fun k => aeV_geL (G := G) (V := (gaS G Kn oo V k9).1) (M := (gaS G Kn oo V k9).2.1) (cu := (gaS G Kn oo V k9).2.2.1) (sb := (gaS G Kn oo V k9).2.2.2.1) (ex := (gaS G Kn oo V k9).2.2.2.2) (y := k9) k)
          have lS1 : wcC (aeV G (gaS G Kn oo V k9).1 (gaS G Kn oo V k9).2.1 (gaS G Kn oo V k9).2.2.1 (gaS G Kn oo V k9).2.2.2.1 (gaS G Kn oo V k9).2.2.2.2 k9) (bgC V cap) ≤ wcC (gaV G Kn oo V) (bgC V cap) ∧ wcZ (aeV G (gaS G Kn oo V k9).1 (gaS G Kn oo V k9).2.1 (gaS G Kn oo V k9).2.2.1 (gaS G Kn oo V k9).2.2.2.1 (gaS G Kn oo V k9).2.2.2.2 k9) (bgC V cap) ≤ wcZ (gaV G Kn oo V) (bgC V cap) := lS1
          refine ⟨rfl, F1, j, pk, pl, me, a, d1, (gaS G Kn oo V k9).1, bgC V cap, (gaS G Kn oo V k9).2.1, i, A, X, G, T, H, W, (gaS G Kn oo V k9).2.2.1, (gaS G Kn oo V k9).2.2.2.1, (gaS G Kn oo V k9).2.2.2.2, k9, ⟨hPG1, hS, z, rfl, fun q hq => by have := gaS_cu k9 q hq; omega⟩, by unfold gaC; omega, by unfold gaZ; omega, fun S2 hS2 => ?_⟩
          obtain ⟨F2, d2, q1, q2, q3, q4⟩ := hS2
          refine ⟨1000 + (G.n - (k9 + 1)), by omega, k9 + 1, z, rfl, by rw [nI_1], rfl, ?_⟩
          rw [eS]
          refine ⟨⟨F2, d2, q1, fun b hb => (q2 b (p3.1 b hb).1).trans (p2 b hb), p3.trN q3 (fun b hb q => by rw [← p2 b hb]; exact q), q4⟩, ?_, ?_⟩
          · show _ = wcC (aeV G (gaS G Kn oo V k9).1 (gaS G Kn oo V k9).2.1 (gaS G Kn oo V k9).2.2.1 (gaS G Kn oo V k9).2.2.2.1 (gaS G Kn oo V k9).2.2.2.2 k9) (bgC V cap)
            omega
          · show _ = wcZ (aeV G (gaS G Kn oo V k9).1 (gaS G Kn oo V k9).2.1 (gaS G Kn oo V k9).2.2.1 (gaS G Kn oo V k9).2.2.2.1 (gaS G Kn oo V k9).2.2.2.2 k9) (bgC V cap)
            omega
    · cases hm
      obtain ⟨k9, hk9, rfl, rfl, rfl, hQ, hcs, hsl⟩ := h
      refine ⟨300, ?_⟩
      show (isO S1 10 w ∧ (((mI S1 1008 w) ≤ (nI k9) → (isO S1 10 w ∧ (isO S1 10 w ∧ (0 = 0 ∧ ((pa (mR S1 1005 w) fun a_1 => ((pa (mR S1 1004 w) fun a_2 => (∃ (r_3 d_4 e_5 nw_6 od_7 : Nat) (R_8 O_9 : List Nat), (Pk S1 a_1 r_3 nw_6 od_7 ∧ By S1 r_3 d_4 R_8 ∧ By S1 a_2 e_5 O_9 ∧ r_3 ≠ a_2 ∧ d_4 ≠ e_5) ∧ cs + (addNC (packV R_8).length (mN S1 e_5) 0 + odC (mN S1 od_7) R_8.length) ≤ gaC G Kn oo V cap (mN S (a 7)) ∧ sl + (addNS (packV R_8).length (mN S1 e_5) 0 + odS (mN S1 od_7) R_8.length) ≤ gaZ G Kn oo V cap (mN S (a 7)) ∧ (∀ (S_10 : MM), (pkP S1 S_10 a_1 a_2 r_3 e_5 nw_6 od_7 R_8) → (([] : List MV) = [] ∧ mret none (sp_wga w b to F j pk pl me a d V cap M i A X G T H W kn kr Kn oo) [.inr (.inr (some w)), .inr (.inr (some b)), .inl to] S none S_10 (cs + (addNC (packV R_8).length (mN S1 e_5) 0 + odC (mN S1 od_7) R_8.length)) (sl + (addNS (packV R_8).length (mN S1 e_5) 0 + odS (mN S1 od_7) R_8.length))))))))))))) ∧ (¬ (mI S1 1008 w) ≤ (nI k9) → (isO S1 10 w ∧ (isO S1 10 w ∧ (pa (mR S1 1007 w) fun a_11 => ∃ v_12 : Int32, (isO S1 17 a_11 ∧ inR S1 a_11 (nI k9) ∧ v_12 = eI S1 a_11 (nI k9).toNatClampNeg ∨ a_11 = (mQ S1).1 ∧ vp_in (nI k9) 16 ∧ v_12 = mRem (nI k9).toNatClampNeg) ∧ (0 = 0 ∧ ((pa (mR S1 1000 w) fun a_13 => (∃ (d_14 : Nat) (B_15 : List Nat), (By S1 a_13 d_14 B_15) ∧ cs + (addNC (vbs 4 v_12).length (mN S1 d_14) B_15.length) ≤ gaC G Kn oo V cap (mN S (a 7)) ∧ sl + (addNS (vbs 4 v_12).length (mN S1 d_14) B_15.length) ≤ gaZ G Kn oo V cap (mN S (a 7)) ∧ (∀ (S_16 : MM), (∃ d', App S1 S_16 a_13 d_14 d' B_15 (vbs 4 v_12)) → (∃ k1, k1 < 100 + ((gaM G Kn oo V).length - k9) ∧ I_ga2 w F j pk pl me a V cap G Kn oo S k1 [(4, .inl ((nI k9) + (1 : Int32))), (0, .inr (.inr (some w)))] [] S_16 (cs + (addNC (vbs 4 v_12).length (mN S1 d_14) B_15.length)) (sl + (addNS (vbs 4 v_12).length (mN S1 d_14) B_15.length))))))))))))))
      obtain ⟨hPG, ob, e1, hKn, n1, n2, n3, rfl, hoo⟩ := hp
      obtain ⟨F1, d1, p1, p2, p3⟩ := hQ
      have hM := p1.2.2.2.2.1
      have m9 : mI S1 1008 w = nI (gaM G Kn oo V).length := hM.2.2.2.2.2.2.2.2.1
      have ml := len_256 hM.2.2.2.2.2.2.2.2.2.1 hM.2.2.2.2.2.2.2.2.2.2.1
      have lA := gaA_le (G := G) (Kn := Kn) (o := oo) (V := V) (cap := bgC V cap) hk9
      have hW := p1.2.2.2.2.2.2.2.2.2.1
      refine ⟨hM.1, ?_⟩
      rw [m9]
      refine if_le (by omega) (by omega) (fun z => ?_) (fun z => ?_)
      · have e9 : k9 = (gaM G Kn oo V).length := by omega
        subst e9
        have hPk := p1.2.2.2.2.2.2.2.2.2.2.2.2
        have c4 := hW 4 (by decide)
        have c5 := hW 5 (by decide)
        have eP : gaA G Kn oo V (gaM G Kn oo V).length = gaP G Kn oo V := rfl
        rw [eP] at c4 c5 hcs hsl
        have d4 : mN S1 (d1 4) = capN (V 4).length (cap 4) 0 := by rw [c4.2.2.2.2, gaP_4]; rfl
        have o7 : mN S1 (a 7) = mN S (a 7) := (p3.1 (a 7) hPG.1.2.2.2.2.2.2.2.2.2.2.2.2.1.2.2.2.2.2.2.1.1).2.2
        have hR : bPuts [] (gaP G Kn oo V 5) = gaR G Kn oo V := rfl
        refine ⟨hM.1, hM.1, rfl, pa_i p1.2.2.2.2.2.2.1 (pa_i (p1.2.2.2.2.2.1 4 (by decide)) ⟨a 5, d1 5, d1 4, a 6, a 7, _, _, ⟨hPk.1, c5.1, c4.1, f_ne c5.2.1 c4.2.1 (by decide), f_ne c5.2.2.1 c4.2.2.1 (by decide)⟩, ?_, ?_, fun S10 hS10 => ?_⟩)⟩
        · rw [hR, d4, o7]; unfold gaC; omega
        · rw [hR, d4, o7]; unfold gaZ; omega
        · rw [hR] at hS10
          obtain ⟨F3, d3, o3, r1, r2, r3, r4⟩ := pw_pack p1 hS10
          rw [eP, gaP_4] at r1
          refine ⟨rfl, trivial, ⟨rfl, F3, d3, o3, r1, fun b hb => (r2 b (p3.1 b hb).1).trans (p2 b hb), p3.trN r3 (fun b hb q => by rw [← p2 b hb]; exact q), by rw [r4, o7]⟩, ?_, ?_⟩
          · show _ ≤ gaC G Kn oo V cap (mN S (a 7))
            rw [hR, d4, o7]; unfold gaC; omega
          · show _ ≤ gaZ G Kn oo V cap (mN S (a 7))
            rw [hR, d4, o7]; unfold gaZ; omega
      · have ec : (nI k9).toNatClampNeg = k9 := nI_clamp (by omega)
        have em : eI S1 me k9 = nI ((gaM G Kn oo V).getD k9 0) := hM.2.2.2.2.2.2.2.2.2.2.2.2 k9 z
        have lA1 := gaA_le (G := G) (Kn := Kn) (o := oo) (V := V) (cap := bgC V cap) (n := k9 + 1) z
        obtain ⟨c1, z1⟩ := WC.cost hW (k := 0) (by decide) (vbs 4 (nI ((gaM G Kn oo V).getD k9 0)))
        have hA : updI (gaA G Kn oo V k9) 0 (gaA G Kn oo V k9 0 ++ vbs 4 (nI ((gaM G Kn oo V).getD k9 0))) = gaA G Kn oo V (k9 + 1) := by
          unfold gaA
          rw [updI_s, updI_updI, mtV, List.append_assoc]
        rw [hA] at c1 z1
        refine ⟨hM.1, hM.1, pa_i hM.2.2.2.2.1 ⟨nI ((gaM G Kn oo V).getD k9 0), Or.inl ⟨hM.2.2.2.2.2.1, ?_, by rw [ec, em]⟩, rfl, pa_i (p1.2.2.2.2.2.1 0 (by decide)) ⟨d1 0, _, (hW 0 (by decide)).1, by unfold gaC; omega, by unfold gaZ; omega, fun S3 hS3 => ?_⟩⟩⟩
        · show vp_in (nI k9) (mN S1 me)
          rw [hM.2.2.2.2.2.2.1]; exact vp_in_nI (by omega) (by decide)
        · obtain ⟨d', ha⟩ := hS3
          obtain ⟨F3, d3, r1, r2, r3, -⟩ := p1.app (k := 0) (by decide) ha
          rw [hA] at r1
          exact ⟨100 + ((gaM G Kn oo V).length - (k9 + 1)), by omega, k9 + 1, z, rfl, by rw [nI_1], rfl, ⟨F3, d3, r1, fun b hb => (r2 b (p3.1 b hb).1).trans (p2 b hb), p3.trN r3 (fun b hb q => by rw [← p2 b hb]; exact q)⟩, by omega, by omega⟩
theorem u_wga (l : Launch) : Us l yX9_gather cX9_gather 6 none 7 162 10 T_wga := by
  intro Rc Rs av S cs sl K Kx h
  unfold T_wga at h
  split at h
  · rename_i w_o b_o to
    obtain ⟨w, rfl, h_1⟩ := pa_of h
    obtain ⟨b, rfl, h_2⟩ := pa_of h_1
    obtain ⟨F, j, pk, pl, me, a, d, V, cap, M, i, A, X, G, T, H, W, kn, kr, Kn, oo, hp, hc, hs, hk⟩ := h_2
    refine ⟨(sp_wga w b to F j pk pl me a d V cap M i A X G T H W kn kr Kn oo), c_wga l w b to F j pk pl me a d V cap M i A X G T H W kn kr Kn oo, fun _ _ h9 => ⟨_, _, h9.1, h9.2.1.1.2.2.2.2.1.1⟩, ⟨rfl, hp⟩, hc, hs, fun S' h8 => by
      obtain ⟨-, h8⟩ := h8
      exact hk _ h8, fun _ _ q => q.elim⟩
  · exact h.elim
