/-! ===== COLUMNS OF BYTES, AND WHO OWNS THEM ===== -/
/-- the column of number k of the owner j: its object a, its row d, the values that came to it; cap: its places when it was empty -/
def Col (S : MM) (F : Nat → Nat × Nat) (j k a d : Nat) (vs : List Int32) (cap : Nat) : Prop := By S a d (bPuts [] vs) ∧ F a = (j, 40 + 2 * k) ∧ F d = (j, 41 + 2 * k) ∧ mI S 202 a = (if vs.length ≤ 32768 then 0 else 1) ∧ mN S d = capN vs.length cap 0
theorem Col.keep {P : Nat → Prop} {S S' : MM} {F F' : Nat → Nat × Nat} {j k a d : Nat} {vs : List Int32} {cap : Nat} (h : Col S F j k a d vs cap) (hk : Keep P S S') (ha : ¬ P a) (hd : ¬ P d) (hf : ∀ b, b ∈ mL S → F' b = F b) : Col S' F' j k a d vs cap := by
  obtain ⟨h1, h2, h3, h4, h5⟩ := h
  exact ⟨h1.keep hk ha hd, (hf a h1.1.1).trans h2, (hf d h1.2.2.1.1).trans h3, ((hk.2.1 a h1.1.1 ha).1 202).trans h4, (hk.1 d h1.2.2.1.1).2.2.trans h5⟩
theorem Col.app {S S' : MM} {F : Nat → Nat × Nat} {j k a d d' : Nat} {vs ws : List Int32} {cap : Nat} (h : Col S F j k a d vs cap) (ha : App S S' a d d' (bPuts [] vs) ws) (hF : FO S F) : ∃ F', Col S' F' j k a d' (vs ++ ws) cap ∧ FO S' F' ∧ (∀ b, b ∈ mL S → F' b = F b) ∧ Keep (fun b => F b = (j, 40 + 2 * k) ∨ F b = (j, 41 + 2 * k)) S S' := by
  obtain ⟨h1, h2, h3, h4, h5⟩ := h
  obtain ⟨a1, a2, a3, a4, a5⟩ := ha
  have hl : (bPuts [] vs).length = lenN vs.length 0 := bPuts_len (by decide)
  have hf : ∀ b, b ∈ mL S → (if b = d' then (j, 41 + 2 * k) else F b) = F b := fun b hb => by
    by_cases q : b = d'
    · rw [if_pos q]
      rcases a3 with w | w
      · rw [q, w, h3]
      · exact absurd (q ▸ hb) w
    · rw [if_neg q]
  refine ⟨fun b => if b = d' then (j, 41 + 2 * k) else F b, ⟨?_, (hf a h1.1.1).trans h2, if_pos rfl, ?_, ?_⟩, fun b hb => ?_, hf, a2.mono (fun b _ q => q.imp (fun e => by rw [e, h2]) (fun e => by rw [e, h3]))⟩
  · rw [bPuts_app]; exact a1
  · rw [a4, hl, h4, List.length_append]
    unfold lenN
    by_cases q1 : vs.length ≤ 32768
    · rw [if_pos q1]
      by_cases q2 : vs.length + ws.length ≤ 32768
      · rw [if_pos (by omega), if_pos q2]
      · rw [if_neg (by omega), if_neg q2]
    · rw [if_neg q1, if_neg (show ¬ vs.length + ws.length ≤ 32768 by omega)]
      split <;> rfl
  · rw [a5, hl, h5, List.length_append, capN_add]
  · by_cases q : b = d'
    · rw [q]; exact a1.2.2.1.1
    · have hb : (if b = d' then (j, 41 + 2 * k) else F b) ≠ (0, 0) := hb
      rw [if_neg q] at hb
      exact (a2.1 b (hF b hb)).1
theorem Col.clr {S : MM} {F : Nat → Nat × Nat} {j k a d : Nat} {vs : List Int32} {cap : Nat} (h : Col S F j k a d vs cap) : Col (clr S a) F j k a d [] (mN S d) ∧ Keep (fun b => F b = (j, 40 + 2 * k)) S (clr S a) := by
  obtain ⟨h1, h2, h3, h4, h5⟩ := h
  refine ⟨⟨h1.clear, h2, h3, ?_, rfl⟩, Keep.sI (P := fun b => F b = (j, 40 + 2 * k)) (Keep.sI (P := fun b => F b = (j, 40 + 2 * k)) Keep.rf h2) h2⟩
  show mI (sI (sI S 201 a 0) 202 a 0) 202 a = _
  rw [mI_sI, if_pos ⟨rfl, rfl⟩]
  rfl
/-- the writer's six columns: agents, spans, parents, operations, the packed text, the text -/
def WC (S : MM) (F : Nat → Nat × Nat) (j : Nat) (a d : Nat → Nat) (V : Nat → List Int32) (cap : Nat → Nat) : Prop := ∀ k, k < 6 → Col S F j k (a k) (d k) (V k) (cap k)
def updI (V : Nat → List Int32) (k : Nat) (v : List Int32) : Nat → List Int32 := fun i => if i = k then v else V i
theorem updI_s {V : Nat → List Int32} {k : Nat} {v : List Int32} : updI V k v k = v := if_pos rfl
theorem updI_o {V : Nat → List Int32} {k i : Nat} {v : List Int32} (h : i ≠ k) : updI V k v i = V i := if_neg h
theorem WC.keep {P : Nat → Prop} {S S' : MM} {F F' : Nat → Nat × Nat} {j : Nat} {a d : Nat → Nat} {V : Nat → List Int32} {cap : Nat → Nat} (h : WC S F j a d V cap) (hk : Keep P S S') (hP : ∀ b k, k < 6 → (F b = (j, 40 + 2 * k) ∨ F b = (j, 41 + 2 * k)) → ¬ P b) (hf : ∀ b, b ∈ mL S → F' b = F b) : WC S' F' j a d V cap := fun k hk6 => (h k hk6).keep hk (hP _ k hk6 (Or.inl (h k hk6).2.1)) (hP _ k hk6 (Or.inr (h k hk6).2.2.1)) hf
theorem pr_ne {F : Nat → Nat × Nat} {b j r s : Nat} (h : F b = (j, r)) (hn : r ≠ s) : F b ≠ (j, s) := fun q => by
  rw [h] at q
  injection q with _ q
  exact hn q
theorem WC.app {S S' : MM} {F : Nat → Nat × Nat} {j : Nat} {a d : Nat → Nat} {V : Nat → List Int32} {cap : Nat → Nat} {k d' : Nat} {ws : List Int32} (h : WC S F j a d V cap) (hk6 : k < 6) (ha : App S S' (a k) (d k) d' (bPuts [] (V k)) ws) (hF : FO S F) : ∃ F', WC S' F' j a (updN d k d') (updI V k (V k ++ ws)) cap ∧ FO S' F' ∧ (∀ b, b ∈ mL S → F' b = F b) ∧ Keep (fun b => F b = (j, 40 + 2 * k) ∨ F b = (j, 41 + 2 * k)) S S' := by
  obtain ⟨F', c1, c2, c3, c4⟩ := (h k hk6).app ha hF
  refine ⟨F', fun i hi => ?_, c2, c3, c4⟩
  by_cases q : i = k
  · subst q
    rw [updN_s, updI_s]; exact c1
  · rw [updN_o q, updI_o q]
    refine (h i hi).keep c4 (fun z => ?_) (fun z => ?_) c3
    · exact z.elim (pr_ne (h i hi).2.1 (by omega)) (pr_ne (h i hi).2.1 (by omega))
    · exact z.elim (pr_ne (h i hi).2.2.1 (by omega)) (pr_ne (h i hi).2.2.1 (by omega))
def wcC (V : Nat → List Int32) (cap : Nat → Nat) : Nat := addNC (V 0).length (cap 0) 0 + addNC (V 1).length (cap 1) 0 + addNC (V 2).length (cap 2) 0 + addNC (V 3).length (cap 3) 0 + addNC (V 4).length (cap 4) 0 + addNC (V 5).length (cap 5) 0
def wcZ (V : Nat → List Int32) (cap : Nat → Nat) : Nat := addNS (V 0).length (cap 0) 0 + addNS (V 1).length (cap 1) 0 + addNS (V 2).length (cap 2) 0 + addNS (V 3).length (cap 3) 0 + addNS (V 4).length (cap 4) 0 + addNS (V 5).length (cap 5) 0
theorem Col.costC {S : MM} {F : Nat → Nat × Nat} {j k a d : Nat} {vs : List Int32} {cap : Nat} (h : Col S F j k a d vs cap) (ws : List Int32) : addNC (vs ++ ws).length cap 0 = addNC vs.length cap 0 + addNC ws.length (mN S d) (bPuts [] vs).length := by
  rw [h.2.2.2.2, bPuts_len (by decide), List.length_append, addNC_add]
  rfl
theorem Col.costS {S : MM} {F : Nat → Nat × Nat} {j k a d : Nat} {vs : List Int32} {cap : Nat} (h : Col S F j k a d vs cap) (ws : List Int32) : addNS (vs ++ ws).length cap 0 = addNS vs.length cap 0 + addNS ws.length (mN S d) (bPuts [] vs).length := by
  rw [h.2.2.2.2, bPuts_len (by decide), List.length_append, addNS_add]
  rfl
theorem WC.cost {S : MM} {F : Nat → Nat × Nat} {j : Nat} {a d : Nat → Nat} {V : Nat → List Int32} {cap : Nat → Nat} {k : Nat} (h : WC S F j a d V cap) (hk6 : k < 6) (ws : List Int32) : wcC V cap + addNC ws.length (mN S (d k)) (bPuts [] (V k)).length = wcC (updI V k (V k ++ ws)) cap ∧ wcZ V cap + addNS ws.length (mN S (d k)) (bPuts [] (V k)).length = wcZ (updI V k (V k ++ ws)) cap := by
  have c1 := (h k hk6).costC ws
  have c2 := (h k hk6).costS ws
  have hu : ∀ i, (updI V k (V k ++ ws) i) = if i = k then V k ++ ws else V i := fun i => rfl
  unfold wcC wcZ
  rw [hu 0, hu 1, hu 2, hu 3, hu 4, hu 5]
  have hk : k = 0 ∨ k = 1 ∨ k = 2 ∨ k = 3 ∨ k = 4 ∨ k = 5 := by omega
  rcases hk with rfl | rfl | rfl | rfl | rfl | rfl <;> simp (decide := true) only [if_true, if_false] <;> (rw [c1, c2]; omega)
theorem wcC_mono {V V' : Nat → List Int32} {cap : Nat → Nat} (h : ∀ k, (V k).length ≤ (V' k).length) : wcC V cap ≤ wcC V' cap ∧ wcZ V cap ≤ wcZ V' cap := by
  have c := fun k => addNC_mono (cap k) 0 (h k)
  have z := fun k => addNS_mono (cap k) 0 (h k)
  unfold wcC wcZ
  have := c 0; have := c 1; have := c 2; have := c 3; have := c 4; have := c 5
  have := z 0; have := z 1; have := z 2; have := z 3; have := z 4; have := z 5
  omega
/-! ===== PatchWriter.placeOf ===== -/
/-- the agents that the writer has met, in their order: the rows pl (places) and me -/
def MetR (S : MM) (w pl me : Nat) (M : List Nat) : Prop := isO S 10 w ∧ mR S 1006 w = some pl ∧ isO S 17 pl ∧ mN S pl = 256 ∧ mR S 1007 w = some me ∧ isO S 17 me ∧ mN S me = 256 ∧ pl ≠ me ∧ mI S 1008 w = nI M.length ∧ M.Nodup ∧ (∀ x ∈ M, x < 256) ∧ (∀ x, x < 256 → eI S pl x = if x ∈ M then nI (M.idxOf x) else -1) ∧ ∀ k, k < M.length → eI S me k = nI (M.getD k 0)
def madd (M : List Nat) (x : Nat) : List Nat := if x ∈ M then M else M ++ [x]
theorem len_256 {M : List Nat} (h : M.Nodup) (hb : ∀ x ∈ M, x < 256) : M.length ≤ 256 := by
  have h1 : M.length = ((List.range 256).filter (fun x => decide (x ∈ M))).length := nodup_len h (List.Nodup.sublist List.filter_sublist List.nodup_range) (fun x => by
    rw [List.mem_filter, List.mem_range, decide_eq_true_iff]
    exact ⟨fun q => ⟨hb x q, q⟩, fun q => q.2⟩)
  have h2 := List.length_filter_le (fun x => decide (x ∈ M)) (List.range 256)
  rw [List.length_range] at h2
  omega
theorem len_255 {M : List Nat} (h : M.Nodup) (hb : ∀ x ∈ M, x < 256) {x : Nat} (hx : x < 256) (hn : x ∉ M) : M.length < 256 := by
  have := len_256 (M := x :: M) (List.nodup_cons.2 ⟨hn, h⟩) (fun y hy => (List.mem_cons.1 hy).elim (fun e => e ▸ hx) (hb y))
  rw [List.length_cons] at this
  omega
def mtP (S S' : MM) (w pl me : Nat) (M : List Nat) (x : Nat) : Prop := MetR S' w pl me (madd M x) ∧ Keep (fun b => b = w ∨ b = pl ∨ b = me) S S' ∧ (∀ j, j ≠ 1008 → mI S' j w = mI S j w) ∧ ∀ j, mR S' j w = mR S j w
def T_wpl : TR := fun Rc Rs av S cs sl K _Kx => match av with
  | [.inr (.inr w_o), .inl x_v] => pa w_o fun w => (∃ (x : Nat), x_v = nI x ∧ (∃ (pl me : Nat) (M : List Nat), (MetR S w pl me M ∧ x < 256) ∧ cs ≤ Rc ∧ sl ≤ Rs ∧ (∀ (S' : MM), (mtP S S' w pl me M x) → K (some (.inl (nI (M.idxOf x)))) S' cs sl)))
  | _ => False
def sp_wpl (w : Nat) (x : Nat) (pl me : Nat) (M : List Nat) : Sp := (fun av S => av = [.inr (.inr (some w)), .inl (nI x)] ∧ (MetR S w pl me M ∧ x < 256), fun _ S => 0, fun _ S => 0, fun _ S rv S' => rv = (some (.inl (nI (M.idxOf x)))) ∧ (mtP S S' w pl me M x), fun _ _ _ _ => False)
def tX9_placeOf : CD := [(0, .aload_n 0), (1, .getfield 30), (4, .iload_n 1), (5, .iaload), (6, .iconst (-1)), (7, .if_icmp .ne 33), (10, .aload_n 0), (11, .getfield 30), (14, .iload_n 1), (15, .aload_n 0), (16, .getfield 37), (19, .iastore), (20, .aload_n 0), (21, .getfield 34), (24, .aload_n 0), (25, .getfield 37), (28, .iload_n 1), (29, .iastore), (30, .aload_n 0), (31, .dup), (32, .getfield 37), (35, .iconst 1), (36, .iadd), (37, .putfield 37), (40, .aload_n 0), (41, .getfield 30), (44, .iload_n 1), (45, .iaload), (46, .ireturn)]
set_option maxRecDepth 100000 in
theorem kX9_placeOf : chk cX9_placeOf tX9_placeOf = true := by decide +kernel

set_option maxRecDepth 100000 in
set_option maxHeartbeats 2000000 in
theorem c_wpl (l : Launch) : ∀ (w : Nat) (x : Nat) (pl me : Nat) (M : List Nat), Ct l yX9_placeOf cX9_placeOf 2 (some .int) 0 0 (sp_wpl w x pl me M) := by
  intro w x pl me M
  refine Ct.of (fX9, nX9, aX9, iX9, lX9, [], qX9, gX9, []) false tX9_placeOf (fun _ _ _ => none) (by decide) (by decide) kX9_placeOf ⟨_, _, rfl⟩ fX9_ok nX9_ok aX9_ok iX9_ok lX9_ok (fun _ _ _ _ _ _ _ _ _ _ _ _ _ _ _ _ _ _ => no_all) qX9_ok gX9_ok rfl ?_ ?_
  · rintro _ S ⟨rfl, hp⟩
    refine ⟨Nat.le_of_ble_eq_true rfl, 300, ?_⟩
    show (isO S 10 w ∧ (pa (mR S 1006 w) fun a_1 => ∃ v_2 : Int32, (isO S 17 a_1 ∧ inR S a_1 (nI x) ∧ v_2 = eI S a_1 (nI x).toNatClampNeg ∨ a_1 = (mQ S).1 ∧ vp_in (nI x) 16 ∧ v_2 = mRem (nI x).toNatClampNeg) ∧ ((¬ v_2 = (-1 : Int32) → (isO S 10 w ∧ (pa (mR S 1006 w) fun a_3 => ∃ v_4 : Int32, (isO S 17 a_3 ∧ inR S a_3 (nI x) ∧ v_4 = eI S a_3 (nI x).toNatClampNeg ∨ a_3 = (mQ S).1 ∧ vp_in (nI x) 16 ∧ v_4 = mRem (nI x).toNatClampNeg) ∧ (([] : List MV) = [] ∧ mret (some .int) (sp_wpl w x pl me M) [.inr (.inr (some w)), .inl (nI x)] S (some (.inl v_4)) S 0 0)))) ∧ (v_2 = (-1 : Int32) → (isO S 10 w ∧ (isO S 10 w ∧ (pa (mR S 1006 w) fun a_5 => isO S 17 a_5 ∧ inR S a_5 (nI x) ∧ (isO (rI S a_5 (upd (eI S a_5) (nI x).toNatClampNeg (mI S 1008 w))) 10 w ∧ (isO (rI S a_5 (upd (eI S a_5) (nI x).toNatClampNeg (mI S 1008 w))) 10 w ∧ (pa (mR (rI S a_5 (upd (eI S a_5) (nI x).toNatClampNeg (mI S 1008 w))) 1007 w) fun a_6 => isO (rI S a_5 (upd (eI S a_5) (nI x).toNatClampNeg (mI S 1008 w))) 17 a_6 ∧ inR (rI S a_5 (upd (eI S a_5) (nI x).toNatClampNeg (mI S 1008 w))) a_6 (mI (rI S a_5 (upd (eI S a_5) (nI x).toNatClampNeg (mI S 1008 w))) 1008 w) ∧ (isO (rI (rI S a_5 (upd (eI S a_5) (nI x).toNatClampNeg (mI S 1008 w))) a_6 (upd (eI (rI S a_5 (upd (eI S a_5) (nI x).toNatClampNeg (mI S 1008 w))) a_6) (mI (rI S a_5 (upd (eI S a_5) (nI x).toNatClampNeg (mI S 1008 w))) 1008 w).toNatClampNeg (nI x))) 10 w ∧ (True ∧ (isO (rI (rI S a_5 (upd (eI S a_5) (nI x).toNatClampNeg (mI S 1008 w))) a_6 (upd (eI (rI S a_5 (upd (eI S a_5) (nI x).toNatClampNeg (mI S 1008 w))) a_6) (mI (rI S a_5 (upd (eI S a_5) (nI x).toNatClampNeg (mI S 1008 w))) 1008 w).toNatClampNeg (nI x))) 10 w ∧ (isO (sI (rI (rI S a_5 (upd (eI S a_5) (nI x).toNatClampNeg (mI S 1008 w))) a_6 (upd (eI (rI S a_5 (upd (eI S a_5) (nI x).toNatClampNeg (mI S 1008 w))) a_6) (mI (rI S a_5 (upd (eI S a_5) (nI x).toNatClampNeg (mI S 1008 w))) 1008 w).toNatClampNeg (nI x))) 1008 w ((mI (rI (rI S a_5 (upd (eI S a_5) (nI x).toNatClampNeg (mI S 1008 w))) a_6 (upd (eI (rI S a_5 (upd (eI S a_5) (nI x).toNatClampNeg (mI S 1008 w))) a_6) (mI (rI S a_5 (upd (eI S a_5) (nI x).toNatClampNeg (mI S 1008 w))) 1008 w).toNatClampNeg (nI x))) 1008 w) + (1 : Int32))) 10 w ∧ (pa (mR (sI (rI (rI S a_5 (upd (eI S a_5) (nI x).toNatClampNeg (mI S 1008 w))) a_6 (upd (eI (rI S a_5 (upd (eI S a_5) (nI x).toNatClampNeg (mI S 1008 w))) a_6) (mI (rI S a_5 (upd (eI S a_5) (nI x).toNatClampNeg (mI S 1008 w))) 1008 w).toNatClampNeg (nI x))) 1008 w ((mI (rI (rI S a_5 (upd (eI S a_5) (nI x).toNatClampNeg (mI S 1008 w))) a_6 (upd (eI (rI S a_5 (upd (eI S a_5) (nI x).toNatClampNeg (mI S 1008 w))) a_6) (mI (rI S a_5 (upd (eI S a_5) (nI x).toNatClampNeg (mI S 1008 w))) 1008 w).toNatClampNeg (nI x))) 1008 w) + (1 : Int32))) 1006 w) fun a_7 => ∃ v_8 : Int32, (isO (sI (rI (rI S a_5 (upd (eI S a_5) (nI x).toNatClampNeg (mI S 1008 w))) a_6 (upd (eI (rI S a_5 (upd (eI S a_5) (nI x).toNatClampNeg (mI S 1008 w))) a_6) (mI (rI S a_5 (upd (eI S a_5) (nI x).toNatClampNeg (mI S 1008 w))) 1008 w).toNatClampNeg (nI x))) 1008 w ((mI (rI (rI S a_5 (upd (eI S a_5) (nI x).toNatClampNeg (mI S 1008 w))) a_6 (upd (eI (rI S a_5 (upd (eI S a_5) (nI x).toNatClampNeg (mI S 1008 w))) a_6) (mI (rI S a_5 (upd (eI S a_5) (nI x).toNatClampNeg (mI S 1008 w))) 1008 w).toNatClampNeg (nI x))) 1008 w) + (1 : Int32))) 17 a_7 ∧ inR (sI (rI (rI S a_5 (upd (eI S a_5) (nI x).toNatClampNeg (mI S 1008 w))) a_6 (upd (eI (rI S a_5 (upd (eI S a_5) (nI x).toNatClampNeg (mI S 1008 w))) a_6) (mI (rI S a_5 (upd (eI S a_5) (nI x).toNatClampNeg (mI S 1008 w))) 1008 w).toNatClampNeg (nI x))) 1008 w ((mI (rI (rI S a_5 (upd (eI S a_5) (nI x).toNatClampNeg (mI S 1008 w))) a_6 (upd (eI (rI S a_5 (upd (eI S a_5) (nI x).toNatClampNeg (mI S 1008 w))) a_6) (mI (rI S a_5 (upd (eI S a_5) (nI x).toNatClampNeg (mI S 1008 w))) 1008 w).toNatClampNeg (nI x))) 1008 w) + (1 : Int32))) a_7 (nI x) ∧ v_8 = eI (sI (rI (rI S a_5 (upd (eI S a_5) (nI x).toNatClampNeg (mI S 1008 w))) a_6 (upd (eI (rI S a_5 (upd (eI S a_5) (nI x).toNatClampNeg (mI S 1008 w))) a_6) (mI (rI S a_5 (upd (eI S a_5) (nI x).toNatClampNeg (mI S 1008 w))) 1008 w).toNatClampNeg (nI x))) 1008 w ((mI (rI (rI S a_5 (upd (eI S a_5) (nI x).toNatClampNeg (mI S 1008 w))) a_6 (upd (eI (rI S a_5 (upd (eI S a_5) (nI x).toNatClampNeg (mI S 1008 w))) a_6) (mI (rI S a_5 (upd (eI S a_5) (nI x).toNatClampNeg (mI S 1008 w))) 1008 w).toNatClampNeg (nI x))) 1008 w) + (1 : Int32))) a_7 (nI x).toNatClampNeg ∨ a_7 = (mQ (sI (rI (rI S a_5 (upd (eI S a_5) (nI x).toNatClampNeg (mI S 1008 w))) a_6 (upd (eI (rI S a_5 (upd (eI S a_5) (nI x).toNatClampNeg (mI S 1008 w))) a_6) (mI (rI S a_5 (upd (eI S a_5) (nI x).toNatClampNeg (mI S 1008 w))) 1008 w).toNatClampNeg (nI x))) 1008 w ((mI (rI (rI S a_5 (upd (eI S a_5) (nI x).toNatClampNeg (mI S 1008 w))) a_6 (upd (eI (rI S a_5 (upd (eI S a_5) (nI x).toNatClampNeg (mI S 1008 w))) a_6) (mI (rI S a_5 (upd (eI S a_5) (nI x).toNatClampNeg (mI S 1008 w))) 1008 w).toNatClampNeg (nI x))) 1008 w) + (1 : Int32)))).1 ∧ vp_in (nI x) 16 ∧ v_8 = mRem (nI x).toNatClampNeg) ∧ (([] : List MV) = [] ∧ mret (some .int) (sp_wpl w x pl me M) [.inr (.inr (some w)), .inl (nI x)] S (some (.inl v_8)) (sI (rI (rI S a_5 (upd (eI S a_5) (nI x).toNatClampNeg (mI S 1008 w))) a_6 (upd (eI (rI S a_5 (upd (eI S a_5) (nI x).toNatClampNeg (mI S 1008 w))) a_6) (mI (rI S a_5 (upd (eI S a_5) (nI x).toNatClampNeg (mI S 1008 w))) 1008 w).toNatClampNeg (nI x))) 1008 w ((mI (rI (rI S a_5 (upd (eI S a_5) (nI x).toNatClampNeg (mI S 1008 w))) a_6 (upd (eI (rI S a_5 (upd (eI S a_5) (nI x).toNatClampNeg (mI S 1008 w))) a_6) (mI (rI S a_5 (upd (eI S a_5) (nI x).toNatClampNeg (mI S 1008 w))) 1008 w).toNatClampNeg (nI x))) 1008 w) + (1 : Int32))) 0 0))))))))))))))))
    obtain ⟨⟨m1, m2, m3, m4, m5, m6, m7, m8, m9, nd, lt, p1, p2⟩, hx⟩ := hp
    have ec : (nI x).toNatClampNeg = x := nI_clamp (by omega)
    have hl := len_256 nd lt
    rw [ec]
    have hin : inR S pl (nI x) := by
      show vp_in (nI x) (mN S pl)
      rw [m4]; exact vp_in_nI hx (by decide)
    have px := p1 x hx
    refine ⟨m1, pa_i m2 ⟨eI S pl x, Or.inl ⟨m3, hin, rfl⟩, fun z => ⟨m1, pa_i m2 ⟨eI S pl x, Or.inl ⟨m3, hin, rfl⟩, rfl, trivial, ⟨?_, ?_⟩, Nat.le_refl _, Nat.le_refl _⟩⟩, fun z => ?_⟩⟩
    · by_cases q : x ∈ M
      · rw [px, if_pos q]
      · rw [if_neg q] at px; exact absurd px z
    · have q : x ∈ M := by
        by_cases q : x ∈ M
        · exact q
        · rw [if_neg q] at px; exact absurd px z
      refine ⟨?_, Keep.rf, fun _ _ => rfl, fun _ => rfl⟩
      rw [madd, if_pos q]
      exact ⟨m1, m2, m3, m4, m5, m6, m7, m8, m9, nd, lt, p1, p2⟩
    · have q : x ∉ M := fun q => by
        rw [if_pos q] at px
        have hi : M.idxOf x < M.length := List.idxOf_lt_length_of_mem q
        have w := nI_pos (n := M.idxOf x) (by omega)
        rw [← px, z] at w
        exact absurd (by decide) w
      have hl5 := len_255 nd lt hx q
      have hid : M.idxOf x = M.length := List.idxOf_eq_length q
      have el : (mI S 1008 w).toNatClampNeg = M.length := by rw [m9, nI_clamp (by omega)]
      have e1 : eI (rI S pl (upd (eI S pl) x (mI S 1008 w))) me = eI S me := va_up_ne _ _ (Ne.symm m8)
      refine ⟨m1, m1, pa_i m2 ⟨m3, hin, isO_rI m1, isO_rI m1, pa_i (show mR (rI S pl (upd (eI S pl) x (mI S 1008 w))) 1007 w = some me from m5) ⟨isO_rI m6, ?_, isO_rI (isO_rI m1), trivial, isO_rI (isO_rI m1), isO_sI (isO_rI (isO_rI m1)), ?_⟩⟩⟩
      · show vp_in (mI S 1008 w) (mN S me)
        rw [m9, m7]; exact vp_in_nI hl5 (by decide)
      · rw [e1, show (mI (rI S pl (upd (eI S pl) x (mI S 1008 w))) 1008 w).toNatClampNeg = M.length from el]
        have e2 : eI (rI (rI S pl (upd (eI S pl) x (mI S 1008 w))) me (upd (eI S me) M.length (nI x))) pl = upd (eI S pl) x (mI S 1008 w) := (va_up_ne _ _ m8).trans (va_up_self _ _ _)
        have e3 : eI (rI (rI S pl (upd (eI S pl) x (mI S 1008 w))) me (upd (eI S me) M.length (nI x))) me = upd (eI S me) M.length (nI x) := va_up_self _ _ _
        have e4 : mI (rI (rI S pl (upd (eI S pl) x (mI S 1008 w))) me (upd (eI S me) M.length (nI x))) = mI S := rfl
        have e5 : mR (rI (rI S pl (upd (eI S pl) x (mI S 1008 w))) me (upd (eI S me) M.length (nI x))) = mR S := rfl
        have k1 : Keep (fun b => b = w ∨ b = pl ∨ b = me) S (rI (rI S pl (upd (eI S pl) x (mI S 1008 w))) me (upd (eI S me) M.length (nI x))) := Keep.rI (P := fun b => b = w ∨ b = pl ∨ b = me) (Keep.rI (P := fun b => b = w ∨ b = pl ∨ b = me) Keep.rf (Or.inr (Or.inl rfl))) (Or.inr (Or.inr rfl))
        generalize rI (rI S pl (upd (eI S pl) x (mI S 1008 w))) me (upd (eI S me) M.length (nI x)) = S2 at *
        rw [e4, m9, nI_1]
        have k2 : Keep (fun b => b = w ∨ b = pl ∨ b = me) S (sI S2 1008 w (nI (M.length + 1))) := Keep.sI (P := fun b => b = w ∨ b = pl ∨ b = me) k1 (Or.inl rfl)
        have r2 : ∀ j, mR (sI S2 1008 w (nI (M.length + 1))) j w = mR S j w := fun j => by rw [mR_sI, e5]
        have i2 : ∀ j, j ≠ 1008 → mI (sI S2 1008 w (nI (M.length + 1))) j w = mI S j w := fun j hj => by rw [mI_sI, if_neg (fun z => hj z.1), e4]
        have ep : eI (sI S2 1008 w (nI (M.length + 1))) pl = upd (eI S pl) x (nI M.length) := by rw [eI_sI, e2, m9]
        have em : eI (sI S2 1008 w (nI (M.length + 1))) me = upd (eI S me) M.length (nI x) := by rw [eI_sI, e3]
        have i8 : mI (sI S2 1008 w (nI (M.length + 1))) 1008 w = nI (M.length + 1) := by rw [mI_sI, if_pos ⟨rfl, rfl⟩]
        generalize sI S2 1008 w (nI (M.length + 1)) = S3 at *
        refine pa_i ((r2 1006).trans m2) ⟨eI S3 pl x, Or.inl ⟨k2.isO m3, ?_, rfl⟩, rfl, trivial, ⟨?_, ⟨k2.isO m1, (r2 1006).trans m2, k2.isO m3, (k2.1 pl m3.1).2.2.trans m4, (r2 1007).trans m5, k2.isO m6, (k2.1 me m6.1).2.2.trans m7, m8, ?_, ?_, ?_, fun y hy => ?_, fun j hj => ?_⟩, k2, i2, r2⟩, Nat.le_refl _, Nat.le_refl _⟩
        · show vp_in (nI x) (mN S3 pl)
          rw [(k2.1 pl m3.1).2.2, m4]; exact vp_in_nI hx (by decide)
        · rw [ep, hid, show upd (eI S pl) x (nI M.length) x = nI M.length from if_pos rfl]
        · rw [i8, madd, if_neg q, List.length_append, List.length_singleton]
        · rw [madd, if_neg q]
          exact List.nodup_append.2 ⟨nd, List.nodup_cons.2 ⟨List.not_mem_nil, List.nodup_nil⟩, fun y hy y2 hy2 e9 => q (by rw [List.mem_singleton] at hy2; rw [← hy2, ← e9]; exact hy)⟩
        · rw [madd, if_neg q]
          intro y hy
          rcases List.mem_append.1 hy with w9 | w9
          · exact lt y w9
          · rw [List.mem_singleton.1 w9]; exact hx
        · rw [madd, if_neg q, ep]
          by_cases yx : y = x
          · subst yx
            rw [show upd (eI S pl) y (nI M.length) y = nI M.length from if_pos rfl, if_pos (List.mem_append_right _ (List.mem_singleton.2 rfl)), List.idxOf_append, if_neg q, List.idxOf_cons_self, Nat.add_comm]
            rfl
          · rw [show upd (eI S pl) x (nI M.length) y = eI S pl y from if_neg yx, p1 y hy]
            by_cases ym : y ∈ M
            · rw [if_pos ym, if_pos (List.mem_append_left _ ym), List.idxOf_append, if_pos ym]
            · rw [if_neg ym, if_neg (fun z9 => (List.mem_append.1 z9).elim ym (fun z8 => yx (List.mem_singleton.1 z8)))]
        · rw [madd, if_neg q] at hj ⊢
          rw [List.length_append, List.length_singleton] at hj
          rw [em]
          by_cases jl : j = M.length
          · rw [show upd (eI S me) M.length (nI x) j = nI x from if_pos jl, jl, List.getD_eq_getElem?_getD, List.getElem?_concat_length]
            rfl
          · rw [show upd (eI S me) M.length (nI x) j = eI S me j from if_neg jl, p2 j (by omega), List.getD_eq_getElem?_getD, List.getD_eq_getElem?_getD, List.getElem?_append_left (by omega)]
  · exact fun _ _ _ _ _ h => by cases h
theorem u_wpl (l : Launch) : Us l yX9_placeOf cX9_placeOf 2 (some .int) 0 0 10 T_wpl := by
  intro Rc Rs av S cs sl K Kx h
  unfold T_wpl at h
  split at h
  · rename_i w_o x_v
    obtain ⟨w, rfl, h_1⟩ := pa_of h
    obtain ⟨x, rfl, h_2⟩ := h_1
    obtain ⟨pl, me, M, hp, hc, hs, hk⟩ := h_2
    refine ⟨(sp_wpl w x pl me M), c_wpl l w x pl me M, fun _ _ h9 => ⟨_, _, h9.1, h9.2.1.1⟩, ⟨rfl, hp⟩, hc, hs, fun v9 S' h8 => by
      obtain ⟨h7, h8⟩ := h8
      cases h7
      exact hk _ h8, fun _ _ q => q.elim⟩
  · exact h.elim
