/-! ===== BYTES COME TO A ROW, ONE BY ONE: length, capacity, cost ===== -/
def lenN (n len : Nat) : Nat := min (len + n) 32768
def capN : Nat → Nat → Nat → Nat
  | 0, cap, _ => cap
  | n + 1, cap, len => if lenN n len = capN n cap len ∧ lenN n len < 32768 then 2 * capN n cap len else capN n cap len
def addNC : Nat → Nat → Nat → Nat
  | 0, _, _ => 0
  | n + 1, cap, len => addNC n cap len + (if lenN n len = capN n cap len ∧ lenN n len < 32768 then 1 else 0)
def addNS : Nat → Nat → Nat → Nat
  | 0, _, _ => 0
  | n + 1, cap, len => addNS n cap len + (if lenN n len = capN n cap len ∧ lenN n len < 32768 then 2 * capN n cap len else 0)
theorem lenN_add (n m len : Nat) : lenN (n + m) len = lenN m (lenN n len) := by unfold lenN; omega
theorem capN_add (n cap len : Nat) : ∀ m, capN (n + m) cap len = capN m (capN n cap len) (lenN n len)
  | 0 => rfl
  | m + 1 => by
    show (if lenN (n + m) len = capN (n + m) cap len ∧ lenN (n + m) len < 32768 then 2 * capN (n + m) cap len else capN (n + m) cap len) = _
    rw [capN_add n cap len m, lenN_add]
    rfl
theorem addNC_add (n cap len : Nat) : ∀ m, addNC (n + m) cap len = addNC n cap len + addNC m (capN n cap len) (lenN n len)
  | 0 => rfl
  | m + 1 => by
    show addNC (n + m) cap len + (if lenN (n + m) len = capN (n + m) cap len ∧ lenN (n + m) len < 32768 then 1 else 0) = _
    rw [addNC_add n cap len m, capN_add, lenN_add, Nat.add_assoc]
    rfl
theorem addNS_add (n cap len : Nat) : ∀ m, addNS (n + m) cap len = addNS n cap len + addNS m (capN n cap len) (lenN n len)
  | 0 => rfl
  | m + 1 => by
    show addNS (n + m) cap len + (if lenN (n + m) len = capN (n + m) cap len ∧ lenN (n + m) len < 32768 then 2 * capN (n + m) cap len else 0) = _
    rw [addNS_add n cap len m, capN_add, lenN_add, Nat.add_assoc]
    rfl
theorem addNC_mono {n m : Nat} (cap len : Nat) (h : n ≤ m) : addNC n cap len ≤ addNC m cap len := by
  obtain ⟨k, rfl⟩ := Nat.exists_eq_add_of_le h
  rw [addNC_add]
  exact Nat.le_add_right _ _
theorem addNS_mono {n m : Nat} (cap len : Nat) (h : n ≤ m) : addNS n cap len ≤ addNS m cap len := by
  obtain ⟨k, rfl⟩ := Nat.exists_eq_add_of_le h
  rw [addNS_add]
  exact Nat.le_add_right _ _
def bPuts (B : List Nat) (vs : List Int32) : List Nat := vs.foldl bPut B
theorem bPut_len {B : List Nat} {v : Int32} (h : B.length ≤ 32768) : (bPut B v).length = lenN 1 B.length := by
  unfold bPut lenN
  split
  · rw [List.length_append, List.length_singleton]; omega
  · omega
theorem bPuts_len : ∀ {vs : List Int32} {B : List Nat}, B.length ≤ 32768 → (bPuts B vs).length = lenN vs.length B.length
  | [], B, h => by show B.length = lenN 0 B.length; unfold lenN; omega
  | v :: vs, B, h => by
    have e := bPut_len (v := v) h
    show (bPuts (bPut B v) vs).length = _
    rw [bPuts_len (by rw [e]; unfold lenN; omega), e, ← lenN_add, Nat.add_comm]
    rfl
theorem bPuts_snoc (B : List Nat) (vs : List Int32) (v : Int32) : bPuts B (vs ++ [v]) = bPut (bPuts B vs) v := by unfold bPuts; rw [List.foldl_append]; rfl
theorem bPuts_app (B : List Nat) (vs ws : List Int32) : bPuts B (vs ++ ws) = bPuts (bPuts B vs) ws := by unfold bPuts; rw [List.foldl_append]
/-- where there is room for all, they come behind -/
theorem bPuts_fit : ∀ {vs : List Int32} {B : List Nat}, B.length + vs.length ≤ 32768 → bPuts B vs = B ++ vs.map b8
  | [], B, _ => by simp [bPuts]
  | v :: vs, B, h => by
    show bPuts (bPut B v) vs = _
    rw [List.length_cons] at h
    have e : bPut B v = B ++ [b8 v] := by rw [bPut, if_pos (by omega)]
    rw [e, bPuts_fit (by rw [List.length_append, List.length_singleton]; omega), List.map_cons, List.append_assoc]
    rfl
/-- S' is S with the bytes of vs come to the object a (its row was d, it is d') -/
def App (S S' : MM) (a d d' : Nat) (B : List Nat) (vs : List Int32) : Prop := By S' a d' (bPuts B vs) ∧ Keep (fun b => b = a ∨ b = d) S S' ∧ (d' = d ∨ d' ∉ mL S) ∧ mI S' 202 a = (if B.length + vs.length ≤ 32768 then mI S 202 a else 1) ∧ mN S' d' = capN vs.length (mN S d) B.length
theorem App.nil {S : MM} {a d : Nat} {B : List Nat} (h : By S a d B) : App S S a d d B [] := ⟨h, Keep.rf, Or.inl rfl, by rw [if_pos (by have := h.len; simpa using this)], rfl⟩
theorem App.app {S S1 S2 : MM} {a d d1 d2 : Nat} {B : List Nat} {vs ws : List Int32} (hB : B.length ≤ 32768) (h1 : App S S1 a d d1 B vs) (h2 : App S1 S2 a d1 d2 (bPuts B vs) ws) : App S S2 a d d2 B (vs ++ ws) := by
  obtain ⟨a1, a2, a3, a4, a5⟩ := h1
  obtain ⟨b1, b2, b3, b4, b5⟩ := h2
  have hl := bPuts_len (vs := vs) hB
  refine ⟨by rw [bPuts_app]; exact b1, a2.trN b2 (fun b hb hq => hq.elim Or.inl (fun e => a3.elim (fun e2 => Or.inr (e.trans e2)) (fun hn => absurd (e ▸ hb) hn))), ?_, ?_, by rw [b5, a5, hl, List.length_append, capN_add]⟩
  · rcases b3 with b3 | b3
    · rw [b3]; exact a3
    · exact Or.inr (fun h => b3 (a2.1 _ h).1)
  · rw [b4, a4, hl, List.length_append]
    unfold lenN
    by_cases q1 : B.length + vs.length ≤ 32768
    · rw [if_pos q1]
      by_cases q2 : B.length + (vs.length + ws.length) ≤ 32768
      · rw [if_pos q2, if_pos (by omega)]
      · rw [if_neg q2, if_neg (by omega)]
    · rw [if_neg q1, if_neg (show ¬ B.length + (vs.length + ws.length) ≤ 32768 by omega)]
      split <;> rfl
/-- what add gives -/
theorem App.one {S S' : MM} {a d : Nat} {B : List Nat} {v : Int32} {r : Option MV} (hB : By S a d B) (h : sp_add.2.2.2.1 [.inr (.inr (some a)), .inl v] S r S') : ∃ d', App S S' a d d' B [v] := by
  obtain ⟨-, h⟩ := h
  obtain ⟨d', h1, h2, h3, h4, h5⟩ := h a v d B rfl hB
  have hl := hB.len
  refine ⟨d', h1, h2, h3, ?_, ?_⟩
  · rw [h4]
    show _ = if B.length + 1 ≤ 32768 then _ else _
    by_cases q : B.length < 32768
    · rw [if_pos q, if_pos (by omega)]
    · rw [if_neg q, if_neg (by omega)]
  · rw [h5]
    show _ = if lenN 0 B.length = mN S d ∧ lenN 0 B.length < 32768 then 2 * mN S d else mN S d
    have e : lenN 0 B.length = B.length := by unfold lenN; omega
    rw [e]
theorem App.snoc {S S1 S2 : MM} {a d d1 : Nat} {B : List Nat} {vs : List Int32} {v : Int32} {r : Option MV} (hB : B.length ≤ 32768) (h1 : App S S1 a d d1 B vs) (h : sp_add.2.2.2.1 [.inr (.inr (some a)), .inl v] S1 r S2) : ∃ d2, App S S2 a d d2 B (vs ++ [v]) := by
  obtain ⟨d2, h2⟩ := App.one h1.1 h
  exact ⟨d2, h1.app hB h2⟩
theorem App.cost {S S1 : MM} {a d d1 : Nat} {B : List Nat} {vs : List Int32} (hB : B.length ≤ 32768) (h1 : App S S1 a d d1 B vs) : addNC vs.length (mN S d) B.length + addC S1 a = addNC (vs.length + 1) (mN S d) B.length ∧ addNS vs.length (mN S d) B.length + addS S1 a = addNS (vs.length + 1) (mN S d) B.length := by
  obtain ⟨a1, -, -, -, a5⟩ := h1
  have hl := bPuts_len (vs := vs) hB
  unfold addC addS
  rw [a1.len_of, a1.cap_of, hl, a5]
  exact ⟨rfl, rfl⟩
/-- the spec of a method that adds the bytes of vals to its object -/
def spApp (ok : List MV → MM → Prop) (vals : List MV → MM → List Int32) : Sp := (fun av S => (∃ a vs d B, av = .inr (.inr (some a)) :: vs ∧ By S a d B) ∧ ok av S, fun av S => match av with
    | .inr (.inr (some a)) :: _ => addNC (vals av S).length (capOf S a) (lenOf S a)
    | _ => 0, fun av S => match av with
    | .inr (.inr (some a)) :: _ => addNS (vals av S).length (capOf S a) (lenOf S a)
    | _ => 0, fun av S r S' => r = none ∧ ∀ a vs d B, av = .inr (.inr (some a)) :: vs → By S a d B → ∃ d', App S S' a d d' B (vals av S), fun _ _ _ _ => False)
theorem recv_app {ok : List MV → MM → Prop} {vals : List MV → MM → List Int32} : ∀ av S, (spApp ok vals).1 av S → ∃ a vs, av = .inr (.inr (some a)) :: vs ∧ isO S 2 a := fun _ _ ⟨⟨a, vs, _, _, e, h⟩, _⟩ => ⟨a, vs, e, h.1⟩
/-- the end of such a method -/
theorem mretA {ok : List MV → MM → Prop} {vals : List MV → MM → List Int32} {a d d' : Nat} {vs : List MV} {B : List Nat} {S S' : MM} {ws : List Int32} {cs sl : Nat} (hB : By S a d B) (h : App S S' a d d' B ws) (hv : vals (.inr (.inr (some a)) :: vs) S = ws) (hc : cs ≤ addNC ws.length (mN S d) B.length) (hs : sl ≤ addNS ws.length (mN S d) B.length) : mret none (spApp ok vals) (.inr (.inr (some a)) :: vs) S none S' cs sl := by
  refine ⟨trivial, ⟨rfl, fun a' vs' d9 B9 e h9 => ?_⟩, ?_, ?_⟩
  · cases e
    have e1 := hB.uniq h9
    subst e1
    have e2 := hB.row h9
    subst e2
    rw [hv]
    exact ⟨d', h⟩
  · show cs ≤ addNC (vals (.inr (.inr (some a)) :: vs) S).length (capOf S a) (lenOf S a)
    rw [hv, hB.cap_of, hB.len_of]
    exact hc
  · show sl ≤ addNS (vals (.inr (.inr (some a)) :: vs) S).length (capOf S a) (lenOf S a)
    rw [hv, hB.cap_of, hB.len_of]
    exact hs
def tX1_addWord : CD := [(0, .aload_n 0), (1, .iload_n 1), (2, .bipush 24), (4, .iushr), (5, .invokevirtual 36), (8, .aload_n 0), (9, .iload_n 1), (10, .bipush 16), (12, .iushr), (13, .invokevirtual 36), (16, .aload_n 0), (17, .iload_n 1), (18, .bipush 8), (20, .iushr), (21, .invokevirtual 36), (24, .aload_n 0), (25, .iload_n 1), (26, .invokevirtual 36), (29, .return_)]
set_option maxRecDepth 100000 in
theorem kX1_addWord : chk cX1_addWord tX1_addWord = true := by decide +kernel
def ush (x : Int32) (n : Int32) : Int32 := (x.toUInt32 >>> (n.toUInt32 &&& Int32.toUInt32 31)).toInt32
def sp_addWord : Sp := spApp (fun av _ => ∃ o w, av = [o, .inl w]) (fun av _ => match av with
    | [_, .inl w] => [ush w 24, ush w 16, ush w 8, w]
    | _ => [])
theorem wX1_addWord_36 : ∀ w ∈ ([.methodLink RX1 36 yX1_add, .instanceMethod yX1_add, .selects yX1_add.cls yX1_add yX1_add, .initialized yX1_add.cls, .code yX1_add cX1_add 2 none] : List Cond), w ∈ lw_good := List.forall_mem_cons.mpr ⟨mgd 771 (by decide +kernel) (by decide +kernel), List.forall_mem_cons.mpr ⟨mgd 772 (by decide +kernel) (by decide +kernel), List.forall_mem_cons.mpr ⟨mgd 773 (by decide +kernel) (by decide +kernel), List.forall_mem_cons.mpr ⟨mgd 122 (by decide +kernel) (by decide +kernel), List.forall_mem_cons.mpr ⟨mgd 774 (by decide +kernel) (by decide +kernel), fun _ h => absurd h List.not_mem_nil⟩⟩⟩⟩⟩
set_option maxRecDepth 100000 in
theorem c_X1_addWord (l : Launch) : Ct l yX1_addWord cX1_addWord 2 none 3 75 sp_addWord := by
  have c_add_l := c_X1_add l
  refine Ct.of (fX1, nX1, aX1, iX1, lX1, [(36, 0, 2, 0, Told 0 sp_add)], qX1, gX1, []) false tX1_addWord (fun _ _ _ => none) (by decide) (by decide) kX1_addWord ⟨_, _, rfl⟩ fX1_ok nX1_ok aX1_ok iX1_ok lX1_ok (fun p e R s m args below meth c Q D cy z r A C hR1 hR2 => List.forall_mem_cons.mpr ⟨cOK_old (cOK_V C (c_add_l) wX1_addWord_36 ⟨by decide, by decide, by decide +kernel⟩ ⟨by rw [hR1]; decide, by rw [hR2]; decide⟩ (k := 2) (T := TX1) (N := 3) rfl (by decide) recv_add), fun _ h => absurd h List.not_mem_nil⟩) qX1_ok gX1_ok rfl ?_ ?_
  · rintro av S ⟨⟨a, vs, d, B, rfl, hB⟩, o, w, e⟩
    cases e
    have hl := hB.len
    refine ⟨Nat.le_of_ble_eq_true rfl, 40, ?_⟩
    show (0 = 0 ∧ sp_add.1 [.inr (.inr (some a)), .inl ((w.toUInt32 >>> ((24 : Int32).toUInt32 &&& Int32.toUInt32 31)).toInt32)] S ∧ 0 + sp_add.2.1 [.inr (.inr (some a)), .inl ((w.toUInt32 >>> ((24 : Int32).toUInt32 &&& Int32.toUInt32 31)).toInt32)] S ≤ addNC 4 (capOf S a) (lenOf S a) ∧ 0 + sp_add.2.2.1 [.inr (.inr (some a)), .inl ((w.toUInt32 >>> ((24 : Int32).toUInt32 &&& Int32.toUInt32 31)).toInt32)] S ≤ addNS 4 (capOf S a) (lenOf S a) ∧ (∀ (S_1 : MM), sp_add.2.2.2.1 [.inr (.inr (some a)), .inl ((w.toUInt32 >>> ((24 : Int32).toUInt32 &&& Int32.toUInt32 31)).toInt32)] S none S_1 → (0 = 0 ∧ sp_add.1 [.inr (.inr (some a)), .inl ((w.toUInt32 >>> ((16 : Int32).toUInt32 &&& Int32.toUInt32 31)).toInt32)] S_1 ∧ 0 + sp_add.2.1 [.inr (.inr (some a)), .inl ((w.toUInt32 >>> ((24 : Int32).toUInt32 &&& Int32.toUInt32 31)).toInt32)] S + sp_add.2.1 [.inr (.inr (some a)), .inl ((w.toUInt32 >>> ((16 : Int32).toUInt32 &&& Int32.toUInt32 31)).toInt32)] S_1 ≤ addNC 4 (capOf S a) (lenOf S a) ∧ 0 + sp_add.2.2.1 [.inr (.inr (some a)), .inl ((w.toUInt32 >>> ((24 : Int32).toUInt32 &&& Int32.toUInt32 31)).toInt32)] S + sp_add.2.2.1 [.inr (.inr (some a)), .inl ((w.toUInt32 >>> ((16 : Int32).toUInt32 &&& Int32.toUInt32 31)).toInt32)] S_1 ≤ addNS 4 (capOf S a) (lenOf S a) ∧ (∀ (S_5 : MM), sp_add.2.2.2.1 [.inr (.inr (some a)), .inl ((w.toUInt32 >>> ((16 : Int32).toUInt32 &&& Int32.toUInt32 31)).toInt32)] S_1 none S_5 → (0 = 0 ∧ sp_add.1 [.inr (.inr (some a)), .inl ((w.toUInt32 >>> ((8 : Int32).toUInt32 &&& Int32.toUInt32 31)).toInt32)] S_5 ∧ 0 + sp_add.2.1 [.inr (.inr (some a)), .inl ((w.toUInt32 >>> ((24 : Int32).toUInt32 &&& Int32.toUInt32 31)).toInt32)] S + sp_add.2.1 [.inr (.inr (some a)), .inl ((w.toUInt32 >>> ((16 : Int32).toUInt32 &&& Int32.toUInt32 31)).toInt32)] S_1 + sp_add.2.1 [.inr (.inr (some a)), .inl ((w.toUInt32 >>> ((8 : Int32).toUInt32 &&& Int32.toUInt32 31)).toInt32)] S_5 ≤ addNC 4 (capOf S a) (lenOf S a) ∧ 0 + sp_add.2.2.1 [.inr (.inr (some a)), .inl ((w.toUInt32 >>> ((24 : Int32).toUInt32 &&& Int32.toUInt32 31)).toInt32)] S + sp_add.2.2.1 [.inr (.inr (some a)), .inl ((w.toUInt32 >>> ((16 : Int32).toUInt32 &&& Int32.toUInt32 31)).toInt32)] S_1 + sp_add.2.2.1 [.inr (.inr (some a)), .inl ((w.toUInt32 >>> ((8 : Int32).toUInt32 &&& Int32.toUInt32 31)).toInt32)] S_5 ≤ addNS 4 (capOf S a) (lenOf S a) ∧ (∀ (S_9 : MM), sp_add.2.2.2.1 [.inr (.inr (some a)), .inl ((w.toUInt32 >>> ((8 : Int32).toUInt32 &&& Int32.toUInt32 31)).toInt32)] S_5 none S_9 → (0 = 0 ∧ sp_add.1 [.inr (.inr (some a)), .inl w] S_9 ∧ 0 + sp_add.2.1 [.inr (.inr (some a)), .inl ((w.toUInt32 >>> ((24 : Int32).toUInt32 &&& Int32.toUInt32 31)).toInt32)] S + sp_add.2.1 [.inr (.inr (some a)), .inl ((w.toUInt32 >>> ((16 : Int32).toUInt32 &&& Int32.toUInt32 31)).toInt32)] S_1 + sp_add.2.1 [.inr (.inr (some a)), .inl ((w.toUInt32 >>> ((8 : Int32).toUInt32 &&& Int32.toUInt32 31)).toInt32)] S_5 + sp_add.2.1 [.inr (.inr (some a)), .inl w] S_9 ≤ addNC 4 (capOf S a) (lenOf S a) ∧ 0 + sp_add.2.2.1 [.inr (.inr (some a)), .inl ((w.toUInt32 >>> ((24 : Int32).toUInt32 &&& Int32.toUInt32 31)).toInt32)] S + sp_add.2.2.1 [.inr (.inr (some a)), .inl ((w.toUInt32 >>> ((16 : Int32).toUInt32 &&& Int32.toUInt32 31)).toInt32)] S_1 + sp_add.2.2.1 [.inr (.inr (some a)), .inl ((w.toUInt32 >>> ((8 : Int32).toUInt32 &&& Int32.toUInt32 31)).toInt32)] S_5 + sp_add.2.2.1 [.inr (.inr (some a)), .inl w] S_9 ≤ addNS 4 (capOf S a) (lenOf S a) ∧ (∀ (S_13 : MM), sp_add.2.2.2.1 [.inr (.inr (some a)), .inl w] S_9 none S_13 → (([] : List MV) = [] ∧ mret none sp_addWord [.inr (.inr (some a)), .inl w] S none S_13 (0 + sp_add.2.1 [.inr (.inr (some a)), .inl ((w.toUInt32 >>> ((24 : Int32).toUInt32 &&& Int32.toUInt32 31)).toInt32)] S + sp_add.2.1 [.inr (.inr (some a)), .inl ((w.toUInt32 >>> ((16 : Int32).toUInt32 &&& Int32.toUInt32 31)).toInt32)] S_1 + sp_add.2.1 [.inr (.inr (some a)), .inl ((w.toUInt32 >>> ((8 : Int32).toUInt32 &&& Int32.toUInt32 31)).toInt32)] S_5 + sp_add.2.1 [.inr (.inr (some a)), .inl w] S_9) (0 + sp_add.2.2.1 [.inr (.inr (some a)), .inl ((w.toUInt32 >>> ((24 : Int32).toUInt32 &&& Int32.toUInt32 31)).toInt32)] S + sp_add.2.2.1 [.inr (.inr (some a)), .inl ((w.toUInt32 >>> ((16 : Int32).toUInt32 &&& Int32.toUInt32 31)).toInt32)] S_1 + sp_add.2.2.1 [.inr (.inr (some a)), .inl ((w.toUInt32 >>> ((8 : Int32).toUInt32 &&& Int32.toUInt32 31)).toInt32)] S_5 + sp_add.2.2.1 [.inr (.inr (some a)), .inl w] S_9))) ∧ ∀ (E_16 : Nat) (S_15 : MM), sp_add.2.2.2.2 [.inr (.inr (some a)), .inl w] S_9 E_16 S_15 → False)) ∧ ∀ (E_12 : Nat) (S_11 : MM), sp_add.2.2.2.2 [.inr (.inr (some a)), .inl ((w.toUInt32 >>> ((8 : Int32).toUInt32 &&& Int32.toUInt32 31)).toInt32)] S_5 E_12 S_11 → False)) ∧ ∀ (E_8 : Nat) (S_7 : MM), sp_add.2.2.2.2 [.inr (.inr (some a)), .inl ((w.toUInt32 >>> ((16 : Int32).toUInt32 &&& Int32.toUInt32 31)).toInt32)] S_1 E_8 S_7 → False)) ∧ ∀ (E_4 : Nat) (S_3 : MM), sp_add.2.2.2.2 [.inr (.inr (some a)), .inl ((w.toUInt32 >>> ((24 : Int32).toUInt32 &&& Int32.toUInt32 31)).toInt32)] S E_4 S_3 → False)
    rw [hB.cap_of, hB.len_of]
    have A0 := App.nil hB
    have c0 := A0.cost hl
    refine ⟨rfl, ⟨a, _, d, B, rfl, hB⟩, ?_, ?_, fun S1 p1 => ?_, fun _ _ q => q⟩
    · exact Nat.le_trans (Nat.le_of_eq c0.1) (addNC_mono _ _ (Nat.le_of_ble_eq_true rfl))
    · exact Nat.le_trans (Nat.le_of_eq c0.2) (addNS_mono _ _ (Nat.le_of_ble_eq_true rfl))
    obtain ⟨d1, A1⟩ := A0.snoc hl p1
    have c1 := A1.cost hl
    refine ⟨rfl, ⟨a, _, d1, _, rfl, A1.1⟩, ?_, ?_, fun S2 p2 => ?_, fun _ _ q => q⟩
    · exact Nat.le_trans (Nat.le_of_eq ((congrArg (· + addC S1 a) c0.1).trans c1.1)) (addNC_mono _ _ (Nat.le_of_ble_eq_true rfl))
    · exact Nat.le_trans (Nat.le_of_eq ((congrArg (· + addS S1 a) c0.2).trans c1.2)) (addNS_mono _ _ (Nat.le_of_ble_eq_true rfl))
    obtain ⟨d2, A2⟩ := A1.snoc hl p2
    have c2 := A2.cost hl
    refine ⟨rfl, ⟨a, _, d2, _, rfl, A2.1⟩, ?_, ?_, fun S3 p3 => ?_, fun _ _ q => q⟩
    · exact Nat.le_trans (Nat.le_of_eq ((congrArg (· + addC S2 a) ((congrArg (· + addC S1 a) c0.1).trans c1.1)).trans c2.1)) (addNC_mono _ _ (Nat.le_of_ble_eq_true rfl))
    · exact Nat.le_trans (Nat.le_of_eq ((congrArg (· + addS S2 a) ((congrArg (· + addS S1 a) c0.2).trans c1.2)).trans c2.2)) (addNS_mono _ _ (Nat.le_of_ble_eq_true rfl))
    obtain ⟨d3, A3⟩ := A2.snoc hl p3
    have c3 := A3.cost hl
    have k1 := (congrArg (· + addC S3 a) ((congrArg (· + addC S2 a) ((congrArg (· + addC S1 a) c0.1).trans c1.1)).trans c2.1)).trans c3.1
    have k2 := (congrArg (· + addS S3 a) ((congrArg (· + addS S2 a) ((congrArg (· + addS S1 a) c0.2).trans c1.2)).trans c2.2)).trans c3.2
    refine ⟨rfl, ⟨a, _, d3, _, rfl, A3.1⟩, Nat.le_of_eq k1, Nat.le_of_eq k2, fun S4 p4 => ⟨rfl, ?_⟩, fun _ _ q => q⟩
    obtain ⟨d4, A4⟩ := A3.snoc hl p4
    exact mretA hB A4 rfl (Nat.le_of_eq k1) (Nat.le_of_eq k2)
  · exact fun _ _ _ _ _ h => by cases h
