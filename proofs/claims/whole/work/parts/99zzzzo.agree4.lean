/-! ===== A written summary reads sound ===== -/
def atB (B : List Nat) (p : Nat) (L : List Nat) : Prop := ∀ i, i < L.length → B.getD (p + i) 0 = L.getD i 0
theorem atB_app {B : List Nat} {p : Nat} {L M : List Nat} (h : atB B p (L ++ M)) : atB B p L ∧ atB B (p + L.length) M := by
  constructor
  · intro i hi
    rw [h i (by rw [List.length_append]; omega), List.getD_eq_getElem?_getD, List.getElem?_append_left hi, ← List.getD_eq_getElem?_getD]
  · intro i hi
    rw [Nat.add_assoc, h (L.length + i) (by rw [List.length_append]; omega), List.getD_eq_getElem?_getD, List.getElem?_append_right (Nat.le_add_right _ _), Nat.add_sub_cancel_left, ← List.getD_eq_getElem?_getD]
theorem vint_rt {B : List Nat} {q p n : Nat} (hn : n < 16384) (hB : atB B p (vbN 5 n)) (hq : p + (vbN 5 n).length ≤ q) : vint B q p = (some n, p + (vbN 5 n).length) := by
  unfold vint
  by_cases c : n ≤ 127
  · have e : vbN 5 n = [n] := by rw [vbN, if_pos c]
    rw [e] at hB hq ⊢
    have hq : p + 1 ≤ q := hq
    have b0 : B.getD p 0 = n := hB 0 (Nat.zero_lt_succ _)
    rw [vrd, if_pos (by omega), b0, if_neg (fun w => absurd w.1 (by decide)), if_neg (by omega), if_neg (fun w => absurd w.2 (by decide))]
    show (some (0 + n * 2 ^ (7 * 0)), p + 1) = (some n, p + 1)
    rw [Nat.mul_zero, Nat.pow_zero, Nat.mul_one, Nat.zero_add]
  · have e : vbN 5 n = [n % 128 + 128, n / 128] := by
      rw [vbN, if_neg c, vbN, if_pos (by omega)]
    rw [e] at hB hq ⊢
    have hq : p + 2 ≤ q := hq
    have b0 : B.getD p 0 = n % 128 + 128 := hB 0 (Nat.zero_lt_succ _)
    have b1 : B.getD (p + 1) 0 = n / 128 := hB 1 (Nat.succ_lt_succ (Nat.zero_lt_succ _))
    rw [vrd, if_pos (by omega), b0, if_neg (fun w => absurd w.1 (by decide)), if_pos (by omega), vrd, if_pos (by omega), b1, if_neg (fun w => absurd w.1 (by decide)), if_neg (by omega), if_neg (fun w => by have := w.1; omega)]
    show (some (0 + (n % 128 + 128 - 128) * 2 ^ (7 * 0) + n / 128 * 2 ^ (7 * (0 + 1))), p + 1 + 1) = (some n, p + 2)
    have : 0 + (n % 128 + 128 - 128) * 2 ^ (7 * 0) + n / 128 * 2 ^ (7 * (0 + 1)) = n := by
      show 0 + (n % 128 + 128 - 128) * 1 + n / 128 * 128 = n
      omega
    rw [this]
/-- what a summary tells of k agents from a on, and how many of them there are -/
def rsT (G : Gr) : Nat → Nat → List Nat
  | _, 0 => []
  | a, k + 1 => (if (agE G a).length = 0 then [] else vbN 5 a ++ vbN 5 (agE G a).length) ++ rsT G (a + 1) k
def cT (G : Gr) : Nat → Nat → Nat
  | _, 0 => 0
  | a, k + 1 => cT G (a + 1) k + (if (agE G a).length = 0 then 0 else 1)
theorem rsT_A (G : Gr) : ∀ (k a : Nat), rsmA G (a + k) = rsmA G a ++ rsT G a k
  | 0, a => (List.append_nil _).symm
  | k + 1, a => by
    rw [show a + (k + 1) = (a + 1) + k by omega, rsT_A G k (a + 1), rsmA, rsT, List.append_assoc]
theorem lrn_run {B : List Nat} {q : Nat} {G : Gr} (hG : G.ok) : ∀ (k a m p : Nat), m ≤ a → a + k ≤ 256 → atB B p (rsT G a k) → p + (rsT G a k).length ≤ q → ∃ l, lrnR B q (cT G a k) p m = some (l, p + (rsT G a k).length)
  | 0, a, m, p, _, _, _, _ => ⟨[], rfl⟩
  | k + 1, a, m, p, hm, ha, hB, hq => by
    rw [rsT] at hB hq ⊢
    rw [cT]
    by_cases c : (agE G a).length = 0
    · rw [if_pos c] at hB hq ⊢
      rw [if_pos c, Nat.add_zero]
      rw [List.nil_append] at hB hq ⊢
      exact lrn_run hG k (a + 1) m p (by omega) (by omega) hB hq
    · rw [if_neg c] at hB hq ⊢
      rw [if_neg c]
      have h8 := agE_8192 hG a
      obtain ⟨b1, b2⟩ := atB_app hB
      obtain ⟨b3, b4⟩ := atB_app b1
      rw [List.length_append, List.length_append] at hq
      have e1 := vint_rt (q := q) (by omega) b3 (by omega)
      have e2 := vint_rt (q := q) (by omega) b4 (by omega)
      have e3 : (vbN 5 a ++ vbN 5 (agE G a).length ++ rsT G (a + 1) k).length = (vbN 5 a).length + (vbN 5 (agE G a).length).length + (rsT G (a + 1) k).length := by rw [List.length_append, List.length_append]
      rw [List.length_append, ← Nat.add_assoc] at b2
      obtain ⟨l, hl⟩ := lrn_run (B := B) (q := q) hG k (a + 1) (a + 1) (p + (vbN 5 a).length + (vbN 5 (agE G a).length).length) (Nat.le_refl _) (by omega) b2 (by omega)
      refine ⟨(a, (agE G a).length) :: l, ?_⟩
      rw [lrnR, e1]
      show (if m ≤ a ∧ a < 256 then _ else _) = _
      rw [if_pos ⟨hm, by omega⟩]
      show (match (vint B q (p + (vbN 5 a).length)).1 with
        | none => none
        | some c => if 1 ≤ c then (lrnR B q (cT G (a + 1) k) (vint B q (p + (vbN 5 a).length)).2 (a + 1)).map (fun (r : List (Nat × Nat) × Nat) => ((a, c) :: r.1, r.2)) else none) = _
      rw [e2]
      show (if 1 ≤ (agE G a).length then (lrnR B q (cT G (a + 1) k) (p + (vbN 5 a).length + (vbN 5 (agE G a).length).length) (a + 1)).map (fun (r : List (Nat × Nat) × Nat) => ((a, (agE G a).length) :: r.1, r.2)) else none) = _
      rw [if_pos (by omega), hl, e3]
      show some ((a, (agE G a).length) :: l, _) = some ((a, (agE G a).length) :: l, _)
      congr 2
      omega
def pL (G : Gr) : Nat → Nat → List Nat
  | _, 0 => []
  | a, k + 1 => if (agE G a).length = 0 then pL G (a + 1) k else a :: pL G (a + 1) k
theorem pL_len (G : Gr) : ∀ k a, (pL G a k).length = cT G a k
  | 0, a => rfl
  | k + 1, a => by
    rw [pL, cT]
    split
    · rw [pL_len G k]; rfl
    · rw [List.length_cons, pL_len G k]
theorem pL_mem {G : Gr} {x : Nat} : ∀ {k a}, x ∈ pL G a k ↔ (a ≤ x ∧ x < a + k) ∧ (agE G x).length ≠ 0
  | 0, a => ⟨fun h => (by cases h), fun h => absurd h.1 (by omega)⟩
  | k + 1, a => by
    rw [pL]
    by_cases c : (agE G a).length = 0
    · rw [if_pos c, pL_mem (k := k)]
      constructor
      · intro h; exact ⟨by omega, h.2⟩
      · intro h
        refine ⟨?_, h.2⟩
        have : x ≠ a := fun e => h.2 (by rw [e]; exact c)
        omega
    · rw [if_neg c, List.mem_cons, pL_mem (k := k)]
      constructor
      · rintro (e | h)
        · rw [e]; exact ⟨by omega, c⟩
        · exact ⟨by omega, h.2⟩
      · intro h
        by_cases e : x = a
        · exact Or.inl e
        · exact Or.inr ⟨by omega, h.2⟩
theorem pL_nd (G : Gr) : ∀ k a, (pL G a k).Nodup
  | 0, a => List.nodup_nil
  | k + 1, a => by
    rw [pL]
    split
    · exact pL_nd G k (a + 1)
    · exact List.nodup_cons.2 ⟨fun h => by have := (pL_mem.1 h).1; omega, pL_nd G k (a + 1)⟩
/-- the table's agents are those that have events -/
theorem cT_m {G : Gr} (hG : G.ok) (h3 : G.AG3) : cT G 0 256 = G.m := by
  rw [← pL_len, ← List.length_range (n := G.m), ← List.length_map (f := G.ag) (as := List.range G.m)]
  refine nodup_len (pL_nd G 256 0) ?_ (fun x => ?_)
  · exact List.pairwise_map.2 (List.Pairwise.imp_of_mem (fun {a b} ha hb hne e => hne (hG.ag2 a b (List.mem_range.1 ha) (List.mem_range.1 hb) e)) (List.nodup_range (n := G.m)))
  · rw [pL_mem, List.mem_map]
    constructor
    · intro h
      refine Classical.byContradiction (fun q => h.2 ?_)
      rw [agE_no hG (fun ⟨s, hs, e⟩ => q ⟨s, List.mem_range.2 hs, e⟩)]
      rfl
    · rintro ⟨s, hs, rfl⟩
      have hs := List.mem_range.1 hs
      have := hG.ag1 s hs
      refine ⟨by omega, ?_⟩
      rw [agE_sl hG hs, evL_len]
      have := h3 s hs
      omega
theorem crcN_pre {A X : List Nat} : ∀ {n : Nat}, n ≤ A.length → n < 2147483648 → crcN (A ++ X) n = crcN A n
  | 0, _, _ => rfl
  | n + 1, h, hn => by
    rw [crcN, crcN, crcN_pre (by omega) (by omega)]
    congr 1
    unfold bAt
    rw [nI_clamp (by omega), List.getD_eq_getElem?_getD, List.getD_eq_getElem?_getD, List.getElem?_append_left (by omega)]
theorem seal_fr {A : List Nat} (hA : ∀ x ∈ A, x < 256) (h3 : frm3 (A ++ (List.range 4).map (clB (crB A A.length ^^^ -1)))) (hl : A.length + 4 ≤ 32768) : framed (A ++ (List.range 4).map (clB (crB A A.length ^^^ -1))) := by
  have hlen : (A ++ (List.range 4).map (clB (crB A A.length ^^^ -1))).length = A.length + 4 := by rw [List.length_append, List.length_map, List.length_range]
  have hb : ∀ b ∈ A ++ (List.range 4).map (clB (crB A A.length ^^^ -1)), b < 256 := fun b hb => by
    rcases List.mem_append.1 hb with w | w
    · exact hA b w
    · obtain ⟨k, -, rfl⟩ := List.mem_map.1 w
      exact b8_lt _
  refine (frm_iff hb (by omega)).2 ⟨h3, fun k hk => ?_⟩
  unfold frmK
  rw [hlen, show A.length + 4 - 4 = A.length by omega, crcN_pre (Nat.le_refl _) (by omega)]
  have e : crB A A.length ^^^ -1 = crcN A A.length ^^^ -1 := crB_of A (by omega)
  rw [List.getD_eq_getElem?_getD, List.getElem?_append_right (Nat.le_add_right _ _), Nat.add_sub_cancel_left, e, ← seal_eq]
  rw [b8_and]
  congr 1
  rcases (show k = 0 ∨ k = 1 ∨ k = 2 ∨ k = 3 by omega) with q | q | q | q <;> subst q <;> rfl
theorem rsm_lt {G : Gr} {p : Nat} (hG : G.ok) (hp : p < 4) : ∀ x ∈ rsmB G p 256, x < 256 := by
  rw [← sumV_B hG hp]
  exact vB_lt _
/-- a written summary reads sound -/
theorem syM_ok {R : Rb} {m : Nat} (hm : m < 4) (hG : (R.Q.G m).ok) (h3 : (R.Q.G m).AG3) : syM R m := by
  have h1 := rsmA_len (R.Q.G m) 256
  have h2 := vbN_len 5 (R.Q.G m).m
  have hmm := hG.hm
  have hl : (rsmB (R.Q.G m) m 256).length = 3 + (vbN 5 (R.Q.G m).m).length + (rsmA (R.Q.G m) 256).length := by
    unfold rsmB
    rw [List.length_append, List.length_append]; rfl
  have hlen : (rsmW R m).length = (rsmB (R.Q.G m) m 256).length + 4 := by
    unfold rsmW
    rw [List.length_append, List.length_map, List.length_range]
  refine ⟨?_, ?_⟩
  · refine seal_fr (rsm_lt hG hm) ⟨?_, rfl, hm, Or.inr rfl⟩ (by omega)
    rw [show (rsmB (R.Q.G m) m 256 ++ (List.range 4).map (clB (crB (rsmB (R.Q.G m) m 256) (rsmB (R.Q.G m) m 256).length ^^^ -1))) = rsmW R m from rfl]
    omega
  · have at0 : atB (rsmW R m) 0 (rsmB (R.Q.G m) m 256) := fun i hi => by
      unfold rsmW
      rw [Nat.zero_add, List.getD_eq_getElem?_getD, List.getElem?_append_left hi, ← List.getD_eq_getElem?_getD]
    have at1 : atB (rsmW R m) 0 (([87, 2, m] ++ vbN 5 (R.Q.G m).m) ++ rsmA (R.Q.G m) 256) := at0
    obtain ⟨a1, a2⟩ := atB_app at1
    obtain ⟨a3, a4⟩ := atB_app a1
    have a4 : atB (rsmW R m) 3 (vbN 5 (R.Q.G m).m) := a4
    have eA : rsmA (R.Q.G m) 256 = rsT (R.Q.G m) 0 256 := by
      have := rsT_A (R.Q.G m) 256 0
      rw [Nat.zero_add] at this
      exact this
    rw [List.length_append, eA] at a2
    have a2 : atB (rsmW R m) (3 + (vbN 5 (R.Q.G m).m).length) (rsT (R.Q.G m) 0 256) := by
      have e : 0 + ([87, 2, m].length + (vbN 5 (R.Q.G m).m).length) = 3 + (vbN 5 (R.Q.G m).m).length := Nat.zero_add _
      rw [e] at a2
      exact a2
    have hq : (rsmW R m).length - 4 = 3 + (vbN 5 (R.Q.G m).m).length + (rsT (R.Q.G m) 0 256).length := by rw [← eA]; omega
    have e1 := vint_rt (q := (rsmW R m).length - 4) (by omega) a4 (by omega)
    obtain ⟨l, e2⟩ := lrn_run (q := (rsmW R m).length - 4) hG 256 0 0 _ (Nat.le_refl _) (by decide) a2 (by omega)
    rw [cT_m hG h3] at e2
    have e3 : lrn (rsmW R m) = some l := by
      unfold lrn
      rw [e1]
      show (match lrnR (rsmW R m) ((rsmW R m).length - 4) (R.Q.G m).m (3 + (vbN 5 (R.Q.G m).m).length) 0 with
        | none => none
        | some r => if (rsmW R m).length - 4 ≤ r.2 then some r.1 else none) = _
      rw [e2]
      exact if_pos (by omega)
    unfold lrF
    rw [e3]
