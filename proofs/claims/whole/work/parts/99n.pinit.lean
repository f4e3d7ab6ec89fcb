/-! ===== Peer.<init> ===== -/
theorem Keep.nG {P : Nat → Prop} {S S1 : MM} {a : Nat} {r : Nat → Nat} {n k : Nat} (h : Keep P S S1) (ha : a ∉ mL S1) (hr : ∀ i, i < n → r i ∉ mL S1) : Keep P S (nG S1 a r n k) := by
  have hr2 : ∀ b, b ∈ mL S1 → b ∉ (List.range n).map r := fun b hb z => by
    obtain ⟨i, hi, e⟩ := List.mem_map.1 z
    exact hr i (List.mem_range.1 hi) (e ▸ hb)
  have ha2 : ∀ b, b ∈ mL S1 → b ≠ a := fun b hb e => ha (e ▸ hb)
  refine h.tr ⟨fun b hb => ⟨List.mem_cons_of_mem _ (List.mem_append_left _ hb), ?_, ?_⟩, fun b hb _ => ⟨fun _ => rfl, fun _ => rfl, fun _ => rfl, ?_, rfl, va_up_ne _ _ (ha2 b hb)⟩, rfl, rfl⟩
  · show (if b = a then 28 else if b ∈ (List.range n).map r then 17 else mK S1 b) = mK S1 b
    rw [if_neg (ha2 b hb), if_neg (hr2 b hb)]
  · show (if b = a then n else if b ∈ (List.range n).map r then k else mN S1 b) = mN S1 b
    rw [if_neg (ha2 b hb), if_neg (hr2 b hb)]
  · show (if b ∈ (List.range n).map r then (fun _ => 0) else eI S1 b) = eI S1 b
    rw [if_neg (hr2 b hb)]
theorem nG_a {S : MM} {a : Nat} {r : Nat → Nat} {n k : Nat} : isO (nG S a r n k) 28 a ∧ mN (nG S a r n k) a = n ∧ ∀ i, i < n → eR (nG S a r n k) a i = some (r i) := by
  refine ⟨⟨List.mem_cons_self, if_pos rfl⟩, if_pos rfl, fun i hi => ?_⟩
  show va_up (eR S) a (fun i => if i < n then some (r i) else none) a i = some (r i)
  rw [va_up_self]; exact if_pos hi
theorem nG_r {S : MM} {a : Nat} {r : Nat → Nat} {n k : Nat} (hr : ∀ i, i < n → r i ≠ a) {i : Nat} (hi : i < n) : isO (nG S a r n k) 17 (r i) ∧ mN (nG S a r n k) (r i) = k ∧ ∀ j, eI (nG S a r n k) (r i) j = 0 := by
  have hm : r i ∈ (List.range n).map r := List.mem_map.2 ⟨i, List.mem_range.2 hi, rfl⟩
  refine ⟨⟨List.mem_cons_of_mem _ (List.mem_append_right _ hm), ?_⟩, ?_, fun j => ?_⟩
  · show (if r i = a then 28 else if r i ∈ (List.range n).map r then 17 else mK S (r i)) = 17
    rw [if_neg (hr i hi), if_pos hm]
  · show (if r i = a then n else if r i ∈ (List.range n).map r then k else mN S (r i)) = k
    rw [if_neg (hr i hi), if_pos hm]
  · show (if r i ∈ (List.range n).map r then (fun _ => 0) else eI S (r i)) j = 0
    rw [if_pos hm]
def fG (F1 : Nat → Nat × Nat) (p q : Nat) (r : Nat → Nat) : Nat → Nat × Nat := fun x => if x = q then (p + 31, 6) else if x = r 0 then (p + 31, 10) else if x = r 1 then (p + 31, 11) else if x = r 2 then (p + 31, 12) else if x = r 3 then (p + 31, 13) else F1 x
def yG (y : Nat → Nat) (q : Nat) (r : Nat → Nat) : Nat → Nat := fun i => if i = 1 then q else if 10 ≤ i then r (i - 10) else y i
/-- a peer being made: s of its five things are there -/
def pX (S : MM) (F : Nat → Nat × Nat) (p b : Nat) (s : Nat) (S1 : MM) (F1 : Nat → Nat × Nat) (A : Nat → Nat) (X : GX) (y : Nat → Nat) : Prop :=
  isO S1 11 b ∧ F1 b = (p + 11, 1) ∧ mR S1 1101 b = some (A 0) ∧ GI S1 F1 (p + 1) A X e0 T0 [] (fun _ => 0) ∧ (2 ≤ s → mR S1 1102 b = some (y 0) ∧ EdL S1 F1 (p + 11) (y 0) (mZ S1) 0 [] (fun _ => 0)) ∧ (3 ≤ s → KnR S1 b (y 1) (fun o => y (10 + o)) (fun _ _ => 0) ∧ F1 (y 1) = (p + 31, 6) ∧ ∀ o, o < 4 → F1 (y (10 + o)) = (p + 31, 10 + o)) ∧ (4 ≤ s → mR S1 1104 b = some (y 2) ∧ isO S1 23 (y 2) ∧ mN S1 (y 2) = 16 ∧ F1 (y 2) = (p + 11, 5)) ∧ (5 ≤ s → mR S1 1105 b = some (y 3) ∧ isO S1 3 (y 3) ∧ F1 (y 3) = (p + 31, 4)) ∧ FO S1 F1 ∧ (∀ c, c ∈ mL S → c ≠ b → F1 c = F c) ∧ Keep (fun c => c = b) S S1
section PX
variable {S S1 S2 : MM} {F F1 F2 : Nat → Nat × Nat} {p b s : Nat} {A : Nat → Nat} {X : GX} {y y2 : Nat → Nat}
theorem pX.mv (h : pX S F p b s S1 F1 A X y) {c : Nat} (hk : Keep (fun x => x = b) S1 S2) (hc : ∀ c', c' ≠ c → mR S2 c' b = mR S1 c' b) (h0 : 1101 < c) (hc2 : 2 ≤ s → c ≠ 1102) (hc3 : 3 ≤ s → c ≠ 1103) (hc4 : 4 ≤ s → c ≠ 1104) (hc5 : 5 ≤ s → c ≠ 1105) (hf : ∀ x, x ∈ mL S1 → F2 x = F1 x) (hFO : FO S2 F2) (e0 : 2 ≤ s → y2 0 = y 0) (e1 : 3 ≤ s → y2 1 = y 1 ∧ ∀ o, o < 4 → y2 (10 + o) = y (10 + o)) (e2 : 4 ≤ s → y2 2 = y 2) (e3 : 5 ≤ s → y2 3 = y 3) : pX S F p b s S2 F2 A X y2 := by
  obtain ⟨h1, h2, h3, h4, h5, h6, h7, h8, h9, h10, h11⟩ := h
  have nb3 : ∀ {x v}, F1 x = (p + 31, v) → x ≠ b := fun {x v} e z => by rw [z, h2] at e; injection e with q _; omega
  have nb : ∀ {x v}, F1 x = (p + 11, v) → v ≠ 1 → x ≠ b := fun {x v} e hv z => by rw [z, h2] at e; injection e with _ q; exact hv q.symm
  have np : ∀ x, (F1 x).1 = p + 1 → ¬ x = b := fun x e z => by rw [z, h2] at e; have e : p + 11 = p + 1 := e; omega
  refine ⟨hk.isO h1, (hf b h1.1).trans h2, (hc _ (by omega)).trans h3, h4.keep hk np h9 (by omega) hf, fun q => ?_, fun q => ?_, fun q => ?_, fun q => ?_, hFO, fun c hc9 hcb => (hf c (h11.1 c hc9).1).trans (h10 c hc9 hcb), h11.tr hk⟩
  · rw [e0 q, hk.2.2.1]
    exact ⟨(hc _ (hc2 q).symm).trans (h5 q).1, (h5 q).2.keep hk (nb (h5 q).2.2.1 (by decide)) (fun z => absurd rfl z) (fun l hl => absurd hl (Nat.not_lt_zero l)) hf⟩
  · obtain ⟨⟨k1, k2, k3, k4⟩, k5, k6⟩ := h6 q
    rw [(e1 q).1]
    have n1 := nb3 k5
    refine ⟨⟨(hc _ (hc3 q).symm).trans k1, hk.isO k2, (hk.1 _ k2.1).2.2.trans k3, fun o ho => ?_⟩, (hf _ k2.1).trans k5, fun o ho => ?_⟩
    · show eR S2 (y 1) o = some (y2 (10 + o)) ∧ isO S2 17 (y2 (10 + o)) ∧ mN S2 (y2 (10 + o)) = 256 ∧ ∀ j, j < 256 → eI S2 (y2 (10 + o)) j = nI 0 ∧ 0 < 2147483648
      rw [(e1 q).2 o ho]
      obtain ⟨q1, q2, q3, q4⟩ := k4 o ho
      have n2 := nb3 (k6 o ho)
      exact ⟨by rw [(hk.2.1 _ k2.1 n1).2.2.2.2.2]; exact q1, hk.isO q2, (hk.1 _ q2.1).2.2.trans q3, fun j hj => by rw [(hk.2.1 _ q2.1 n2).2.2.2.1]; exact q4 j hj⟩
    · rw [(e1 q).2 o ho]
      exact (hf _ (k4 o ho).2.1.1).trans (k6 o ho)
  · rw [e2 q]
    obtain ⟨q1, q2, q3, q4⟩ := h7 q
    exact ⟨(hc _ (hc4 q).symm).trans q1, hk.isO q2, (hk.1 _ q2.1).2.2.trans q3, (hf _ q2.1).trans q4⟩
  · rw [e3 q]
    obtain ⟨q1, q2, q3⟩ := h8 q
    exact ⟨(hc _ (hc5 q).symm).trans q1, hk.isO q2, (hf _ q2.1).trans q3⟩
theorem pX.up (h : pX S F p b s S1 F1 A X y) (n2 : s + 1 = 2 → mR S1 1102 b = some (y 0) ∧ EdL S1 F1 (p + 11) (y 0) (mZ S1) 0 [] (fun _ => 0)) (n3 : s + 1 = 3 → KnR S1 b (y 1) (fun o => y (10 + o)) (fun _ _ => 0) ∧ F1 (y 1) = (p + 31, 6) ∧ ∀ o, o < 4 → F1 (y (10 + o)) = (p + 31, 10 + o)) (n4 : s + 1 = 4 → mR S1 1104 b = some (y 2) ∧ isO S1 23 (y 2) ∧ mN S1 (y 2) = 16 ∧ F1 (y 2) = (p + 11, 5)) (n5 : s + 1 = 5 → mR S1 1105 b = some (y 3) ∧ isO S1 3 (y 3) ∧ F1 (y 3) = (p + 31, 4)) : pX S F p b (s + 1) S1 F1 A X y := by
  obtain ⟨h1, h2, h3, h4, h5, h6, h7, h8, h9, h10, h11⟩ := h
  refine ⟨h1, h2, h3, h4, fun q => ?_, fun q => ?_, fun q => ?_, fun q => ?_, h9, h10, h11⟩
  · by_cases e : s + 1 = 2
    · exact n2 e
    · exact h5 (by omega)
  · by_cases e : s + 1 = 3
    · exact n3 e
    · exact h6 (by omega)
  · by_cases e : s + 1 = 4
    · exact n4 e
    · exact h7 (by omega)
  · by_cases e : s + 1 = 5
    · exact n5 e
    · exact h8 (by omega)
theorem FO_new {S1 S2 : MM} {F1 : Nat → Nat × Nat} {q : Nat} {v : Nat × Nat} (h : FO S1 F1) (hk : ∀ x, x ∈ mL S1 → x ∈ mL S2) (hq : q ∈ mL S2) : FO S2 (fun x => if x = q then v else F1 x) := fun x hx => by
  by_cases e : x = q
  · rw [e]; exact hq
  · have hx : (if x = q then v else F1 x) ≠ (0, 0) := hx
    rw [if_neg e] at hx
    exact hk x (h x hx)
theorem F_new {S1 : MM} {F1 : Nat → Nat × Nat} {q : Nat} {v : Nat × Nat} (hq : q ∉ mL S1) : ∀ x, x ∈ mL S1 → (fun x => if x = q then v else F1 x) x = F1 x := fun x hx => if_neg (fun (e : x = q) => hq (e ▸ hx))
end PX
def piP (S S' : MM) (F : Nat → Nat × Nat) (p b : Nat) : Prop := ∃ F' X, PeX S' F' p b X e0 T0 [] (fun _ _ => 0) 0 ∧ FO S' F' ∧ (∀ c, c ∈ mL S → c ≠ b → F' c = F c) ∧ Keep (fun c => c = b) S S'
def I_pi (s C Z p b : Nat) (F : Nat → Nat × Nat) (S : MM) (t : Nat) : KT := fun lo st S1 cs sl => ∃ F1 A X y, t = 6 - s ∧ pX S F p b s S1 F1 A X y ∧ lo = [(0, .inr (.inr (some b))), (1, .inl (nI p))] ∧ st = [] ∧ cs = C ∧ sl = Z
def T_pini : TR := fun Rc Rs av S cs sl K _Kx => match av with
  | [.inr (.inr b_o), .inl p_v] => pa b_o fun b => (∃ (p : Nat), p_v = nI p ∧ (∃ (F : Nat → Nat × Nat), (isO S 11 b ∧ FO S F ∧ p < 4) ∧ cs + 20 ≤ Rc ∧ sl + 1410 ≤ Rs ∧ (∀ (S' : MM), (piP S S' F p b) → K none S' (cs + 20) (sl + 1410))))
  | _ => False
def sp_pini (b : Nat) (p : Nat) (F : Nat → Nat × Nat) : Sp := (fun av S => av = [.inr (.inr (some b)), .inl (nI p)] ∧ (isO S 11 b ∧ FO S F ∧ p < 4), fun _ S => 20, fun _ S => 1410, fun _ S rv S' => rv = none ∧ (piP S S' F p b), fun _ _ _ _ => False)
def tX10_init : CD := [(0, .aload_n 0), (1, .invokespecial 3), (4, .aload_n 0), (5, .new 9), (8, .dup), (9, .invokespecial 11), (12, .putfield 12), (15, .aload_n 0), (16, .new 18), (19, .dup), (20, .invokespecial 20), (23, .putfield 21), (26, .aload_n 0), (27, .iconst 4), (28, .sipush 256), (31, .multianewarray 25 2), (35, .putfield 27), (38, .aload_n 0), (39, .bipush 16), (41, .anewarray 30), (44, .putfield 32), (47, .aload_n 0), (48, .new 36), (51, .dup), (52, .invokespecial 38), (55, .putfield 39), (58, .aload_n 0), (59, .iload_n 1), (60, .putfield 43), (63, .return_)]
set_option maxRecDepth 100000 in
theorem kX10_init : chk cX10_init tX10_init = true := by decide +kernel
theorem vX10_init_3 : ∀ w ∈ ([.methodLink RX10 3 Lib.objectInit, .instanceMethod Lib.objectInit, .code Lib.objectInit ⟨#[0xb1]⟩ 1 none] : List Cond), w ∈ lw_good := List.forall_mem_cons.mpr ⟨mgd 221 (by decide +kernel) (by decide +kernel), List.forall_mem_cons.mpr ⟨mgd 158 (by decide +kernel) (by decide +kernel), List.forall_mem_cons.mpr ⟨mgd 159 (by decide +kernel) (by decide +kernel), fun _ h => absurd h List.not_mem_nil⟩⟩⟩
theorem vX10_init_11 : ∀ w ∈ ([.instanceMethod yX5_init, .initialized yX5_init.cls, .code yX5_init cX5_init 1 none] : List Cond), w ∈ lw_good := List.forall_mem_cons.mpr ⟨mgd 225 (by decide +kernel) (by decide +kernel), List.forall_mem_cons.mpr ⟨mgd 125 (by decide +kernel) (by decide +kernel), List.forall_mem_cons.mpr ⟨mgd 226 (by decide +kernel) (by decide +kernel), fun _ h => absurd h List.not_mem_nil⟩⟩⟩
theorem vX10_init_20 : ∀ w ∈ ([.instanceMethod yJx4a65c_init_da8c8, .initialized yJx4a65c_init_da8c8.cls, .code yJx4a65c_init_da8c8 cJx4a65c_init_da8c8 1 none] : List Cond), w ∈ lw_good := List.forall_mem_cons.mpr ⟨mgd 239 (by decide +kernel) (by decide +kernel), List.forall_mem_cons.mpr ⟨mgd 130 (by decide +kernel) (by decide +kernel), List.forall_mem_cons.mpr ⟨mgd 240 (by decide +kernel) (by decide +kernel), fun _ h => absurd h List.not_mem_nil⟩⟩⟩
theorem vX10_init_38 : ∀ w ∈ ([.instanceMethod yX2_init, .initialized yX2_init.cls, .code yX2_init cX2_init 1 none] : List Cond), w ∈ lw_good := List.forall_mem_cons.mpr ⟨mgd 418 (by decide +kernel) (by decide +kernel), List.forall_mem_cons.mpr ⟨mgd 131 (by decide +kernel) (by decide +kernel), List.forall_mem_cons.mpr ⟨mgd 419 (by decide +kernel) (by decide +kernel), fun _ h => absurd h List.not_mem_nil⟩⟩⟩
set_option maxRecDepth 100000 in
set_option maxHeartbeats 2000000 in
theorem c_pini (l : Launch) : ∀ (b : Nat) (p : Nat) (F : Nat → Nat × Nat), Ct l yX10_init cX10_init 2 none 6 122 (sp_pini b p F) := by
  intro b p F
  refine Ct.of (fX10, nX10, aX10, iX10, lX10, [(3, 1, 1, 0, T_obj), (11, 1, 1, 0, T_ginit), (20, 1, 1, 0, T_alini), (38, 1, 1, 0, T_cini)], qX10, gX10, []) true tX10_init (fun _ S => look [(15, ([0,1], I_pi 1 12 360 p b F S)), (26, ([0,1], I_pi 2 13 363 p b F S)), (38, ([0,1], I_pi 3 18 1391 p b F S)), (47, ([0,1], I_pi 4 19 1407 p b F S)), (58, ([0,1], I_pi 5 20 1410 p b F S))]) (by decide) (by decide) kX10_init ⟨_, _, rfl⟩ fX10_ok nX10_ok aX10_ok iX10_ok lX10_ok (fun p e R s m args below meth c Q D cy z r A C hR1 hR2 => List.forall_mem_cons.mpr ⟨cOK_use (fun _ _ _ _ _ _ _ _ h => ⟨spObj, cOK_obj C vX10_init_3 ⟨by rw [hR1]; decide, by rw [hR2]; decide⟩, T_obj_ok h⟩), List.forall_mem_cons.mpr ⟨cOK_use (fun _ _ _ _ _ _ _ _ h => let ⟨sp, h1, h2, h3⟩ := u_ginit l _ _ _ _ _ _ _ _ h; ⟨sp, cOK_I C h1 vX10_init_11 (Or.inr ⟨"WeaveText", mbd 224 (by decide +kernel) (by decide +kernel)⟩) rfl ⟨by decide, by decide, by decide +kernel⟩ ⟨by rw [hR1]; decide, by rw [hR2]; decide⟩ h2, h3⟩), List.forall_mem_cons.mpr ⟨cOK_use (fun _ _ _ _ _ _ _ _ h => let ⟨sp, h1, h2, h3⟩ := u_alini l _ _ _ _ _ _ _ _ h; ⟨sp, cOK_I C h1 vX10_init_20 (Or.inl (mgd 411 (by decide +kernel) (by decide +kernel))) rfl ⟨by decide, by decide, by decide +kernel⟩ ⟨by rw [hR1]; decide, by rw [hR2]; decide⟩ h2, h3⟩), List.forall_mem_cons.mpr ⟨cOK_use (fun _ _ _ _ _ _ _ _ h => let ⟨sp, h1, h2, h3⟩ := u_cini l _ _ _ _ _ _ _ _ h; ⟨sp, cOK_I C h1 vX10_init_38 (Or.inr ⟨"WeaveText", mbd 417 (by decide +kernel) (by decide +kernel)⟩) rfl ⟨by decide, by decide, by decide +kernel⟩ ⟨by rw [hR1]; decide, by rw [hR2]; decide⟩ h2, h3⟩), fun _ h => absurd h List.not_mem_nil⟩⟩⟩⟩) qX10_ok gX10_ok rfl ?_ ?_
  · rintro _ S ⟨rfl, hp⟩
    refine ⟨Nat.le_of_ble_eq_true rfl, 300, ?_⟩
    show (1 = 1 ∧ (True ∧ 0 ≤ 20 ∧ 0 ≤ 1410 ∧ ((0 + 1 ≤ 20 ∧ 0 + 12 ≤ 1410 ∧ ∀ q_2, q_2 ∉ mL S → (1 = 1 ∧ (∃ (F_3 : Nat → Nat × Nat) (i_4 : Nat), (isO (nO S q_2 6) 6 q_2 ∧ FO (nO S q_2 6) F_3 ∧ F_3 q_2 = (0, 0) ∧ i_4 ≠ 0) ∧ 0 + 1 + 11 ≤ 20 ∧ 0 + 12 + 348 ≤ 1410 ∧ (∀ (S_5 : MM), (giP (nO S q_2 6) S_5 q_2 i_4 F_3) → (true = true ∧ (isO S_5 11 b ∧ (∃ k1, I_pi 1 12 360 p b F S k1 [(0, .inr (.inr (some b))), (1, .inl (nI p))] [] (sR S_5 1101 b (some q_2)) (0 + 1 + 11) (0 + 12 + 348)))))))))))
    obtain ⟨h1, h2, h3⟩ := hp
    refine ⟨rfl, trivial, Nat.zero_le _, Nat.zero_le _, by decide, by decide, fun q hq => ?_⟩
    have bq : b ≠ q := fun e => hq (e ▸ h1.1)
    have f0 : FO (nO S q 6) (fun x => if x = b then (p + 11, 1) else F x) := FO_new h2 (fun x hx => List.mem_append_left _ hx) (List.mem_append_left _ h1.1)
    have fq : (fun x => if x = b then (p + 11, 1) else F x) q = (0, 0) := by
      show (if q = b then (p + 11, 1) else F q) = (0, 0)
      rw [if_neg (Ne.symm bq)]
      exact Classical.byContradiction (fun z => hq (h2 q z))
    refine ⟨rfl, (fun x => if x = b then (p + 11, 1) else F x), p + 1, ⟨isO_nO_self, f0, fq, by omega⟩, by decide, by decide, fun S5 h5 => ?_⟩
    obtain ⟨F', A, X, e0, hG, hF, hf, hk⟩ := h5
    subst e0
    have ob : isO S5 11 b := hk.isO (isO_nO h1 hq)
    have fb : F' b = (p + 11, 1) := (hf b (List.mem_append_left _ h1.1) bq).trans (if_pos rfl)
    have kb : Keep (fun x => x = b) S5 (sR S5 1101 b (some (A 0))) := Keep.sR (P := fun x => x = b) Keep.rf rfl
    refine ⟨rfl, ob, 6 - 1, F', A, X, fun _ => 0, rfl, ⟨isO_sR ob, fb, by rw [mR_sR, if_pos ⟨rfl, rfl⟩], hG.keep kb (fun x e z => ?_) hF (by omega) (fun _ _ => rfl), fun z => absurd z (by decide), fun z => absurd z (by decide), fun z => absurd z (by decide), fun z => absurd z (by decide), hF, fun c hc hcb => ?_, ?_⟩, rfl, rfl, rfl, rfl⟩
    · rw [z, fb] at e; have e : p + 11 = p + 1 := e; omega
    · exact (hf c (List.mem_append_left _ hc) (fun e => hq (e ▸ hc))).trans (if_neg hcb)
    · exact ((Keep.nO (P := fun x => x = b) Keep.rf hq).trN hk (fun x hx e => absurd (e ▸ hx) hq)).tr kb
  · intro av S hpre pc I hI k lo st S1 cs sl h
    obtain ⟨rfl, hp⟩ := hpre
    have hm := look_in hI
    simp only [List.mem_cons, List.not_mem_nil, or_false] at hm
    rcases hm with hm | hm | hm | hm | hm
    · cases hm
      obtain ⟨F1, A, X, y, rfl, hX, rfl, rfl, rfl, rfl⟩ := h
      refine ⟨300, ?_⟩
      show (12 + 1 ≤ 20 ∧ 360 + 3 ≤ 1410 ∧ ∀ q_1, q_1 ∉ mL S1 → (1 = 1 ∧ ((isO (nO S1 q_1 0) 0 q_1) ∧ 12 + 1 ≤ 20 ∧ 360 + 3 ≤ 1410 ∧ ((true = true ∧ (isO (sR (sI (nO S1 q_1 0) 0 q_1 0) 1 q_1 (some (mZ (nO S1 q_1 0)))) 11 b ∧ (∃ k1, k1 < 6 - 1 ∧ I_pi 2 13 363 p b F S k1 [(0, .inr (.inr (some b))), (1, .inl (nI p))] [] (sR (sR (sI (nO S1 q_1 0) 0 q_1 0) 1 q_1 (some (mZ (nO S1 q_1 0)))) 1102 b (some q_1)) (12 + 1) (360 + 3))))))))
      refine ⟨by decide, by decide, fun q hq => ?_⟩
      have kq : Keep (fun x => x = q) S1 (sR (sI (nO S1 q 0) 0 q 0) 1 q (some (mZ (nO S1 q 0)))) := Keep.sR (P := fun x => x = q) (Keep.sI (P := fun x => x = q) (Keep.nO (P := fun x => x = q) Keep.rf hq) rfl) rfl
      have ob := kq.isO hX.1
      have oq : isO (sR (sI (nO S1 q 0) 0 q 0) 1 q (some (mZ (nO S1 q 0)))) 0 q := isO_sR (isO_sI isO_nO_self)
      have m1 : mR (sR (sI (nO S1 q 0) 0 q 0) 1 q (some (mZ (nO S1 q 0)))) 1 q = some (mZ S1) := by rw [mR_sR, if_pos ⟨rfl, rfl⟩]; rfl
      have m2 : mI (sR (sI (nO S1 q 0) 0 q 0) 1 q (some (mZ (nO S1 q 0)))) 2 q = 0 := by rw [mI_sR, mI_sI, if_neg (fun z => absurd z.1 (by decide))]; exact if_pos rfl
      have mz : mZ (sR (sI (nO S1 q 0) 0 q 0) 1 q (some (mZ (nO S1 q 0)))) = mZ S1 := kq.2.2.1
      refine ⟨rfl, isO_nO_self, by decide, by decide, rfl, ob, 6 - 2, by decide, ?_⟩
      generalize sR (sI (nO S1 q 0) 0 q 0) 1 q (some (mZ (nO S1 q 0))) = S2 at kq ob oq m1 m2 mz ⊢
      have bq : b ≠ q := fun e => hq (e ▸ hX.1.1)
      have k2 : Keep (fun x => x = b) S1 (sR S2 1102 b (some q)) := Keep.sR (P := fun x => x = b) ((Keep.rf (P := fun x => x = b)).trN kq (fun x hx e => absurd (e ▸ hx) hq)) rfl
      refine ⟨(fun x => if x = q then (p + 11, 2) else F1 x), A, X, updN y 0 q, rfl, pX.up (hX.mv (c := 1102) k2 (fun c' hc' => ?_) (by decide) (fun z => absurd z (by decide)) (fun z => absurd z (by decide)) (fun z => absurd z (by decide)) (fun z => absurd z (by decide)) (F_new hq) (FO_new hX.2.2.2.2.2.2.2.2.1 (fun x hx => (k2.1 x hx).1) oq.1) (fun z => absurd z (by decide)) (fun z => absurd z (by decide)) (fun z => absurd z (by decide)) (fun z => absurd z (by decide))) (fun _ => ?_) (fun z => absurd z (by decide)) (fun z => absurd z (by decide)) (fun z => absurd z (by decide)), rfl, rfl, rfl, rfl⟩
      · rw [mR_sR, if_neg (fun z => hc' z.1)]; exact (kq.2.1 b hX.1.1 bq).2.1 c'
      · rw [show updN y 0 q 0 = q from if_pos rfl]
        refine ⟨by rw [mR_sR, if_pos ⟨rfl, rfl⟩], ⟨isO_sR oq, ?_, m2, Nat.le_refl 0, Nat.zero_le _, (fun x hx => by cases hx), Or.inl rfl, Or.inl ⟨rfl, rfl⟩⟩, if_pos rfl, fun z => absurd rfl z, fun l hl => absurd hl (Nat.not_lt_zero l)⟩
        rw [mR_sR, if_neg (fun z => absurd z.1 (by decide)), m1]
        exact congrArg some mz.symm
    · cases hm
      obtain ⟨F1, A, X, y, rfl, hX, rfl, rfl, rfl, rfl⟩ := h
      refine ⟨300, ?_⟩
      show (¬ (4 : Int32) < 0 ∧ ¬ (256 : Int32) < 0 ∧ (4 : Int32).toNatClampNeg * 8 ≤ 536870912 ∧ (256 : Int32).toNatClampNeg * 8 ≤ 536870912 ∧ 13 + (1 + (4 : Int32).toNatClampNeg) ≤ 20 ∧ 363 + ((4 : Int32).toNatClampNeg + (4 : Int32).toNatClampNeg * (256 : Int32).toNatClampNeg) ≤ 1410 ∧ ∀ q_1 (r_2 : Nat → Nat), (q_1 ∉ mL S1 ∧ (∀ i, i < (4 : Int32).toNatClampNeg → r_2 i ∉ mL S1 ∧ r_2 i ≠ q_1) ∧ ∀ i j, i < (4 : Int32).toNatClampNeg → j < (4 : Int32).toNatClampNeg → r_2 i = r_2 j → i = j) → (true = true ∧ (isO (nG S1 q_1 r_2 (4 : Int32).toNatClampNeg (256 : Int32).toNatClampNeg) 11 b ∧ (∃ k1, k1 < 6 - 2 ∧ I_pi 3 18 1391 p b F S k1 [(0, .inr (.inr (some b))), (1, .inl (nI p))] [] (sR (nG S1 q_1 r_2 (4 : Int32).toNatClampNeg (256 : Int32).toNatClampNeg) 1103 b (some q_1)) (13 + 1 + (4 : Int32).toNatClampNeg) (363 + (4 : Int32).toNatClampNeg + (4 : Int32).toNatClampNeg * (256 : Int32).toNatClampNeg)))))
      rw [show Int32.toNatClampNeg 4 = 4 from by decide, show Int32.toNatClampNeg 256 = 256 from by decide]
      refine ⟨by decide, by decide, by decide, by decide, by decide, by decide, fun q r hr => ?_⟩
      obtain ⟨hq, hr1, hr2⟩ := hr
      have kq : Keep (fun _ => False) S1 (nG S1 q r 4 256) := Keep.nG Keep.rf hq (fun i hi => (hr1 i hi).1)
      have ob := kq.isO hX.1
      obtain ⟨g1, g2, g3⟩ := nG_a (S := S1) (a := q) (r := r) (n := 4) (k := 256)
      have g4 := fun i (hi : i < 4) => nG_r (S := S1) (a := q) (r := r) (n := 4) (k := 256) (fun i hi => (hr1 i hi).2) hi
      refine ⟨rfl, ob, 6 - 3, by decide, ?_⟩
      generalize nG S1 q r 4 256 = S2 at kq ob g1 g2 g3 g4 ⊢
      have k2 : Keep (fun x => x = b) S1 (sR S2 1103 b (some q)) := Keep.sR (P := fun x => x = b) (kq.mono (fun _ _ z => z.elim)) rfl
      have kb : Keep (fun x => x = b) S2 (sR S2 1103 b (some q)) := Keep.sR (P := fun x => x = b) Keep.rf rfl
      have bn : ∀ i, i < 4 → r i ≠ b := fun i hi e => (hr1 i hi).1 (e ▸ hX.1.1)
      have qb : q ≠ b := fun e => hq (e ▸ hX.1.1)
      have hf : ∀ x, x ∈ mL S1 → (fG F1 p q r) x = F1 x := fun x hx => by
        show (if x = q then (p + 31, 6) else if x = r 0 then (p + 31, 10) else if x = r 1 then (p + 31, 11) else if x = r 2 then (p + 31, 12) else if x = r 3 then (p + 31, 13) else F1 x) = F1 x
        rw [if_neg (fun (e : x = q) => hq (e ▸ hx)), if_neg (fun (e : x = r 0) => (hr1 0 (by decide)).1 (e ▸ hx)), if_neg (fun (e : x = r 1) => (hr1 1 (by decide)).1 (e ▸ hx)), if_neg (fun (e : x = r 2) => (hr1 2 (by decide)).1 (e ▸ hx)), if_neg (fun (e : x = r 3) => (hr1 3 (by decide)).1 (e ▸ hx))]
      have hfr : ∀ o, o < 4 → (fG F1 p q r) (r o) = (p + 31, 10 + o) := fun o ho => by
        have rr : ∀ i, i < 4 → i ≠ o → r o ≠ r i := fun i hi hne e => hne (hr2 o i ho hi e).symm
        show (if r o = q then (p + 31, 6) else if r o = r 0 then (p + 31, 10) else if r o = r 1 then (p + 31, 11) else if r o = r 2 then (p + 31, 12) else if r o = r 3 then (p + 31, 13) else F1 (r o)) = _
        rw [if_neg (hr1 o ho).2]
        match o, ho, rr with
        | 0, _, _ => rw [if_pos rfl]
        | 1, _, rr => rw [if_neg (rr 0 (by decide) (by decide)), if_pos rfl]
        | 2, _, rr => rw [if_neg (rr 0 (by decide) (by decide)), if_neg (rr 1 (by decide) (by decide)), if_pos rfl]
        | 3, _, rr => rw [if_neg (rr 0 (by decide) (by decide)), if_neg (rr 1 (by decide) (by decide)), if_neg (rr 2 (by decide) (by decide)), if_pos rfl]
      have y1 : yG y q r 1 = q := if_pos rfl
      have y10 : ∀ o, (yG y q r) (10 + o) = r o := fun o => by
        show (if 10 + o = 1 then q else if 10 ≤ 10 + o then r (10 + o - 10) else y (10 + o)) = r o
        rw [if_neg (by omega), if_pos (by omega), Nat.add_sub_cancel_left]
      refine ⟨_, A, X, (yG y q r), rfl, pX.up (hX.mv (c := 1103) k2 (fun c' hc' => ?_) (by decide) (fun z => by decide) (fun z => absurd z (by decide)) (fun z => absurd z (by decide)) (fun z => absurd z (by decide)) hf (fun x hx => ?_) (fun z => rfl) (fun z => absurd z (by decide)) (fun z => absurd z (by decide)) (fun z => absurd z (by decide))) (fun z => absurd z (by decide)) (fun _ => ?_) (fun z => absurd z (by decide)) (fun z => absurd z (by decide)), rfl, rfl, rfl, rfl⟩
      · rw [mR_sR, if_neg (fun z => hc' z.1)]; exact (kq.2.1 b hX.1.1 (fun z => z)).2.1 c'
      · by_cases e : x ∈ mL S1
        · exact (k2.1 x e).1
        · by_cases e1 : x = q
          · rw [e1]; exact g1.1
          · by_cases e2 : ∃ i, i < 4 ∧ x = r i
            · obtain ⟨i, hi, rfl⟩ := e2
              exact (g4 i hi).1.1
            · have hx : (if x = q then (p + 31, 6) else if x = r 0 then (p + 31, 10) else if x = r 1 then (p + 31, 11) else if x = r 2 then (p + 31, 12) else if x = r 3 then (p + 31, 13) else F1 x) ≠ (0, 0) := hx
              rw [if_neg e1, if_neg (fun z => e2 ⟨0, by decide, z⟩), if_neg (fun z => e2 ⟨1, by decide, z⟩), if_neg (fun z => e2 ⟨2, by decide, z⟩), if_neg (fun z => e2 ⟨3, by decide, z⟩)] at hx
              exact absurd (hX.2.2.2.2.2.2.2.2.1 x hx) e
      · refine ⟨⟨by rw [y1, mR_sR, if_pos ⟨rfl, rfl⟩], by rw [y1]; exact isO_sR g1, by rw [y1]; exact g2, fun o ho => ?_⟩, by rw [y1]; exact if_pos rfl, fun o ho => by rw [y10]; exact hfr o ho⟩
        show eR _ _ o = some ((yG y q r) (10 + o)) ∧ isO _ 17 ((yG y q r) (10 + o)) ∧ mN _ ((yG y q r) (10 + o)) = 256 ∧ ∀ j, j < 256 → eI _ ((yG y q r) (10 + o)) j = nI 0 ∧ 0 < 2147483648
        rw [y10, y1]
        exact ⟨g3 o ho, isO_sR (g4 o ho).1, (g4 o ho).2.1, fun j hj => ⟨((g4 o ho).2.2 j).trans nI_0.symm, by decide⟩⟩
    · cases hm
      obtain ⟨F1, A, X, y, rfl, hX, rfl, rfl, rfl, rfl⟩ := h
      refine ⟨300, ?_⟩
      show (¬ (16 : Int32) < 0 ∧ (16 : Int32).toNatClampNeg * 8 ≤ 536870912 ∧ 18 + 1 ≤ 20 ∧ 1391 + (16 : Int32).toNatClampNeg ≤ 1410 ∧ ∀ q_1, q_1 ∉ mL S1 → (true = true ∧ (isO (nA S1 q_1 23 (16 : Int32).toNatClampNeg) 11 b ∧ (∃ k1, k1 < 6 - 3 ∧ I_pi 4 19 1407 p b F S k1 [(0, .inr (.inr (some b))), (1, .inl (nI p))] [] (sR (nA S1 q_1 23 (16 : Int32).toNatClampNeg) 1104 b (some q_1)) (18 + 1) (1391 + (16 : Int32).toNatClampNeg)))))
      rw [show Int32.toNatClampNeg 16 = 16 from by decide]
      refine ⟨by decide, by decide, by decide, by decide, fun q hq => ?_⟩
      have kq : Keep (fun _ => False) S1 (nA S1 q 23 16) := Keep.nA Keep.rf hq
      have ob := kq.isO hX.1
      have oq : isO (nA S1 q 23 16) 23 q := isO_nA_self
      have nq : mN (nA S1 q 23 16) q = 16 := by rw [mN_nA, if_pos rfl]
      refine ⟨rfl, ob, 6 - 4, by decide, ?_⟩
      generalize nA S1 q 23 16 = S2 at kq ob oq nq ⊢
      have k2 : Keep (fun x => x = b) S1 (sR S2 1104 b (some q)) := Keep.sR (P := fun x => x = b) (kq.mono (fun _ _ z => z.elim)) rfl
      refine ⟨(fun x => if x = q then (p + 11, 5) else F1 x), A, X, updN y 2 q, rfl, pX.up (hX.mv (c := 1104) k2 (fun c' hc' => ?_) (by decide) (fun z => by decide) (fun z => by decide) (fun z => absurd z (by decide)) (fun z => absurd z (by decide)) (F_new hq) (FO_new hX.2.2.2.2.2.2.2.2.1 (fun x hx => (k2.1 x hx).1) oq.1) (fun z => rfl) (fun z => ⟨rfl, fun o _ => if_neg (by omega)⟩) (fun z => absurd z (by decide)) (fun z => absurd z (by decide))) (fun z => absurd z (by decide)) (fun z => absurd z (by decide)) (fun _ => ?_) (fun z => absurd z (by decide)), rfl, rfl, rfl, rfl⟩
      · rw [mR_sR, if_neg (fun z => hc' z.1)]; exact (kq.2.1 b hX.1.1 (fun z => z)).2.1 c'
      · rw [show updN y 2 q 2 = q from if_pos rfl]
        exact ⟨by rw [mR_sR, if_pos ⟨rfl, rfl⟩], isO_sR oq, nq, if_pos rfl⟩
    · cases hm
      obtain ⟨F1, A, X, y, rfl, hX, rfl, rfl, rfl, rfl⟩ := h
      refine ⟨300, ?_⟩
      show (19 + 1 ≤ 20 ∧ 1407 + 3 ≤ 1410 ∧ ∀ q_1, q_1 ∉ mL S1 → (1 = 1 ∧ ((isO (nO S1 q_1 3) 3 q_1) ∧ 19 + 1 ≤ 20 ∧ 1407 + 3 ≤ 1410 ∧ ((true = true ∧ (isO (cuZ (nO S1 q_1 3) q_1) 11 b ∧ (∃ k1, k1 < 6 - 4 ∧ I_pi 5 20 1410 p b F S k1 [(0, .inr (.inr (some b))), (1, .inl (nI p))] [] (sR (cuZ (nO S1 q_1 3) q_1) 1105 b (some q_1)) (19 + 1) (1407 + 3))))))))
      refine ⟨by decide, by decide, fun q hq => ?_⟩
      have kq : Keep (fun x => x = q) S1 (cuZ (nO S1 q 3) q) := Keep.sI (P := fun b => b = q) (Keep.sI (P := fun b => b = q) (Keep.sR (P := fun b => b = q) (Keep.nO (P := fun b => b = q) Keep.rf hq) rfl) rfl) rfl
      have ob := kq.isO hX.1
      have oq : isO (cuZ (nO S1 q 3) q) 3 q := isO_sI (isO_sI (isO_sR isO_nO_self))
      refine ⟨rfl, isO_nO_self, by decide, by decide, rfl, ob, 6 - 5, by decide, ?_⟩
      generalize cuZ (nO S1 q 3) q = S2 at kq ob oq ⊢
      have bq : b ≠ q := fun e => hq (e ▸ hX.1.1)
      have k2 : Keep (fun x => x = b) S1 (sR S2 1105 b (some q)) := Keep.sR (P := fun x => x = b) ((Keep.rf (P := fun x => x = b)).trN kq (fun x hx e => absurd (e ▸ hx) hq)) rfl
      refine ⟨(fun x => if x = q then (p + 31, 4) else F1 x), A, X, updN y 3 q, rfl, pX.up (hX.mv (c := 1105) k2 (fun c' hc' => ?_) (by decide) (fun z => by decide) (fun z => by decide) (fun z => by decide) (fun z => absurd z (by decide)) (F_new hq) (FO_new hX.2.2.2.2.2.2.2.2.1 (fun x hx => (k2.1 x hx).1) oq.1) (fun z => rfl) (fun z => ⟨rfl, fun o _ => if_neg (by omega)⟩) (fun z => rfl) (fun z => absurd z (by decide))) (fun z => absurd z (by decide)) (fun z => absurd z (by decide)) (fun z => absurd z (by decide)) (fun _ => ?_), rfl, rfl, rfl, rfl⟩
      · rw [mR_sR, if_neg (fun z => hc' z.1)]; exact (kq.2.1 b hX.1.1 bq).2.1 c'
      · rw [show updN y 3 q 3 = q from if_pos rfl]
        exact ⟨by rw [mR_sR, if_pos ⟨rfl, rfl⟩], isO_sR oq, if_pos rfl⟩
    · cases hm
      obtain ⟨F1, A, X, y, rfl, hX, rfl, rfl, rfl, rfl⟩ := h
      refine ⟨300, ?_⟩
      show (true = true ∧ (isO S1 11 b ∧ (([] : List MV) = [] ∧ mret none (sp_pini b p F) [.inr (.inr (some b)), .inl (nI p)] S none (sI S1 1100 b (nI p)) 20 1410)))
      have k2 : Keep (fun x => x = b) S1 (sI S1 1100 b (nI p)) := Keep.sI (P := fun x => x = b) Keep.rf rfl
      obtain ⟨w1, w2, w3, w4, w5, w6, w7, w8, w9, w10, w11⟩ := hX.mv (c := 1106) k2 (fun c' hc' => rfl) (by decide) (fun z => by decide) (fun z => by decide) (fun z => by decide) (fun z => by decide) (fun _ _ => rfl) hX.2.2.2.2.2.2.2.2.1 (fun z => rfl) (fun z => ⟨rfl, fun o _ => rfl⟩) (fun z => rfl) (fun z => rfl)
      have v5 := w5 (by decide)
      have v6 := w6 (by decide)
      have v7 := w7 (by decide)
      have v8 := w8 (by decide)
      exact ⟨rfl, hX.1, rfl, trivial, ⟨rfl, F1, X, ⟨A, [], _, y 2, y 0, _, _, y 1, _, y 3, ⟨w1, w2, mI_sIs, w3, v7.1, v7.2.1, v7.2.2.1, v7.2.2.2, w4, w9, by omega, by omega, by omega⟩, v5.1, v5.2, v6.1, v8.1, v8.2.1, v6.2.1, v6.2.2, v8.2.2⟩, w9, w10, w11⟩, Nat.le_refl _, Nat.le_refl _⟩
theorem u_pini (l : Launch) : Us l yX10_init cX10_init 2 none 6 122 98 T_pini := by
  intro Rc Rs av S cs sl K Kx h
  unfold T_pini at h
  split at h
  · rename_i b_o p_v
    obtain ⟨b, rfl, h_1⟩ := pa_of h
    obtain ⟨p, rfl, h_2⟩ := h_1
    obtain ⟨F, hp, hc, hs, hk⟩ := h_2
    refine ⟨(sp_pini b p F), c_pini l b p F, fun _ _ h9 => ⟨_, _, h9.1⟩, ⟨rfl, hp⟩, hc, hs, fun S' h8 => by
      obtain ⟨-, h8⟩ := h8
      exact hk _ h8, fun _ _ q => q.elim⟩
  · exact h.elim
