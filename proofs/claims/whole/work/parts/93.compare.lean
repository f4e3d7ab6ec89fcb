/-! ===== Hunks.compare ===== -/
abbrev HS : Type := Nat × List (Nat × Nat × Nat × Nat) × Nat × Nat × Nat × Nat
def HuS (S : MM) (F : Nat → Nat × Nat) (j u r : Nat) (x : HS) : Prop := HuR S F j u r x.1 x.2.1 x.2.2.1 x.2.2.2.1 x.2.2.2.2.1 x.2.2.2.2.2
def hcl (x : HS) : HS := (if x.2.2.2.2.1 + x.2.2.2.2.2 = 0 then x.1 else hcN x.1 x.2.1.length, if x.2.2.2.2.1 + x.2.2.2.2.2 = 0 then x.2.1 else x.2.1 ++ [(x.2.2.1, x.2.2.2.2.1, x.2.2.2.1, x.2.2.2.2.2)], x.2.2.1 + x.2.2.2.2.1, x.2.2.2.1 + x.2.2.2.2.2, 0, 0)
def hst (x : HS) (p : Nat × Nat) : HS := if p.1 = 1 ∧ p.2 = 1 then ((hcl x).1, (hcl x).2.1, (hcl x).2.2.1 + 1, (hcl x).2.2.2.1 + 1, 0, 0) else (x.1, x.2.1, x.2.2.1, x.2.2.2.1, x.2.2.2.2.1 + p.1, x.2.2.2.2.2 + p.2)
def hrun : List (Nat × Nat) → HS → HS
  | [], x => hcl x
  | p :: T, x => hrun T (hst x p)
def hrC : List (Nat × Nat) → HS → Nat
  | [], x => hcC x.1 x.2.1.length (x.2.2.2.2.1 + x.2.2.2.2.2)
  | p :: T, x => (if p.1 = 1 ∧ p.2 = 1 then hcC x.1 x.2.1.length (x.2.2.2.2.1 + x.2.2.2.2.2) else 0) + hrC T (hst x p)
def hrZ : List (Nat × Nat) → HS → Nat
  | [], x => hcZ x.1 x.2.1.length (x.2.2.2.2.1 + x.2.2.2.2.2)
  | p :: T, x => (if p.1 = 1 ∧ p.2 = 1 then hcZ x.1 x.2.1.length (x.2.2.2.2.1 + x.2.2.2.2.2) else 0) + hrZ T (hst x p)
/-- n events were passed -/
def hok (n : Nat) (x : HS) : Prop := x.1 ≤ 32768 ∧ 2 * x.2.1.length + (if x.2.2.2.2.1 + x.2.2.2.2.2 = 0 then 0 else 1) ≤ n ∧ x.2.2.1 + x.2.2.2.2.1 ≤ n ∧ x.2.2.2.1 + x.2.2.2.2.2 ≤ n
def stN (S : MM) (x : Int32) (w : Nat) : Nat := if x ≤ mI S 502 w then 0 else if mI S 514 w = -1 then 1 else if mI S 514 w < x then 0 else 1
theorem stN_v {S : MM} {x : Int32} {w : Nat} : (if x ≤ mI S 502 w then (0 : Int32) else if mI S 514 w = -1 then 1 else if mI S 514 w < x then 0 else 1) = nI (stN S x w) := by
  unfold stN
  split
  · rfl
  split
  · rfl
  split <;> rfl
theorem stN_01 {S : MM} {x : Int32} {w : Nat} : stN S x w = 0 ∨ stN S x w = 1 := by
  unfold stN
  split
  · exact Or.inl rfl
  split
  · exact Or.inr rfl
  split
  · exact Or.inl rfl
  · exact Or.inr rfl
theorem hok_cl {n : Nat} {x : HS} (h : hok n x) (hn : n ≤ 8192) : (hcl x).1 ≤ 32768 ∧ 2 * (hcl x).2.1.length ≤ n + (if x.2.2.2.2.1 + x.2.2.2.2.2 = 0 then 0 else 1) := by
  obtain ⟨N, Q, fi, si, de, ie⟩ := x
  obtain ⟨a1, a2, a3, a4⟩ := h
  have a1 : N ≤ 32768 := a1
  have a2 : 2 * Q.length + (if de + ie = 0 then 0 else 1) ≤ n := a2
  show (if de + ie = 0 then N else hcN N Q.length) ≤ 32768 ∧ 2 * (if de + ie = 0 then Q else Q ++ [(fi, de, si, ie)]).length ≤ n + (if de + ie = 0 then 0 else 1)
  by_cases e : de + ie = 0
  · rw [if_pos e, if_pos e, if_pos e]; rw [if_pos e] at a2; omega
  · rw [if_neg e, if_neg e, if_neg e]; rw [if_neg e] at a2
    refine ⟨?_, by rw [List.length_append, List.length_singleton]; omega⟩
    unfold hcN
    split <;> omega
theorem hok_st {n : Nat} {x : HS} {p : Nat × Nat} (h : hok n x) (hn : n < 8192) (hp : p.1 = 0 ∨ p.1 = 1) (hq : p.2 = 0 ∨ p.2 = 1) : hok (n + 1) (hst x p) := by
  have hc := hok_cl h (by omega)
  obtain ⟨a, b⟩ := p
  have hp : a = 0 ∨ a = 1 := hp
  have hq : b = 0 ∨ b = 1 := hq
  obtain ⟨N, Q, fi, si, de, ie⟩ := x
  obtain ⟨a1, a2, a3, a4⟩ := h
  have a2 : 2 * Q.length + (if de + ie = 0 then 0 else 1) ≤ n := a2
  have a3 : fi + de ≤ n := a3
  have a4 : si + ie ≤ n := a4
  have h2 : 2 * (hcl (N, Q, fi, si, de, ie)).2.1.length ≤ n + (if de + ie = 0 then 0 else 1) := hc.2
  unfold hst
  by_cases e : a = 1 ∧ b = 1
  · rw [if_pos e]
    refine ⟨hc.1, ?_, ?_, ?_⟩
    · show 2 * (hcl (N, Q, fi, si, de, ie)).2.1.length + (if 0 + 0 = 0 then 0 else 1) ≤ n + 1
      rw [if_pos rfl]
      have : (if de + ie = 0 then 0 else 1) ≤ 1 := by split <;> omega
      omega
    · show fi + de + 1 + 0 ≤ n + 1
      omega
    · show si + ie + 1 + 0 ≤ n + 1
      omega
  · rw [if_neg e]
    refine ⟨a1, ?_, ?_, ?_⟩
    · show 2 * Q.length + (if de + a + (ie + b) = 0 then 0 else 1) ≤ n + 1
      have : (if de + a + (ie + b) = 0 then 0 else 1) ≤ 1 := by split <;> omega
      omega
    · show fi + (de + a) ≤ n + 1
      omega
    · show si + (ie + b) ≤ n + 1
      omega
def hmP (S : MM) (x y : Int32) (R : List Nat) : List (Nat × Nat) := R.map (fun w => (stN S x w, stN S y w))
def hmQ (S S' : MM) (F : Nat → Nat × Nat) (j u : Nat) (x : HS) : Prop := ∃ F' r', HuS S' F' j u r' x ∧ (∀ b, b ∈ mL S → F' b = F b) ∧ Keep (fun b => (F b).1 = j) S S'
def cmI (u : Nat) (x y : Int32) (F : Nat → Nat × Nat) (j N : Nat) (R : List Nat) (S : MM) (R1 : List Nat) (x1 : HS) (S1 : MM) (cs sl : Nat) : Prop := R1.length ≤ R.length ∧ (∀ w ∈ R1, (F w).1 ≠ j) ∧ hok (R.length - R1.length) x1 ∧ hmQ S S1 F j u x1 ∧ hrun (hmP S x y R1) x1 = hrun (hmP S x y R) (N, [], 0, 0, 0, 0) ∧ cs + hrC (hmP S x y R1) x1 = hrC (hmP S x y R) (N, [], 0, 0, 0, 0) ∧ sl + hrZ (hmP S x y R1) x1 = hrZ (hmP S x y R) (N, [], 0, 0, 0, 0)
def I_cm (u : Nat) (x y : Int32) (F : Nat → Nat × Nat) (j N : Nat) (R : List Nat) (S : MM) (t : Nat) : KT := fun lo st S1 cs sl => ∃ p R1 x1, t = 3 * R1.length ∧ chn S p R1 ∧ cmI u x y F j N R S R1 x1 S1 cs sl ∧ lo = [(4, .inr (.inr p)), (2, .inl x), (3, .inl y), (0, .inr (.inr (some u)))] ∧ st = []
def I_cmb (u : Nat) (x y : Int32) (F : Nat → Nat × Nat) (j N : Nat) (R : List Nat) (S : MM) (t : Nat) : KT := fun lo st S1 cs sl => ∃ w R2 x1, t = 3 * R2.length + 2 ∧ isO S 5 w ∧ chn S (mR S 512 w) R2 ∧ cmI u x y F j N R S (w :: R2) x1 S1 cs sl ∧ lo = [(5, .inl (nI (stN S x w))), (6, .inl (nI (stN S y w))), (4, .inr (.inr (some w))), (2, .inl x), (3, .inl y), (0, .inr (.inr (some u)))] ∧ st = []
def I_cmc (u : Nat) (x y : Int32) (F : Nat → Nat × Nat) (j N : Nat) (R : List Nat) (S : MM) (t : Nat) : KT := fun lo st S1 cs sl => ∃ w R2 x1, t = 3 * R2.length + 1 ∧ isO S 5 w ∧ (F w).1 ≠ j ∧ chn S (mR S 512 w) R2 ∧ cmI u x y F j N R S R2 x1 S1 cs sl ∧ lo = [(4, .inr (.inr (some w))), (2, .inl x), (3, .inl y), (0, .inr (.inr (some u)))] ∧ st = []
section HCM
variable {S S1 S2 : MM} {F F1 : Nat → Nat × Nat} {u j N r1 w cs sl : Nat} {x y : Int32} {R R2 : List Nat} {x1 : HS}
theorem cm_no (h : cmI u x y F j N R S (w :: R2) x1 S1 cs sl) (hR : R.length ≤ 8192) (hn : ¬ (stN S x w = 1 ∧ stN S y w = 1)) : cmI u x y F j N R S R2 (hst x1 (stN S x w, stN S y w)) (sI (sI S1 704 u (mI S1 704 u + nI (stN S x w))) 705 u (mI (sI S1 704 u (mI S1 704 u + nI (stN S x w))) 705 u + nI (stN S y w))) cs sl := by
  obtain ⟨a1, a2, a3, ⟨F', r', b1, b2, b3⟩, a5, a6, a7⟩ := h
  have al : R2.length + 1 ≤ R.length := a1
  have a3 : hok (R.length - (R2.length + 1)) x1 := a3
  have kk := fun (b : Nat) (hb : b ∈ mL S) (z : (F' b).1 = j) => (show (F b).1 = j from by rw [← b2 b hb]; exact z)
  refine ⟨by omega, fun w hw => a2 w (List.mem_cons_of_mem _ hw), ?_, ?_, a5, ?_, ?_⟩
  · rw [show R.length - R2.length = R.length - (R2.length + 1) + 1 from by omega]
    exact hok_st a3 (by omega) stN_01 stN_01
  · unfold hst
    rw [if_neg hn]
    have b1 : HuR S1 F' j u r' x1.1 x1.2.1 x1.2.2.1 x1.2.2.2.1 x1.2.2.2.2.1 x1.2.2.2.2.2 := b1
    rw [show mI S1 704 u + nI (stN S x w) = nI (x1.2.2.2.2.1 + stN S x w) from by rw [b1.2.2.2.2.2.2.2.2.2.2.2.2.2.1]; exact nI_add _ _]
    obtain ⟨c1, c2⟩ := b1.s4 (v := x1.2.2.2.2.1 + stN S x w)
    generalize sI S1 704 u (nI (x1.2.2.2.2.1 + stN S x w)) = S3 at *
    rw [show mI S3 705 u + nI (stN S y w) = nI (x1.2.2.2.2.2 + stN S y w) from by rw [c1.2.2.2.2.2.2.2.2.2.2.2.2.2.2.1]; exact nI_add _ _]
    obtain ⟨d1, d2⟩ := c1.s5 (v := x1.2.2.2.2.2 + stN S y w)
    exact ⟨F', r', d1, b2, (b3.trN c2 kk).trN d2 kk⟩
  · have : hrC (hmP S x y (w :: R2)) x1 = 0 + hrC (hmP S x y R2) (hst x1 (stN S x w, stN S y w)) := by
      show (if stN S x w = 1 ∧ stN S y w = 1 then hcC x1.1 x1.2.1.length (x1.2.2.2.2.1 + x1.2.2.2.2.2) else 0) + _ = _
      rw [if_neg hn]; rfl
    omega
  · have : hrZ (hmP S x y (w :: R2)) x1 = 0 + hrZ (hmP S x y R2) (hst x1 (stN S x w, stN S y w)) := by
      show (if stN S x w = 1 ∧ stN S y w = 1 then hcZ x1.1 x1.2.1.length (x1.2.2.2.2.1 + x1.2.2.2.2.2) else 0) + _ = _
      rw [if_neg hn]; rfl
    omega
theorem cm_yes (h : cmI u x y F j N R S (w :: R2) x1 S1 cs sl) (hR : R.length ≤ 8192) (hn : stN S x w = 1 ∧ stN S y w = 1) (g2 : ∀ b, b ∈ mL S → F1 b = F b) (g3 : Keep (fun b => (F b).1 = j) S S1) (hq : hcQ S1 S2 F1 j u x1.1 x1.2.1 x1.2.2.1 x1.2.2.2.1 x1.2.2.2.2.1 x1.2.2.2.2.2) : cmI u x y F j N R S R2 (hst x1 (stN S x w, stN S y w)) (sI (sI S2 702 u (mI S2 702 u + 1)) 703 u (mI (sI S2 702 u (mI S2 702 u + 1)) 703 u + 1)) (cs + hcC x1.1 x1.2.1.length (x1.2.2.2.2.1 + x1.2.2.2.2.2)) (sl + hcZ x1.1 x1.2.1.length (x1.2.2.2.2.1 + x1.2.2.2.2.2)) := by
  obtain ⟨a1, a2, a3, _, a5, a6, a7⟩ := h
  obtain ⟨F', r', b1, b2, b3⟩ := hq
  have al : R2.length + 1 ≤ R.length := a1
  have a3 : hok (R.length - (R2.length + 1)) x1 := a3
  have hf : ∀ b, b ∈ mL S → F' b = F b := fun b hb => (b2 b (g3.1 b hb).1).trans (g2 b hb)
  have kk := fun (b : Nat) (hb : b ∈ mL S) (z : (F' b).1 = j) => (show (F b).1 = j from by rw [← hf b hb]; exact z)
  have k2 := g3.trN b3 (fun b hb z => by rw [← g2 b hb]; exact z)
  refine ⟨by omega, fun w hw => a2 w (List.mem_cons_of_mem _ hw), ?_, ?_, a5, ?_, ?_⟩
  · rw [show R.length - R2.length = R.length - (R2.length + 1) + 1 from by omega]
    exact hok_st a3 (by omega) stN_01 stN_01
  · unfold hst
    rw [if_pos hn]
    have b1 : HuR S2 F' j u r' (hcl x1).1 (hcl x1).2.1 (hcl x1).2.2.1 (hcl x1).2.2.2.1 0 0 := b1
    rw [show mI S2 702 u + 1 = nI ((hcl x1).2.2.1 + 1) from by rw [b1.2.2.2.2.2.2.2.2.2.2.2.1]; exact nI_add _ 1]
    obtain ⟨c1, c2⟩ := b1.s2 (v := (hcl x1).2.2.1 + 1)
    generalize sI S2 702 u (nI ((hcl x1).2.2.1 + 1)) = S3 at *
    rw [show mI S3 703 u + 1 = nI ((hcl x1).2.2.2.1 + 1) from by rw [c1.2.2.2.2.2.2.2.2.2.2.2.2.1]; exact nI_add _ 1]
    obtain ⟨d1, d2⟩ := c1.s3 (v := (hcl x1).2.2.2.1 + 1)
    exact ⟨F', r', d1, hf, (k2.trN c2 kk).trN d2 kk⟩
  · have : hrC (hmP S x y (w :: R2)) x1 = hcC x1.1 x1.2.1.length (x1.2.2.2.2.1 + x1.2.2.2.2.2) + hrC (hmP S x y R2) (hst x1 (stN S x w, stN S y w)) := by
      show (if stN S x w = 1 ∧ stN S y w = 1 then hcC x1.1 x1.2.1.length (x1.2.2.2.2.1 + x1.2.2.2.2.2) else 0) + _ = _
      rw [if_pos hn]; rfl
    omega
  · have : hrZ (hmP S x y (w :: R2)) x1 = hcZ x1.1 x1.2.1.length (x1.2.2.2.2.1 + x1.2.2.2.2.2) + hrZ (hmP S x y R2) (hst x1 (stN S x w, stN S y w)) := by
      show (if stN S x w = 1 ∧ stN S y w = 1 then hcZ x1.1 x1.2.1.length (x1.2.2.2.2.1 + x1.2.2.2.2.2) else 0) + _ = _
      rw [if_pos hn]; rfl
    omega
end HCM
def T_hcm : TR := fun Rc Rs av S cs sl K _Kx => match av with
  | [.inr (.inr u_o), .inr (.inr g_o), .inl x, .inl y] => pa u_o fun u => (pa g_o fun g => (∃ (F : Nat → Nat × Nat) (j r N : Nat) (Q0 : List (Nat × Nat × Nat × Nat)) (f0 s0 rt : Nat) (R : List Nat), (HuR S F j u r N Q0 f0 s0 0 0 ∧ N ≤ 32768 ∧ GCh S g rt R ∧ (F g).1 ≠ j ∧ (F rt).1 ≠ j ∧ (∀ w ∈ R, (F w).1 ≠ j) ∧ R.length ≤ 8192) ∧ cs + (hrC (hmP S x y R) (N, [], 0, 0, 0, 0)) ≤ Rc ∧ sl + (hrZ (hmP S x y R) (N, [], 0, 0, 0, 0)) ≤ Rs ∧ (∀ (S' : MM), (hmQ S S' F j u (hrun (hmP S x y R) (N, [], 0, 0, 0, 0))) → K none S' (cs + (hrC (hmP S x y R) (N, [], 0, 0, 0, 0))) (sl + (hrZ (hmP S x y R) (N, [], 0, 0, 0, 0))))))
  | _ => False
def sp_hcm (u : Nat) (g : Nat) (x : Int32) (y : Int32) (F : Nat → Nat × Nat) (j r N : Nat) (Q0 : List (Nat × Nat × Nat × Nat)) (f0 s0 rt : Nat) (R : List Nat) : Sp := (fun av S => av = [.inr (.inr (some u)), .inr (.inr (some g)), .inl x, .inl y] ∧ (HuR S F j u r N Q0 f0 s0 0 0 ∧ N ≤ 32768 ∧ GCh S g rt R ∧ (F g).1 ≠ j ∧ (F rt).1 ≠ j ∧ (∀ w ∈ R, (F w).1 ≠ j) ∧ R.length ≤ 8192), fun _ S => hrC (hmP S x y R) (N, [], 0, 0, 0, 0), fun _ S => hrZ (hmP S x y R) (N, [], 0, 0, 0, 0), fun _ S rv S' => rv = none ∧ (hmQ S S' F j u (hrun (hmP S x y R) (N, [], 0, 0, 0, 0))), fun _ _ _ _ => False)
def tX6_compare : CD := [(0, .aload_n 0), (1, .iconst 0), (2, .putfield 13), (5, .aload_n 0), (6, .iconst 0), (7, .putfield 17), (10, .aload_n 0), (11, .iconst 0), (12, .putfield 20), (15, .aload_n 1), (16, .getfield 29), (19, .getfield 35), (22, .astore 4), (24, .aload 4), (26, .ifnull 104), (29, .aload 4), (31, .iload_n 2), (32, .invokevirtual 40), (35, .istore 5), (37, .aload 4), (39, .iload_n 3), (40, .invokevirtual 40), (43, .istore 6), (45, .iload 5), (47, .ifCond .eq 35), (50, .iload 6), (52, .ifCond .eq 30), (55, .aload_n 0), (56, .invokevirtual 44), (59, .aload_n 0), (60, .dup), (61, .getfield 17), (64, .iconst 1), (65, .iadd), (66, .putfield 17), (69, .aload_n 0), (70, .dup), (71, .getfield 20), (74, .iconst 1), (75, .iadd), (76, .putfield 20), (79, .goto 41), (82, .aload_n 0), (83, .dup), (84, .getfield 23), (87, .iload 5), (89, .ifCond .eq 7), (92, .iconst 1), (93, .goto 4), (96, .iconst 0), (97, .iadd), (98, .putfield 23), (101, .aload_n 0), (102, .dup), (103, .getfield 26), (106, .iload 6), (108, .ifCond .eq 7), (111, .iconst 1), (112, .goto 4), (115, .iconst 0), (116, .iadd), (117, .putfield 26), (120, .aload 4), (122, .getfield 35), (125, .astore 4), (127, .goto (-103)), (130, .aload_n 0), (131, .invokevirtual 44), (134, .return_)]
set_option maxRecDepth 100000 in
theorem kX6_compare : chk cX6_compare tX6_compare = true := by decide +kernel
theorem vX6_compare_40 : ∀ w ∈ ([.methodLink RX6 40 yX4_standsIn, .instanceMethod yX4_standsIn, .selects yX4_standsIn.cls yX4_standsIn yX4_standsIn, .initialized yX4_standsIn.cls, .code yX4_standsIn cX4_standsIn 2 (some .boolean)] : List Cond), w ∈ lw_good := List.forall_mem_cons.mpr ⟨mgd 1289 (by decide +kernel) (by decide +kernel), List.forall_mem_cons.mpr ⟨mgd 1259 (by decide +kernel) (by decide +kernel), List.forall_mem_cons.mpr ⟨mgd 1260 (by decide +kernel) (by decide +kernel), List.forall_mem_cons.mpr ⟨mgd 126 (by decide +kernel) (by decide +kernel), List.forall_mem_cons.mpr ⟨mgd 1261 (by decide +kernel) (by decide +kernel), fun _ h => absurd h List.not_mem_nil⟩⟩⟩⟩⟩
theorem vX6_compare_44 : ∀ w ∈ ([.methodLink RX6 44 yX6_close, .instanceMethod yX6_close, .selects yX6_close.cls yX6_close yX6_close, .initialized yX6_close.cls, .code yX6_close cX6_close 2 none] : List Cond), w ∈ lw_good := List.forall_mem_cons.mpr ⟨mgd 1290 (by decide +kernel) (by decide +kernel), List.forall_mem_cons.mpr ⟨mgd 1292 (by decide +kernel) (by decide +kernel), List.forall_mem_cons.mpr ⟨mgd 22 (by decide +kernel) (by decide +kernel), List.forall_mem_cons.mpr ⟨mgd 123 (by decide +kernel) (by decide +kernel), List.forall_mem_cons.mpr ⟨mgd 1293 (by decide +kernel) (by decide +kernel), fun _ h => absurd h List.not_mem_nil⟩⟩⟩⟩⟩
set_option maxRecDepth 100000 in
set_option maxHeartbeats 2000000 in
theorem c_hcm (l : Launch) : ∀ (u : Nat) (g : Nat) (x : Int32) (y : Int32) (F : Nat → Nat × Nat) (j r N : Nat) (Q0 : List (Nat × Nat × Nat × Nat)) (f0 s0 rt : Nat) (R : List Nat), Ct l yX6_compare cX6_compare 7 none 3 75 (sp_hcm u g x y F j r N Q0 f0 s0 rt R) := by
  intro u g x y F j r N Q0 f0 s0 rt R
  refine Ct.of (fX6, nX6, aX6, iX6, lX6, [(40, 0, 2, 1, T_std), (44, 0, 1, 0, T_huc)], qX6, gX6, []) false tX6_compare (fun _ S => look [(24, ([4,2,3,0], I_cm u x y F j N R S)), (45, ([5,6,4,2,3,0], I_cmb u x y F j N R S)), (120, ([4,2,3,0], I_cmc u x y F j N R S))]) (by decide) (by decide) kX6_compare ⟨_, _, rfl⟩ fX6_ok nX6_ok aX6_ok iX6_ok lX6_ok (fun p e R s m args below meth c Q D cy z r A C hR1 hR2 => List.forall_mem_cons.mpr ⟨cOK_use (fun _ _ _ _ _ _ _ _ h => let ⟨sp, h1, h2, h3⟩ := u_std l _ _ _ _ _ _ _ _ h; ⟨sp, cOK_V C h1 vX6_compare_40 ⟨by decide, by decide, by decide +kernel⟩ ⟨by rw [hR1]; decide, by rw [hR2]; decide⟩ (k := 5) (T := TX4) (N := 16) rfl (by decide) h2, h3⟩), List.forall_mem_cons.mpr ⟨cOK_use (fun _ _ _ _ _ _ _ _ h => let ⟨sp, h1, h2, h3⟩ := u_huc l _ _ _ _ _ _ _ _ h; ⟨sp, cOK_V C h1 vX6_compare_44 ⟨by decide, by decide, by decide +kernel⟩ ⟨by rw [hR1]; decide, by rw [hR2]; decide⟩ (k := 7) (T := TX6) (N := 6) rfl (by decide) h2, h3⟩), fun _ h => absurd h List.not_mem_nil⟩⟩) qX6_ok gX6_ok rfl ?_ ?_
  · rintro _ S ⟨rfl, hp⟩
    refine ⟨Nat.le_of_ble_eq_true rfl, 300, ?_⟩
    show (True ∧ (isO S 7 u ∧ (True ∧ (isO (sI S 701 u (0 : Int32)) 7 u ∧ (True ∧ (isO (sI (sI S 701 u (0 : Int32)) 702 u (0 : Int32)) 7 u ∧ (isO (sI (sI (sI S 701 u (0 : Int32)) 702 u (0 : Int32)) 703 u (0 : Int32)) 6 g ∧ (pa (mR (sI (sI (sI S 701 u (0 : Int32)) 702 u (0 : Int32)) 703 u (0 : Int32)) 600 g) fun a_1 => isO (sI (sI (sI S 701 u (0 : Int32)) 702 u (0 : Int32)) 703 u (0 : Int32)) 5 a_1 ∧ (∃ k1, I_cm u x y F j N R S k1 [(4, .inr (.inr (mR (sI (sI (sI S 701 u (0 : Int32)) 702 u (0 : Int32)) 703 u (0 : Int32)) 512 a_1))), (2, .inl x), (3, .inl y), (0, .inr (.inr (some u)))] [] (sI (sI (sI S 701 u (0 : Int32)) 702 u (0 : Int32)) 703 u (0 : Int32)) 0 0)))))))))
    obtain ⟨⟨a1, a2, a3, a4, a5, a6, a7, a8, a9, a10, a11, a12, a13, a14, a15, a16, a17, a18⟩, b1, ⟨c1, c2, c3, c4⟩, b3, b4, b5, b6⟩ := hp
    have gu : g ≠ u := fun e => b3 (by rw [e, a2])
    have ru : rt ≠ u := fun e => b4 (by rw [e, a2])
    refine ⟨trivial, a1, trivial, a1, trivial, a1, c1, pa_i c2 ⟨c3, 3 * R.length, mR S 512 rt, R, (N, [], 0, 0, 0, 0), rfl, c4, ⟨Nat.le_refl _, b5, ?_, ⟨F, r, ?_, fun _ _ => rfl, ?_⟩, rfl, Nat.zero_add _, Nat.zero_add _⟩, rfl, rfl⟩⟩
    · rw [Nat.sub_self]; exact ⟨b1, Nat.le_refl 0, Nat.le_refl 0, Nat.le_refl 0⟩
    · have s0 : HuR (sI S 701 u (nI 0)) F j u r N [] f0 s0 0 0 := ⟨isO_sI a1, a2, a3, isO_sI a4, a5, a6, a7, a8, Nat.zero_le _, a10, mI_sIs, (mI_sIn (by decide)).trans a12, (mI_sIn (by decide)).trans a13, (mI_sIn (by decide)).trans a14, (mI_sIn (by decide)).trans a15, fun k hk => absurd hk (Nat.not_lt_zero k), a17, a18⟩
      exact ((s0.s2 (v := 0)).1.s3 (v := 0)).1
    · exact Keep.sI (P := fun b => (F b).1 = j) (Keep.sI (P := fun b => (F b).1 = j) (Keep.sI (P := fun b => (F b).1 = j) Keep.rf (by rw [a2])) (by rw [a2])) (by rw [a2])
  · intro av S hpre pc I hI k lo st S1 cs sl h
    obtain ⟨rfl, hp⟩ := hpre
    have hm := look_in hI
    simp only [List.mem_cons, List.not_mem_nil, or_false] at hm
    rcases hm with hm | hm | hm
    · cases hm
      obtain ⟨p, R1, x1, rfl, hB, hc, rfl, rfl⟩ := h
      have hC := hc
      obtain ⟨a1, a2, a3, ⟨F', r', b1, b2, b3⟩, a5, a6, a7⟩ := hc
      have hR8 : R.length ≤ 8192 := hp.2.2.2.2.2.2
      refine ⟨300, ?_⟩
      show ((p = none → (0 = 0 ∧ (∃ (F_2 : Nat → Nat × Nat) (j_3 r_4 N_5 : Nat) (Q_6 : List (Nat × Nat × Nat × Nat)) (fi_7 si_8 de_9 ie_10 : Nat), (HuR S1 F_2 j_3 u r_4 N_5 Q_6 fi_7 si_8 de_9 ie_10 ∧ fi_7 ≤ 100000 ∧ si_8 ≤ 100000 ∧ de_9 ≤ 100000 ∧ ie_10 ≤ 100000 ∧ N_5 ≤ 32768) ∧ cs + (hcC N_5 Q_6.length (de_9 + ie_10)) ≤ hrC (hmP S x y R) (N, [], 0, 0, 0, 0) ∧ sl + (hcZ N_5 Q_6.length (de_9 + ie_10)) ≤ hrZ (hmP S x y R) (N, [], 0, 0, 0, 0) ∧ (∀ (S_11 : MM), (hcQ S1 S_11 F_2 j_3 u N_5 Q_6 fi_7 si_8 de_9 ie_10) → (([] : List MV) = [] ∧ mret none (sp_hcm u g x y F j r N Q0 f0 s0 rt R) [.inr (.inr (some u)), .inr (.inr (some g)), .inl x, .inl y] S none S_11 (cs + (hcC N_5 Q_6.length (de_9 + ie_10))) (sl + (hcZ N_5 Q_6.length (de_9 + ie_10)))))))) ∧ (∀ w_1, p = some w_1 → (0 = 0 ∧ ((pa p fun a_12 => ((isO S1 5 a_12) ∧ cs ≤ hrC (hmP S x y R) (N, [], 0, 0, 0, 0) ∧ sl ≤ hrZ (hmP S x y R) (N, [], 0, 0, 0, 0) ∧ ((0 = 0 ∧ ((pa p fun a_14 => ((isO S1 5 a_14) ∧ cs ≤ hrC (hmP S x y R) (N, [], 0, 0, 0, 0) ∧ sl ≤ hrZ (hmP S x y R) (N, [], 0, 0, 0, 0) ∧ ((∃ k1, k1 < 3 * R1.length ∧ I_cmb u x y F j N R S k1 [(5, .inl (if x ≤ mI S1 502 a_12 then 0 else if mI S1 514 a_12 = -1 then 1 else if mI S1 514 a_12 < x then 0 else 1)), (6, .inl (if y ≤ mI S1 502 a_14 then 0 else if mI S1 514 a_14 = -1 then 1 else if mI S1 514 a_14 < y then 0 else 1)), (4, .inr (.inr p)), (2, .inl x), (3, .inl y), (0, .inr (.inr (some u)))] [] S1 cs sl)))))))))))))
      refine ⟨fun e => ?_, fun w e => ?_⟩
      · subst e
        rw [hB.no] at a5 a6 a7
        have b1 : HuR S1 F' j u r' x1.1 x1.2.1 x1.2.2.1 x1.2.2.2.1 x1.2.2.2.2.1 x1.2.2.2.2.2 := b1
        obtain ⟨k1, k2, k3, k4⟩ := a3
        have a6 : cs + hcC x1.1 x1.2.1.length (x1.2.2.2.2.1 + x1.2.2.2.2.2) = hrC (hmP S x y R) (N, [], 0, 0, 0, 0) := a6
        have a7 : sl + hcZ x1.1 x1.2.1.length (x1.2.2.2.2.1 + x1.2.2.2.2.2) = hrZ (hmP S x y R) (N, [], 0, 0, 0, 0) := a7
        refine ⟨rfl, F', j, r', x1.1, x1.2.1, x1.2.2.1, x1.2.2.2.1, x1.2.2.2.2.1, x1.2.2.2.2.2, ⟨b1, by omega, by omega, by omega, by omega, k1⟩, Nat.le_of_eq a6, Nat.le_of_eq a7, fun S2 hq => ⟨rfl, trivial, ⟨rfl, ?_⟩, Nat.le_of_eq a6, Nat.le_of_eq a7⟩⟩
        obtain ⟨F2, r2, q1, q2, q3⟩ := hq
        have a5 : hcl x1 = hrun (hmP S x y R) (N, [], 0, 0, 0, 0) := a5
        rw [← a5]
        exact ⟨F2, r2, q1, fun b hb => (q2 b (b3.1 b hb).1).trans (b2 b hb), b3.trN q3 (fun b hb z => by rw [← b2 b hb]; exact z)⟩
      · subst e
        obtain ⟨R2, rfl, r5, r6⟩ := hB.nd
        have o5 : isO S1 5 w := b3.isO r5
        have kp := b3.2.1 w r5.1 (a2 w (List.mem_cons_self ..))
        have ev : ∀ z : Int32, stN S1 z w = stN S z w := fun z => by unfold stN; rw [kp.1, kp.1]
        refine ⟨rfl, o5, by omega, by omega, rfl, o5, by omega, by omega, ?_⟩
        rw [stN_v, stN_v, ev, ev]
        exact ⟨3 * R2.length + 2, by show 3 * R2.length + 2 < 3 * (R2.length + 1); omega, w, R2, x1, rfl, r5, r6, hC, rfl, rfl⟩
    · cases hm
      obtain ⟨w, R2, x1, rfl, r5, r6, hC, rfl, rfl⟩ := h
      have hc := hC
      obtain ⟨a1, a2, a3, ⟨F', r', b1, b2, b3⟩, a5, a6, a7⟩ := hc
      have hR8 : R.length ≤ 8192 := hp.2.2.2.2.2.2
      have hw : (F w).1 ≠ j := a2 w (List.mem_cons_self ..)
      have o1 : isO S1 7 u := b1.1
      have fin := fun hn => cm_no hC hR8 hn
      have cc : cs ≤ hrC (hmP S x y R) (N, [], 0, 0, 0, 0) := by omega
      refine ⟨300, ?_⟩
      show (((nI (stN S x w)) = 0 → (isO S1 7 u ∧ (((nI (stN S x w)) = 0 → (True ∧ (isO S1 7 u ∧ (isO (sI S1 704 u ((mI S1 704 u) + (0 : Int32))) 7 u ∧ (((nI (stN S y w)) = 0 → (True ∧ (isO (sI S1 704 u ((mI S1 704 u) + (0 : Int32))) 7 u ∧ (∃ k1, k1 < 3 * R2.length + 2 ∧ I_cmc u x y F j N R S k1 [(4, .inr (.inr (some w))), (2, .inl x), (3, .inl y), (0, .inr (.inr (some u)))] [] (sI (sI S1 704 u ((mI S1 704 u) + (0 : Int32))) 705 u ((mI (sI S1 704 u ((mI S1 704 u) + (0 : Int32))) 705 u) + (0 : Int32))) cs sl)))) ∧ (¬ (nI (stN S y w)) = 0 → (True ∧ (isO (sI S1 704 u ((mI S1 704 u) + (0 : Int32))) 7 u ∧ (∃ k1, k1 < 3 * R2.length + 2 ∧ I_cmc u x y F j N R S k1 [(4, .inr (.inr (some w))), (2, .inl x), (3, .inl y), (0, .inr (.inr (some u)))] [] (sI (sI S1 704 u ((mI S1 704 u) + (0 : Int32))) 705 u ((mI (sI S1 704 u ((mI S1 704 u) + (0 : Int32))) 705 u) + (1 : Int32))) cs sl))))))))) ∧ (¬ (nI (stN S x w)) = 0 → (True ∧ (isO S1 7 u ∧ (isO (sI S1 704 u ((mI S1 704 u) + (1 : Int32))) 7 u ∧ (((nI (stN S y w)) = 0 → (True ∧ (isO (sI S1 704 u ((mI S1 704 u) + (1 : Int32))) 7 u ∧ (∃ k1, k1 < 3 * R2.length + 2 ∧ I_cmc u x y F j N R S k1 [(4, .inr (.inr (some w))), (2, .inl x), (3, .inl y), (0, .inr (.inr (some u)))] [] (sI (sI S1 704 u ((mI S1 704 u) + (1 : Int32))) 705 u ((mI (sI S1 704 u ((mI S1 704 u) + (1 : Int32))) 705 u) + (0 : Int32))) cs sl)))) ∧ (¬ (nI (stN S y w)) = 0 → (True ∧ (isO (sI S1 704 u ((mI S1 704 u) + (1 : Int32))) 7 u ∧ (∃ k1, k1 < 3 * R2.length + 2 ∧ I_cmc u x y F j N R S k1 [(4, .inr (.inr (some w))), (2, .inl x), (3, .inl y), (0, .inr (.inr (some u)))] [] (sI (sI S1 704 u ((mI S1 704 u) + (1 : Int32))) 705 u ((mI (sI S1 704 u ((mI S1 704 u) + (1 : Int32))) 705 u) + (1 : Int32))) cs sl)))))))))))) ∧ (¬ (nI (stN S x w)) = 0 → (((nI (stN S y w)) = 0 → (isO S1 7 u ∧ (((nI (stN S x w)) = 0 → (True ∧ (isO S1 7 u ∧ (isO (sI S1 704 u ((mI S1 704 u) + (0 : Int32))) 7 u ∧ (((nI (stN S y w)) = 0 → (True ∧ (isO (sI S1 704 u ((mI S1 704 u) + (0 : Int32))) 7 u ∧ (∃ k1, k1 < 3 * R2.length + 2 ∧ I_cmc u x y F j N R S k1 [(4, .inr (.inr (some w))), (2, .inl x), (3, .inl y), (0, .inr (.inr (some u)))] [] (sI (sI S1 704 u ((mI S1 704 u) + (0 : Int32))) 705 u ((mI (sI S1 704 u ((mI S1 704 u) + (0 : Int32))) 705 u) + (0 : Int32))) cs sl)))) ∧ (¬ (nI (stN S y w)) = 0 → (True ∧ (isO (sI S1 704 u ((mI S1 704 u) + (0 : Int32))) 7 u ∧ (∃ k1, k1 < 3 * R2.length + 2 ∧ I_cmc u x y F j N R S k1 [(4, .inr (.inr (some w))), (2, .inl x), (3, .inl y), (0, .inr (.inr (some u)))] [] (sI (sI S1 704 u ((mI S1 704 u) + (0 : Int32))) 705 u ((mI (sI S1 704 u ((mI S1 704 u) + (0 : Int32))) 705 u) + (1 : Int32))) cs sl))))))))) ∧ (¬ (nI (stN S x w)) = 0 → (True ∧ (isO S1 7 u ∧ (isO (sI S1 704 u ((mI S1 704 u) + (1 : Int32))) 7 u ∧ (((nI (stN S y w)) = 0 → (True ∧ (isO (sI S1 704 u ((mI S1 704 u) + (1 : Int32))) 7 u ∧ (∃ k1, k1 < 3 * R2.length + 2 ∧ I_cmc u x y F j N R S k1 [(4, .inr (.inr (some w))), (2, .inl x), (3, .inl y), (0, .inr (.inr (some u)))] [] (sI (sI S1 704 u ((mI S1 704 u) + (1 : Int32))) 705 u ((mI (sI S1 704 u ((mI S1 704 u) + (1 : Int32))) 705 u) + (0 : Int32))) cs sl)))) ∧ (¬ (nI (stN S y w)) = 0 → (True ∧ (isO (sI S1 704 u ((mI S1 704 u) + (1 : Int32))) 7 u ∧ (∃ k1, k1 < 3 * R2.length + 2 ∧ I_cmc u x y F j N R S k1 [(4, .inr (.inr (some w))), (2, .inl x), (3, .inl y), (0, .inr (.inr (some u)))] [] (sI (sI S1 704 u ((mI S1 704 u) + (1 : Int32))) 705 u ((mI (sI S1 704 u ((mI S1 704 u) + (1 : Int32))) 705 u) + (1 : Int32))) cs sl)))))))))))) ∧ (¬ (nI (stN S y w)) = 0 → (0 = 0 ∧ (∃ (F_1 : Nat → Nat × Nat) (j_2 r_3 N_4 : Nat) (Q_5 : List (Nat × Nat × Nat × Nat)) (fi_6 si_7 de_8 ie_9 : Nat), (HuR S1 F_1 j_2 u r_3 N_4 Q_5 fi_6 si_7 de_8 ie_9 ∧ fi_6 ≤ 100000 ∧ si_7 ≤ 100000 ∧ de_8 ≤ 100000 ∧ ie_9 ≤ 100000 ∧ N_4 ≤ 32768) ∧ cs + (hcC N_4 Q_5.length (de_8 + ie_9)) ≤ hrC (hmP S x y R) (N, [], 0, 0, 0, 0) ∧ sl + (hcZ N_4 Q_5.length (de_8 + ie_9)) ≤ hrZ (hmP S x y R) (N, [], 0, 0, 0, 0) ∧ (∀ (S_10 : MM), (hcQ S1 S_10 F_1 j_2 u N_4 Q_5 fi_6 si_7 de_8 ie_9) → (isO S_10 7 u ∧ (True ∧ (isO S_10 7 u ∧ (isO (sI S_10 702 u ((mI S_10 702 u) + (1 : Int32))) 7 u ∧ (True ∧ (isO (sI S_10 702 u ((mI S_10 702 u) + (1 : Int32))) 7 u ∧ (∃ k1, k1 < 3 * R2.length + 2 ∧ I_cmc u x y F j N R S k1 [(4, .inr (.inr (some w))), (2, .inl x), (3, .inl y), (0, .inr (.inr (some u)))] [] (sI (sI S_10 702 u ((mI S_10 702 u) + (1 : Int32))) 703 u ((mI (sI S_10 702 u ((mI S_10 702 u) + (1 : Int32))) 703 u) + (1 : Int32))) (cs + (hcC N_4 Q_5.length (de_8 + ie_9))) (sl + (hcZ N_4 Q_5.length (de_8 + ie_9)))))))))))))))))
      have z1 : ∀ {z : Int32}, ¬ nI (stN S z w) = 0 → stN S z w = 1 := fun {z} h => (stN_01 (S := S) (x := z) (w := w)).elim (fun e => absurd (by rw [e]; rfl) h) id
      have z0 : ∀ {z : Int32}, nI (stN S z w) = 0 → ¬ stN S z w = 1 := fun {z} h e => by rw [e] at h; exact absurd h (by decide)
      have go : ∀ a b : Int32, a = nI (stN S x w) → b = nI (stN S y w) → ¬ (stN S x w = 1 ∧ stN S y w = 1) → ∃ k1, k1 < 3 * R2.length + 2 ∧ I_cmc u x y F j N R S k1 [(4, .inr (.inr (some w))), (2, .inl x), (3, .inl y), (0, .inr (.inr (some u)))] [] (sI (sI S1 704 u (mI S1 704 u + a)) 705 u (mI (sI S1 704 u (mI S1 704 u + a)) 705 u + b)) cs sl := by
        intro a b ha hb hn
        rw [ha, hb]
        exact ⟨3 * R2.length + 1, Nat.lt_succ_self _, w, R2, _, rfl, r5, hw, r6, fin hn, rfl, rfl⟩
      have b1 : HuR S1 F' j u r' x1.1 x1.2.1 x1.2.2.1 x1.2.2.2.1 x1.2.2.2.2.1 x1.2.2.2.2.2 := b1
      refine ⟨fun ha => ⟨o1, fun _ => ⟨trivial, o1, o1, fun hb => ⟨trivial, o1, go 0 0 ha.symm hb.symm (fun z => z0 ha z.1)⟩, fun hb => ⟨trivial, o1, go 0 1 ha.symm (by rw [z1 hb]; rfl) (fun z => z0 ha z.1)⟩⟩, fun hb => absurd ha hb⟩, fun ha => ⟨fun hb => ⟨o1, fun h => absurd h ha, fun _ => ⟨trivial, o1, o1, fun _ => ⟨trivial, o1, go 1 0 (by rw [z1 ha]; rfl) hb.symm (fun z => z0 hb z.2)⟩, fun h => absurd hb h⟩⟩, fun hb => ?_⟩⟩
      have hn : stN S x w = 1 ∧ stN S y w = 1 := ⟨z1 ha, z1 hb⟩
      have g1 : hrC (hmP S x y (w :: R2)) x1 = hcC x1.1 x1.2.1.length (x1.2.2.2.2.1 + x1.2.2.2.2.2) + hrC (hmP S x y R2) (hst x1 (stN S x w, stN S y w)) := by
        show (if stN S x w = 1 ∧ stN S y w = 1 then hcC x1.1 x1.2.1.length (x1.2.2.2.2.1 + x1.2.2.2.2.2) else 0) + _ = _
        rw [if_pos hn]; rfl
      have g2 : hrZ (hmP S x y (w :: R2)) x1 = hcZ x1.1 x1.2.1.length (x1.2.2.2.2.1 + x1.2.2.2.2.2) + hrZ (hmP S x y R2) (hst x1 (stN S x w, stN S y w)) := by
        show (if stN S x w = 1 ∧ stN S y w = 1 then hcZ x1.1 x1.2.1.length (x1.2.2.2.2.1 + x1.2.2.2.2.2) else 0) + _ = _
        rw [if_pos hn]; rfl
      obtain ⟨k1, k2, k3, k4⟩ := a3
      refine ⟨rfl, F', j, r', x1.1, x1.2.1, x1.2.2.1, x1.2.2.2.1, x1.2.2.2.2.1, x1.2.2.2.2.2, ⟨b1, by omega, by omega, by omega, by omega, k1⟩, by omega, by omega, fun S2 hq => ?_⟩
      have o2 : isO S2 7 u := by obtain ⟨_, _, q1, _⟩ := hq; exact q1.1
      exact ⟨o2, trivial, o2, o2, trivial, o2, 3 * R2.length + 1, Nat.lt_succ_self _, w, R2, _, rfl, r5, hw, r6, cm_yes hC hR8 hn b2 b3 hq, rfl, rfl⟩
    · cases hm
      obtain ⟨w, R2, x1, rfl, r5, hw, r6, hC, rfl, rfl⟩ := h
      have hc := hC
      obtain ⟨a1, a2, a3, ⟨F', r', b1, b2, b3⟩, a5, a6, a7⟩ := hc
      have kp := b3.2.1 w r5.1 hw
      refine ⟨300, ?_⟩
      show (isO S1 5 w ∧ (∃ k1, k1 < 3 * R2.length + 1 ∧ I_cm u x y F j N R S k1 [(4, .inr (.inr (mR S1 512 w))), (2, .inl x), (3, .inl y), (0, .inr (.inr (some u)))] [] S1 cs sl))
      exact ⟨b3.isO r5, 3 * R2.length, Nat.lt_succ_self _, mR S1 512 w, R2, x1, rfl, by rw [kp.2.1]; exact r6, hC, rfl, rfl⟩
theorem u_hcm (l : Launch) : Us l yX6_compare cX6_compare 7 none 3 75 7 T_hcm := by
  intro Rc Rs av S cs sl K Kx h
  unfold T_hcm at h
  split at h
  · rename_i u_o g_o x y
    obtain ⟨u, rfl, h_1⟩ := pa_of h
    obtain ⟨g, rfl, h_2⟩ := pa_of h_1
    obtain ⟨F, j, r, N, Q0, f0, s0, rt, R, hp, hc, hs, hk⟩ := h_2
    refine ⟨(sp_hcm u g x y F j r N Q0 f0 s0 rt R), c_hcm l u g x y F j r N Q0 f0 s0 rt R, fun _ _ h9 => ⟨_, _, h9.1, h9.2.1.1⟩, ⟨rfl, hp⟩, hc, hs, fun S' h8 => by
      obtain ⟨-, h8⟩ := h8
      exact hk _ h8, fun _ _ q => q.elim⟩
  · exact h.elim
