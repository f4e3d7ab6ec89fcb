/-! ===== Hunks.close ===== -/
/-- the hunks that were found, in the row r of N places; the two indices, what is gone and what has come since -/
def HuR (S : MM) (F : Nat → Nat × Nat) (j h r N : Nat) (Q : List (Nat × Nat × Nat × Nat)) (fi si de ie : Nat) : Prop := isO S 7 h ∧ F h = (j, 1) ∧ mR S 700 h = some r ∧ isO S 17 r ∧ F r = (j, 2) ∧ mN S r = N ∧ 64 ≤ N ∧ N ≤ 65536 ∧ 4 * Q.length ≤ N ∧ (∃ m, N = 4 * m) ∧ mI S 701 h = nI Q.length ∧ mI S 702 h = nI fi ∧ mI S 703 h = nI si ∧ mI S 704 h = nI de ∧ mI S 705 h = nI ie ∧ (∀ k, k < Q.length → eI S r (4 * k) = nI (Q.getD k (0, 0, 0, 0)).1 ∧ eI S r (4 * k + 1) = nI (Q.getD k (0, 0, 0, 0)).2.1 ∧ eI S r (4 * k + 2) = nI (Q.getD k (0, 0, 0, 0)).2.2.1 ∧ eI S r (4 * k + 3) = nI (Q.getD k (0, 0, 0, 0)).2.2.2) ∧ FO S F ∧ j ≠ 0
def hcN (N l : Nat) : Nat := if 4 * l = N then 2 * N else N
def hcC (N l s : Nat) : Nat := if s = 0 then 0 else if 4 * l = N then 1 else 0
def hcZ (N l s : Nat) : Nat := if s = 0 then 0 else if 4 * l = N then 2 * N else 0
def hcQ (S S' : MM) (F : Nat → Nat × Nat) (j h N : Nat) (Q : List (Nat × Nat × Nat × Nat)) (fi si de ie : Nat) : Prop := ∃ F' r', HuR S' F' j h r' (if de + ie = 0 then N else hcN N Q.length) (if de + ie = 0 then Q else Q ++ [(fi, de, si, ie)]) (fi + de) (si + ie) 0 0 ∧ (∀ b, b ∈ mL S → F' b = F b) ∧ Keep (fun b => (F b).1 = j) S S'
theorem nI_mul4 {n : Nat} (_ : n ≤ 100000) : (4 : Int32) * nI n = nI (4 * n) := by
  show nI 4 * nI n = nI (4 * n)
  unfold nI
  rw [Int32.ofNat_mul]
theorem nI_mul2 {n : Nat} (_ : n ≤ 100000) : (2 : Int32) * nI n = nI (2 * n) := by
  show nI 2 * nI n = nI (2 * n)
  unfold nI
  rw [Int32.ofNat_mul]
def hcv (fi si de ie m : Nat) : Nat := if m = 0 then fi else if m = 1 then de else if m = 2 then si else ie
def I_hc (m h : Nat) (F : Nat → Nat × Nat) (j N : Nat) (Q : List (Nat × Nat × Nat × Nat)) (fi si de ie : Nat) (S : MM) (t : Nat) : KT := fun lo st S1 cs sl => t = 5 - m ∧ de + ie ≠ 0 ∧ lo = [(1, .inl (nI (4 * Q.length))), (0, .inr (.inr (some h)))] ∧ st = [] ∧ (∃ F' r', HuR S1 F' j h r' (hcN N Q.length) Q fi si de ie ∧ 4 * Q.length + 4 ≤ hcN N Q.length ∧ (∀ i, i < m → eI S1 r' (4 * Q.length + i) = nI (hcv fi si de ie i)) ∧ (∀ b, b ∈ mL S → F' b = F b) ∧ Keep (fun b => (F b).1 = j) S S1) ∧ cs = hcC N Q.length (de + ie) ∧ sl = hcZ N Q.length (de + ie)
section HUS
variable {S : MM} {F : Nat → Nat × Nat} {j h r N : Nat} {Q : List (Nat × Nat × Nat × Nat)} {fi si de ie : Nat}
theorem HuR.put (hh : HuR S F j h r N Q fi si de ie) {k : Nat} (hk : 4 * Q.length ≤ k) {v : Int32} : HuR (rI S r (upd (eI S r) k v)) F j h r N Q fi si de ie ∧ Keep (fun b => (F b).1 = j) S (rI S r (upd (eI S r) k v)) := by
  obtain ⟨a1, a2, a3, a4, a5, a6, a7, a8, a9, a10, a11, a12, a13, a14, a15, a16, a17, a18⟩ := hh
  refine ⟨⟨isO_rI a1, a2, a3, isO_rI a4, a5, a6, a7, a8, a9, a10, a11, a12, a13, a14, a15, fun l hl => ?_, a17, a18⟩, Keep.rI (P := fun b => (F b).1 = j) Keep.rf (by rw [a5])⟩
  have e1 : eI (rI S r (upd (eI S r) k v)) r = upd (eI S r) k v := va_up_self _ _ _
  have e2 : ∀ m, m ≠ k → upd (eI S r) k v m = eI S r m := fun m hm => if_neg hm
  rw [e1, e2 _ (by omega), e2 _ (by omega), e2 _ (by omega), e2 _ (by omega)]
  exact a16 l hl
theorem mI_sIn {S : MM} {i a q : Nat} {v : Int32} (hq : q ≠ i) : mI (sI S i a v) q a = mI S q a := if_neg (fun z => hq z.1)
theorem mI_sIs {S : MM} {i a : Nat} {v : Int32} : mI (sI S i a v) i a = v := if_pos ⟨rfl, rfl⟩
theorem HuR.s1 (hh : HuR S F j h r N Q fi si de ie) (hn : 4 * Q.length + 4 ≤ N) {x : Nat × Nat × Nat × Nat} (e0 : eI S r (4 * Q.length) = nI x.1) (e1 : eI S r (4 * Q.length + 1) = nI x.2.1) (e2 : eI S r (4 * Q.length + 2) = nI x.2.2.1) (e3 : eI S r (4 * Q.length + 3) = nI x.2.2.2) : HuR (sI S 701 h (nI (Q.length + 1))) F j h r N (Q ++ [x]) fi si de ie ∧ Keep (fun b => (F b).1 = j) S (sI S 701 h (nI (Q.length + 1))) := by
  obtain ⟨a1, a2, a3, a4, a5, a6, a7, a8, a9, a10, a11, a12, a13, a14, a15, a16, a17, a18⟩ := hh
  have hl : (Q ++ [x]).length = Q.length + 1 := by rw [List.length_append, List.length_singleton]
  refine ⟨⟨isO_sI a1, a2, a3, isO_sI a4, a5, a6, a7, a8, by rw [hl]; omega, a10, by rw [hl]; exact mI_sIs, (mI_sIn (by decide)).trans a12, (mI_sIn (by decide)).trans a13, (mI_sIn (by decide)).trans a14, (mI_sIn (by decide)).trans a15, fun k hk => ?_, a17, a18⟩, Keep.sI (P := fun b => (F b).1 = j) Keep.rf (by rw [a2])⟩
  rw [hl] at hk
  rcases Nat.lt_or_ge k Q.length with q | q
  · rw [show (Q ++ [x]).getD k (0, 0, 0, 0) = Q.getD k (0, 0, 0, 0) from by rw [List.getD_eq_getElem?_getD, List.getElem?_append_left q, ← List.getD_eq_getElem?_getD]]
    exact a16 k q
  · have ek : k = Q.length := by omega
    subst ek
    rw [show (Q ++ [x]).getD Q.length (0, 0, 0, 0) = x from by rw [List.getD_eq_getElem?_getD, List.getElem?_append_right (Nat.le_refl _), Nat.sub_self]; rfl]
    exact ⟨e0, e1, e2, e3⟩
theorem HuR.s2 (hh : HuR S F j h r N Q fi si de ie) {v : Nat} : HuR (sI S 702 h (nI v)) F j h r N Q v si de ie ∧ Keep (fun b => (F b).1 = j) S (sI S 702 h (nI v)) := by
  obtain ⟨a1, a2, a3, a4, a5, a6, a7, a8, a9, a10, a11, a12, a13, a14, a15, a16, a17, a18⟩ := hh
  exact ⟨⟨isO_sI a1, a2, a3, isO_sI a4, a5, a6, a7, a8, a9, a10, (mI_sIn (by decide)).trans a11, mI_sIs, (mI_sIn (by decide)).trans a13, (mI_sIn (by decide)).trans a14, (mI_sIn (by decide)).trans a15, a16, a17, a18⟩, Keep.sI (P := fun b => (F b).1 = j) Keep.rf (by rw [a2])⟩
theorem HuR.s3 (hh : HuR S F j h r N Q fi si de ie) {v : Nat} : HuR (sI S 703 h (nI v)) F j h r N Q fi v de ie ∧ Keep (fun b => (F b).1 = j) S (sI S 703 h (nI v)) := by
  obtain ⟨a1, a2, a3, a4, a5, a6, a7, a8, a9, a10, a11, a12, a13, a14, a15, a16, a17, a18⟩ := hh
  exact ⟨⟨isO_sI a1, a2, a3, isO_sI a4, a5, a6, a7, a8, a9, a10, (mI_sIn (by decide)).trans a11, (mI_sIn (by decide)).trans a12, mI_sIs, (mI_sIn (by decide)).trans a14, (mI_sIn (by decide)).trans a15, a16, a17, a18⟩, Keep.sI (P := fun b => (F b).1 = j) Keep.rf (by rw [a2])⟩
theorem HuR.s4 (hh : HuR S F j h r N Q fi si de ie) {v : Nat} : HuR (sI S 704 h (nI v)) F j h r N Q fi si v ie ∧ Keep (fun b => (F b).1 = j) S (sI S 704 h (nI v)) := by
  obtain ⟨a1, a2, a3, a4, a5, a6, a7, a8, a9, a10, a11, a12, a13, a14, a15, a16, a17, a18⟩ := hh
  exact ⟨⟨isO_sI a1, a2, a3, isO_sI a4, a5, a6, a7, a8, a9, a10, (mI_sIn (by decide)).trans a11, (mI_sIn (by decide)).trans a12, (mI_sIn (by decide)).trans a13, mI_sIs, (mI_sIn (by decide)).trans a15, a16, a17, a18⟩, Keep.sI (P := fun b => (F b).1 = j) Keep.rf (by rw [a2])⟩
theorem HuR.s5 (hh : HuR S F j h r N Q fi si de ie) {v : Nat} : HuR (sI S 705 h (nI v)) F j h r N Q fi si de v ∧ Keep (fun b => (F b).1 = j) S (sI S 705 h (nI v)) := by
  obtain ⟨a1, a2, a3, a4, a5, a6, a7, a8, a9, a10, a11, a12, a13, a14, a15, a16, a17, a18⟩ := hh
  exact ⟨⟨isO_sI a1, a2, a3, isO_sI a4, a5, a6, a7, a8, a9, a10, (mI_sIn (by decide)).trans a11, (mI_sIn (by decide)).trans a12, (mI_sIn (by decide)).trans a13, (mI_sIn (by decide)).trans a14, mI_sIs, a16, a17, a18⟩, Keep.sI (P := fun b => (F b).1 = j) Keep.rf (by rw [a2])⟩
/-- one entry more of the row that is being written -/
theorem hc_put {S0 : MM} {F0 : Nat → Nat × Nat} {m : Nat} {lo st cs sl} (hm : m < 4) (hI : I_hc m h F0 j N Q fi si de ie S0 (5 - m) lo st S cs sl) {x : Int32} (hx : x = nI (hcv fi si de ie m)) {z : Int32} (hz : z = nI (4 * Q.length + m)) : pa (mR S 700 h) fun a => isO S 17 a ∧ inR S a z ∧ ∃ k1, k1 < 5 - m ∧ I_hc (m + 1) h F0 j N Q fi si de ie S0 k1 lo st (rI S a (upd (eI S a) z.toNatClampNeg x)) cs sl := by
  obtain ⟨_, hne, hlo, hst, ⟨F', r', h1, h2, h3, h4, h5⟩, hcs, hsl⟩ := hI
  subst hx hz
  have hN := h1.2.2.2.2.2.2.2.1
  refine pa_i h1.2.2.1 ⟨h1.2.2.2.1, (fun z => z.elim (fun z => absurd z (nI_pos (by omega))) (fun z => by rw [h1.2.2.2.2.2.1, nI_clamp (by omega)] at z; omega)), 5 - (m + 1), by omega, rfl, hne, hlo, hst, ?_, hcs, hsl⟩
  rw [nI_clamp (by omega)]
  obtain ⟨p1, p2⟩ := h1.put (k := 4 * Q.length + m) (by omega) (v := nI (hcv fi si de ie m))
  refine ⟨F', r', p1, h2, fun i hi => ?_, h4, h5.trN p2 (fun b hb z => by rw [← h4 b hb]; exact z)⟩
  rw [show eI (rI S r' (upd (eI S r') (4 * Q.length + m) (nI (hcv fi si de ie m)))) r' = upd (eI S r') (4 * Q.length + m) (nI (hcv fi si de ie m)) from va_up_self _ _ _]
  by_cases q : i = m
  · subst q; exact if_pos rfl
  · rw [show upd (eI S r') (4 * Q.length + m) (nI (hcv fi si de ie m)) (4 * Q.length + i) = eI S r' (4 * Q.length + i) from if_neg (by omega)]
    exact h3 i (by omega)
end HUS
def T_huc : TR := fun Rc Rs av S cs sl K _Kx => match av with
  | [.inr (.inr g_o)] => pa g_o fun g => (∃ (F : Nat → Nat × Nat) (j r N : Nat) (Q : List (Nat × Nat × Nat × Nat)) (fi si de ie : Nat), (HuR S F j g r N Q fi si de ie ∧ fi ≤ 100000 ∧ si ≤ 100000 ∧ de ≤ 100000 ∧ ie ≤ 100000 ∧ N ≤ 32768) ∧ cs + (hcC N Q.length (de + ie)) ≤ Rc ∧ sl + (hcZ N Q.length (de + ie)) ≤ Rs ∧ (∀ (S' : MM), (hcQ S S' F j g N Q fi si de ie) → K none S' (cs + (hcC N Q.length (de + ie))) (sl + (hcZ N Q.length (de + ie)))))
  | _ => False
def sp_huc (g : Nat) (F : Nat → Nat × Nat) (j r N : Nat) (Q : List (Nat × Nat × Nat × Nat)) (fi si de ie : Nat) : Sp := (fun av S => av = [.inr (.inr (some g))] ∧ (HuR S F j g r N Q fi si de ie ∧ fi ≤ 100000 ∧ si ≤ 100000 ∧ de ≤ 100000 ∧ ie ≤ 100000 ∧ N ≤ 32768), fun _ S => hcC N Q.length (de + ie), fun _ S => hcZ N Q.length (de + ie), fun _ S rv S' => rv = none ∧ (hcQ S S' F j g N Q fi si de ie), fun _ _ _ _ => False)
def tX6_close : CD := [(0, .aload_n 0), (1, .getfield 23), (4, .aload_n 0), (5, .getfield 26), (8, .iadd), (9, .ifCond .ne 4), (12, .return_), (13, .iconst 4), (14, .aload_n 0), (15, .getfield 13), (18, .imul), (19, .istore_n 1), (20, .iload_n 1), (21, .aload_n 0), (22, .getfield 9), (25, .arraylength), (26, .if_icmp .ne 17), (29, .aload_n 0), (30, .aload_n 0), (31, .getfield 9), (34, .iconst 2), (35, .iload_n 1), (36, .imul), (37, .invokestatic 47), (40, .putfield 9), (43, .aload_n 0), (44, .getfield 9), (47, .iload_n 1), (48, .aload_n 0), (49, .getfield 17), (52, .iastore), (53, .aload_n 0), (54, .getfield 9), (57, .iload_n 1), (58, .iconst 1), (59, .iadd), (60, .aload_n 0), (61, .getfield 23), (64, .iastore), (65, .aload_n 0), (66, .getfield 9), (69, .iload_n 1), (70, .iconst 2), (71, .iadd), (72, .aload_n 0), (73, .getfield 20), (76, .iastore), (77, .aload_n 0), (78, .getfield 9), (81, .iload_n 1), (82, .iconst 3), (83, .iadd), (84, .aload_n 0), (85, .getfield 26), (88, .iastore), (89, .aload_n 0), (90, .dup), (91, .getfield 13), (94, .iconst 1), (95, .iadd), (96, .putfield 13), (99, .aload_n 0), (100, .dup), (101, .getfield 17), (104, .aload_n 0), (105, .getfield 23), (108, .iadd), (109, .putfield 17), (112, .aload_n 0), (113, .dup), (114, .getfield 20), (117, .aload_n 0), (118, .getfield 26), (121, .iadd), (122, .putfield 20), (125, .aload_n 0), (126, .iconst 0), (127, .putfield 23), (130, .aload_n 0), (131, .iconst 0), (132, .putfield 26), (135, .return_)]
set_option maxRecDepth 100000 in
theorem kX6_close : chk cX6_close tX6_close = true := by decide +kernel
theorem vX6_close_47 : ∀ w ∈ ([.methodLink RX6 47 yJ7_copyOf_59c91, .static yJ7_copyOf_59c91, .initialized yJ7_copyOf_59c91.cls, .code yJ7_copyOf_59c91 cJ7_copyOf_59c91 3 (some (.array .int))] : List Cond), w ∈ lw_good := List.forall_mem_cons.mpr ⟨mgd 1294 (by decide +kernel) (by decide +kernel), List.forall_mem_cons.mpr ⟨mgd 1267 (by decide +kernel) (by decide +kernel), List.forall_mem_cons.mpr ⟨mgd 135 (by decide +kernel) (by decide +kernel), List.forall_mem_cons.mpr ⟨mgd 1268 (by decide +kernel) (by decide +kernel), fun _ h => absurd h List.not_mem_nil⟩⟩⟩⟩
set_option maxRecDepth 100000 in
set_option maxHeartbeats 2000000 in
theorem c_huc (l : Launch) : ∀ (g : Nat) (F : Nat → Nat × Nat) (j r N : Nat) (Q : List (Nat × Nat × Nat × Nat)) (fi si de ie : Nat), Ct l yX6_close cX6_close 2 none 2 54 (sp_huc g F j r N Q fi si de ie) := by
  intro g F j r N Q fi si de ie
  refine Ct.of (fX6, nX6, aX6, iX6, lX6, [(47, 2, 2, 3, T_cpi)], qX6, gX6, []) false tX6_close (fun _ S => look [(43, ([1,0], I_hc 0 g F j N Q fi si de ie S)), (53, ([1,0], I_hc 1 g F j N Q fi si de ie S)), (65, ([1,0], I_hc 2 g F j N Q fi si de ie S)), (77, ([1,0], I_hc 3 g F j N Q fi si de ie S)), (89, ([1,0], I_hc 4 g F j N Q fi si de ie S))]) (by decide) (by decide) kX6_close ⟨_, _, rfl⟩ fX6_ok nX6_ok aX6_ok iX6_ok lX6_ok (fun p e R s m args below meth c Q D cy z r A C hR1 hR2 => List.forall_mem_cons.mpr ⟨cOK_use (fun _ _ _ _ _ _ _ _ h => let ⟨sp, h1, _, h3⟩ := u_cpi l _ _ _ _ _ _ _ _ h; ⟨sp, cOK_S C h1 vX6_close_47 ⟨by decide, by decide, by decide +kernel⟩ ⟨by rw [hR1]; decide, by rw [hR2]; decide⟩, h3⟩), fun _ h => absurd h List.not_mem_nil⟩) qX6_ok gX6_ok rfl ?_ ?_
  · rintro _ S ⟨rfl, hp⟩
    refine ⟨Nat.le_of_ble_eq_true rfl, 300, ?_⟩
    show (isO S 7 g ∧ (isO S 7 g ∧ ((¬ ((mI S 704 g) + (mI S 705 g)) = 0 → (isO S 7 g ∧ (isO S 7 g ∧ (pa (mR S 700 g) fun a_1 => ∃ v_2 : Int32, (a_1 ∈ mL S ∧ ¬ mK S a_1 < 16 ∧ mK S a_1 < 29 ∧ v_2 = Int32.ofNat (mN S a_1) ∨ a_1 = mZ S ∧ v_2 = 0) ∧ ((¬ ((4 : Int32) * (mI S 701 g)) = v_2 → (∃ k1, I_hc 0 g F j N Q fi si de ie S k1 [(1, .inl ((4 : Int32) * (mI S 701 g))), (0, .inr (.inr (some g)))] [] S 0 0)) ∧ (((4 : Int32) * (mI S 701 g)) = v_2 → (isO S 7 g ∧ (2 = 2 ∧ ((pa (mR S 700 g) fun a_3 => (∃ (n_4 : Nat), (2 : Int32) * ((4 : Int32) * (mI S 701 g)) = nI n_4 ∧ ((isO S 17 a_3 ∧ mN S a_3 < n_4 ∧ n_4 ≤ 60000000) ∧ 0 + 1 ≤ hcC N Q.length (de + ie) ∧ 0 + n_4 ≤ hcZ N Q.length (de + ie) ∧ (∀ (x_6 : Option Nat) (S_5 : MM), (∃ q, q ∉ mL S ∧ x_6 = some q ∧ S_5 = cpI S a_3 q n_4) → (True ∧ (isO S_5 7 g ∧ (∃ k1, I_hc 0 g F j N Q fi si de ie S k1 [(1, .inl ((4 : Int32) * (mI S 701 g))), (0, .inr (.inr (some g)))] [] (sR S_5 700 g x_6) (0 + 1) (0 + n_4))))))))))))))))) ∧ (((mI S 704 g) + (mI S 705 g)) = 0 → (([] : List MV) = [] ∧ mret none (sp_huc g F j r N Q fi si de ie) [.inr (.inr (some g))] S none S 0 0)))))
    obtain ⟨hh, b1, b2, b3, b4, b5⟩ := hp
    have hH := hh
    obtain ⟨a1, a2, a3, a4, a5, a6, a7, a8, a9, ⟨m4, a10⟩, a11, a12, a13, a14, a15, a16, a17, a18⟩ := hh
    have e4 : 4 * mI S 701 g = nI (4 * Q.length) := by rw [a11]; exact nI_mul4 (by omega)
    have eS : mI S 704 g + mI S 705 g = nI (de + ie) := by rw [a14, a15]; exact nI_add _ _
    have kF : ∀ {q}, q ∉ mL S → ∀ b, b ∈ mL S → b ≠ q := fun hq b hb e => hq (e ▸ hb)
    rw [e4, eS]
    refine ⟨a1, a1, fun hz => ⟨a1, a1, pa_i a3 ⟨nI N, Or.inl ⟨a4.1, by rw [a4.2]; decide, by rw [a4.2]; decide, by rw [a6]; rfl⟩, fun hn => ?_, fun he => ⟨a1, rfl, pa_i a3 ⟨2 * N, ?_, ⟨a4, by rw [a6]; omega, by omega⟩, ?_, ?_, fun x S5 hx => ?_⟩⟩⟩⟩, fun hz => ⟨rfl, trivial, ?_⟩⟩
    · have hl : 4 * Q.length ≠ N := fun e => hn (by rw [e])
      have hs : de + ie ≠ 0 := fun e => hz (by rw [e]; rfl)
      have en : hcN N Q.length = N := if_neg hl
      exact ⟨5, rfl, hs, rfl, rfl, ⟨F, r, by rw [en]; exact hH, by rw [en]; omega, fun i hi => absurd hi (Nat.not_lt_zero i), fun _ _ => rfl, Keep.rf⟩, by unfold hcC; rw [if_neg hs, if_neg hl], by unfold hcZ; rw [if_neg hs, if_neg hl]⟩
    · rw [(nI_eq (by omega) (by omega)).1 he]; exact nI_mul2 (by omega)
    · have hl : 4 * Q.length = N := (nI_eq (by omega) (by omega)).1 he
      have hs : de + ie ≠ 0 := fun e => hz (by rw [e]; rfl)
      unfold hcC; rw [if_neg hs, if_pos hl]; exact Nat.le_refl 1
    · have hl : 4 * Q.length = N := (nI_eq (by omega) (by omega)).1 he
      have hs : de + ie ≠ 0 := fun e => hz (by rw [e]; rfl)
      unfold hcZ; rw [if_neg hs, if_pos hl, Nat.zero_add]; exact Nat.le_refl _
    · obtain ⟨q, hq, rfl, rfl⟩ := hx
      have hl : 4 * Q.length = N := (nI_eq (by omega) (by omega)).1 he
      have hs : de + ie ≠ 0 := fun e => hz (by rw [e]; rfl)
      have en : hcN N Q.length = 2 * N := if_pos hl
      have o1 : isO (cpI S r q (2 * N)) 7 g := isO_rI (isO_nA a1 hq)
      have gq : g ≠ q := fun e => hq (e ▸ a1.1)
      refine ⟨trivial, o1, 5, rfl, hs, rfl, rfl, ⟨fun b => if b = q then (j, 2) else F b, q, ?_, by rw [en]; omega, fun i hi => absurd hi (Nat.not_lt_zero i), fun b hb => if_neg (kF hq b hb), ?_⟩, by unfold hcC; rw [if_neg hs, if_pos hl], by unfold hcZ; rw [if_neg hs, if_pos hl, Nat.zero_add]⟩
      · rw [en]
        have rq : r ≠ q := fun e => hq (e ▸ a4.1)
        have fq : (fun b => if b = q then (j, 2) else F b) g = (j, 1) := by show (if g = q then (j, 2) else F g) = (j, 1); rw [if_neg gq]; exact a2
        have ee : eI (sR (cpI S r q (2 * N)) 700 g (some q)) q = fun k => if k < mN S r then eI S r k else 0 := va_up_self _ _ _
        refine ⟨isO_sR o1, fq, by rw [mR_sR, if_pos ⟨rfl, rfl⟩], isO_sR (isO_rI isO_nA_self), if_pos rfl, by show mN (nA S q 17 (2 * N)) q = 2 * N; rw [mN_nA, if_pos rfl], by omega, by omega, by omega, ⟨2 * m4, by omega⟩, a11, a12, a13, a14, a15, fun k hk => ?_, fun b hb => ?_, a18⟩
        · rw [ee]
          obtain ⟨x0, x1, x2, x3⟩ := a16 k hk
          refine ⟨?_, ?_, ?_, ?_⟩
          · show (if 4 * k < mN S r then eI S r (4 * k) else 0) = _
            rw [if_pos (by omega)]; exact x0
          · show (if 4 * k + 1 < mN S r then eI S r (4 * k + 1) else 0) = _
            rw [if_pos (by omega)]; exact x1
          · show (if 4 * k + 2 < mN S r then eI S r (4 * k + 2) else 0) = _
            rw [if_pos (by omega)]; exact x2
          · show (if 4 * k + 3 < mN S r then eI S r (4 * k + 3) else 0) = _
            rw [if_pos (by omega)]; exact x3
        · by_cases e : b = q
          · rw [e]; exact (isO_nA_self (S := S) (k := 17) (n := 2 * N)).1
          · have hb : (if b = q then (j, 2) else F b) ≠ (0, 0) := hb
            rw [if_neg e] at hb
            exact List.mem_append_left _ (a17 b hb)
      · exact Keep.sR (P := fun b => (F b).1 = j) ((Keep.nA (P := fun b => (F b).1 = j) Keep.rf hq).trN (Keep.rI (P := fun b => b = q) Keep.rf rfl) (fun b hb e => absurd (e ▸ hb) hq)) (by rw [a2])
    · have hs : de + ie = 0 := (nI_eq (by omega) (by omega)).1 hz
      refine ⟨⟨rfl, F, r, ?_, fun _ _ => rfl, Keep.rf⟩, Nat.zero_le _, Nat.zero_le _⟩
      rw [if_pos hs, if_pos hs, show de = 0 from by omega, show ie = 0 from by omega]
      rw [show de = 0 from by omega, show ie = 0 from by omega] at hH
      exact hH
  · intro av S hpre pc I hI k lo st S1 cs sl h
    obtain ⟨rfl, hp⟩ := hpre
    have hm := look_in hI
    simp only [List.mem_cons, List.not_mem_nil, or_false] at hm
    rcases hm with hm | hm | hm | hm | hm
    · cases hm
      have h0 := h
      obtain ⟨rfl, hne, rfl, rfl, hQ, rfl, rfl⟩ := h
      obtain ⟨F', r', h1, h2, h3, h4, h5⟩ := hQ
      refine ⟨300, ?_⟩
      show (isO S1 7 g ∧ (isO S1 7 g ∧ (pa (mR S1 700 g) fun a_1 => isO S1 17 a_1 ∧ inR S1 a_1 (nI (4 * Q.length)) ∧ (∃ k1, k1 < 5 - 0 ∧ I_hc 1 g F j N Q fi si de ie S k1 [(1, .inl (nI (4 * Q.length))), (0, .inr (.inr (some g)))] [] (rI S1 a_1 (upd (eI S1 a_1) (nI (4 * Q.length)).toNatClampNeg (mI S1 702 g))) (hcC N Q.length (de + ie)) (hcZ N Q.length (de + ie))))))
      exact ⟨h1.1, h1.1, hc_put (by decide) h0 h1.2.2.2.2.2.2.2.2.2.2.2.1 rfl⟩
    · cases hm
      have h0 := h
      obtain ⟨rfl, hne, rfl, rfl, hQ, rfl, rfl⟩ := h
      obtain ⟨F', r', h1, h2, h3, h4, h5⟩ := hQ
      refine ⟨300, ?_⟩
      show (isO S1 7 g ∧ (isO S1 7 g ∧ (pa (mR S1 700 g) fun a_1 => isO S1 17 a_1 ∧ inR S1 a_1 ((nI (4 * Q.length)) + (1 : Int32)) ∧ (∃ k1, k1 < 5 - 1 ∧ I_hc 2 g F j N Q fi si de ie S k1 [(1, .inl (nI (4 * Q.length))), (0, .inr (.inr (some g)))] [] (rI S1 a_1 (upd (eI S1 a_1) ((nI (4 * Q.length)) + (1 : Int32)).toNatClampNeg (mI S1 704 g))) (hcC N Q.length (de + ie)) (hcZ N Q.length (de + ie))))))
      exact ⟨h1.1, h1.1, hc_put (by decide) h0 h1.2.2.2.2.2.2.2.2.2.2.2.2.2.1 (nI_add _ _)⟩
    · cases hm
      have h0 := h
      obtain ⟨rfl, hne, rfl, rfl, hQ, rfl, rfl⟩ := h
      obtain ⟨F', r', h1, h2, h3, h4, h5⟩ := hQ
      refine ⟨300, ?_⟩
      show (isO S1 7 g ∧ (isO S1 7 g ∧ (pa (mR S1 700 g) fun a_1 => isO S1 17 a_1 ∧ inR S1 a_1 ((nI (4 * Q.length)) + (2 : Int32)) ∧ (∃ k1, k1 < 5 - 2 ∧ I_hc 3 g F j N Q fi si de ie S k1 [(1, .inl (nI (4 * Q.length))), (0, .inr (.inr (some g)))] [] (rI S1 a_1 (upd (eI S1 a_1) ((nI (4 * Q.length)) + (2 : Int32)).toNatClampNeg (mI S1 703 g))) (hcC N Q.length (de + ie)) (hcZ N Q.length (de + ie))))))
      exact ⟨h1.1, h1.1, hc_put (by decide) h0 h1.2.2.2.2.2.2.2.2.2.2.2.2.1 (nI_add _ _)⟩
    · cases hm
      have h0 := h
      obtain ⟨rfl, hne, rfl, rfl, hQ, rfl, rfl⟩ := h
      obtain ⟨F', r', h1, h2, h3, h4, h5⟩ := hQ
      refine ⟨300, ?_⟩
      show (isO S1 7 g ∧ (isO S1 7 g ∧ (pa (mR S1 700 g) fun a_1 => isO S1 17 a_1 ∧ inR S1 a_1 ((nI (4 * Q.length)) + (3 : Int32)) ∧ (∃ k1, k1 < 5 - 3 ∧ I_hc 4 g F j N Q fi si de ie S k1 [(1, .inl (nI (4 * Q.length))), (0, .inr (.inr (some g)))] [] (rI S1 a_1 (upd (eI S1 a_1) ((nI (4 * Q.length)) + (3 : Int32)).toNatClampNeg (mI S1 705 g))) (hcC N Q.length (de + ie)) (hcZ N Q.length (de + ie))))))
      exact ⟨h1.1, h1.1, hc_put (by decide) h0 h1.2.2.2.2.2.2.2.2.2.2.2.2.2.2.1 (nI_add _ _)⟩
    · cases hm
      obtain ⟨rfl, hne, rfl, rfl, hQ, rfl, rfl⟩ := h
      obtain ⟨F', r', h1, h2, h3, h4, h5⟩ := hQ
      refine ⟨300, ?_⟩
      show (isO S1 7 g ∧ (True ∧ (isO S1 7 g ∧ (isO (sI S1 701 g ((mI S1 701 g) + (1 : Int32))) 7 g ∧ (isO (sI S1 701 g ((mI S1 701 g) + (1 : Int32))) 7 g ∧ (True ∧ (isO (sI S1 701 g ((mI S1 701 g) + (1 : Int32))) 7 g ∧ (isO (sI (sI S1 701 g ((mI S1 701 g) + (1 : Int32))) 702 g ((mI (sI S1 701 g ((mI S1 701 g) + (1 : Int32))) 702 g) + (mI (sI S1 701 g ((mI S1 701 g) + (1 : Int32))) 704 g))) 7 g ∧ (isO (sI (sI S1 701 g ((mI S1 701 g) + (1 : Int32))) 702 g ((mI (sI S1 701 g ((mI S1 701 g) + (1 : Int32))) 702 g) + (mI (sI S1 701 g ((mI S1 701 g) + (1 : Int32))) 704 g))) 7 g ∧ (True ∧ (isO (sI (sI S1 701 g ((mI S1 701 g) + (1 : Int32))) 702 g ((mI (sI S1 701 g ((mI S1 701 g) + (1 : Int32))) 702 g) + (mI (sI S1 701 g ((mI S1 701 g) + (1 : Int32))) 704 g))) 7 g ∧ (True ∧ (isO (sI (sI (sI S1 701 g ((mI S1 701 g) + (1 : Int32))) 702 g ((mI (sI S1 701 g ((mI S1 701 g) + (1 : Int32))) 702 g) + (mI (sI S1 701 g ((mI S1 701 g) + (1 : Int32))) 704 g))) 703 g ((mI (sI (sI S1 701 g ((mI S1 701 g) + (1 : Int32))) 702 g ((mI (sI S1 701 g ((mI S1 701 g) + (1 : Int32))) 702 g) + (mI (sI S1 701 g ((mI S1 701 g) + (1 : Int32))) 704 g))) 703 g) + (mI (sI (sI S1 701 g ((mI S1 701 g) + (1 : Int32))) 702 g ((mI (sI S1 701 g ((mI S1 701 g) + (1 : Int32))) 702 g) + (mI (sI S1 701 g ((mI S1 701 g) + (1 : Int32))) 704 g))) 705 g))) 7 g ∧ (True ∧ (isO (sI (sI (sI (sI S1 701 g ((mI S1 701 g) + (1 : Int32))) 702 g ((mI (sI S1 701 g ((mI S1 701 g) + (1 : Int32))) 702 g) + (mI (sI S1 701 g ((mI S1 701 g) + (1 : Int32))) 704 g))) 703 g ((mI (sI (sI S1 701 g ((mI S1 701 g) + (1 : Int32))) 702 g ((mI (sI S1 701 g ((mI S1 701 g) + (1 : Int32))) 702 g) + (mI (sI S1 701 g ((mI S1 701 g) + (1 : Int32))) 704 g))) 703 g) + (mI (sI (sI S1 701 g ((mI S1 701 g) + (1 : Int32))) 702 g ((mI (sI S1 701 g ((mI S1 701 g) + (1 : Int32))) 702 g) + (mI (sI S1 701 g ((mI S1 701 g) + (1 : Int32))) 704 g))) 705 g))) 704 g (0 : Int32)) 7 g ∧ (([] : List MV) = [] ∧ mret none (sp_huc g F j r N Q fi si de ie) [.inr (.inr (some g))] S none (sI (sI (sI (sI (sI S1 701 g ((mI S1 701 g) + (1 : Int32))) 702 g ((mI (sI S1 701 g ((mI S1 701 g) + (1 : Int32))) 702 g) + (mI (sI S1 701 g ((mI S1 701 g) + (1 : Int32))) 704 g))) 703 g ((mI (sI (sI S1 701 g ((mI S1 701 g) + (1 : Int32))) 702 g ((mI (sI S1 701 g ((mI S1 701 g) + (1 : Int32))) 702 g) + (mI (sI S1 701 g ((mI S1 701 g) + (1 : Int32))) 704 g))) 703 g) + (mI (sI (sI S1 701 g ((mI S1 701 g) + (1 : Int32))) 702 g ((mI (sI S1 701 g ((mI S1 701 g) + (1 : Int32))) 702 g) + (mI (sI S1 701 g ((mI S1 701 g) + (1 : Int32))) 704 g))) 705 g))) 704 g (0 : Int32)) 705 g (0 : Int32)) (hcC N Q.length (de + ie)) (hcZ N Q.length (de + ie))))))))))))))))))
      rw [show mI S1 701 g + 1 = nI (Q.length + 1) from by rw [h1.2.2.2.2.2.2.2.2.2.2.1]; exact nI_add _ _]
      have o1 : isO S1 7 g := h1.1
      obtain ⟨p1, p2⟩ := h1.s1 h2 (x := (fi, de, si, ie)) (h3 0 (by decide)) (h3 1 (by decide)) (h3 2 (by decide)) (h3 3 (by decide))
      generalize sI S1 701 g (nI (Q.length + 1)) = S2 at *
      rw [show mI S2 702 g + mI S2 704 g = nI (fi + de) from by rw [p1.2.2.2.2.2.2.2.2.2.2.2.1, p1.2.2.2.2.2.2.2.2.2.2.2.2.2.1]; exact nI_add _ _]
      have o2 : isO S2 7 g := p1.1
      obtain ⟨p3, p4⟩ := p1.s2 (v := fi + de)
      generalize sI S2 702 g (nI (fi + de)) = S3 at *
      rw [show mI S3 703 g + mI S3 705 g = nI (si + ie) from by rw [p3.2.2.2.2.2.2.2.2.2.2.2.2.1, p3.2.2.2.2.2.2.2.2.2.2.2.2.2.2.1]; exact nI_add _ _]
      have o3 : isO S3 7 g := p3.1
      obtain ⟨p5, p6⟩ := p3.s3 (v := si + ie)
      generalize sI S3 703 g (nI (si + ie)) = S4 at *
      have o4 : isO S4 7 g := p5.1
      obtain ⟨p7, p8⟩ := p5.s4 (v := 0)
      obtain ⟨p9, p10⟩ := p7.s5 (v := 0)
      have kk := fun (b : Nat) (hb : b ∈ mL S) (z : (F' b).1 = j) => (show (F b).1 = j from by rw [← h4 b hb]; exact z)
      refine ⟨o1, trivial, o1, o2, o2, trivial, o2, o3, o3, trivial, o3, trivial, o4, trivial, o4, rfl, trivial, ⟨rfl, F', r', ?_, h4, ((((h5.trN p2 kk).trN p4 kk).trN p6 kk).trN p8 kk).trN p10 kk⟩, Nat.le_refl _, Nat.le_refl _⟩
      rw [if_neg hne, if_neg hne]
      exact p9
theorem u_huc (l : Launch) : Us l yX6_close cX6_close 2 none 2 54 7 T_huc := by
  intro Rc Rs av S cs sl K Kx h
  unfold T_huc at h
  split at h
  · rename_i g_o
    obtain ⟨g, rfl, h_1⟩ := pa_of h
    obtain ⟨F, j, r, N, Q, fi, si, de, ie, hp, hc, hs, hk⟩ := h_1
    refine ⟨(sp_huc g F j r N Q fi si de ie), c_huc l g F j r N Q fi si de ie, fun _ _ h9 => ⟨_, _, h9.1, h9.2.1.1⟩, ⟨rfl, hp⟩, hc, hs, fun S' h8 => by
      obtain ⟨-, h8⟩ := h8
      exact hk _ h8, fun _ _ q => q.elim⟩
  · exact h.elim
