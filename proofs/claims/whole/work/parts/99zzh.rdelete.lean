/-! ===== The reference's delete ===== -/
def AbC (R : Rb) : Prop := ∀ p, p < 4 → GT (R.Q.G p) (R.Q.T p) ∧ (R.C p).length ≤ (R.Q.G p).n
def dC1 (R : Rb) (p m : Nat) : Nat := rA1 ((R.Q.G p).cn (owN (R.Q.G p) p)) m
def dC2 (R : Rb) (p m : Nat) : Nat := rA2 ((R.Q.G p).cn (owN (R.Q.G p) p)) m
/-- a run of own events under way: j of them are done -/
def rnM (S S1 : MM) (F F1 : Nat → Nat × Nat) (t : Nat) (z : Nat → Nat) (Y Y1 : Nat → Nat → Nat) (R : Rb) (kz : Nat → Nat) (n j : Nat) (ops : List (Option Nat × Nat)) (G1 : Gr) (T1 : Tr) : Prop := MD S1 F1 t z Y1 (R.sG n G1 T1) kz ∧ (∀ b, b ∈ mL S → F1 b = F b) ∧ Keep (fun c => 100 ≤ (F c).1) S S1 ∧ mI S1 1551 t = mI S 1551 t ∧ Y1 n 0 = Y n 0 ∧ Run n (owN (R.Q.G n) n) ops (R.Q.G n) (R.Q.T n) G1 T1 ∧ GT G1 T1 ∧ OwSl G1 n (owN (R.Q.G n) n) ∧ G1.n = (R.Q.G n).n + j ∧ G1.cn (owN (R.Q.G n) n) = (R.Q.G n).cn (owN (R.Q.G n) n) + j
theorem upF_up {α : Type} (f : Nat → α) (k : Nat) (a b : α) : upF (upF f k a) k b = upF f k b := by
  funext i
  unfold upF
  split <;> rfl
theorem upF_id {α : Type} (f : Nat → α) (k : Nat) : upF f k (f k) = f := by
  funext i
  unfold upF
  split
  · next h => rw [h]
  · rfl
theorem sG_sG (R : Rb) (n : Nat) (G1 G2 : Gr) (T1 T2 : Tr) : (R.sG n G1 T1).sG n G2 T2 = R.sG n G2 T2 := by
  show ((upF (upF R.Q.G n G1) n G2, upF (upF R.Q.T n T1) n T2, R.1.2.2), R.2.1, R.2.2) = _
  rw [upF_up, upF_up]; rfl
theorem sG_sP (R : Rb) (n : Nat) (G1 G2 : Gr) (T1 T2 : Tr) (Kn : Nat → Nat → Nat) (C : List (Bool × Nat × Nat)) : (R.sG n G1 T1).sP n G2 T2 Kn C = R.sP n G2 T2 Kn C := by
  show ((upF (upF R.Q.G n G1) n G2, upF (upF R.Q.T n T1) n T2, R.1.2.2.1, upF R.Q.Kn n Kn, R.1.2.2.2.2), upF R.C n C, R.2.2) = _
  rw [upF_up, upF_up]; rfl
theorem sG_id (R : Rb) (n : Nat) : R.sG n (R.Q.G n) (R.Q.T n) = R := by
  show ((upF R.Q.G n (R.Q.G n), upF R.Q.T n (R.Q.T n), R.1.2.2), R.2.1, R.2.2) = R
  rw [upF_id, upF_id]; rfl
theorem dC_s (R : Rb) (n j : Nat) {G1 : Gr} (h : G1.cn (owN (R.Q.G n) n) = (R.Q.G n).cn (owN (R.Q.G n) n) + j) : dC1 R n j + ad1 G1 (owN (R.Q.G n) n) = dC1 R n (j + 1) ∧ dC2 R n j + ad2 G1 (owN (R.Q.G n) n) = dC2 R n (j + 1) := by
  unfold ad1 ad2
  rw [h]
  exact ⟨rfl, rfl⟩
def I_rdl1 (t : Nat) (p x y : Int32) (Y : Nat → Nat → Nat) (R : Rb) (S : MM) (k : Nat) : KT := fun lo st S1 cs sl => ∃ n i m, k = 100000 ∧ n < 4 ∧ p = nI n ∧ dlOk R.Q n x y i m ∧ lo = [(0, .inr (.inr (some t))), (1, .inl (nI n)), (2, .inl (nI i)), (3, .inl (nI m)), (4, .inr (.inr (some (Y n 0))))] ∧ st = [] ∧ S = S1 ∧ cs = 2 ∧ sl = 12
def I_rdl2 (t : Nat) (p x y : Int32) (F : Nat → Nat × Nat) (z : Nat → Nat) (Y : Nat → Nat → Nat) (R : Rb) (kz : Nat → Nat) (S : MM) (k : Nat) : KT := fun lo st S1 cs sl => ∃ n i m j F1 Y1 G1 T1, j + k = m ∧ n < 4 ∧ p = nI n ∧ dlOk R.Q n x y i m ∧ roP (R.Q.G n) n m ∧ rnM S S1 F F1 t z Y Y1 R kz n j (List.replicate j (none, i)) G1 T1 ∧ visN G1 T1 + j = visN (R.Q.G n) (R.Q.T n) ∧ lo = [(0, .inr (.inr (some t))), (1, .inl (nI n)), (2, .inl (nI i)), (3, .inl (nI m)), (4, .inr (.inr (some (Y n 0)))), (6, .inl (nI (agE (R.Q.G n) n).length)), (7, .inl (nI j))] ∧ st = [] ∧ cs = 3 + dC1 R n j ∧ sl = 18 + dC2 R n j
def rdQ2 (S S' : MM) (F : Nat → Nat × Nat) (t : Nat) (R : Rb) (kz : Nat → Nat) (p x y v : Int32) : Prop := ∃ n i m G' T', n < 4 ∧ p = nI n ∧ dlOk R.Q n x y i m ∧ roP (R.Q.G n) n m ∧ Run n (owN (R.Q.G n) n) (List.replicate m (none, i)) (R.Q.G n) (R.Q.T n) G' T' ∧ v = nI (visN G' T') ∧ mdQ S S' F t (R.sP n G' T' (R.Q.Kn n) (R.C n ++ [(false, (agE (R.Q.G n) n).length, m)])) kz
def T_rde0 : TR := fun Rc Rs av S cs sl K Kx => match av with
  | [.inr (.inr t_o), .inl p, .inl x, .inl y] => pa t_o fun t => (∃ (F : Nat → Nat × Nat) (z : Nat → Nat) (Y : Nat → Nat → Nat) (R : Rb) (kz : Nat → Nat), (MD S F t z Y R kz ∧ AbC R) ∧ cs + (3 + dC1 R p.toNatClampNeg y.toNatClampNeg) ≤ Rc ∧ sl + (18 + dC2 R p.toNatClampNeg y.toNatClampNeg) ≤ Rs ∧ ((∀ (v : Int32) (S' : MM), (rdQ2 S S' F t R kz p x y v) → K (some (.inl v)) S' (cs + (3 + dC1 R p.toNatClampNeg y.toNatClampNeg)) (sl + (18 + dC2 R p.toNatClampNeg y.toNatClampNeg))) ∧ ((np 4 p ∨ ∃ n, n < 4 ∧ p = nI n ∧ ¬ ∃ i m, dlOk R.Q n x y i m) → Kx 1 S (cs + (3 + dC1 R p.toNatClampNeg y.toNatClampNeg)) (sl + (18 + dC2 R p.toNatClampNeg y.toNatClampNeg))) ∧ ((∃ n i m, n < 4 ∧ p = nI n ∧ dlOk R.Q n x y i m ∧ ¬ roP (R.Q.G n) n m) → Kx 0 S (cs + (3 + dC1 R p.toNatClampNeg y.toNatClampNeg)) (sl + (18 + dC2 R p.toNatClampNeg y.toNatClampNeg)))))
  | _ => False
def sp_rde0 (t : Nat) (p : Int32) (x : Int32) (y : Int32) (F : Nat → Nat × Nat) (z : Nat → Nat) (Y : Nat → Nat → Nat) (R : Rb) (kz : Nat → Nat) : Sp := (fun av S => av = [.inr (.inr (some t)), .inl p, .inl x, .inl y] ∧ (MD S F t z Y R kz ∧ AbC R), fun _ S => 3 + dC1 R p.toNatClampNeg y.toNatClampNeg, fun _ S => 18 + dC2 R p.toNatClampNeg y.toNatClampNeg, fun _ S rv S' => ∃ v, rv = (some (.inl v)) ∧ (rdQ2 S S' F t R kz p x y v), fun _ S E S' => (E = 1 ∧ (np 4 p ∨ ∃ n, n < 4 ∧ p = nI n ∧ ¬ ∃ i m, dlOk R.Q n x y i m) ∧ S' = S) ∨ (E = 0 ∧ (∃ n i m, n < 4 ∧ p = nI n ∧ dlOk R.Q n x y i m ∧ ¬ roP (R.Q.G n) n m) ∧ S' = S))
def tX14_delete0 : CD := [(0, .aload_n 0), (1, .iload_n 1), (2, .invokevirtual 203), (5, .astore 4), (7, .aload 4), (9, .invokevirtual 207), (12, .istore 5), (14, .iload_n 3), (15, .iconst 1), (16, .if_icmp .lt 25), (19, .iload_n 3), (20, .iload 5), (22, .if_icmp .gt 19), (25, .iload_n 2), (26, .iconst 0), (27, .iload 5), (29, .iload_n 3), (30, .isub), (31, .invokestatic 144), (34, .ifCond .eq 7), (37, .iconst 1), (38, .goto 4), (41, .iconst 0), (42, .invokestatic 148), (45, .aload_n 0), (46, .aload 4), (48, .iload_n 1), (49, .iload_n 3), (50, .invokevirtual 214), (53, .aload 4), (55, .iload_n 1), (56, .invokevirtual 218), (59, .istore 6), (61, .iconst 0), (62, .istore 7), (64, .iload 7), (66, .iload_n 3), (67, .if_icmp .ge 20), (70, .aload 4), (72, .aload_n 0), (73, .iload_n 1), (74, .invokevirtual 221), (77, .iload_n 2), (78, .invokevirtual 232), (81, .iinc 7 1), (84, .goto (-20)), (87, .aload_n 0), (88, .aload 4), (90, .iconst 0), (91, .iload 6), (93, .iload_n 3), (94, .invokevirtual 228), (97, .aload 4), (99, .invokevirtual 207), (102, .ireturn)]
set_option maxRecDepth 100000 in
theorem kX14_delete0 : chk cX14_delete0 tX14_delete0 = true := by decide +kernel
theorem vX14_delete0_203 : ∀ w ∈ ([.methodLink RX14 203 yX14_graph, .instanceMethod yX14_graph, .selects yX14_graph.cls yX14_graph yX14_graph, .initialized yX14_graph.cls, .code yX14_graph cX14_graph 2 (some (.object "WeaveTextModel$Graph"))] : List Cond), w ∈ lw_good := List.forall_mem_cons.mpr ⟨mgd 1946 (by decide +kernel) (by decide +kernel), List.forall_mem_cons.mpr ⟨mgd 1948 (by decide +kernel) (by decide +kernel), List.forall_mem_cons.mpr ⟨mgd 52 (by decide +kernel) (by decide +kernel), List.forall_mem_cons.mpr ⟨mgd 136 (by decide +kernel) (by decide +kernel), List.forall_mem_cons.mpr ⟨mgd 1949 (by decide +kernel) (by decide +kernel), fun _ h => absurd h List.not_mem_nil⟩⟩⟩⟩⟩
theorem vX14_delete0_207 : ∀ w ∈ ([.methodLink RX14 207 yX12_length, .instanceMethod yX12_length, .selects yX12_length.cls yX12_length yX12_length, .initialized yX12_length.cls, .code yX12_length cX12_length 3 (some .int)] : List Cond), w ∈ lw_good := List.forall_mem_cons.mpr ⟨mgd 1950 (by decide +kernel) (by decide +kernel), List.forall_mem_cons.mpr ⟨mgd 1951 (by decide +kernel) (by decide +kernel), List.forall_mem_cons.mpr ⟨mgd 1952 (by decide +kernel) (by decide +kernel), List.forall_mem_cons.mpr ⟨mgd 138 (by decide +kernel) (by decide +kernel), List.forall_mem_cons.mpr ⟨mgd 1953 (by decide +kernel) (by decide +kernel), fun _ h => absurd h List.not_mem_nil⟩⟩⟩⟩⟩
theorem vX14_delete0_144 : ∀ w ∈ ([.methodLink RX14 144 yX14_in, .static yX14_in, .initialized yX14_in.cls, .code yX14_in cX14_in 3 (some .boolean)] : List Cond), w ∈ lw_good := List.forall_mem_cons.mpr ⟨mgd 1930 (by decide +kernel) (by decide +kernel), List.forall_mem_cons.mpr ⟨mgd 1931 (by decide +kernel) (by decide +kernel), List.forall_mem_cons.mpr ⟨mgd 136 (by decide +kernel) (by decide +kernel), List.forall_mem_cons.mpr ⟨mgd 1932 (by decide +kernel) (by decide +kernel), fun _ h => absurd h List.not_mem_nil⟩⟩⟩⟩
theorem vX14_delete0_148 : ∀ w ∈ ([.methodLink RX14 148 yX14_check, .static yX14_check, .initialized yX14_check.cls, .code yX14_check cX14_check 1 none] : List Cond), w ∈ lw_good := List.forall_mem_cons.mpr ⟨mgd 1933 (by decide +kernel) (by decide +kernel), List.forall_mem_cons.mpr ⟨mgd 1934 (by decide +kernel) (by decide +kernel), List.forall_mem_cons.mpr ⟨mgd 136 (by decide +kernel) (by decide +kernel), List.forall_mem_cons.mpr ⟨mgd 1935 (by decide +kernel) (by decide +kernel), fun _ h => absurd h List.not_mem_nil⟩⟩⟩⟩
theorem vX14_delete0_214 : ∀ w ∈ ([.methodLink RX14 214 yX14_needRoom, .instanceMethod yX14_needRoom, .selects yX14_needRoom.cls yX14_needRoom yX14_needRoom, .initialized yX14_needRoom.cls, .code yX14_needRoom cX14_needRoom 4 none] : List Cond), w ∈ lw_good := List.forall_mem_cons.mpr ⟨mgd 1971 (by decide +kernel) (by decide +kernel), List.forall_mem_cons.mpr ⟨mgd 1973 (by decide +kernel) (by decide +kernel), List.forall_mem_cons.mpr ⟨mgd 55 (by decide +kernel) (by decide +kernel), List.forall_mem_cons.mpr ⟨mgd 136 (by decide +kernel) (by decide +kernel), List.forall_mem_cons.mpr ⟨mgd 1974 (by decide +kernel) (by decide +kernel), fun _ h => absurd h List.not_mem_nil⟩⟩⟩⟩⟩
theorem vX14_delete0_218 : ∀ w ∈ ([.methodLink RX14 218 yX12_countOf, .instanceMethod yX12_countOf, .selects yX12_countOf.cls yX12_countOf yX12_countOf, .initialized yX12_countOf.cls, .code yX12_countOf cX12_countOf 3 (some .int)] : List Cond), w ∈ lw_good := List.forall_mem_cons.mpr ⟨mgd 1979 (by decide +kernel) (by decide +kernel), List.forall_mem_cons.mpr ⟨mgd 1980 (by decide +kernel) (by decide +kernel), List.forall_mem_cons.mpr ⟨mgd 1981 (by decide +kernel) (by decide +kernel), List.forall_mem_cons.mpr ⟨mgd 138 (by decide +kernel) (by decide +kernel), List.forall_mem_cons.mpr ⟨mgd 1982 (by decide +kernel) (by decide +kernel), fun _ h => absurd h List.not_mem_nil⟩⟩⟩⟩⟩
theorem vX14_delete0_221 : ∀ w ∈ ([.methodLink RX14 221 yX14_own, .instanceMethod yX14_own, .selects yX14_own.cls yX14_own yX14_own, .initialized yX14_own.cls, .code yX14_own cX14_own 2 (some .int)] : List Cond), w ∈ lw_good := List.forall_mem_cons.mpr ⟨mgd 1984 (by decide +kernel) (by decide +kernel), List.forall_mem_cons.mpr ⟨mgd 1986 (by decide +kernel) (by decide +kernel), List.forall_mem_cons.mpr ⟨mgd 56 (by decide +kernel) (by decide +kernel), List.forall_mem_cons.mpr ⟨mgd 136 (by decide +kernel) (by decide +kernel), List.forall_mem_cons.mpr ⟨mgd 1987 (by decide +kernel) (by decide +kernel), fun _ h => absurd h List.not_mem_nil⟩⟩⟩⟩⟩
theorem vX14_delete0_232 : ∀ w ∈ ([.methodLink RX14 232 yX12_erase, .instanceMethod yX12_erase, .selects yX12_erase.cls yX12_erase yX12_erase, .initialized yX12_erase.cls, .code yX12_erase cX12_erase 4 none] : List Cond), w ∈ lw_good := List.forall_mem_cons.mpr ⟨mgd 2053 (by decide +kernel) (by decide +kernel), List.forall_mem_cons.mpr ⟨mgd 2054 (by decide +kernel) (by decide +kernel), List.forall_mem_cons.mpr ⟨mgd 2055 (by decide +kernel) (by decide +kernel), List.forall_mem_cons.mpr ⟨mgd 138 (by decide +kernel) (by decide +kernel), List.forall_mem_cons.mpr ⟨mgd 2056 (by decide +kernel) (by decide +kernel), fun _ h => absurd h List.not_mem_nil⟩⟩⟩⟩⟩
theorem vX14_delete0_228 : ∀ w ∈ ([.methodLink RX14 228 yX14_note, .instanceMethod yX14_note, .selects yX14_note.cls yX14_note yX14_note, .initialized yX14_note.cls, .code yX14_note cX14_note 5 none] : List Cond), w ∈ lw_good := List.forall_mem_cons.mpr ⟨mgd 2041 (by decide +kernel) (by decide +kernel), List.forall_mem_cons.mpr ⟨mgd 2043 (by decide +kernel) (by decide +kernel), List.forall_mem_cons.mpr ⟨mgd 63 (by decide +kernel) (by decide +kernel), List.forall_mem_cons.mpr ⟨mgd 136 (by decide +kernel) (by decide +kernel), List.forall_mem_cons.mpr ⟨mgd 2044 (by decide +kernel) (by decide +kernel), fun _ h => absurd h List.not_mem_nil⟩⟩⟩⟩⟩
set_option maxRecDepth 100000 in
set_option maxHeartbeats 2000000 in
theorem c_rde0 (l : Launch) (hlt : l.stackTraces = false) : ∀ (t : Nat) (p : Int32) (x : Int32) (y : Int32) (F : Nat → Nat × Nat) (z : Nat → Nat) (Y : Nat → Nat → Nat) (R : Rb) (kz : Nat → Nat), CtX l yX14_delete0 (Cond.code yX14_delete0 cX14_delete0 8 (some .int)) (some .int) 8 130 (sp_rde0 t p x y F z Y R kz) := by
  intro t p x y F z Y R kz
  refine CtX.of hlt (fX14, nX14, aX14, iX14, lX14, [(203, 0, 2, 3, T_rgr), (207, 0, 1, 1, T_rln), (144, 2, 3, 1, T_rin), (148, 2, 1, 0, T_rck), (214, 0, 4, 0, T_rnr), (218, 0, 2, 1, T_rco), (221, 0, 2, 1, T_row9), (232, 0, 3, 0, T_rer), (228, 0, 5, 0, T_rnt)], qX14, gX14, []) false tX14_delete0 (fun _ S => look [(45, ([0,1,2,3,4], I_rdl1 t p x y Y R S)), (64, ([0,1,2,3,4,6,7], I_rdl2 t p x y F z Y R kz S))]) (by decide) (by decide) kX14_delete0 ⟨_, _, rfl⟩ fX14_ok nX14_ok aX14_ok iX14_ok lX14_ok (fun p e R s m args below meth c Q D cy z r A C hR1 hR2 => List.forall_mem_cons.mpr ⟨cOK_use (fun _ _ _ _ _ _ _ _ h => let ⟨sp, h1, h2, h3⟩ := u_rgr l hlt _ _ _ _ _ _ _ _ h; ⟨sp, cOKx_V C h1 vX14_delete0_203 ⟨by decide, by decide, by decide +kernel⟩ ⟨by rw [hR1]; decide, by rw [hR2]; decide⟩ (k := 15) (T := TX14) (N := 52) rfl (by decide) h2, h3⟩), List.forall_mem_cons.mpr ⟨cOK_use (fun _ _ _ _ _ _ _ _ h => let ⟨sp, h1, h2, h3⟩ := u_rln l _ _ _ _ _ _ _ _ h; ⟨sp, cOK_V C h1 vX14_delete0_207 ⟨by decide, by decide, by decide +kernel⟩ ⟨by rw [hR1]; decide, by rw [hR2]; decide⟩ (k := 13) (T := TX12) (N := 27) rfl (by decide) h2, h3⟩), List.forall_mem_cons.mpr ⟨cOK_use (fun _ _ _ _ _ _ _ _ h => let ⟨sp, h1, _, h3⟩ := u_rin l _ _ _ _ _ _ _ _ h; ⟨sp, cOK_S C h1 vX14_delete0_144 ⟨by decide, by decide, by decide +kernel⟩ ⟨by rw [hR1]; decide, by rw [hR2]; decide⟩, h3⟩), List.forall_mem_cons.mpr ⟨cOK_use (fun _ _ _ _ _ _ _ _ h => let ⟨sp, h1, _, h3⟩ := u_rck l hlt _ _ _ _ _ _ _ _ h; ⟨sp, cOKx_S C h1 vX14_delete0_148 ⟨by decide, by decide, by decide +kernel⟩ ⟨by rw [hR1]; decide, by rw [hR2]; decide⟩, h3⟩), List.forall_mem_cons.mpr ⟨cOK_use (fun _ _ _ _ _ _ _ _ h => let ⟨sp, h1, h2, h3⟩ := u_rnr l hlt _ _ _ _ _ _ _ _ h; ⟨sp, cOKx_V C h1 vX14_delete0_214 ⟨by decide, by decide, by decide +kernel⟩ ⟨by rw [hR1]; decide, by rw [hR2]; decide⟩ (k := 15) (T := TX14) (N := 52) rfl (by decide) h2, h3⟩), List.forall_mem_cons.mpr ⟨cOK_use (fun _ _ _ _ _ _ _ _ h => let ⟨sp, h1, h2, h3⟩ := u_rco l _ _ _ _ _ _ _ _ h; ⟨sp, cOK_V C h1 vX14_delete0_218 ⟨by decide, by decide, by decide +kernel⟩ ⟨by rw [hR1]; decide, by rw [hR2]; decide⟩ (k := 13) (T := TX12) (N := 27) rfl (by decide) h2, h3⟩), List.forall_mem_cons.mpr ⟨cOK_use (fun _ _ _ _ _ _ _ _ h => let ⟨sp, h1, h2, h3⟩ := u_row9 l _ _ _ _ _ _ _ _ h; ⟨sp, cOK_V C h1 vX14_delete0_221 ⟨by decide, by decide, by decide +kernel⟩ ⟨by rw [hR1]; decide, by rw [hR2]; decide⟩ (k := 15) (T := TX14) (N := 52) rfl (by decide) h2, h3⟩), List.forall_mem_cons.mpr ⟨cOK_use (fun _ _ _ _ _ _ _ _ h => let ⟨sp, h1, h2, h3⟩ := u_rer l _ _ _ _ _ _ _ _ h; ⟨sp, cOK_V C h1 vX14_delete0_232 ⟨by decide, by decide, by decide +kernel⟩ ⟨by rw [hR1]; decide, by rw [hR2]; decide⟩ (k := 13) (T := TX12) (N := 27) rfl (by decide) h2, h3⟩), List.forall_mem_cons.mpr ⟨cOK_use (fun _ _ _ _ _ _ _ _ h => let ⟨sp, h1, h2, h3⟩ := u_rnt l _ _ _ _ _ _ _ _ h; ⟨sp, cOK_V C h1 vX14_delete0_228 ⟨by decide, by decide, by decide +kernel⟩ ⟨by rw [hR1]; decide, by rw [hR2]; decide⟩ (k := 15) (T := TX14) (N := 52) rfl (by decide) h2, h3⟩), fun _ h => absurd h List.not_mem_nil⟩⟩⟩⟩⟩⟩⟩⟩⟩) qX14_ok gX14_ok (fun _ h => absurd h List.not_mem_nil) ?_ ?_
  · rintro _ S ⟨rfl, hp⟩
    refine ⟨Nat.le_of_ble_eq_true rfl, 300, ?_⟩
    show (0 = 0 ∧ (∃ (F_1 : Nat → Nat × Nat) (z_2 : Nat → Nat) (Y_3 : Nat → Nat → Nat) (R_4 : Rb) (kz_5 : Nat → Nat), (MD S F_1 t z_2 Y_3 R_4 kz_5) ∧ 0 + 1 ≤ 3 + dC1 R p.toNatClampNeg y.toNatClampNeg ∧ 0 + 6 ≤ 18 + dC2 R p.toNatClampNeg y.toNatClampNeg ∧ ((∀ (x_7 : Option Nat) (S_6 : MM), (S_6 = S ∧ ∃ n, n < 4 ∧ p = nI n ∧ x_7 = some (Y_3 n 0)) → (0 = 0 ∧ ((pa x_7 fun a_8 => (∃ (F_9 : Nat → Nat × Nat) (i_10 : Nat) (y_11 : Nat → Nat) (G_12 : Gr) (T_13 : Tr), (a_8 = y_11 0 ∧ RG S_6 F_9 i_10 y_11 G_12 T_13) ∧ 0 + 1 ≤ 3 + dC1 R p.toNatClampNeg y.toNatClampNeg ∧ 0 + 6 ≤ 18 + dC2 R p.toNatClampNeg y.toNatClampNeg ∧ (((y < (1 : Int32) → (2 = 2 ∧ (((0 : Int32) = 0 ∨ (0 : Int32) = 1) ∧ 0 + 1 + 1 ≤ 3 + dC1 R p.toNatClampNeg y.toNatClampNeg ∧ 0 + 6 + 6 ≤ 18 + dC2 R p.toNatClampNeg y.toNatClampNeg ∧ ((∀ (S_15 : MM), (S_15 = S_6 ∧ (0 : Int32) = 1) → (∃ k1, I_rdl1 t p x y Y R S k1 [(0, .inr (.inr (some t))), (1, .inl p), (2, .inl x), (3, .inl y), (4, .inr (.inr x_7))] [] S_15 (0 + 1 + 1) (0 + 6 + 6))) ∧ (((0 : Int32) = 0) → mthr (sp_rde0 t p x y F z Y R kz) [.inr (.inr (some t)), .inl p, .inl x, .inl y] S 1 S_6 (0 + 1 + 1) (0 + 6 + 6)))))) ∧ (¬ y < (1 : Int32) → (((nI (T_13.od.filter (vis G_12)).length) < y → (2 = 2 ∧ (((0 : Int32) = 0 ∨ (0 : Int32) = 1) ∧ 0 + 1 + 1 ≤ 3 + dC1 R p.toNatClampNeg y.toNatClampNeg ∧ 0 + 6 + 6 ≤ 18 + dC2 R p.toNatClampNeg y.toNatClampNeg ∧ ((∀ (S_17 : MM), (S_17 = S_6 ∧ (0 : Int32) = 1) → (∃ k1, I_rdl1 t p x y Y R S k1 [(0, .inr (.inr (some t))), (1, .inl p), (2, .inl x), (3, .inl y), (4, .inr (.inr x_7))] [] S_17 (0 + 1 + 1) (0 + 6 + 6))) ∧ (((0 : Int32) = 0) → mthr (sp_rde0 t p x y F z Y R kz) [.inr (.inr (some t)), .inl p, .inl x, .inl y] S 1 S_6 (0 + 1 + 1) (0 + 6 + 6)))))) ∧ (¬ (nI (T_13.od.filter (vis G_12)).length) < y → (2 = 2 ∧ (True ∧ 0 + 1 ≤ 3 + dC1 R p.toNatClampNeg y.toNatClampNeg ∧ 0 + 6 ≤ 18 + dC2 R p.toNatClampNeg y.toNatClampNeg ∧ ((((tf ((0 : Int32) ≤ x ∧ x ≤ ((nI (T_13.od.filter (vis G_12)).length) - y))) = 0 → (2 = 2 ∧ (((0 : Int32) = 0 ∨ (0 : Int32) = 1) ∧ 0 + 1 + 1 ≤ 3 + dC1 R p.toNatClampNeg y.toNatClampNeg ∧ 0 + 6 + 6 ≤ 18 + dC2 R p.toNatClampNeg y.toNatClampNeg ∧ ((∀ (S_20 : MM), (S_20 = S_6 ∧ (0 : Int32) = 1) → (∃ k1, I_rdl1 t p x y Y R S k1 [(0, .inr (.inr (some t))), (1, .inl p), (2, .inl x), (3, .inl y), (4, .inr (.inr x_7))] [] S_20 (0 + 1 + 1) (0 + 6 + 6))) ∧ (((0 : Int32) = 0) → mthr (sp_rde0 t p x y F z Y R kz) [.inr (.inr (some t)), .inl p, .inl x, .inl y] S 1 S_6 (0 + 1 + 1) (0 + 6 + 6)))))) ∧ (¬ (tf ((0 : Int32) ≤ x ∧ x ≤ ((nI (T_13.od.filter (vis G_12)).length) - y))) = 0 → (2 = 2 ∧ (((1 : Int32) = 0 ∨ (1 : Int32) = 1) ∧ 0 + 1 + 1 ≤ 3 + dC1 R p.toNatClampNeg y.toNatClampNeg ∧ 0 + 6 + 6 ≤ 18 + dC2 R p.toNatClampNeg y.toNatClampNeg ∧ ((∀ (S_22 : MM), (S_22 = S_6 ∧ (1 : Int32) = 1) → (∃ k1, I_rdl1 t p x y Y R S k1 [(0, .inr (.inr (some t))), (1, .inl p), (2, .inl x), (3, .inl y), (4, .inr (.inr x_7))] [] S_22 (0 + 1 + 1) (0 + 6 + 6))) ∧ (((1 : Int32) = 0) → mthr (sp_rde0 t p x y F z Y R kz) [.inr (.inr (some t)), .inl p, .inl x, .inl y] S 1 S_6 (0 + 1 + 1) (0 + 6 + 6)))))))))))))))))))) ∧ ((np 4 p) → mthr (sp_rde0 t p x y F z Y R kz) [.inr (.inr (some t)), .inl p, .inl x, .inl y] S 1 S (0 + 1) (0 + 6)))))
    obtain ⟨hM, hA⟩ := hp
    refine ⟨rfl, F, z, Y, R, kz, hM, by omega, by omega, fun v S3 h => ?_, fun h => ⟨Or.inl ⟨rfl, Or.inl h, rfl⟩, by show _ ≤ 3 + dC1 R p.toNatClampNeg y.toNatClampNeg; omega, by show _ ≤ 18 + dC2 R p.toNatClampNeg y.toNatClampNeg; omega⟩⟩
    obtain ⟨rfl, n, hn, hpn, rfl⟩ := h
    have g := (hM 2 n hn).2.1
    have hnm := g.nm
    have hol := g.odl
    have hfl : ((R.Q.T n).od.filter (vis (R.Q.G n))).length ≤ (R.Q.T n).od.length := List.length_filter_le _ _
    have evn : visN (R.Q.G n) (R.Q.T n) = ((R.Q.T n).od.filter (vis (R.Q.G n))).length := rfl
    refine ⟨rfl, pa_i rfl ⟨F, 101 + n, Y n, R.Q.G n, R.Q.T n, ⟨rfl, g⟩, by omega, by omega, fun q => ⟨rfl, Or.inl rfl, by omega, by omega, fun S9 h => absurd h.2 (by decide), fun _ => ⟨Or.inl ⟨rfl, Or.inr ⟨n, hn, hpn, ?_⟩, rfl⟩, by show _ ≤ 3 + dC1 R p.toNatClampNeg y.toNatClampNeg; omega, by show _ ≤ 18 + dC2 R p.toNatClampNeg y.toNatClampNeg; omega⟩⟩, fun q1 => ⟨fun q => ⟨rfl, Or.inl rfl, by omega, by omega, fun S9 h => absurd h.2 (by decide), fun _ => ⟨Or.inl ⟨rfl, Or.inr ⟨n, hn, hpn, ?_⟩, rfl⟩, by show _ ≤ 3 + dC1 R p.toNatClampNeg y.toNatClampNeg; omega, by show _ ≤ 18 + dC2 R p.toNatClampNeg y.toNatClampNeg; omega⟩⟩, fun q2 => ?_⟩⟩⟩
    · rintro ⟨i, m, o1, o2, o3, o4⟩
      rw [o4] at q
      have := (nI_ltI (a := m) (b := 1) (by omega) (by decide)).1 q
      omega
    · rintro ⟨i, m, o1, o2, o3, o4⟩
      rw [o4] at q
      have := (nI_ltI (by omega) (by omega)).1 q
      omega
    · have y0 : ¬ y < 0 := fun w => q1 (Int32.lt_trans w (by decide))
      obtain ⟨m, hm, rfl⟩ := nI_of y0
      have m1 : 1 ≤ m := Nat.le_of_not_lt (fun w => q1 ((nI_ltI (a := m) (b := 1) hm (by decide)).2 w))
      have m2 : m ≤ ((R.Q.T n).od.filter (vis (R.Q.G n))).length := Nat.le_of_not_lt (fun w => q2 ((nI_ltI (by omega) hm).2 w))
      have es : nI ((R.Q.T n).od.filter (vis (R.Q.G n))).length - nI m = nI (((R.Q.T n).od.filter (vis (R.Q.G n))).length - m) := pk_sub m2
      rw [es]
      refine ⟨rfl, trivial, by omega, by omega, fun q => ⟨rfl, Or.inl rfl, by omega, by omega, fun S9 h => absurd h.2 (by decide), fun _ => ⟨Or.inl ⟨rfl, Or.inr ⟨n, hn, hpn, ?_⟩, rfl⟩, by show _ ≤ 3 + dC1 R p.toNatClampNeg (nI m).toNatClampNeg; omega, by show _ ≤ 18 + dC2 R p.toNatClampNeg (nI m).toNatClampNeg; omega⟩⟩, fun q => ⟨rfl, Or.inr rfl, by omega, by omega, fun S9 h => ?_, fun h => absurd h (by decide)⟩⟩
      · rintro ⟨i, m', o1, o2, o3, o4⟩
        have e2 := (nI_eq hm (by omega)).1 o4
        exact in_0k (by omega) q i (by omega) o3
      · obtain ⟨rfl, -⟩ := h
        obtain ⟨i, hi, rfl⟩ := in_1k (by omega) ((tf_b _).resolve_left q)
        exact ⟨100000, n, i, m, rfl, hn, hpn, ⟨m1, by omega, rfl, rfl⟩, by rw [hpn], rfl, rfl, rfl, rfl⟩
  · intro av S hpre pc I hI k lo st S1 cs sl h
    obtain ⟨rfl, hp⟩ := hpre
    have hm := look_in hI
    simp only [List.mem_cons, List.not_mem_nil, or_false] at hm
    rcases hm with hm | hm
    · cases hm
      obtain ⟨n, i, m, rfl, hn, hpn, hd, rfl, rfl, rfl, rfl, rfl⟩ := h
      refine ⟨300, ?_⟩
      show (0 = 0 ∧ (∃ (a_1 : Nat), nI n = nI a_1 ∧ (∃ (n_2 : Nat), nI m = nI n_2 ∧ (∃ (F_3 : Nat → Nat × Nat) (i_4 : Nat) (y_5 : Nat → Nat) (G_6 : Gr) (T_7 : Tr), (isO S 15 t ∧ (Y n 0) = y_5 0 ∧ RG S F_3 i_4 y_5 G_6 T_7 ∧ a_1 < 256 ∧ n_2 ≤ 100000) ∧ 2 + 1 ≤ 3 + dC1 R p.toNatClampNeg y.toNatClampNeg ∧ 12 + 6 ≤ 18 + dC2 R p.toNatClampNeg y.toNatClampNeg ∧ ((∀ (S_8 : MM), (S_8 = S ∧ (n_2 = 0 ∨ G_6.n + n_2 ≤ 8192 ∧ (hasAg G_6 a_1 ∨ G_6.m < 16))) → (0 = 0 ∧ (∃ (a_9 : Nat), nI n = nI a_9 ∧ (∃ (F_10 : Nat → Nat × Nat) (i_11 : Nat) (y_12 : Nat → Nat) (G_13 : Gr) (T_14 : Tr), ((Y n 0) = y_12 0 ∧ RG S_8 F_10 i_11 y_12 G_13 T_14 ∧ a_9 < 256) ∧ 2 + 1 ≤ 3 + dC1 R p.toNatClampNeg y.toNatClampNeg ∧ 12 + 6 ≤ 18 + dC2 R p.toNatClampNeg y.toNatClampNeg ∧ ((∃ k1, k1 < 100000 ∧ I_rdl2 t p x y F z Y R kz S k1 [(0, .inr (.inr (some t))), (1, .inl (nI n)), (2, .inl (nI i)), (3, .inl (nI m)), (4, .inr (.inr (some (Y n 0)))), (6, .inl (nI (agE G_13 a_9).length)), (7, .inl (0 : Int32))] [] S_8 (2 + 1) (12 + 6))))))) ∧ ((n_2 ≠ 0 ∧ (8192 < G_6.n + n_2 ∨ ¬ hasAg G_6 a_1 ∧ G_6.m = 16)) → mthr (sp_rde0 t p x y F z Y R kz) [.inr (.inr (some t)), .inl p, .inl x, .inl y] S 0 S (2 + 1) (12 + 6)))))))
      obtain ⟨hM, hA⟩ := hp
      obtain ⟨o1, o2, o3, o4⟩ := id hd
      have g := (hM 2 n hn).2.1
      have hnm := g.nm
      have hol := g.odl
      have hfl : visN (R.Q.G n) (R.Q.T n) ≤ (R.Q.T n).od.length := List.length_filter_le _ _
      refine ⟨rfl, n, rfl, m, rfl, F, 101 + n, Y n, R.Q.G n, R.Q.T n, ⟨(hM 0).1, rfl, g, by omega, by omega⟩, by omega, by omega, fun S8 h => ?_, fun h => ⟨Or.inr ⟨rfl, ⟨n, i, m, hn, hpn, hd, fun r => ?_⟩, rfl⟩, by show _ ≤ 3 + dC1 R p.toNatClampNeg y.toNatClampNeg; omega, by show _ ≤ 18 + dC2 R p.toNatClampNeg y.toNatClampNeg; omega⟩⟩
      · obtain ⟨rfl, hro⟩ := h
        have hr := hro.resolve_left (by omega)
        refine ⟨rfl, n, rfl, F, 101 + n, Y n, R.Q.G n, R.Q.T n, ⟨rfl, g, by omega⟩, by omega, by omega, m, by omega, n, i, m, 0, F, Y, R.Q.G n, R.Q.T n, Nat.zero_add _, hn, hpn, hd, hro, ⟨?_, fun _ _ => rfl, Keep.rf, rfl, rfl, ⟨rfl, rfl⟩, (hA n hn).1, owN_ok hr.2, rfl, rfl⟩, rfl, rfl, rfl, rfl, rfl⟩
        rw [sG_id]; exact hM
      · rcases r with r | r
        · omega
        · rcases h.2 with q | q
          · omega
          · rcases r.2 with w | w
            · exact q.1 w
            · omega
    · cases hm
      obtain ⟨n, i, m, j, F1, Y1, G1, T1, hj, hn, hpn, hd, hro, hM, hv, rfl, rfl, rfl, rfl⟩ := h
      refine ⟨300, ?_⟩
      show (((nI m) ≤ (nI j) → (0 = 0 ∧ (∃ (f_1 : Nat), nI (agE (R.Q.G n) n).length = nI f_1 ∧ (∃ (n_2 : Nat), nI m = nI n_2 ∧ (∃ (F_3 : Nat → Nat × Nat) (z_4 : Nat → Nat) (Y_5 : Nat → Nat → Nat) (R_6 : Rb) (kz_7 : Nat → Nat) (p_8 : Nat) (bz_9 : Bool), (MD S1 F_3 t z_4 Y_5 R_6 kz_7 ∧ p_8 < 4 ∧ (Y n 0) = Y_5 p_8 0 ∧ (0 : Int32) = bI bz_9 ∧ (R_6.C p_8).length < 8192 ∧ n_2 ≤ 8192) ∧ (3 + dC1 R n j) ≤ 3 + dC1 R p.toNatClampNeg y.toNatClampNeg ∧ (18 + dC2 R n j) ≤ 18 + dC2 R p.toNatClampNeg y.toNatClampNeg ∧ (∀ (S_10 : MM), (ntQ S1 S_10 F_3 t z_4 Y_5 R_6 kz_7 p_8 bz_9 f_1 n_2) → (0 = 0 ∧ (∃ (F_11 : Nat → Nat × Nat) (i_12 : Nat) (y_13 : Nat → Nat) (G_14 : Gr) (T_15 : Tr), ((Y n 0) = y_13 0 ∧ RG S_10 F_11 i_12 y_13 G_14 T_15) ∧ 3 + dC1 R n j ≤ 3 + dC1 R p.toNatClampNeg y.toNatClampNeg ∧ 18 + dC2 R n j ≤ 18 + dC2 R p.toNatClampNeg y.toNatClampNeg ∧ ((([] : List MV) = [] ∧ mret (some .int) (sp_rde0 t p x y F z Y R kz) [.inr (.inr (some t)), .inl p, .inl x, .inl y] S (some (.inl (nI (T_15.od.filter (vis G_14)).length))) S_10 (3 + dC1 R n j) (18 + dC2 R n j))))))))))) ∧ (¬ (nI m) ≤ (nI j) → (0 = 0 ∧ (∃ (p_17 : Nat), nI n = nI p_17 ∧ (∃ (F_18 : Nat → Nat × Nat) (z_19 : Nat → Nat) (Y_20 : Nat → Nat → Nat) (R_21 : Rb) (kz_22 : Nat → Nat) (s_23 : Nat) (pr_24 : List Nat), (MD S1 F_18 t z_19 Y_20 R_21 kz_22 ∧ p_17 < 4 ∧ raP (R_21.Q.G p_17) (R_21.Q.T p_17) p_17 s_23 (R_21.Q.G p_17).cn pr_24) ∧ (3 + dC1 R n j) + (ad1 (R_21.Q.G p_17) s_23) ≤ 3 + dC1 R p.toNatClampNeg y.toNatClampNeg ∧ (18 + dC2 R n j) + (ad2 (R_21.Q.G p_17) s_23) ≤ 18 + dC2 R p.toNatClampNeg y.toNatClampNeg ∧ (∀ (x_26 : Int32) (S_25 : MM), (x_26 = nI (R_21.Q.G p_17).n) ∧ (ownQ S1 S_25 F_18 t z_19 Y_20 (R_21.sG p_17 (pGr (eGr (R_21.Q.G p_17) s_23 p_17) s_23 (R_21.Q.G p_17).cn pr_24) (R_21.Q.T p_17)) kz_22) → (0 = 0 ∧ (∃ (e_27 : Nat), x_26 = nI e_27 ∧ (∃ (ix_28 : Nat), nI i = nI ix_28 ∧ (∃ (F_29 : Nat → Nat × Nat) (i_30 : Nat) (y_31 : Nat → Nat) (G_32 : Gr) (T_33 : Tr), ((Y n 0) = y_31 0 ∧ RG S_25 F_29 i_30 y_31 G_32 T_33 ∧ e_27 + 1 = G_32.n ∧ (G_32.ev e_27).ch = none ∧ (G_32.ev e_27).tg = 8192 ∧ ix_28 < (T_33.od.filter (snW G_32 (G_32.ev e_27).pa)).length) ∧ (3 + dC1 R n j) + (ad1 (R_21.Q.G p_17) s_23) ≤ 3 + dC1 R p.toNatClampNeg y.toNatClampNeg ∧ (18 + dC2 R n j) + (ad2 (R_21.Q.G p_17) s_23) ≤ 18 + dC2 R p.toNatClampNeg y.toNatClampNeg ∧ (∀ (S_34 : MM), (∃ j t, atP T_33.od (snW G_32 (G_32.ev e_27).pa) ix_28 j ∧ T_33.od.getD j 0 = t + 1 ∧ RG S_34 F_29 i_30 y_31 (G_32.setD e_27 ix_28 t) T_33 ∧ Keep (gO F_29 i_30) S_25 S_34 ∧ mI S_34 1326 (y_31 0) = mI S_25 1326 (y_31 0)) → (∃ k1, k1 < k ∧ I_rdl2 t p x y F z Y R kz S k1 [(0, .inr (.inr (some t))), (1, .inl (nI n)), (2, .inl (nI i)), (3, .inl (nI m)), (4, .inr (.inr (some (Y n 0)))), (6, .inl (nI (agE (R.Q.G n) n).length)), (7, .inl ((nI j) + (1 : Int32)))] [] S_34 ((3 + dC1 R n j) + (ad1 (R_21.Q.G p_17) s_23)) ((18 + dC2 R n j) + (ad2 (R_21.Q.G p_17) s_23))))))))))))))
      obtain ⟨hM0, hA⟩ := hp
      obtain ⟨o1, o2, o3, o4⟩ := id hd
      obtain ⟨hG, hC⟩ := hA n hn
      obtain ⟨h1, hF, hK, h51, hy, hRun, hGT, hOw, hGn, hGc⟩ := hM
      have g0 := (hM0 2 n hn).2.1
      have hnm := g0.nm
      have hol := g0.odl
      have hfl : visN (R.Q.G n) (R.Q.T n) ≤ (R.Q.T n).od.length := List.length_filter_le _ _
      have hr := hro.resolve_left (by omega)
      have cp : p.toNatClampNeg = n := by rw [hpn]; exact nI_clamp (by omega)
      have cy : y.toNatClampNeg = m := by rw [o4]; exact nI_clamp (by omega)
      have eG : (R.sG n G1 T1).Q.G n = G1 := upF_s
      have eT : (R.sG n G1 T1).Q.T n = T1 := upF_s
      have budget : ∀ j', j' ≤ m → 3 + dC1 R n j' ≤ 3 + dC1 R p.toNatClampNeg y.toNatClampNeg ∧ 18 + dC2 R n j' ≤ 18 + dC2 R p.toNatClampNeg y.toNatClampNeg := fun j' hj' => by
        rw [cp, cy]
        have := rA_mono ((R.Q.G n).cn (owN (R.Q.G n) n)) hj'
        unfold dC1 dC2
        omega
      have hal : (agE (R.Q.G n) n).length ≤ 8192 := by
        have := List.length_filter_le (fun k => decide ((R.Q.G n).ag ((R.Q.G n).ev k).sl = n)) (List.range (R.Q.G n).n)
        rw [List.length_range] at this
        exact Nat.le_trans this hnm.1
      refine if_le (by omega) (by omega) (fun w => ?_) (fun w => ?_)
      · have hjm : j = m := by omega
        subst hjm
        obtain ⟨b1, b2⟩ := budget j (Nat.le_refl _)
        refine ⟨rfl, _, rfl, j, rfl, F1, z, Y1, R.sG n G1 T1, kz, n, false, ⟨h1, hn, hy.symm, rfl, show (R.C n).length < 8192 by omega, by omega⟩, b1, b2, fun S10 hQ => ?_⟩
        obtain ⟨q1, q2, q3⟩ := hQ
        rw [if_neg (show j ≠ 0 by omega), eG, eT, sG_sP] at q1
        have q1 : MD S10 F1 t z Y1 (R.sP n G1 T1 (R.Q.Kn n) (R.C n ++ [(false, (agE (R.Q.G n) n).length, j)])) kz := q1
        have g10 : RG S10 F1 (101 + n) (Y1 n) G1 T1 := by
          have := (q1 2 n hn).2.1
          have e1 : (R.sP n G1 T1 (R.Q.Kn n) (R.C n ++ [(false, (agE (R.Q.G n) n).length, j)])).Q.G n = G1 := upF_s
          have e2 : (R.sP n G1 T1 (R.Q.Kn n) (R.C n ++ [(false, (agE (R.Q.G n) n).length, j)])).Q.T n = T1 := upF_s
          rw [e1, e2] at this
          exact this
        exact ⟨rfl, F1, 101 + n, Y1 n, G1, T1, ⟨hy.symm, g10⟩, b1, b2, rfl, trivial, ⟨_, rfl, n, i, j, G1, T1, hn, hpn, hd, hro, hRun, rfl, F1, z, Y1, q1, hF, Keep.trN hK q2 (fun b hb q => by rw [hF b hb] at q; exact q), q3.trans h51⟩, b1, b2⟩
      · obtain ⟨H, hH, -, -⟩ := hd_ex hGT.1
        obtain ⟨c1, c2⟩ := dC_s R n j hGc
        obtain ⟨b1, b2⟩ := budget (j + 1) w
        rw [← c1] at b1
        rw [← c2] at b2
        refine ⟨rfl, n, rfl, F1, z, Y1, R.sG n G1 T1, kz, owN (R.Q.G n) n, H, ⟨h1, hn, ?_⟩, ?_, ?_, fun v S25 hQ => ?_⟩
        · rw [eG, eT]; exact own_pre hGT hOw (by omega) (by omega) hH
        · rw [eG]; omega
        · rw [eG]; omega
        · rw [eG, eT] at hQ
          rw [eG]
          obtain ⟨rfl, F2, Y2, h2, f2, k2, m2, y2⟩ := hQ
          rw [sG_sG] at h2
          obtain ⟨pa1, pa2, pa3⟩ := own_pa G1 (owN (R.Q.G n) n) n G1.cn H
          have eG2 : (R.sG n (pGr (eGr G1 (owN (R.Q.G n) n) n) (owN (R.Q.G n) n) G1.cn H) T1).Q.G n = pGr (eGr G1 (owN (R.Q.G n) n) n) (owN (R.Q.G n) n) G1.cn H := upF_s
          have eT2 : (R.sG n (pGr (eGr G1 (owN (R.Q.G n) n) n) (owN (R.Q.G n) n) G1.cn H) T1).Q.T n = T1 := upF_s
          have g2 := (h2 2 n hn).2.1
          rw [eG2, eT2] at g2
          have hix : i < visN G1 T1 := by omega
          refine ⟨rfl, G1.n, rfl, i, rfl, F2, 101 + n, Y2 n, _, T1, ⟨(hy.symm.trans (y2 n).symm), g2, ?_, pa2, pa3, ?_⟩, by omega, by omega, fun S34 hE => ?_⟩
          · show G1.n + 1 = (eGr G1 (owN (R.Q.G n) n) n).n + 1
            rw [(eGr_n G1 _ n).1]
          · rw [pa1, own_len hGT hOw (by omega)]; exact hix
          · obtain ⟨j', t', a1, a2, a3, a4, a5⟩ := hE
            rw [pa1] at a1
            have hO := own_del hGT hOw (by omega) (by omega) hH hix a1 a2
            obtain ⟨x1, x2, x3, x4⟩ := hO.nx hOw
            have hvd : visN ((pGr (eGr G1 (owN (R.Q.G n) n) n) (owN (R.Q.G n) n) G1.cn H).setD G1.n i t') T1 + 1 = visN G1 T1 := by
              obtain ⟨H', hH', hst⟩ := hO
              exact hst.visD (hOw.gt hGT (by omega)) (hH'.jn hGT.1)
            have hFO : FO S34 F2 := fun b hb => (a4.1 b (h2 12 b hb)).1
            have hMD := h2.gr hn a4 a5 a3 (fun _ _ => rfl) (fun _ _ => rfl) hFO (fun s => by rw [eG2, setD_cn]; exact Nat.le_refl _) (fun x hx => by rw [eT2] at hx; exact hx)
            have eY : (fun k => if 116 ≤ k then Y2 n k else Y2 n k) = Y2 n := funext (fun k => by split <;> rfl)
            rw [eY, upY_own, sG_sG] at hMD
            have kt := a4.2.1 t (h2 0).1.1 (fun q => by
              have := q.own
              rw [(h2 0).2] at this
              have : 100 = 101 + n := this
              omega)
            have hF2 : ∀ b, b ∈ mL S → F2 b = F b := fun b hb => (f2 b (hK.1 b hb).1).trans (hF b hb)
            have kA : Keep (fun c => 100 ≤ (F c).1) S S25 := Keep.trN hK k2 (fun b hb q => by rw [hF b hb] at q; exact q)
            refine ⟨k - 1, by omega, n, i, m, j + 1, F2, Y2, _, T1, by omega, hn, hpn, hd, hro, ⟨hMD, hF2, Keep.trN kA a4 (fun b hb q => by have := q.own; rw [hF2 b hb] at this; omega), (kt.1 1551).trans (m2.trans h51), (y2 n).trans hy, ?_, x4, x3, by omega, by omega⟩, by omega, by rw [nI_1], rfl, by omega, by omega⟩
            rw [List.replicate_succ']
            exact hRun.snoc hO
theorem u_rde0 (l : Launch) (hlt : l.stackTraces = false) : UsX l yX14_delete0 (Cond.code yX14_delete0 cX14_delete0 8 (some .int)) (some .int) 8 130 15 T_rde0 := by
  intro Rc Rs av S cs sl K Kx h
  unfold T_rde0 at h
  split at h
  · rename_i t_o p x y
    obtain ⟨t, rfl, h_1⟩ := pa_of h
    obtain ⟨F, z, Y, R, kz, hp, hc, hs, hk, hx0, hx1⟩ := h_1
    refine ⟨(sp_rde0 t p x y F z Y R kz), c_rde0 l hlt t p x y F z Y R kz, fun _ _ h9 => ⟨_, _, h9.1, (h9.2.1 0).1⟩, ⟨rfl, hp⟩, hc, hs, fun v9 S' h8 => by
      obtain ⟨v8, h7, h8⟩ := h8
      cases h7
      exact hk _ _ h8, fun _ _ q => by
      rcases q with ⟨rfl, q⟩ | ⟨rfl, q⟩
      · obtain ⟨q, rfl⟩ := q
        exact hx0 q
      · obtain ⟨q, rfl⟩ := q
        exact hx1 q⟩
  · exact h.elim
