/-! ===== The reference: find0 ===== -/
def txL (G : Gr) (L : List Nat) : List Int32 := (L.filter (vis G)).map (fun x => chI (G.ev (x - 1)).ch)
theorem txL_s {G : Gr} {L : List Nat} {j : Nat} (hj : j < L.length) : txL G (L.take (j + 1)) = txL G (L.take j) ++ if vis G (L.getD j 0) = true then [chI (G.ev (L.getD j 0 - 1)).ch] else [] := by
  have e : L.take (j + 1) = L.take j ++ [L.getD j 0] := by
    rw [List.take_add_one, List.getD_eq_getElem?_getD, List.getElem?_eq_getElem hj]; rfl
  rw [e]
  unfold txL
  rw [List.filter_append, List.map_append]
  by_cases c : vis G (L.getD j 0) = true
  · rw [if_pos c, List.filter_cons_of_pos c]; rfl
  · rw [if_neg c, List.filter_cons_of_neg c]; rfl
theorem txL_l {G : Gr} {L : List Nat} : (txL G L).length ≤ L.length := by
  unfold txL
  rw [List.length_map]
  exact List.length_filter_le _ _
def fdM (W P : List Int32) (j : Nat) : Prop := ∀ i, i < P.length → W.getD (j + i) 0 = P.getD i 0
def fdN (W P : List Int32) (x j : Nat) : Prop := ∀ q, x ≤ q → q < j → q + P.length ≤ W.length → ¬ fdM W P q
/-- the first place of P in W from x on -/
def fdV (W P : List Int32) (x : Nat) (v : Int32) : Prop := (∃ j, x ≤ j ∧ v = nI j ∧ j + P.length ≤ W.length ∧ fdM W P j ∧ fdN W P x j) ∨ (v = -1 ∧ fdN W P x (W.length + 1))
def fdJ (S S1 : MM) (F : Nat → Nat × Nat) (t : Nat) (z : Nat → Nat) (Y : Nat → Nat → Nat) (R : Rb) (kz : Nat → Nat) (P W : List Int32) : Prop := MD S1 F t z Y (rtE R) kz ∧ txP S1 t z P ∧ mdN9 S S1 F F t ∧ ∀ k, k < W.length → eI S1 (z 22) k = W.getD k 0
theorem fdJ.wr {S S1 : MM} {F : Nat → Nat × Nat} {t : Nat} {z : Nat → Nat} {Y : Nat → Nat → Nat} {R : Rb} {kz : Nat → Nat} {P W : List Int32} (h : fdJ S S1 F t z Y R kz P W) (v : Int32) : fdJ S (rI S1 (z 22) (upd (eI S1 (z 22)) W.length v)) F t z Y R kz P (W ++ [v]) := by
  obtain ⟨h1, h2, h3, h4⟩ := h
  have hk : Keep (fun c => c = z 22) S1 (rI S1 (z 22) (upd (eI S1 (z 22)) W.length v)) := Keep.rI (P := fun c => c = z 22) Keep.rf rfl
  obtain ⟨m1, m2⟩ := h1.scr (k0 := 22) (by decide) (by decide) hk
  refine ⟨m1, ⟨h2.1, h2.2.1, fun j hj => ?_⟩, h3.tr ⟨fun _ _ => rfl, hk.mono (fun b _ q => ?_), m2⟩, fun k hk => ?_⟩
  · rw [eI_rI, if_neg (rK.nz h1 (by decide) (by decide) (by decide))]; exact h2.2.2 j hj
  · have q : b = z 22 := q
    show 100 ≤ (F b).1
    rw [q, (h1 1 22 (by decide)).2.1]; exact Nat.le_refl _
  · rw [List.length_append] at hk
    have hk : k < W.length + 1 := hk
    rw [eI_rI, if_pos rfl, upd, List.getD_eq_getElem?_getD]
    by_cases e : k = W.length
    · rw [if_pos e, e, List.getElem?_append_right (Nat.le_refl _), Nat.sub_self]; rfl
    · rw [if_neg e, List.getElem?_append_left (by omega), ← List.getD_eq_getElem?_getD]
      exact h4 k (by omega)
def rfiA (R : Rb) (p x : Int32) (n i : Nat) : Prop := n < 4 ∧ p = nI n ∧ inX R n x i
def rfiQ (S S' : MM) (F : Nat → Nat × Nat) (t : Nat) (R : Rb) (kz : Nat → Nat) (p x v : Int32) : Prop := ∃ n i P, rfiA R p x n i ∧ syms R.Q.tp = some P ∧ fdV (txtG (R.Q.G n) (R.Q.T n)) P i v ∧ mdQ S S' F t (rtE R) kz
def I_rf1 (t : Nat) (p x : Int32) (Y : Nat → Nat → Nat) (R : Rb) (S : MM) (k : Nat) : KT := fun lo st S1 cs sl => ∃ n i, k = 4000000000 ∧ rfiA R p x n i ∧ lo = [(0, .inr (.inr (some t))), (2, .inl (nI i)), (3, .inr (.inr (some (Y n 0)))), (4, .inl (nI (visN (R.Q.G n) (R.Q.T n))))] ∧ st = [] ∧ S = S1 ∧ cs = 2 ∧ sl = 12
def I_rf2 (t : Nat) (p x : Int32) (F : Nat → Nat × Nat) (z : Nat → Nat) (Y : Nat → Nat → Nat) (R : Rb) (kz : Nat → Nat) (S : MM) (k : Nat) : KT := fun lo st S1 cs sl => ∃ n i c j P, k = 3900000000 + ((R.Q.T n).od.length - j) ∧ rfiA R p x n i ∧ syms R.Q.tp = some P ∧ j ≤ (R.Q.T n).od.length ∧ c = (txL (R.Q.G n) ((R.Q.T n).od.take j)).length ∧ fdJ S S1 F t z Y R kz P (txL (R.Q.G n) ((R.Q.T n).od.take j)) ∧ lo = [(0, .inr (.inr (some t))), (2, .inl (nI i)), (3, .inr (.inr (some (Y n 0)))), (4, .inl (nI (visN (R.Q.G n) (R.Q.T n)))), (5, .inr (.inr (some (z 22)))), (6, .inl (nI c)), (7, .inl (nI j))] ∧ st = [] ∧ cs = 3 ∧ sl = 18
def I_rf3 (t : Nat) (p x : Int32) (F : Nat → Nat × Nat) (z : Nat → Nat) (Y : Nat → Nat → Nat) (R : Rb) (kz : Nat → Nat) (S : MM) (k : Nat) : KT := fun lo st S1 cs sl => ∃ n i j P, k = (visN (R.Q.G n) (R.Q.T n) + 1 - j) * 40000 + 39999 ∧ rfiA R p x n i ∧ syms R.Q.tp = some P ∧ i ≤ j ∧ j ≤ visN (R.Q.G n) (R.Q.T n) + 1 ∧ fdN (txtG (R.Q.G n) (R.Q.T n)) P i j ∧ fdJ S S1 F t z Y R kz P (txtG (R.Q.G n) (R.Q.T n)) ∧ lo = [(0, .inr (.inr (some t))), (4, .inl (nI (visN (R.Q.G n) (R.Q.T n)))), (5, .inr (.inr (some (z 22)))), (7, .inl (nI j))] ∧ st = [] ∧ cs = 3 ∧ sl = 18
def I_rf4 (t : Nat) (p x : Int32) (F : Nat → Nat × Nat) (z : Nat → Nat) (Y : Nat → Nat → Nat) (R : Rb) (kz : Nat → Nat) (S : MM) (k : Nat) : KT := fun lo st S1 cs sl => ∃ n i j m P, k = (visN (R.Q.G n) (R.Q.T n) + 1 - j) * 40000 + (32768 - m) ∧ rfiA R p x n i ∧ syms R.Q.tp = some P ∧ i ≤ j ∧ j + P.length ≤ visN (R.Q.G n) (R.Q.T n) ∧ m ≤ P.length ∧ (∀ q, q < m → (txtG (R.Q.G n) (R.Q.T n)).getD (j + q) 0 = P.getD q 0) ∧ fdN (txtG (R.Q.G n) (R.Q.T n)) P i j ∧ fdJ S S1 F t z Y R kz P (txtG (R.Q.G n) (R.Q.T n)) ∧ lo = [(0, .inr (.inr (some t))), (4, .inl (nI (visN (R.Q.G n) (R.Q.T n)))), (5, .inr (.inr (some (z 22)))), (7, .inl (nI j)), (8, .inl (nI m))] ∧ st = [] ∧ cs = 3 ∧ sl = 18
def T_rfi0 : TR := fun Rc Rs av S cs sl K Kx => match av with
  | [.inr (.inr t_o), .inl p, .inl x] => pa t_o fun t => (∃ (F : Nat → Nat × Nat) (z : Nat → Nat) (Y : Nat → Nat → Nat) (R : Rb) (kz : Nat → Nat), (MD S F t z Y R kz) ∧ cs + 3 ≤ Rc ∧ sl + 18 ≤ Rs ∧ ((∀ (v : Int32) (S' : MM), (rfiQ S S' F t R kz p x v) → K (some (.inl v)) S' (cs + 3) (sl + 18)) ∧ ((np 4 p ∨ ∃ n, n < 4 ∧ p = nI n ∧ np (visN (R.Q.G n) (R.Q.T n) + 1) x) → Kx 1 S (cs + 3) (sl + 18)) ∧ (∀ (S' : MM), ((∃ n i, rfiA R p x n i) ∧ syms R.Q.tp = none ∧ mdQ S S' F t (rtE R) kz) → Kx 3 S' (cs + 3) (sl + 18))))
  | _ => False
def sp_rfi0 (t : Nat) (p : Int32) (x : Int32) (F : Nat → Nat × Nat) (z : Nat → Nat) (Y : Nat → Nat → Nat) (R : Rb) (kz : Nat → Nat) : Sp := (fun av S => av = [.inr (.inr (some t)), .inl p, .inl x] ∧ (MD S F t z Y R kz), fun _ S => 3, fun _ S => 18, fun _ S rv S' => ∃ v, rv = (some (.inl v)) ∧ (rfiQ S S' F t R kz p x v), fun _ S E S' => (E = 1 ∧ (np 4 p ∨ ∃ n, n < 4 ∧ p = nI n ∧ np (visN (R.Q.G n) (R.Q.T n) + 1) x) ∧ S' = S) ∨ (E = 3 ∧ ((∃ n i, rfiA R p x n i) ∧ syms R.Q.tp = none ∧ mdQ S S' F t (rtE R) kz)))
def tX14_find0 : CD := [(0, .aload_n 0), (1, .iload_n 1), (2, .invokevirtual 203), (5, .astore_n 3), (6, .aload_n 3), (7, .invokevirtual 207), (10, .istore 4), (12, .iload_n 2), (13, .iconst 0), (14, .iload 4), (16, .invokestatic 144), (19, .invokestatic 148), (22, .aload_n 0), (23, .invokevirtual 211), (26, .aload_n 0), (27, .getfield 67), (30, .astore 5), (32, .iconst 0), (33, .istore 6), (35, .iconst 0), (36, .istore 7), (38, .iload 7), (40, .aload_n 3), (41, .getfield 239), (44, .if_icmp .ge 43), (47, .aload_n 3), (48, .aload_n 3), (49, .getfield 246), (52, .iload 7), (54, .iaload), (55, .invokevirtual 249), (58, .ifCond .eq 23), (61, .aload 5), (63, .iload 6), (65, .iinc 6 1), (68, .aload_n 3), (69, .getfield 259), (72, .aload_n 3), (73, .getfield 246), (76, .iload 7), (78, .iaload), (79, .iaload), (80, .iastore), (81, .iinc 7 1), (84, .goto (-46)), (87, .iload_n 2), (88, .istore 7), (90, .iload 7), (92, .aload_n 0), (93, .getfield 159), (96, .iadd), (97, .iload 4), (99, .if_icmp .gt 57), (102, .iconst 0), (103, .istore 8), (105, .iload 8), (107, .aload_n 0), (108, .getfield 159), (111, .if_icmp .ge 27), (114, .aload 5), (116, .iload 7), (118, .iload 8), (120, .iadd), (121, .iaload), (122, .aload_n 0), (123, .getfield 54), (126, .iload 8), (128, .iaload), (129, .if_icmp .ne 9), (132, .iinc 8 1), (135, .goto (-30)), (138, .iload 8), (140, .aload_n 0), (141, .getfield 159), (144, .if_icmp .ne 6), (147, .iload 7), (149, .ireturn), (150, .iinc 7 1), (153, .goto (-63)), (156, .iconst (-1)), (157, .ireturn)]
set_option maxRecDepth 100000 in
theorem kX14_find0 : chk cX14_find0 tX14_find0 = true := by decide +kernel
theorem vX14_find0_203 : ∀ w ∈ ([.methodLink RX14 203 yX14_graph, .instanceMethod yX14_graph, .selects yX14_graph.cls yX14_graph yX14_graph, .initialized yX14_graph.cls, .code yX14_graph cX14_graph 2 (some (.object "WeaveTextModel$Graph"))] : List Cond), w ∈ lw_good := List.forall_mem_cons.mpr ⟨mgd 1946 (by decide +kernel) (by decide +kernel), List.forall_mem_cons.mpr ⟨mgd 1948 (by decide +kernel) (by decide +kernel), List.forall_mem_cons.mpr ⟨mgd 52 (by decide +kernel) (by decide +kernel), List.forall_mem_cons.mpr ⟨mgd 136 (by decide +kernel) (by decide +kernel), List.forall_mem_cons.mpr ⟨mgd 1949 (by decide +kernel) (by decide +kernel), fun _ h => absurd h List.not_mem_nil⟩⟩⟩⟩⟩
theorem vX14_find0_207 : ∀ w ∈ ([.methodLink RX14 207 yX12_length, .instanceMethod yX12_length, .selects yX12_length.cls yX12_length yX12_length, .initialized yX12_length.cls, .code yX12_length cX12_length 3 (some .int)] : List Cond), w ∈ lw_good := List.forall_mem_cons.mpr ⟨mgd 1950 (by decide +kernel) (by decide +kernel), List.forall_mem_cons.mpr ⟨mgd 1951 (by decide +kernel) (by decide +kernel), List.forall_mem_cons.mpr ⟨mgd 1952 (by decide +kernel) (by decide +kernel), List.forall_mem_cons.mpr ⟨mgd 138 (by decide +kernel) (by decide +kernel), List.forall_mem_cons.mpr ⟨mgd 1953 (by decide +kernel) (by decide +kernel), fun _ h => absurd h List.not_mem_nil⟩⟩⟩⟩⟩
theorem vX14_find0_144 : ∀ w ∈ ([.methodLink RX14 144 yX14_in, .static yX14_in, .initialized yX14_in.cls, .code yX14_in cX14_in 3 (some .boolean)] : List Cond), w ∈ lw_good := List.forall_mem_cons.mpr ⟨mgd 1930 (by decide +kernel) (by decide +kernel), List.forall_mem_cons.mpr ⟨mgd 1931 (by decide +kernel) (by decide +kernel), List.forall_mem_cons.mpr ⟨mgd 136 (by decide +kernel) (by decide +kernel), List.forall_mem_cons.mpr ⟨mgd 1932 (by decide +kernel) (by decide +kernel), fun _ h => absurd h List.not_mem_nil⟩⟩⟩⟩
theorem vX14_find0_148 : ∀ w ∈ ([.methodLink RX14 148 yX14_check, .static yX14_check, .initialized yX14_check.cls, .code yX14_check cX14_check 1 none] : List Cond), w ∈ lw_good := List.forall_mem_cons.mpr ⟨mgd 1933 (by decide +kernel) (by decide +kernel), List.forall_mem_cons.mpr ⟨mgd 1934 (by decide +kernel) (by decide +kernel), List.forall_mem_cons.mpr ⟨mgd 136 (by decide +kernel) (by decide +kernel), List.forall_mem_cons.mpr ⟨mgd 1935 (by decide +kernel) (by decide +kernel), fun _ h => absurd h List.not_mem_nil⟩⟩⟩⟩
theorem vX14_find0_211 : ∀ w ∈ ([.methodLink RX14 211 yX14_readTape, .instanceMethod yX14_readTape, .selects yX14_readTape.cls yX14_readTape yX14_readTape, .initialized yX14_readTape.cls, .code yX14_readTape cX14_readTape 2 none] : List Cond), w ∈ lw_good := List.forall_mem_cons.mpr ⟨mgd 1958 (by decide +kernel) (by decide +kernel), List.forall_mem_cons.mpr ⟨mgd 1960 (by decide +kernel) (by decide +kernel), List.forall_mem_cons.mpr ⟨mgd 53 (by decide +kernel) (by decide +kernel), List.forall_mem_cons.mpr ⟨mgd 136 (by decide +kernel) (by decide +kernel), List.forall_mem_cons.mpr ⟨mgd 1961 (by decide +kernel) (by decide +kernel), fun _ h => absurd h List.not_mem_nil⟩⟩⟩⟩⟩
theorem vX14_find0_249 : ∀ w ∈ ([.methodLink RX14 249 yX12_isShown, .instanceMethod yX12_isShown, .selects yX12_isShown.cls yX12_isShown yX12_isShown, .initialized yX12_isShown.cls, .code yX12_isShown cX12_isShown 2 (some .boolean)] : List Cond), w ∈ lw_good := List.forall_mem_cons.mpr ⟨mgd 2074 (by decide +kernel) (by decide +kernel), List.forall_mem_cons.mpr ⟨mgd 1955 (by decide +kernel) (by decide +kernel), List.forall_mem_cons.mpr ⟨mgd 1956 (by decide +kernel) (by decide +kernel), List.forall_mem_cons.mpr ⟨mgd 138 (by decide +kernel) (by decide +kernel), List.forall_mem_cons.mpr ⟨mgd 1957 (by decide +kernel) (by decide +kernel), fun _ h => absurd h List.not_mem_nil⟩⟩⟩⟩⟩
set_option maxRecDepth 100000 in
set_option maxHeartbeats 2000000 in
theorem c_rfi0 (l : Launch) (hlt : l.stackTraces = false) : ∀ (t : Nat) (p : Int32) (x : Int32) (F : Nat → Nat × Nat) (z : Nat → Nat) (Y : Nat → Nat → Nat) (R : Rb) (kz : Nat → Nat), CtX l yX14_find0 (Cond.code yX14_find0 cX14_find0 9 (some .int)) (some .int) 8 130 (sp_rfi0 t p x F z Y R kz) := by
  intro t p x F z Y R kz
  refine CtX.of hlt (fX14, nX14, aX14, iX14, lX14, [(203, 0, 2, 3, T_rgr), (207, 0, 1, 1, T_rln), (144, 2, 3, 1, T_rin), (148, 2, 1, 0, T_rck), (211, 0, 1, 0, T_rrtp), (249, 0, 2, 1, T_rish)], qX14, gX14, []) false tX14_find0 (fun _ S => look [(22, ([0,2,3,4], I_rf1 t p x Y R S)), (38, ([0,2,3,4,5,6,7], I_rf2 t p x F z Y R kz S)), (90, ([0,4,5,7], I_rf3 t p x F z Y R kz S)), (105, ([0,4,5,7,8], I_rf4 t p x F z Y R kz S))]) (by decide) (by decide) kX14_find0 ⟨_, _, rfl⟩ fX14_ok nX14_ok aX14_ok iX14_ok lX14_ok (fun p e R s m args below meth c Q D cy z r A C hR1 hR2 => List.forall_mem_cons.mpr ⟨cOK_use (fun _ _ _ _ _ _ _ _ h => let ⟨sp, h1, h2, h3⟩ := u_rgr l hlt _ _ _ _ _ _ _ _ h; ⟨sp, cOKx_V C h1 vX14_find0_203 ⟨by decide, by decide, by decide +kernel⟩ ⟨by rw [hR1]; decide, by rw [hR2]; decide⟩ (k := 15) (T := TX14) (N := 52) rfl (by decide) h2, h3⟩), List.forall_mem_cons.mpr ⟨cOK_use (fun _ _ _ _ _ _ _ _ h => let ⟨sp, h1, h2, h3⟩ := u_rln l _ _ _ _ _ _ _ _ h; ⟨sp, cOK_V C h1 vX14_find0_207 ⟨by decide, by decide, by decide +kernel⟩ ⟨by rw [hR1]; decide, by rw [hR2]; decide⟩ (k := 13) (T := TX12) (N := 27) rfl (by decide) h2, h3⟩), List.forall_mem_cons.mpr ⟨cOK_use (fun _ _ _ _ _ _ _ _ h => let ⟨sp, h1, _, h3⟩ := u_rin l _ _ _ _ _ _ _ _ h; ⟨sp, cOK_S C h1 vX14_find0_144 ⟨by decide, by decide, by decide +kernel⟩ ⟨by rw [hR1]; decide, by rw [hR2]; decide⟩, h3⟩), List.forall_mem_cons.mpr ⟨cOK_use (fun _ _ _ _ _ _ _ _ h => let ⟨sp, h1, _, h3⟩ := u_rck l hlt _ _ _ _ _ _ _ _ h; ⟨sp, cOKx_S C h1 vX14_find0_148 ⟨by decide, by decide, by decide +kernel⟩ ⟨by rw [hR1]; decide, by rw [hR2]; decide⟩, h3⟩), List.forall_mem_cons.mpr ⟨cOK_use (fun _ _ _ _ _ _ _ _ h => let ⟨sp, h1, h2, h3⟩ := u_rrtp l hlt _ _ _ _ _ _ _ _ h; ⟨sp, cOKx_V C h1 vX14_find0_211 ⟨by decide, by decide, by decide +kernel⟩ ⟨by rw [hR1]; decide, by rw [hR2]; decide⟩ (k := 15) (T := TX14) (N := 52) rfl (by decide) h2, h3⟩), List.forall_mem_cons.mpr ⟨cOK_use (fun _ _ _ _ _ _ _ _ h => let ⟨sp, h1, h2, h3⟩ := u_rish l _ _ _ _ _ _ _ _ h; ⟨sp, cOK_V C h1 vX14_find0_249 ⟨by decide, by decide, by decide +kernel⟩ ⟨by rw [hR1]; decide, by rw [hR2]; decide⟩ (k := 13) (T := TX12) (N := 27) rfl (by decide) h2, h3⟩), fun _ h => absurd h List.not_mem_nil⟩⟩⟩⟩⟩⟩) qX14_ok gX14_ok (fun _ h => absurd h List.not_mem_nil) ?_ ?_
  · rintro _ S ⟨rfl, hp⟩
    refine ⟨Nat.le_of_ble_eq_true rfl, 300, ?_⟩
    show (0 = 0 ∧ (∃ (F_1 : Nat → Nat × Nat) (z_2 : Nat → Nat) (Y_3 : Nat → Nat → Nat) (R_4 : Rb) (kz_5 : Nat → Nat), (MD S F_1 t z_2 Y_3 R_4 kz_5) ∧ 0 + 1 ≤ 3 ∧ 0 + 6 ≤ 18 ∧ ((∀ (x_7 : Option Nat) (S_6 : MM), (S_6 = S ∧ ∃ n, n < 4 ∧ p = nI n ∧ x_7 = some (Y_3 n 0)) → (0 = 0 ∧ ((pa x_7 fun a_8 => (∃ (F_9 : Nat → Nat × Nat) (i_10 : Nat) (y_11 : Nat → Nat) (G_12 : Gr) (T_13 : Tr), (a_8 = y_11 0 ∧ RG S_6 F_9 i_10 y_11 G_12 T_13) ∧ 0 + 1 ≤ 3 ∧ 0 + 6 ≤ 18 ∧ ((2 = 2 ∧ (True ∧ 0 + 1 ≤ 3 ∧ 0 + 6 ≤ 18 ∧ ((2 = 2 ∧ (((tf ((0 : Int32) ≤ x ∧ x ≤ (nI (T_13.od.filter (vis G_12)).length))) = 0 ∨ (tf ((0 : Int32) ≤ x ∧ x ≤ (nI (T_13.od.filter (vis G_12)).length))) = 1) ∧ 0 + 1 + 1 ≤ 3 ∧ 0 + 6 + 6 ≤ 18 ∧ ((∀ (S_16 : MM), (S_16 = S_6 ∧ (tf ((0 : Int32) ≤ x ∧ x ≤ (nI (T_13.od.filter (vis G_12)).length))) = 1) → (∃ k1, I_rf1 t p x Y R S k1 [(0, .inr (.inr (some t))), (2, .inl x), (3, .inr (.inr x_7)), (4, .inl (nI (T_13.od.filter (vis G_12)).length))] [] S_16 (0 + 1 + 1) (0 + 6 + 6))) ∧ (((tf ((0 : Int32) ≤ x ∧ x ≤ (nI (T_13.od.filter (vis G_12)).length))) = 0) → mthr (sp_rfi0 t p x F z Y R kz) [.inr (.inr (some t)), .inl p, .inl x] S 1 S_6 (0 + 1 + 1) (0 + 6 + 6)))))))))))))) ∧ ((np 4 p) → mthr (sp_rfi0 t p x F z Y R kz) [.inr (.inr (some t)), .inl p, .inl x] S 1 S (0 + 1) (0 + 6)))))
    have hM := hp
    have fail : ∀ {a b : Nat}, (np 4 p ∨ ∃ n, n < 4 ∧ p = nI n ∧ np (visN (R.Q.G n) (R.Q.T n) + 1) x) → a ≤ 3 → b ≤ 18 → mthr (sp_rfi0 t p x F z Y R kz) [.inr (.inr (some t)), .inl p, .inl x] S 1 S a b := fun h ha hb => ⟨Or.inl ⟨rfl, h, rfl⟩, ha, hb⟩
    refine ⟨rfl, F, z, Y, R, kz, hM, by omega, by omega, fun v S6 h => ?_, fun h => fail (Or.inl h) (by decide) (by decide)⟩
    obtain ⟨rfl, n, hn, hpn, rfl⟩ := h
    have g := (hM 2 n hn).2.1
    have hnm := g.nm
    have hol := g.odl
    have hfl : ((R.Q.T n).od.filter (vis (R.Q.G n))).length ≤ (R.Q.T n).od.length := List.length_filter_le _ _
    refine ⟨rfl, pa_i rfl ⟨F, 101 + n, Y n, R.Q.G n, R.Q.T n, ⟨rfl, g⟩, by omega, by omega, rfl, trivial, by omega, by omega, rfl, tf_b _, by omega, by omega, fun S16 h => ?_, fun h => fail (Or.inr ⟨n, hn, hpn, in_0k (k := ((R.Q.T n).od.filter (vis (R.Q.G n))).length) (by omega) h⟩) (by decide) (by decide)⟩⟩
    obtain ⟨rfl, h⟩ := h
    obtain ⟨i, hi, rfl⟩ := in_1k (k := ((R.Q.T n).od.filter (vis (R.Q.G n))).length) (by omega) h
    exact ⟨4000000000, n, i, rfl, ⟨hn, hpn, Nat.le_of_lt_succ hi, rfl⟩, rfl, rfl, rfl, rfl, rfl⟩
  · intro av S hpre pc I hI k lo st S1 cs sl h
    obtain ⟨rfl, hp⟩ := hpre
    have hm := look_in hI
    simp only [List.mem_cons, List.not_mem_nil, or_false] at hm
    rcases hm with hm | hm | hm | hm
    · cases hm
      obtain ⟨n, i, rfl, hX, rfl, rfl, rfl, rfl, rfl⟩ := h
      refine ⟨300, ?_⟩
      show (0 = 0 ∧ (∃ (F_1 : Nat → Nat × Nat) (z_2 : Nat → Nat) (Y_3 : Nat → Nat → Nat) (R_4 : Rb) (kz_5 : Nat → Nat), (MD S F_1 t z_2 Y_3 R_4 kz_5) ∧ 2 + 1 ≤ 3 ∧ 12 + 6 ≤ 18 ∧ ((∀ (S_6 : MM), (tpQ8 S S_6 F_1 t z_2 Y_3 R_4 kz_5 ∧ ∃ L, syms R_4.Q.tp = some L ∧ txP S_6 t z_2 L) → (isO S_6 15 t ∧ (∃ k1, k1 < 4000000000 ∧ I_rf2 t p x F z Y R kz S k1 [(0, .inr (.inr (some t))), (2, .inl (nI i)), (3, .inr (.inr (some (Y n 0)))), (4, .inl (nI (visN (R.Q.G n) (R.Q.T n)))), (5, .inr (.inr (mR S_6 1522 t))), (6, .inl (0 : Int32)), (7, .inl (0 : Int32))] [] S_6 (2 + 1) (12 + 6)))) ∧ (∀ (S_7 : MM), (tpQ8 S S_7 F_1 t z_2 Y_3 R_4 kz_5 ∧ syms R_4.Q.tp = none) → mthr (sp_rfi0 t p x F z Y R kz) [.inr (.inr (some t)), .inl p, .inl x] S 3 S_7 (2 + 1) (12 + 6)))))
      have hM := hp
      refine ⟨rfl, F, z, Y, R, kz, hM, by omega, by omega, fun S6 h => ?_, fun S23 h => ⟨Or.inr ⟨rfl, ⟨n, i, hX⟩, h.2, (h.1.md hM).1⟩, Nat.le_refl _, Nat.le_refl _⟩⟩
      obtain ⟨hQ, P, hs, hT⟩ := h
      have g := (hM 2 n hX.1).2.1
      have hnm := g.nm
      have hol := g.odl
      exact ⟨(hQ.1 0).1, 3900000000 + ((R.Q.T n).od.length - 0), by omega, n, i, 0, 0, P, rfl, hX, hs, Nat.zero_le _, rfl, ⟨hQ.1, hT, ⟨fun _ _ => rfl, (hQ.md hM).2, hQ.2.2⟩, fun k hk => absurd hk (Nat.not_lt_zero k)⟩, by rw [(hQ.1 1 22 (by decide)).1]; rfl, rfl, rfl, rfl⟩
    · cases hm
      obtain ⟨n, i, c, j, P, rfl, hX, hs, hj, rfl, hI, rfl, rfl, rfl, rfl⟩ := h
      refine ⟨300, ?_⟩
      show (isO S1 13 (Y n 0) ∧ (((mI S1 1302 (Y n 0)) ≤ (nI j) → (∃ k1, k1 < (3900000000 + ((R.Q.T n).od.length - j)) ∧ I_rf3 t p x F z Y R kz S k1 [(0, .inr (.inr (some t))), (4, .inl (nI (visN (R.Q.G n) (R.Q.T n)))), (5, .inr (.inr (some (z 22)))), (7, .inl (nI i))] [] S1 3 18)) ∧ (¬ (mI S1 1302 (Y n 0)) ≤ (nI j) → (isO S1 13 (Y n 0) ∧ (pa (mR S1 1321 (Y n 0)) fun a_1 => ∃ v_2 : Int32, (isO S1 17 a_1 ∧ inR S1 a_1 (nI j) ∧ v_2 = eI S1 a_1 (nI j).toNatClampNeg ∨ a_1 = (mQ S1).1 ∧ vp_in (nI j) 16 ∧ v_2 = mRem (nI j).toNatClampNeg) ∧ (0 = 0 ∧ (∃ (k1_3 : Nat), v_2 = nI k1_3 ∧ (∃ (F_4 : Nat → Nat × Nat) (i_5 : Nat) (y_6 : Nat → Nat) (G_7 : Gr) (T_8 : Tr), ((Y n 0) = y_6 0 ∧ RG S1 F_4 i_5 y_6 G_7 T_8 ∧ k1_3 < G_7.n) ∧ 3 ≤ 3 ∧ 18 ≤ 18 ∧ ((((bI (vis G_7 (k1_3 + 1))) = 0 → (∃ k1, k1 < (3900000000 + ((R.Q.T n).od.length - j)) ∧ I_rf2 t p x F z Y R kz S k1 [(0, .inr (.inr (some t))), (2, .inl (nI i)), (3, .inr (.inr (some (Y n 0)))), (4, .inl (nI (visN (R.Q.G n) (R.Q.T n)))), (5, .inr (.inr (some (z 22)))), (6, .inl (nI (txL (R.Q.G n) ((R.Q.T n).od.take j)).length)), (7, .inl ((nI j) + (1 : Int32)))] [] S1 3 18)) ∧ (¬ (bI (vis G_7 (k1_3 + 1))) = 0 → (isO S1 13 (Y n 0) ∧ (isO S1 13 (Y n 0) ∧ (pa (mR S1 1321 (Y n 0)) fun a_10 => ∃ v_11 : Int32, (isO S1 17 a_10 ∧ inR S1 a_10 (nI j) ∧ v_11 = eI S1 a_10 (nI j).toNatClampNeg ∨ a_10 = (mQ S1).1 ∧ vp_in (nI j) 16 ∧ v_11 = mRem (nI j).toNatClampNeg) ∧ (pa (mR S1 1311 (Y n 0)) fun a_12 => ∃ v_13 : Int32, (isO S1 17 a_12 ∧ inR S1 a_12 v_11 ∧ v_13 = eI S1 a_12 v_11.toNatClampNeg ∨ a_12 = (mQ S1).1 ∧ vp_in v_11 16 ∧ v_13 = mRem v_11.toNatClampNeg) ∧ (isO S1 17 (z 22) ∧ inR S1 (z 22) (nI (txL (R.Q.G n) ((R.Q.T n).od.take j)).length) ∧ (∃ k1, k1 < (3900000000 + ((R.Q.T n).od.length - j)) ∧ I_rf2 t p x F z Y R kz S k1 [(0, .inr (.inr (some t))), (2, .inl (nI i)), (3, .inr (.inr (some (Y n 0)))), (4, .inl (nI (visN (R.Q.G n) (R.Q.T n)))), (5, .inr (.inr (some (z 22)))), (6, .inl ((nI (txL (R.Q.G n) ((R.Q.T n).od.take j)).length) + (1 : Int32))), (7, .inl ((nI j) + (1 : Int32)))] [] (rI S1 (z 22) (upd (eI S1 (z 22)) (nI (txL (R.Q.G n) ((R.Q.T n).od.take j)).length).toNatClampNeg v_13)) 3 18)))))))))))))))))
      obtain ⟨hM, hT, hF, hW⟩ := id hI
      have hn := hX.1
      have g : RG S1 F (101 + n) (Y n) (R.Q.G n) (R.Q.T n) := (hM 2 n hn).2.1
      have hnm := g.nm
      have hol := g.odl
      have e1 : mI S1 1302 (Y n 0) = nI (R.Q.T n).od.length := (g 2).2.2
      have hiv : i ≤ visN (R.Q.G n) (R.Q.T n) := hX.2.2.1
      have hvl0 : visN (R.Q.G n) (R.Q.T n) ≤ (R.Q.T n).od.length := List.length_filter_le _ _
      rw [e1]
      refine ⟨(g 0).1, if_le (by omega) (by omega) (fun w => ?_) (fun w => ?_)⟩
      · have htk : (R.Q.T n).od.take j = (R.Q.T n).od := List.take_of_length_le w
        rw [htk] at hI
        have hI : fdJ S S1 F t z Y R kz P (txtG (R.Q.G n) (R.Q.T n)) := hI
        exact ⟨(visN (R.Q.G n) (R.Q.T n) + 1 - i) * 40000 + 39999, by omega, n, i, i, P, rfl, hX, hs, Nat.le_refl _, by omega, fun q a b => absurd b (by omega), hI, rfl, rfl, rfl, rfl⟩
      · obtain ⟨x9, hx, hxn, hxc, hxo⟩ := g.odn w
        have hs9 := txL_s (G := R.Q.G n) w
        rw [hx] at hs9
        have hvl : (txL (R.Q.G n) ((R.Q.T n).od.take j)).length ≤ j := Nat.le_trans txL_l (by rw [List.length_take]; omega)
        have r22 := hM 1 22 (by decide)
        refine ⟨(g 0).1, g.g21 w ⟨rfl, x9, by rw [hx]; rfl, F, 101 + n, Y n, R.Q.G n, R.Q.T n, ⟨rfl, g, hxn⟩, by omega, by omega, fun q => ?_, fun q => ?_⟩⟩
        · rw [bI_0] at q
          rw [if_neg (by rw [q]; decide), List.append_nil] at hs9
          exact ⟨3900000000 + ((R.Q.T n).od.length - (j + 1)), by omega, n, i, _, j + 1, P, rfl, hX, hs, w, rfl, by rw [hs9]; exact hI, by rw [nI_1, hs9], rfl, rfl, rfl⟩
        · rw [bI_0, Bool.not_eq_false] at q
          rw [if_pos q, Nat.add_sub_cancel] at hs9
          obtain ⟨c, hc⟩ : ∃ c, ((R.Q.G n).ev x9).ch = some c := by
            cases h9 : ((R.Q.G n).ev x9).ch with
            | none => exact absurd h9 hxc
            | some c => exact ⟨c, rfl⟩
          have hc' : chI ((R.Q.G n).ev x9).ch = nI c := by rw [hc]; rfl
          rw [hc'] at hs9
          refine ⟨(g 0).1, (g 0).1, g.g21 w ?_⟩
          rw [hx, Nat.add_sub_cancel]
          refine rdI (v := nI c) g.r11.1 g.r11.2.1 (inRn g.r11.2.2 (by omega) (by decide)) (by rw [nI_clamp (by omega)]; exact ((g 6 x9 hxn).1 c hc).2) ⟨r22.2.2.1, inRn (N := 8192) r22.2.2.2 (by omega) (by decide), 3900000000 + ((R.Q.T n).od.length - (j + 1)), by omega, n, i, _, j + 1, P, rfl, hX, hs, w, rfl, ?_, ?_, rfl, rfl, rfl⟩
          · rw [hs9, nI_clamp (by omega)]; exact hI.wr (nI c)
          · rw [nI_1, nI_1, hs9, List.length_append]; rfl
    · cases hm
      obtain ⟨n, i, j, P, rfl, hX, hs, hij, hj, hN, hI, rfl, rfl, rfl, rfl⟩ := h
      refine ⟨300, ?_⟩
      show (isO S1 15 t ∧ (((nI (visN (R.Q.G n) (R.Q.T n))) < ((nI j) + (mI S1 1518 t)) → (([] : List MV) = [] ∧ mret (some .int) (sp_rfi0 t p x F z Y R kz) [.inr (.inr (some t)), .inl p, .inl x] S (some (.inl (-1 : Int32))) S1 3 18)) ∧ (¬ (nI (visN (R.Q.G n) (R.Q.T n))) < ((nI j) + (mI S1 1518 t)) → (∃ k1, k1 < ((visN (R.Q.G n) (R.Q.T n) + 1 - j) * 40000 + 39999) ∧ I_rf4 t p x F z Y R kz S k1 [(0, .inr (.inr (some t))), (4, .inl (nI (visN (R.Q.G n) (R.Q.T n)))), (5, .inr (.inr (some (z 22)))), (7, .inl (nI j)), (8, .inl (0 : Int32))] [] S1 3 18))))
      obtain ⟨hM, hT, hF, hW⟩ := id hI
      have g : RG S1 F (101 + n) (Y n) (R.Q.G n) (R.Q.T n) := (hM 2 n hX.1).2.1
      have hnm := g.nm
      have hol := g.odl
      have hvl0 : visN (R.Q.G n) (R.Q.T n) ≤ (R.Q.T n).od.length := List.length_filter_le _ _
      have hWl : (txtG (R.Q.G n) (R.Q.T n)).length = visN (R.Q.G n) (R.Q.T n) := List.length_map _
      have hPl := hT.2.1
      rw [hT.1, nI_add]
      refine ⟨(hM 0).1, if_lt (by omega) (by omega) (fun w => ⟨rfl, trivial, ⟨_, rfl, n, i, P, hX, hs, Or.inr ⟨rfl, fun q a b c => ?_⟩, F, z, Y, hM, hF⟩, Nat.le_refl _, Nat.le_refl _⟩) (fun w => ⟨(visN (R.Q.G n) (R.Q.T n) + 1 - j) * 40000 + (32768 - 0), by omega, n, i, j, 0, P, rfl, hX, hs, hij, w, Nat.zero_le _, fun q hq => absurd hq (Nat.not_lt_zero q), hN, hI, rfl, rfl, rfl, rfl⟩)⟩
      rw [hWl] at b c
      exact hN q a (by omega) (by rw [hWl]; exact c)
    · cases hm
      obtain ⟨n, i, j, m, P, rfl, hX, hs, hij, hj, hmP, hq, hN, hI, rfl, rfl, rfl, rfl⟩ := h
      refine ⟨300, ?_⟩
      show (isO S1 15 t ∧ (((mI S1 1518 t) ≤ (nI m) → (isO S1 15 t ∧ ((¬ (nI m) = (mI S1 1518 t) → (∃ k1, k1 < ((visN (R.Q.G n) (R.Q.T n) + 1 - j) * 40000 + (32768 - m)) ∧ I_rf3 t p x F z Y R kz S k1 [(0, .inr (.inr (some t))), (4, .inl (nI (visN (R.Q.G n) (R.Q.T n)))), (5, .inr (.inr (some (z 22)))), (7, .inl ((nI j) + (1 : Int32)))] [] S1 3 18)) ∧ ((nI m) = (mI S1 1518 t) → (([] : List MV) = [] ∧ mret (some .int) (sp_rfi0 t p x F z Y R kz) [.inr (.inr (some t)), .inl p, .inl x] S (some (.inl (nI j))) S1 3 18))))) ∧ (¬ (mI S1 1518 t) ≤ (nI m) → (∃ v_1 : Int32, (isO S1 17 (z 22) ∧ inR S1 (z 22) ((nI j) + (nI m)) ∧ v_1 = eI S1 (z 22) ((nI j) + (nI m)).toNatClampNeg ∨ (z 22) = (mQ S1).1 ∧ vp_in ((nI j) + (nI m)) 16 ∧ v_1 = mRem ((nI j) + (nI m)).toNatClampNeg) ∧ (isO S1 15 t ∧ (pa (mR S1 1517 t) fun a_2 => ∃ v_3 : Int32, (isO S1 17 a_2 ∧ inR S1 a_2 (nI m) ∧ v_3 = eI S1 a_2 (nI m).toNatClampNeg ∨ a_2 = (mQ S1).1 ∧ vp_in (nI m) 16 ∧ v_3 = mRem (nI m).toNatClampNeg) ∧ ((¬ v_1 = v_3 → (isO S1 15 t ∧ ((¬ (nI m) = (mI S1 1518 t) → (∃ k1, k1 < ((visN (R.Q.G n) (R.Q.T n) + 1 - j) * 40000 + (32768 - m)) ∧ I_rf3 t p x F z Y R kz S k1 [(0, .inr (.inr (some t))), (4, .inl (nI (visN (R.Q.G n) (R.Q.T n)))), (5, .inr (.inr (some (z 22)))), (7, .inl ((nI j) + (1 : Int32)))] [] S1 3 18)) ∧ ((nI m) = (mI S1 1518 t) → (([] : List MV) = [] ∧ mret (some .int) (sp_rfi0 t p x F z Y R kz) [.inr (.inr (some t)), .inl p, .inl x] S (some (.inl (nI j))) S1 3 18))))) ∧ (v_1 = v_3 → (∃ k1, k1 < ((visN (R.Q.G n) (R.Q.T n) + 1 - j) * 40000 + (32768 - m)) ∧ I_rf4 t p x F z Y R kz S k1 [(0, .inr (.inr (some t))), (4, .inl (nI (visN (R.Q.G n) (R.Q.T n)))), (5, .inr (.inr (some (z 22)))), (7, .inl (nI j)), (8, .inl ((nI m) + (1 : Int32)))] [] S1 3 18)))))))))
      obtain ⟨hM, hT, hF, hW⟩ := id hI
      have g : RG S1 F (101 + n) (Y n) (R.Q.G n) (R.Q.T n) := (hM 2 n hX.1).2.1
      have hnm := g.nm
      have hol := g.odl
      have hvl0 : visN (R.Q.G n) (R.Q.T n) ≤ (R.Q.T n).od.length := List.length_filter_le _ _
      have hWl : (txtG (R.Q.G n) (R.Q.T n)).length = visN (R.Q.G n) (R.Q.T n) := List.length_map _
      have hPl := hT.2.1
      have r22 := hM 1 22 (by decide)
      have r17 := hM 1 17 (by decide)
      have hit : m = P.length → ([] : List MV) = [] ∧ mret (some .int) (sp_rfi0 t p x F z Y R kz) [.inr (.inr (some t)), .inl p, .inl x] S (some (.inl (nI j))) S1 3 18 := fun e => ⟨rfl, trivial, ⟨_, rfl, n, i, P, hX, hs, Or.inl ⟨j, hij, rfl, by rw [hWl]; exact hj, fun q h9 => hq q (by omega), hN⟩, F, z, Y, hM, hF⟩, Nat.le_refl _, Nat.le_refl _⟩
      rw [hT.1, nI_1, nI_1, nI_add]
      refine ⟨(hM 0).1, if_le (by omega) (by omega) (fun w => ⟨(hM 0).1, if_ne (by omega) (by omega) (fun w2 => absurd (by omega : m = P.length) w2) hit⟩) (fun w => ⟨_, Or.inl ⟨r22.2.2.1, inRn (N := 8192) r22.2.2.2 (by omega) (by decide), rfl⟩, (hM 0).1, rdI (v := P.getD m 0) r17.1 r17.2.2.1 (inRn (N := 32768) r17.2.2.2 (by omega) (by decide)) (by rw [nI_clamp (by omega)]; exact hT.2.2 m w) ⟨fun ne => ⟨(hM 0).1, if_ne (by omega) (by omega) (fun w2 => ⟨(visN (R.Q.G n) (R.Q.T n) + 1 - (j + 1)) * 40000 + 39999, by omega, n, i, j + 1, P, rfl, hX, hs, by omega, by omega, ?_, hI, rfl, rfl, rfl, rfl⟩) hit⟩, fun eq => ⟨(visN (R.Q.G n) (R.Q.T n) + 1 - j) * 40000 + (32768 - (m + 1)), by omega, n, i, j, m + 1, P, rfl, hX, hs, hij, hj, w, fun q h9 => ?_, hN, hI, rfl, rfl, rfl, rfl⟩⟩⟩)⟩
      · rw [nI_clamp (by omega), hW _ (by rw [hWl]; omega)] at ne
        intro q a b c
        by_cases e : q = j
        · rw [e]
          exact fun h9 => ne (h9 m w)
        · exact hN q a (by omega) c
      · rw [nI_clamp (by omega), hW _ (by rw [hWl]; omega)] at eq
        by_cases e : q = m
        · rw [e]; exact eq
        · exact hq q (by omega)
theorem u_rfi0 (l : Launch) (hlt : l.stackTraces = false) : UsX l yX14_find0 (Cond.code yX14_find0 cX14_find0 9 (some .int)) (some .int) 8 130 15 T_rfi0 := by
  intro Rc Rs av S cs sl K Kx h
  unfold T_rfi0 at h
  split at h
  · rename_i t_o p x
    obtain ⟨t, rfl, h_1⟩ := pa_of h
    obtain ⟨F, z, Y, R, kz, hp, hc, hs, hk, hx0, hx1⟩ := h_1
    refine ⟨(sp_rfi0 t p x F z Y R kz), c_rfi0 l hlt t p x F z Y R kz, fun _ _ h9 => ⟨_, _, h9.1, (h9.2 0).1⟩, ⟨rfl, hp⟩, hc, hs, fun v9 S' h8 => by
      obtain ⟨v8, h7, h8⟩ := h8
      cases h7
      exact hk _ _ h8, fun _ _ q => by
      rcases q with ⟨rfl, q⟩ | ⟨rfl, q⟩
      · obtain ⟨q, rfl⟩ := q
        exact hx0 q
      · exact hx1 _ q⟩
  · exact h.elim
