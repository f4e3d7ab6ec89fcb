/-! ===== The reference's calls that read ===== -/
def thQ (S S' : MM) (F : Nat → Nat × Nat) (t : Nat) (z : Nat → Nat) (Y : Nat → Nat → Nat) (R : Rb) (kz : Nat → Nat) (th : Nat) : Prop := MD S' F t z Y R kz ∧ mI S' 1551 t = nI th ∧ Keep (fun c => c = t) S S'
section THQ
variable {S : MM} {F : Nat → Nat × Nat} {t : Nat} {z : Nat → Nat} {Y : Nat → Nat → Nat} {R : Rb} {kz : Nat → Nat}
theorem MD.ok0 (h : MD S F t z Y R kz) : thQ S (sI S 1551 t 0) F t z Y R kz 0 := ⟨h.th 0, by rw [mI_sI, if_pos ⟨rfl, rfl⟩]; rfl, Keep.sI (P := fun c => c = t) Keep.rf rfl⟩
theorem MD.ex0 (h : MD S F t z Y R kz) (n : Nat) {v : Int32} (hv : v = nI n) : thQ S (sI (sI S 1551 t 0) 1551 t v) F t z Y R kz n := ⟨(h.th 0).th v, by rw [mI_sI, if_pos ⟨rfl, rfl⟩, hv], Keep.sI (P := fun c => c = t) (Keep.sI (P := fun c => c = t) Keep.rf rfl) rfl⟩
end THQ
theorem in_1k {x : Int32} {k : Nat} (hk : k < 2147483648) (h : tf (0 ≤ x ∧ x ≤ nI k) = 1) : ∃ j, j < k + 1 ∧ x = nI j := by
  have h1 : 0 ≤ x ∧ x ≤ nI k := Classical.byContradiction (fun z => by rw [tf_f z] at h; exact absurd h (by decide))
  obtain ⟨j, hj, rfl⟩ := nI_of (Int32.not_lt.2 h1.1)
  have := (nI_leI hj hk).1 h1.2
  exact ⟨j, by omega, rfl⟩
theorem in_0k {x : Int32} {k : Nat} (hk : k < 2147483648) (h : tf (0 ≤ x ∧ x ≤ nI k) = 0) : np (k + 1) x := fun n hn e => by
  subst e
  rw [tf_t ⟨nI_pos' (by omega), (nI_leI (by omega) hk).2 (by omega)⟩] at h
  exact absurd h (by decide)
theorem in_1m {x : Int32} {m : Nat} (hm : m < 2147483648) (h : tf (0 ≤ x ∧ x ≤ nI m - 1) = 1) : ∃ j, j < m ∧ x = nI j := by
  cases m with
  | zero =>
    have h1 : 0 ≤ x ∧ x ≤ -1 := Classical.byContradiction (fun z => by rw [show nI 0 - 1 = -1 from by decide, tf_f z] at h; exact absurd h (by decide))
    exact absurd (Int32.le_trans h1.1 h1.2) (by decide)
  | succ k =>
    rw [(nI_dcr k).2] at h
    exact in_1k (by omega) h
theorem in_0m {x : Int32} {m : Nat} (hm : m < 2147483648) (h : tf (0 ≤ x ∧ x ≤ nI m - 1) = 0) : np m x := by
  cases m with
  | zero => exact fun n hn => absurd hn (Nat.not_lt_zero n)
  | succ k =>
    rw [(nI_dcr k).2] at h
    exact in_0k (by omega) h
theorem atP_tx {G : Gr} {T : Tr} {x j k : Nat} (h : atP T.od (vis G) x j) (hk : T.od.getD j 0 = k + 1) : TxN G T x k := by
  refine ⟨T.od.take j, T.od.drop (j + 1), ?_, by rw [← hk]; exact h.2.1, h.2.2⟩
  rw [← hk]
  have e1 := (List.take_append_drop j T.od).symm
  rw [List.drop_eq_getElem_cons h.1] at e1
  rw [List.getD_eq_getElem?_getD, List.getElem?_eq_getElem h.1]
  exact e1
def T_rgr : TR := fun Rc Rs av S cs sl K Kx => match av with
  | [.inr (.inr t_o), .inl p] => pa t_o fun t => (∃ (F : Nat → Nat × Nat) (z : Nat → Nat) (Y : Nat → Nat → Nat) (R : Rb) (kz : Nat → Nat), (MD S F t z Y R kz) ∧ cs + 1 ≤ Rc ∧ sl + 6 ≤ Rs ∧ ((∀ (v : Option Nat) (S' : MM), (S' = S ∧ ∃ n, n < 4 ∧ p = nI n ∧ v = some (Y n 0)) → K (some (.inr (.inr v))) S' (cs + 1) (sl + 6)) ∧ ((np 4 p) → Kx 1 S (cs + 1) (sl + 6))))
  | _ => False
def sp_rgr (t : Nat) (p : Int32) (F : Nat → Nat × Nat) (z : Nat → Nat) (Y : Nat → Nat → Nat) (R : Rb) (kz : Nat → Nat) : Sp := (fun av S => av = [.inr (.inr (some t)), .inl p] ∧ (MD S F t z Y R kz), fun _ S => 1, fun _ S => 6, fun _ S rv S' => ∃ v, rv = (some (.inr (.inr v))) ∧ (S' = S ∧ ∃ n, n < 4 ∧ p = nI n ∧ v = some (Y n 0)), fun _ S E S' => (E = 1 ∧ (np 4 p) ∧ S' = S))
def tX14_graph : CD := [(0, .iload_n 1), (1, .iconst 0), (2, .iconst 3), (3, .invokestatic 144), (6, .invokestatic 148), (9, .aload_n 0), (10, .getfield 11), (13, .iload_n 1), (14, .aaload), (15, .areturn)]
set_option maxRecDepth 100000 in
theorem kX14_graph : chk cX14_graph tX14_graph = true := by decide +kernel
theorem vX14_graph_144 : ∀ w ∈ ([.methodLink RX14 144 yX14_in, .static yX14_in, .initialized yX14_in.cls, .code yX14_in cX14_in 3 (some .boolean)] : List Cond), w ∈ lw_good := List.forall_mem_cons.mpr ⟨mgd 1930 (by decide +kernel) (by decide +kernel), List.forall_mem_cons.mpr ⟨mgd 1931 (by decide +kernel) (by decide +kernel), List.forall_mem_cons.mpr ⟨mgd 136 (by decide +kernel) (by decide +kernel), List.forall_mem_cons.mpr ⟨mgd 1932 (by decide +kernel) (by decide +kernel), fun _ h => absurd h List.not_mem_nil⟩⟩⟩⟩
theorem vX14_graph_148 : ∀ w ∈ ([.methodLink RX14 148 yX14_check, .static yX14_check, .initialized yX14_check.cls, .code yX14_check cX14_check 1 none] : List Cond), w ∈ lw_good := List.forall_mem_cons.mpr ⟨mgd 1933 (by decide +kernel) (by decide +kernel), List.forall_mem_cons.mpr ⟨mgd 1934 (by decide +kernel) (by decide +kernel), List.forall_mem_cons.mpr ⟨mgd 136 (by decide +kernel) (by decide +kernel), List.forall_mem_cons.mpr ⟨mgd 1935 (by decide +kernel) (by decide +kernel), fun _ h => absurd h List.not_mem_nil⟩⟩⟩⟩
set_option maxRecDepth 100000 in
set_option maxHeartbeats 2000000 in
theorem c_rgr (l : Launch) (hlt : l.stackTraces = false) : ∀ (t : Nat) (p : Int32) (F : Nat → Nat × Nat) (z : Nat → Nat) (Y : Nat → Nat → Nat) (R : Rb) (kz : Nat → Nat), CtX l yX14_graph (Cond.code yX14_graph cX14_graph 2 (some (.object "WeaveTextModel$Graph"))) (some (.object "WeaveTextModel$Graph")) 7 109 (sp_rgr t p F z Y R kz) := by
  intro t p F z Y R kz
  refine CtX.of hlt (fX14, nX14, aX14, iX14, lX14, [(144, 2, 3, 1, T_rin), (148, 2, 1, 0, T_rck)], qX14, gX14, []) false tX14_graph (fun _ _ _ => none) (by decide) (by decide) kX14_graph ⟨_, _, rfl⟩ fX14_ok nX14_ok aX14_ok iX14_ok lX14_ok (fun p e R s m args below meth c Q D cy z r A C hR1 hR2 => List.forall_mem_cons.mpr ⟨cOK_use (fun _ _ _ _ _ _ _ _ h => let ⟨sp, h1, _, h3⟩ := u_rin l _ _ _ _ _ _ _ _ h; ⟨sp, cOK_S C h1 vX14_graph_144 ⟨by decide, by decide, by decide +kernel⟩ ⟨by rw [hR1]; decide, by rw [hR2]; decide⟩, h3⟩), List.forall_mem_cons.mpr ⟨cOK_use (fun _ _ _ _ _ _ _ _ h => let ⟨sp, h1, _, h3⟩ := u_rck l hlt _ _ _ _ _ _ _ _ h; ⟨sp, cOKx_S C h1 vX14_graph_148 ⟨by decide, by decide, by decide +kernel⟩ ⟨by rw [hR1]; decide, by rw [hR2]; decide⟩, h3⟩), fun _ h => absurd h List.not_mem_nil⟩⟩) qX14_ok gX14_ok (fun _ h => absurd h List.not_mem_nil) ?_ ?_
  · rintro _ S ⟨rfl, hp⟩
    refine ⟨Nat.le_of_ble_eq_true rfl, 300, ?_⟩
    show (2 = 2 ∧ (True ∧ 0 ≤ 1 ∧ 0 ≤ 6 ∧ ((2 = 2 ∧ (((tf ((0 : Int32) ≤ p ∧ p ≤ (3 : Int32))) = 0 ∨ (tf ((0 : Int32) ≤ p ∧ p ≤ (3 : Int32))) = 1) ∧ 0 + 1 ≤ 1 ∧ 0 + 6 ≤ 6 ∧ ((∀ (S_2 : MM), (S_2 = S ∧ (tf ((0 : Int32) ≤ p ∧ p ≤ (3 : Int32))) = 1) → (isO S_2 15 t ∧ (pa (mR S_2 1500 t) fun a_3 => a_3 ∈ mL S_2 ∧ ¬ mK S_2 a_3 < 21 ∧ mK S_2 a_3 < 29 ∧ inR S_2 a_3 p ∧ (([] : List MV) = [] ∧ mret (some (.object "WeaveTextModel$Graph")) (sp_rgr t p F z Y R kz) [.inr (.inr (some t)), .inl p] S (some (.inr (.inr (eR S_2 a_3 p.toNatClampNeg)))) S_2 (0 + 1) (0 + 6))))) ∧ (((tf ((0 : Int32) ≤ p ∧ p ≤ (3 : Int32))) = 0) → mthr (sp_rgr t p F z Y R kz) [.inr (.inr (some t)), .inl p] S 1 S (0 + 1) (0 + 6))))))))
    refine ⟨rfl, trivial, by decide, by decide, rfl, tf_b _, by decide, by decide, fun S2 h => ?_, fun h => ⟨⟨rfl, in_0k (k := 3) (by decide) h, rfl⟩, Nat.le_refl _, Nat.le_refl _⟩⟩
    obtain ⟨rfl, h⟩ := h
    obtain ⟨n, hn, rfl⟩ := in_1k (k := 3) (by decide) h
    have r0 := hp 1 0 (by decide)
    exact ⟨(hp 0).1, pa_i r0.1 ⟨r0.2.2.1.1, by rw [r0.2.2.1.2]; decide, by rw [r0.2.2.1.2]; decide, inRn (N := 4) r0.2.2.2 hn (by decide), rfl, trivial, ⟨_, rfl, rfl, n, hn, rfl, by rw [nI_clamp (by omega)]; exact (hp 2 n hn).1⟩, Nat.le_refl _, Nat.le_refl _⟩⟩
  · exact fun _ _ _ _ _ h => by cases h
theorem u_rgr (l : Launch) (hlt : l.stackTraces = false) : UsX l yX14_graph (Cond.code yX14_graph cX14_graph 2 (some (.object "WeaveTextModel$Graph"))) (some (.object "WeaveTextModel$Graph")) 7 109 15 T_rgr := by
  intro Rc Rs av S cs sl K Kx h
  unfold T_rgr at h
  split at h
  · rename_i t_o p
    obtain ⟨t, rfl, h_1⟩ := pa_of h
    obtain ⟨F, z, Y, R, kz, hp, hc, hs, hk, hx0⟩ := h_1
    refine ⟨(sp_rgr t p F z Y R kz), c_rgr l hlt t p F z Y R kz, fun _ _ h9 => ⟨_, _, h9.1, (h9.2 0).1⟩, ⟨rfl, hp⟩, hc, hs, fun v9 S' h8 => by
      obtain ⟨v8, h7, h8⟩ := h8
      cases h7
      exact hk _ _ h8, fun _ _ q => by
      rcases q with ⟨rfl, q⟩
      · obtain ⟨q, rfl⟩ := q
        exact hx0 q⟩
  · exact h.elim
def T_rl0 : TR := fun Rc Rs av S cs sl K Kx => match av with
  | [.inr (.inr t_o), .inl p] => pa t_o fun t => (∃ (F : Nat → Nat × Nat) (z : Nat → Nat) (Y : Nat → Nat → Nat) (R : Rb) (kz : Nat → Nat), (MD S F t z Y R kz) ∧ cs + 1 ≤ Rc ∧ sl + 6 ≤ Rs ∧ ((∀ (v : Int32) (S' : MM), (S' = S ∧ ∃ n, n < 4 ∧ p = nI n ∧ v = nI (visN (R.Q.G n) (R.Q.T n))) → K (some (.inl v)) S' (cs + 1) (sl + 6)) ∧ ((np 4 p) → Kx 1 S (cs + 1) (sl + 6))))
  | _ => False
def sp_rl0 (t : Nat) (p : Int32) (F : Nat → Nat × Nat) (z : Nat → Nat) (Y : Nat → Nat → Nat) (R : Rb) (kz : Nat → Nat) : Sp := (fun av S => av = [.inr (.inr (some t)), .inl p] ∧ (MD S F t z Y R kz), fun _ S => 1, fun _ S => 6, fun _ S rv S' => ∃ v, rv = (some (.inl v)) ∧ (S' = S ∧ ∃ n, n < 4 ∧ p = nI n ∧ v = nI (visN (R.Q.G n) (R.Q.T n))), fun _ S E S' => (E = 1 ∧ (np 4 p) ∧ S' = S))
def tX14_length0 : CD := [(0, .aload_n 0), (1, .iload_n 1), (2, .invokevirtual 203), (5, .invokevirtual 207), (8, .ireturn)]
set_option maxRecDepth 100000 in
theorem kX14_length0 : chk cX14_length0 tX14_length0 = true := by decide +kernel
theorem vX14_length0_203 : ∀ w ∈ ([.methodLink RX14 203 yX14_graph, .instanceMethod yX14_graph, .selects yX14_graph.cls yX14_graph yX14_graph, .initialized yX14_graph.cls, .code yX14_graph cX14_graph 2 (some (.object "WeaveTextModel$Graph"))] : List Cond), w ∈ lw_good := List.forall_mem_cons.mpr ⟨mgd 1946 (by decide +kernel) (by decide +kernel), List.forall_mem_cons.mpr ⟨mgd 1948 (by decide +kernel) (by decide +kernel), List.forall_mem_cons.mpr ⟨mgd 52 (by decide +kernel) (by decide +kernel), List.forall_mem_cons.mpr ⟨mgd 136 (by decide +kernel) (by decide +kernel), List.forall_mem_cons.mpr ⟨mgd 1949 (by decide +kernel) (by decide +kernel), fun _ h => absurd h List.not_mem_nil⟩⟩⟩⟩⟩
theorem vX14_length0_207 : ∀ w ∈ ([.methodLink RX14 207 yX12_length, .instanceMethod yX12_length, .selects yX12_length.cls yX12_length yX12_length, .initialized yX12_length.cls, .code yX12_length cX12_length 3 (some .int)] : List Cond), w ∈ lw_good := List.forall_mem_cons.mpr ⟨mgd 1950 (by decide +kernel) (by decide +kernel), List.forall_mem_cons.mpr ⟨mgd 1951 (by decide +kernel) (by decide +kernel), List.forall_mem_cons.mpr ⟨mgd 1952 (by decide +kernel) (by decide +kernel), List.forall_mem_cons.mpr ⟨mgd 138 (by decide +kernel) (by decide +kernel), List.forall_mem_cons.mpr ⟨mgd 1953 (by decide +kernel) (by decide +kernel), fun _ h => absurd h List.not_mem_nil⟩⟩⟩⟩⟩
set_option maxRecDepth 100000 in
set_option maxHeartbeats 2000000 in
theorem c_rl0 (l : Launch) (hlt : l.stackTraces = false) : ∀ (t : Nat) (p : Int32) (F : Nat → Nat × Nat) (z : Nat → Nat) (Y : Nat → Nat → Nat) (R : Rb) (kz : Nat → Nat), CtX l yX14_length0 (Cond.code yX14_length0 cX14_length0 2 (some .int)) (some .int) 8 130 (sp_rl0 t p F z Y R kz) := by
  intro t p F z Y R kz
  refine CtX.of hlt (fX14, nX14, aX14, iX14, lX14, [(203, 0, 2, 3, T_rgr), (207, 0, 1, 1, T_rln)], qX14, gX14, []) false tX14_length0 (fun _ _ _ => none) (by decide) (by decide) kX14_length0 ⟨_, _, rfl⟩ fX14_ok nX14_ok aX14_ok iX14_ok lX14_ok (fun p e R s m args below meth c Q D cy z r A C hR1 hR2 => List.forall_mem_cons.mpr ⟨cOK_use (fun _ _ _ _ _ _ _ _ h => let ⟨sp, h1, h2, h3⟩ := u_rgr l hlt _ _ _ _ _ _ _ _ h; ⟨sp, cOKx_V C h1 vX14_length0_203 ⟨by decide, by decide, by decide +kernel⟩ ⟨by rw [hR1]; decide, by rw [hR2]; decide⟩ (k := 15) (T := TX14) (N := 52) rfl (by decide) h2, h3⟩), List.forall_mem_cons.mpr ⟨cOK_use (fun _ _ _ _ _ _ _ _ h => let ⟨sp, h1, h2, h3⟩ := u_rln l _ _ _ _ _ _ _ _ h; ⟨sp, cOK_V C h1 vX14_length0_207 ⟨by decide, by decide, by decide +kernel⟩ ⟨by rw [hR1]; decide, by rw [hR2]; decide⟩ (k := 13) (T := TX12) (N := 27) rfl (by decide) h2, h3⟩), fun _ h => absurd h List.not_mem_nil⟩⟩) qX14_ok gX14_ok (fun _ h => absurd h List.not_mem_nil) ?_ ?_
  · rintro _ S ⟨rfl, hp⟩
    refine ⟨Nat.le_of_ble_eq_true rfl, 300, ?_⟩
    show (0 = 0 ∧ (∃ (F_1 : Nat → Nat × Nat) (z_2 : Nat → Nat) (Y_3 : Nat → Nat → Nat) (R_4 : Rb) (kz_5 : Nat → Nat), (MD S F_1 t z_2 Y_3 R_4 kz_5) ∧ 0 + 1 ≤ 1 ∧ 0 + 6 ≤ 6 ∧ ((∀ (x_7 : Option Nat) (S_6 : MM), (S_6 = S ∧ ∃ n, n < 4 ∧ p = nI n ∧ x_7 = some (Y_3 n 0)) → (0 = 0 ∧ ((pa x_7 fun a_8 => (∃ (F_9 : Nat → Nat × Nat) (i_10 : Nat) (y_11 : Nat → Nat) (G_12 : Gr) (T_13 : Tr), (a_8 = y_11 0 ∧ RG S_6 F_9 i_10 y_11 G_12 T_13) ∧ 0 + 1 ≤ 1 ∧ 0 + 6 ≤ 6 ∧ ((([] : List MV) = [] ∧ mret (some .int) (sp_rl0 t p F z Y R kz) [.inr (.inr (some t)), .inl p] S (some (.inl (nI (T_13.od.filter (vis G_12)).length))) S_6 (0 + 1) (0 + 6)))))))) ∧ ((np 4 p) → mthr (sp_rl0 t p F z Y R kz) [.inr (.inr (some t)), .inl p] S 1 S (0 + 1) (0 + 6)))))
    refine ⟨rfl, F, z, Y, R, kz, hp, by decide, by decide, fun v S3 h => ?_, fun h => ⟨⟨rfl, h, rfl⟩, Nat.le_refl _, Nat.le_refl _⟩⟩
    obtain ⟨rfl, n, hn, rfl, rfl⟩ := h
    exact ⟨rfl, F, 101 + n, Y n, R.Q.G n, R.Q.T n, ⟨rfl, (hp 2 n hn).2.1⟩, by decide, by decide, rfl, trivial, ⟨_, rfl, rfl, n, hn, rfl, rfl⟩, Nat.le_refl _, Nat.le_refl _⟩
  · exact fun _ _ _ _ _ h => by cases h
theorem u_rl0 (l : Launch) (hlt : l.stackTraces = false) : UsX l yX14_length0 (Cond.code yX14_length0 cX14_length0 2 (some .int)) (some .int) 8 130 15 T_rl0 := by
  intro Rc Rs av S cs sl K Kx h
  unfold T_rl0 at h
  split at h
  · rename_i t_o p
    obtain ⟨t, rfl, h_1⟩ := pa_of h
    obtain ⟨F, z, Y, R, kz, hp, hc, hs, hk, hx0⟩ := h_1
    refine ⟨(sp_rl0 t p F z Y R kz), c_rl0 l hlt t p F z Y R kz, fun _ _ h9 => ⟨_, _, h9.1, (h9.2 0).1⟩, ⟨rfl, hp⟩, hc, hs, fun v9 S' h8 => by
      obtain ⟨v8, h7, h8⟩ := h8
      cases h7
      exact hk _ _ h8, fun _ _ q => by
      rcases q with ⟨rfl, q⟩
      · obtain ⟨q, rfl⟩ := q
        exact hx0 q⟩
  · exact h.elim
def T_rlen : TR := fun Rc Rs av S cs sl K _Kx => match av with
  | [.inr (.inr t_o), .inl p] => pa t_o fun t => (∃ (F : Nat → Nat × Nat) (z : Nat → Nat) (Y : Nat → Nat → Nat) (R : Rb) (kz : Nat → Nat), (MD S F t z Y R kz) ∧ cs + 1 ≤ Rc ∧ sl + 6 ≤ Rs ∧ (∀ (v : Int32) (S' : MM), (∃ th, thQ S S' F t z Y R kz th ∧ ((th = 0 ∧ ∃ n, n < 4 ∧ p = nI n ∧ v = nI (visN (R.Q.G n) (R.Q.T n))) ∨ (th = 1 ∧ np 4 p ∧ v = 0))) → K (some (.inl v)) S' (cs + 1) (sl + 6)))
  | _ => False
def sp_rlen (t : Nat) (p : Int32) (F : Nat → Nat × Nat) (z : Nat → Nat) (Y : Nat → Nat → Nat) (R : Rb) (kz : Nat → Nat) : Sp := (fun av S => av = [.inr (.inr (some t)), .inl p] ∧ (MD S F t z Y R kz), fun _ S => 1, fun _ S => 6, fun _ S rv S' => ∃ v, rv = (some (.inl v)) ∧ (∃ th, thQ S S' F t z Y R kz th ∧ ((th = 0 ∧ ∃ n, n < 4 ∧ p = nI n ∧ v = nI (visN (R.Q.G n) (R.Q.T n))) ∨ (th = 1 ∧ np 4 p ∧ v = 0))), fun _ _ _ _ => False)
def tX14_length : CD := [(0, .aload_n 0), (1, .iconst 0), (2, .putfield 512), (5, .aload_n 0), (6, .iload_n 1), (7, .invokevirtual 532), (10, .ireturn), (11, .astore_n 2), (12, .aload_n 0), (13, .iconst 1), (14, .putfield 512), (17, .iconst 0), (18, .ireturn)]
set_option maxRecDepth 100000 in
theorem kX14_length : chk cX14_length tX14_length = true := by decide +kernel
theorem vX14_length_532 : ∀ w ∈ ([.methodLink RX14 532 yX14_length0, .instanceMethod yX14_length0, .selects yX14_length0.cls yX14_length0 yX14_length0, .initialized yX14_length0.cls, .code yX14_length0 cX14_length0 2 (some .int)] : List Cond), w ∈ lw_good := List.forall_mem_cons.mpr ⟨mgd 2083 (by decide +kernel) (by decide +kernel), List.forall_mem_cons.mpr ⟨mgd 2085 (by decide +kernel) (by decide +kernel), List.forall_mem_cons.mpr ⟨mgd 66 (by decide +kernel) (by decide +kernel), List.forall_mem_cons.mpr ⟨mgd 136 (by decide +kernel) (by decide +kernel), List.forall_mem_cons.mpr ⟨mgd 2086 (by decide +kernel) (by decide +kernel), fun _ h => absurd h List.not_mem_nil⟩⟩⟩⟩⟩
set_option maxRecDepth 100000 in
set_option maxHeartbeats 2000000 in
theorem c_rlen (l : Launch) (hlt : l.stackTraces = false) : ∀ (t : Nat) (p : Int32) (F : Nat → Nat × Nat) (z : Nat → Nat) (Y : Nat → Nat → Nat) (R : Rb) (kz : Nat → Nat), CtX l yX14_length (Cond.codeWith yX14_length cX14_length 3 (some .int) [(5, 10, 11, 138)]) (some .int) 9 151 (sp_rlen t p F z Y R kz) := by
  intro t p F z Y R kz
  refine CtX.ofH hlt (fX14, nX14, aX14, iX14, lX14, [(532, 0, 2, 1, T_rl0)], qX14, gX14, []) false tX14_length [((5, 10, 11, 138), 1)] (fun _ _ _ => none) (by decide) (by decide) kX14_length ⟨_, _, rfl⟩ fX14_ok nX14_ok aX14_ok iX14_ok lX14_ok (fun p e R s m args below meth c Q D cy z r A C hR1 hR2 => List.forall_mem_cons.mpr ⟨cOK_use (fun _ _ _ _ _ _ _ _ h => let ⟨sp, h1, h2, h3⟩ := u_rl0 l hlt _ _ _ _ _ _ _ _ h; ⟨sp, cOKx_V C h1 vX14_length_532 ⟨by decide, by decide, by decide +kernel⟩ ⟨by rw [hR1]; decide, by rw [hR2]; decide⟩ (k := 15) (T := TX14) (N := 52) rfl (by decide) h2, h3⟩), fun _ h => absurd h List.not_mem_nil⟩) qX14_ok gX14_ok rfl (List.forall_mem_cons.mpr ⟨⟨by decide, mgd 1925 (by decide +kernel) (by decide +kernel)⟩, fun _ h => absurd h List.not_mem_nil⟩) (fun _ _ _ _ z => z) ?_ ?_
  · rintro _ S ⟨rfl, hp⟩
    refine ⟨Nat.le_of_ble_eq_true rfl, 300, ?_⟩
    show (True ∧ (isO S 15 t ∧ (0 = 0 ∧ (∃ (F_1 : Nat → Nat × Nat) (z_2 : Nat → Nat) (Y_3 : Nat → Nat → Nat) (R_4 : Rb) (kz_5 : Nat → Nat), (MD (sI S 1551 t (0 : Int32)) F_1 t z_2 Y_3 R_4 kz_5) ∧ 0 + 1 ≤ 1 ∧ 0 + 6 ≤ 6 ∧ ((∀ (x_7 : Int32) (S_6 : MM), (S_6 = (sI S 1551 t (0 : Int32)) ∧ ∃ n, n < 4 ∧ p = nI n ∧ x_7 = nI (visN (R_4.Q.G n) (R_4.Q.T n))) → (([] : List MV) = [] ∧ mret (some .int) (sp_rlen t p F z Y R kz) [.inr (.inr (some t)), .inl p] S (some (.inl x_7)) S_6 (0 + 1) (0 + 6))) ∧ ((np 4 p) → (∀ e_9, (True ∧ (isO (sI S 1551 t (0 : Int32)) 15 t ∧ (([] : List MV) = [] ∧ mret (some .int) (sp_rlen t p F z Y R kz) [.inr (.inr (some t)), .inl p] S (some (.inl (0 : Int32))) (sI (sI S 1551 t (0 : Int32)) 1551 t (1 : Int32)) (0 + 1) (0 + 6)))))))))))
    refine ⟨trivial, (hp 0).1, rfl, F, z, Y, R, kz, hp.th 0, by decide, by decide, fun v S3 h => ?_, fun h e => ⟨trivial, (hp 0).1, rfl, trivial, ⟨_, rfl, 1, hp.ex0 1 rfl, Or.inr ⟨rfl, h, rfl⟩⟩, Nat.le_refl _, Nat.le_refl _⟩⟩
    obtain ⟨rfl, h⟩ := h
    exact ⟨rfl, trivial, ⟨_, rfl, 0, hp.ok0, Or.inl ⟨rfl, h⟩⟩, Nat.le_refl _, Nat.le_refl _⟩
  · exact fun _ _ _ _ _ h => by cases h
theorem u_rlen (l : Launch) (hlt : l.stackTraces = false) : UsX l yX14_length (Cond.codeWith yX14_length cX14_length 3 (some .int) [(5, 10, 11, 138)]) (some .int) 9 151 15 T_rlen := by
  intro Rc Rs av S cs sl K Kx h
  unfold T_rlen at h
  split at h
  · rename_i t_o p
    obtain ⟨t, rfl, h_1⟩ := pa_of h
    obtain ⟨F, z, Y, R, kz, hp, hc, hs, hk⟩ := h_1
    refine ⟨(sp_rlen t p F z Y R kz), c_rlen l hlt t p F z Y R kz, fun _ _ h9 => ⟨_, _, h9.1, (h9.2 0).1⟩, ⟨rfl, hp⟩, hc, hs, fun v9 S' h8 => by
      obtain ⟨v8, h7, h8⟩ := h8
      cases h7
      exact hk _ _ h8, fun _ _ q => q.elim⟩
  · exact h.elim
def T_rat0 : TR := fun Rc Rs av S cs sl K Kx => match av with
  | [.inr (.inr t_o), .inl p, .inl x] => pa t_o fun t => (∃ (F : Nat → Nat × Nat) (z : Nat → Nat) (Y : Nat → Nat → Nat) (R : Rb) (kz : Nat → Nat), (MD S F t z Y R kz) ∧ cs + 2 ≤ Rc ∧ sl + 12 ≤ Rs ∧ ((∀ (v : Int32) (S' : MM), (S' = S ∧ ∃ n j k, n < 4 ∧ p = nI n ∧ x = nI j ∧ TxN (R.Q.G n) (R.Q.T n) j k ∧ v = chI ((R.Q.G n).ev k).ch) → K (some (.inl v)) S' (cs + 2) (sl + 12)) ∧ ((npx R.Q p x) → Kx 1 S (cs + 2) (sl + 12))))
  | _ => False
def sp_rat0 (t : Nat) (p : Int32) (x : Int32) (F : Nat → Nat × Nat) (z : Nat → Nat) (Y : Nat → Nat → Nat) (R : Rb) (kz : Nat → Nat) : Sp := (fun av S => av = [.inr (.inr (some t)), .inl p, .inl x] ∧ (MD S F t z Y R kz), fun _ S => 2, fun _ S => 12, fun _ S rv S' => ∃ v, rv = (some (.inl v)) ∧ (S' = S ∧ ∃ n j k, n < 4 ∧ p = nI n ∧ x = nI j ∧ TxN (R.Q.G n) (R.Q.T n) j k ∧ v = chI ((R.Q.G n).ev k).ch), fun _ S E S' => (E = 1 ∧ (npx R.Q p x) ∧ S' = S))
def tX14_at0 : CD := [(0, .aload_n 0), (1, .iload_n 1), (2, .invokevirtual 203), (5, .astore_n 3), (6, .iload_n 2), (7, .iconst 0), (8, .aload_n 3), (9, .invokevirtual 207), (12, .iconst 1), (13, .isub), (14, .invokestatic 144), (17, .invokestatic 148), (20, .aload_n 3), (21, .getfield 259), (24, .aload_n 3), (25, .iload_n 2), (26, .invokevirtual 262), (29, .iaload), (30, .ireturn)]
set_option maxRecDepth 100000 in
theorem kX14_at0 : chk cX14_at0 tX14_at0 = true := by decide +kernel
theorem vX14_at0_203 : ∀ w ∈ ([.methodLink RX14 203 yX14_graph, .instanceMethod yX14_graph, .selects yX14_graph.cls yX14_graph yX14_graph, .initialized yX14_graph.cls, .code yX14_graph cX14_graph 2 (some (.object "WeaveTextModel$Graph"))] : List Cond), w ∈ lw_good := List.forall_mem_cons.mpr ⟨mgd 1946 (by decide +kernel) (by decide +kernel), List.forall_mem_cons.mpr ⟨mgd 1948 (by decide +kernel) (by decide +kernel), List.forall_mem_cons.mpr ⟨mgd 52 (by decide +kernel) (by decide +kernel), List.forall_mem_cons.mpr ⟨mgd 136 (by decide +kernel) (by decide +kernel), List.forall_mem_cons.mpr ⟨mgd 1949 (by decide +kernel) (by decide +kernel), fun _ h => absurd h List.not_mem_nil⟩⟩⟩⟩⟩
theorem vX14_at0_207 : ∀ w ∈ ([.methodLink RX14 207 yX12_length, .instanceMethod yX12_length, .selects yX12_length.cls yX12_length yX12_length, .initialized yX12_length.cls, .code yX12_length cX12_length 3 (some .int)] : List Cond), w ∈ lw_good := List.forall_mem_cons.mpr ⟨mgd 1950 (by decide +kernel) (by decide +kernel), List.forall_mem_cons.mpr ⟨mgd 1951 (by decide +kernel) (by decide +kernel), List.forall_mem_cons.mpr ⟨mgd 1952 (by decide +kernel) (by decide +kernel), List.forall_mem_cons.mpr ⟨mgd 138 (by decide +kernel) (by decide +kernel), List.forall_mem_cons.mpr ⟨mgd 1953 (by decide +kernel) (by decide +kernel), fun _ h => absurd h List.not_mem_nil⟩⟩⟩⟩⟩
theorem vX14_at0_144 : ∀ w ∈ ([.methodLink RX14 144 yX14_in, .static yX14_in, .initialized yX14_in.cls, .code yX14_in cX14_in 3 (some .boolean)] : List Cond), w ∈ lw_good := List.forall_mem_cons.mpr ⟨mgd 1930 (by decide +kernel) (by decide +kernel), List.forall_mem_cons.mpr ⟨mgd 1931 (by decide +kernel) (by decide +kernel), List.forall_mem_cons.mpr ⟨mgd 136 (by decide +kernel) (by decide +kernel), List.forall_mem_cons.mpr ⟨mgd 1932 (by decide +kernel) (by decide +kernel), fun _ h => absurd h List.not_mem_nil⟩⟩⟩⟩
theorem vX14_at0_148 : ∀ w ∈ ([.methodLink RX14 148 yX14_check, .static yX14_check, .initialized yX14_check.cls, .code yX14_check cX14_check 1 none] : List Cond), w ∈ lw_good := List.forall_mem_cons.mpr ⟨mgd 1933 (by decide +kernel) (by decide +kernel), List.forall_mem_cons.mpr ⟨mgd 1934 (by decide +kernel) (by decide +kernel), List.forall_mem_cons.mpr ⟨mgd 136 (by decide +kernel) (by decide +kernel), List.forall_mem_cons.mpr ⟨mgd 1935 (by decide +kernel) (by decide +kernel), fun _ h => absurd h List.not_mem_nil⟩⟩⟩⟩
theorem vX14_at0_262 : ∀ w ∈ ([.methodLink RX14 262 yX12_shownAt, .instanceMethod yX12_shownAt, .selects yX12_shownAt.cls yX12_shownAt yX12_shownAt, .initialized yX12_shownAt.cls, .code yX12_shownAt cX12_shownAt 4 (some .int)] : List Cond), w ∈ lw_good := List.forall_mem_cons.mpr ⟨mgd 2095 (by decide +kernel) (by decide +kernel), List.forall_mem_cons.mpr ⟨mgd 2096 (by decide +kernel) (by decide +kernel), List.forall_mem_cons.mpr ⟨mgd 2097 (by decide +kernel) (by decide +kernel), List.forall_mem_cons.mpr ⟨mgd 138 (by decide +kernel) (by decide +kernel), List.forall_mem_cons.mpr ⟨mgd 2098 (by decide +kernel) (by decide +kernel), fun _ h => absurd h List.not_mem_nil⟩⟩⟩⟩⟩
set_option maxRecDepth 100000 in
set_option maxHeartbeats 2000000 in
theorem c_rat0 (l : Launch) (hlt : l.stackTraces = false) : ∀ (t : Nat) (p : Int32) (x : Int32) (F : Nat → Nat × Nat) (z : Nat → Nat) (Y : Nat → Nat → Nat) (R : Rb) (kz : Nat → Nat), CtX l yX14_at0 (Cond.code yX14_at0 cX14_at0 4 (some .int)) (some .int) 8 130 (sp_rat0 t p x F z Y R kz) := by
  intro t p x F z Y R kz
  refine CtX.of hlt (fX14, nX14, aX14, iX14, lX14, [(203, 0, 2, 3, T_rgr), (207, 0, 1, 1, T_rln), (144, 2, 3, 1, T_rin), (148, 2, 1, 0, T_rck), (262, 0, 2, 1, T_rsha)], qX14, gX14, []) false tX14_at0 (fun _ _ _ => none) (by decide) (by decide) kX14_at0 ⟨_, _, rfl⟩ fX14_ok nX14_ok aX14_ok iX14_ok lX14_ok (fun p e R s m args below meth c Q D cy z r A C hR1 hR2 => List.forall_mem_cons.mpr ⟨cOK_use (fun _ _ _ _ _ _ _ _ h => let ⟨sp, h1, h2, h3⟩ := u_rgr l hlt _ _ _ _ _ _ _ _ h; ⟨sp, cOKx_V C h1 vX14_at0_203 ⟨by decide, by decide, by decide +kernel⟩ ⟨by rw [hR1]; decide, by rw [hR2]; decide⟩ (k := 15) (T := TX14) (N := 52) rfl (by decide) h2, h3⟩), List.forall_mem_cons.mpr ⟨cOK_use (fun _ _ _ _ _ _ _ _ h => let ⟨sp, h1, h2, h3⟩ := u_rln l _ _ _ _ _ _ _ _ h; ⟨sp, cOK_V C h1 vX14_at0_207 ⟨by decide, by decide, by decide +kernel⟩ ⟨by rw [hR1]; decide, by rw [hR2]; decide⟩ (k := 13) (T := TX12) (N := 27) rfl (by decide) h2, h3⟩), List.forall_mem_cons.mpr ⟨cOK_use (fun _ _ _ _ _ _ _ _ h => let ⟨sp, h1, _, h3⟩ := u_rin l _ _ _ _ _ _ _ _ h; ⟨sp, cOK_S C h1 vX14_at0_144 ⟨by decide, by decide, by decide +kernel⟩ ⟨by rw [hR1]; decide, by rw [hR2]; decide⟩, h3⟩), List.forall_mem_cons.mpr ⟨cOK_use (fun _ _ _ _ _ _ _ _ h => let ⟨sp, h1, _, h3⟩ := u_rck l hlt _ _ _ _ _ _ _ _ h; ⟨sp, cOKx_S C h1 vX14_at0_148 ⟨by decide, by decide, by decide +kernel⟩ ⟨by rw [hR1]; decide, by rw [hR2]; decide⟩, h3⟩), List.forall_mem_cons.mpr ⟨cOK_use (fun _ _ _ _ _ _ _ _ h => let ⟨sp, h1, h2, h3⟩ := u_rsha l _ _ _ _ _ _ _ _ h; ⟨sp, cOK_V C h1 vX14_at0_262 ⟨by decide, by decide, by decide +kernel⟩ ⟨by rw [hR1]; decide, by rw [hR2]; decide⟩ (k := 13) (T := TX12) (N := 27) rfl (by decide) h2, h3⟩), fun _ h => absurd h List.not_mem_nil⟩⟩⟩⟩⟩) qX14_ok gX14_ok (fun _ h => absurd h List.not_mem_nil) ?_ ?_
  · rintro _ S ⟨rfl, hp⟩
    refine ⟨Nat.le_of_ble_eq_true rfl, 300, ?_⟩
    show (0 = 0 ∧ (∃ (F_1 : Nat → Nat × Nat) (z_2 : Nat → Nat) (Y_3 : Nat → Nat → Nat) (R_4 : Rb) (kz_5 : Nat → Nat), (MD S F_1 t z_2 Y_3 R_4 kz_5) ∧ 0 + 1 ≤ 2 ∧ 0 + 6 ≤ 12 ∧ ((∀ (x_7 : Option Nat) (S_6 : MM), (S_6 = S ∧ ∃ n, n < 4 ∧ p = nI n ∧ x_7 = some (Y_3 n 0)) → (0 = 0 ∧ ((pa x_7 fun a_8 => (∃ (F_9 : Nat → Nat × Nat) (i_10 : Nat) (y_11 : Nat → Nat) (G_12 : Gr) (T_13 : Tr), (a_8 = y_11 0 ∧ RG S_6 F_9 i_10 y_11 G_12 T_13) ∧ 0 + 1 ≤ 2 ∧ 0 + 6 ≤ 12 ∧ ((2 = 2 ∧ (True ∧ 0 + 1 ≤ 2 ∧ 0 + 6 ≤ 12 ∧ ((2 = 2 ∧ (((tf ((0 : Int32) ≤ x ∧ x ≤ ((nI (T_13.od.filter (vis G_12)).length) - (1 : Int32)))) = 0 ∨ (tf ((0 : Int32) ≤ x ∧ x ≤ ((nI (T_13.od.filter (vis G_12)).length) - (1 : Int32)))) = 1) ∧ 0 + 1 + 1 ≤ 2 ∧ 0 + 6 + 6 ≤ 12 ∧ ((∀ (S_16 : MM), (S_16 = S_6 ∧ (tf ((0 : Int32) ≤ x ∧ x ≤ ((nI (T_13.od.filter (vis G_12)).length) - (1 : Int32)))) = 1) → (pa x_7 fun a_17 => isO S_16 13 a_17 ∧ (0 = 0 ∧ ((pa x_7 fun a_18 => (∃ (ix_19 : Nat), x = nI ix_19 ∧ (∃ (F_20 : Nat → Nat × Nat) (i_21 : Nat) (y_22 : Nat → Nat) (G_23 : Gr) (T_24 : Tr), (a_18 = y_22 0 ∧ RG S_16 F_20 i_21 y_22 G_23 T_24 ∧ ix_19 < (T_24.od.filter (vis G_23)).length) ∧ 0 + 1 + 1 ≤ 2 ∧ 0 + 6 + 6 ≤ 12 ∧ (∀ (x_26 : Int32), (∃ j, atP T_24.od (vis G_23) ix_19 j ∧ x_26 = nI (T_24.od.getD j 0 - 1)) → (pa (mR S_16 1311 a_17) fun a_27 => ∃ v_28 : Int32, (isO S_16 17 a_27 ∧ inR S_16 a_27 x_26 ∧ v_28 = eI S_16 a_27 x_26.toNatClampNeg ∨ a_27 = (mQ S_16).1 ∧ vp_in x_26 16 ∧ v_28 = mRem x_26.toNatClampNeg) ∧ (([] : List MV) = [] ∧ mret (some .int) (sp_rat0 t p x F z Y R kz) [.inr (.inr (some t)), .inl p, .inl x] S (some (.inl v_28)) S_16 (0 + 1 + 1) (0 + 6 + 6))))))))))) ∧ (((tf ((0 : Int32) ≤ x ∧ x ≤ ((nI (T_13.od.filter (vis G_12)).length) - (1 : Int32)))) = 0) → mthr (sp_rat0 t p x F z Y R kz) [.inr (.inr (some t)), .inl p, .inl x] S 1 S_6 (0 + 1 + 1) (0 + 6 + 6)))))))))))))) ∧ ((np 4 p) → mthr (sp_rat0 t p x F z Y R kz) [.inr (.inr (some t)), .inl p, .inl x] S 1 S (0 + 1) (0 + 6)))))
    refine ⟨rfl, F, z, Y, R, kz, hp, by decide, by decide, fun v S3 h => ?_, fun h => ⟨⟨rfl, Or.inl h, rfl⟩, Nat.le_of_ble_eq_true rfl, Nat.le_of_ble_eq_true rfl⟩⟩
    obtain ⟨rfl, n, hn, rfl, rfl⟩ := h
    have g := (hp 2 n hn).2.1
    have hnm := g.nm
    have hol := g.odl
    have hfl : ((R.Q.T n).od.filter (vis (R.Q.G n))).length ≤ (R.Q.T n).od.length := List.length_filter_le _ _
    refine ⟨rfl, F, 101 + n, Y n, R.Q.G n, R.Q.T n, ⟨rfl, g⟩, by decide, by decide, rfl, trivial, by decide, by decide, rfl, tf_b _, by decide, by decide, fun S4 h => ?_, fun h => ⟨⟨rfl, Or.inr ⟨n, hn, rfl, in_0m (m := ((R.Q.T n).od.filter (vis (R.Q.G n))).length) (by omega) h⟩, rfl⟩, Nat.le_of_ble_eq_true rfl, Nat.le_of_ble_eq_true rfl⟩⟩
    obtain ⟨rfl, h⟩ := h
    obtain ⟨j, hj, rfl⟩ := in_1m (by omega) h
    refine pa_i rfl ⟨(g 0).1, rfl, pa_i rfl ⟨j, rfl, F, 101 + n, Y n, R.Q.G n, R.Q.T n, ⟨rfl, g, hj⟩, by decide, by decide, fun x hx => ?_⟩⟩
    obtain ⟨i, hi, rfl⟩ := hx
    obtain ⟨k, hk, hkn, hkc, -⟩ := g.odn hi.1
    rw [hk, Nat.add_sub_cancel]
    obtain ⟨c, hc⟩ : ∃ c, ((R.Q.G n).ev k).ch = some c := by
      cases h9 : ((R.Q.G n).ev k).ch with
      | none => exact absurd h9 hkc
      | some c => exact ⟨c, rfl⟩
    exact rdI (v := nI c) g.r11.1 g.r11.2.1 (inRn g.r11.2.2 (by omega) (by decide)) (by rw [nI_clamp (by omega)]; exact ((g 6 k hkn).1 c hc).2) ⟨rfl, trivial, ⟨_, rfl, rfl, n, j, k, hn, rfl, rfl, atP_tx hi hk, by rw [hc]; rfl⟩, Nat.le_refl _, Nat.le_refl _⟩
  · exact fun _ _ _ _ _ h => by cases h
theorem u_rat0 (l : Launch) (hlt : l.stackTraces = false) : UsX l yX14_at0 (Cond.code yX14_at0 cX14_at0 4 (some .int)) (some .int) 8 130 15 T_rat0 := by
  intro Rc Rs av S cs sl K Kx h
  unfold T_rat0 at h
  split at h
  · rename_i t_o p x
    obtain ⟨t, rfl, h_1⟩ := pa_of h
    obtain ⟨F, z, Y, R, kz, hp, hc, hs, hk, hx0⟩ := h_1
    refine ⟨(sp_rat0 t p x F z Y R kz), c_rat0 l hlt t p x F z Y R kz, fun _ _ h9 => ⟨_, _, h9.1, (h9.2 0).1⟩, ⟨rfl, hp⟩, hc, hs, fun v9 S' h8 => by
      obtain ⟨v8, h7, h8⟩ := h8
      cases h7
      exact hk _ _ h8, fun _ _ q => by
      rcases q with ⟨rfl, q⟩
      · obtain ⟨q, rfl⟩ := q
        exact hx0 q⟩
  · exact h.elim
def T_rft0 : TR := fun Rc Rs av S cs sl K _Kx => match av with
  | [.inr (.inr t_o)] => pa t_o fun t => (∃ (F : Nat → Nat × Nat) (z : Nat → Nat) (Y : Nat → Nat → Nat) (R : Rb) (kz : Nat → Nat), (MD S F t z Y R kz) ∧ cs ≤ Rc ∧ sl ≤ Rs ∧ (K (some (.inl (nI R.Q.ft))) S cs sl))
  | _ => False
def sp_rft0 (t : Nat) (F : Nat → Nat × Nat) (z : Nat → Nat) (Y : Nat → Nat → Nat) (R : Rb) (kz : Nat → Nat) : Sp := (fun av S => av = [.inr (.inr (some t))] ∧ (MD S F t z Y R kz), fun _ S => 0, fun _ S => 0, fun _ S rv S' => rv = (some (.inl (nI R.Q.ft))) ∧ S' = S, fun _ _ _ _ => False)
def tX14_fault0 : CD := [(0, .aload_n 0), (1, .getfield 419), (4, .ireturn)]
set_option maxRecDepth 100000 in
theorem kX14_fault0 : chk cX14_fault0 tX14_fault0 = true := by decide +kernel

set_option maxRecDepth 100000 in
set_option maxHeartbeats 2000000 in
theorem c_rft0 (l : Launch) (hlt : l.stackTraces = false) : ∀ (t : Nat) (F : Nat → Nat × Nat) (z : Nat → Nat) (Y : Nat → Nat → Nat) (R : Rb) (kz : Nat → Nat), CtX l yX14_fault0 (Cond.code yX14_fault0 cX14_fault0 1 (some .int)) (some .int) 0 0 (sp_rft0 t F z Y R kz) := by
  intro t F z Y R kz
  refine CtX.of hlt (fX14, nX14, aX14, iX14, lX14, [], qX14, gX14, []) false tX14_fault0 (fun _ _ _ => none) (by decide) (by decide) kX14_fault0 ⟨_, _, rfl⟩ fX14_ok nX14_ok aX14_ok iX14_ok lX14_ok (fun _ _ _ _ _ _ _ _ _ _ _ _ _ _ _ _ _ _ => no_all) qX14_ok gX14_ok (fun _ h => absurd h List.not_mem_nil) ?_ ?_
  · rintro _ S ⟨rfl, hp⟩
    refine ⟨Nat.le_of_ble_eq_true rfl, 300, ?_⟩
    show (isO S 15 t ∧ (([] : List MV) = [] ∧ mret (some .int) (sp_rft0 t F z Y R kz) [.inr (.inr (some t))] S (some (.inl (mI S 1513 t))) S 0 0))
    exact ⟨(hp 0).1, rfl, trivial, ⟨by rw [(hp 9).1], rfl⟩, Nat.le_refl _, Nat.le_refl _⟩
  · exact fun _ _ _ _ _ h => by cases h
theorem u_rft0 (l : Launch) (hlt : l.stackTraces = false) : UsX l yX14_fault0 (Cond.code yX14_fault0 cX14_fault0 1 (some .int)) (some .int) 0 0 15 T_rft0 := by
  intro Rc Rs av S cs sl K Kx h
  unfold T_rft0 at h
  split at h
  · rename_i t_o
    obtain ⟨t, rfl, h_1⟩ := pa_of h
    obtain ⟨F, z, Y, R, kz, hp, hc, hs, hk⟩ := h_1
    refine ⟨(sp_rft0 t F z Y R kz), c_rft0 l hlt t F z Y R kz, fun _ _ h9 => ⟨_, _, h9.1, (h9.2 0).1⟩, ⟨rfl, hp⟩, hc, hs, fun v9 S' h8 => by
      obtain ⟨h7, h8⟩ := h8
      cases h7
      subst h8
      exact hk, fun _ _ q => q.elim⟩
  · exact h.elim
def T_rft1 : TR := fun Rc Rs av S cs sl K _Kx => match av with
  | [.inr (.inr t_o)] => pa t_o fun t => (∃ (F : Nat → Nat × Nat) (z : Nat → Nat) (Y : Nat → Nat → Nat) (R : Rb) (kz : Nat → Nat), (MD S F t z Y R kz) ∧ cs ≤ Rc ∧ sl ≤ Rs ∧ (∀ (S' : MM), (thQ S S' F t z Y R kz 0) → K (some (.inl (nI R.Q.ft))) S' cs sl))
  | _ => False
def sp_rft1 (t : Nat) (F : Nat → Nat × Nat) (z : Nat → Nat) (Y : Nat → Nat → Nat) (R : Rb) (kz : Nat → Nat) : Sp := (fun av S => av = [.inr (.inr (some t))] ∧ (MD S F t z Y R kz), fun _ S => 0, fun _ S => 0, fun _ S rv S' => rv = (some (.inl (nI R.Q.ft))) ∧ (thQ S S' F t z Y R kz 0), fun _ _ _ _ => False)
def tX14_fault : CD := [(0, .aload_n 0), (1, .iconst 0), (2, .putfield 512), (5, .aload_n 0), (6, .invokevirtual 603), (9, .ireturn)]
set_option maxRecDepth 100000 in
theorem kX14_fault : chk cX14_fault tX14_fault = true := by decide +kernel
theorem vX14_fault_603 : ∀ w ∈ ([.methodLink RX14 603 yX14_fault0, .instanceMethod yX14_fault0, .selects yX14_fault0.cls yX14_fault0 yX14_fault0, .initialized yX14_fault0.cls, .code yX14_fault0 cX14_fault0 1 (some .int)] : List Cond), w ∈ lw_good := List.forall_mem_cons.mpr ⟨mgd 2459 (by decide +kernel) (by decide +kernel), List.forall_mem_cons.mpr ⟨mgd 2461 (by decide +kernel) (by decide +kernel), List.forall_mem_cons.mpr ⟨mgd 117 (by decide +kernel) (by decide +kernel), List.forall_mem_cons.mpr ⟨mgd 136 (by decide +kernel) (by decide +kernel), List.forall_mem_cons.mpr ⟨mgd 2462 (by decide +kernel) (by decide +kernel), fun _ h => absurd h List.not_mem_nil⟩⟩⟩⟩⟩
set_option maxRecDepth 100000 in
set_option maxHeartbeats 2000000 in
theorem c_rft1 (l : Launch) (hlt : l.stackTraces = false) : ∀ (t : Nat) (F : Nat → Nat × Nat) (z : Nat → Nat) (Y : Nat → Nat → Nat) (R : Rb) (kz : Nat → Nat), CtX l yX14_fault (Cond.code yX14_fault cX14_fault 1 (some .int)) (some .int) 1 20 (sp_rft1 t F z Y R kz) := by
  intro t F z Y R kz
  refine CtX.of hlt (fX14, nX14, aX14, iX14, lX14, [(603, 0, 1, 1, T_rft0)], qX14, gX14, []) false tX14_fault (fun _ _ _ => none) (by decide) (by decide) kX14_fault ⟨_, _, rfl⟩ fX14_ok nX14_ok aX14_ok iX14_ok lX14_ok (fun p e R s m args below meth c Q D cy z r A C hR1 hR2 => List.forall_mem_cons.mpr ⟨cOK_use (fun _ _ _ _ _ _ _ _ h => let ⟨sp, h1, h2, h3⟩ := u_rft0 l hlt _ _ _ _ _ _ _ _ h; ⟨sp, cOKx_V C h1 vX14_fault_603 ⟨by decide, by decide, by decide +kernel⟩ ⟨by rw [hR1]; decide, by rw [hR2]; decide⟩ (k := 15) (T := TX14) (N := 52) rfl (by decide) h2, h3⟩), fun _ h => absurd h List.not_mem_nil⟩) qX14_ok gX14_ok (fun _ h => absurd h List.not_mem_nil) ?_ ?_
  · rintro _ S ⟨rfl, hp⟩
    refine ⟨Nat.le_of_ble_eq_true rfl, 300, ?_⟩
    show (True ∧ (isO S 15 t ∧ (0 = 0 ∧ (∃ (F_1 : Nat → Nat × Nat) (z_2 : Nat → Nat) (Y_3 : Nat → Nat → Nat) (R_4 : Rb) (kz_5 : Nat → Nat), (MD (sI S 1551 t (0 : Int32)) F_1 t z_2 Y_3 R_4 kz_5) ∧ 0 ≤ 0 ∧ 0 ≤ 0 ∧ ((([] : List MV) = [] ∧ mret (some .int) (sp_rft1 t F z Y R kz) [.inr (.inr (some t))] S (some (.inl (nI R_4.Q.ft))) (sI S 1551 t (0 : Int32)) 0 0))))))
    exact ⟨trivial, (hp 0).1, rfl, F, z, Y, R, kz, hp.th 0, Nat.le_refl _, Nat.le_refl _, rfl, trivial, ⟨rfl, hp.ok0⟩, Nat.le_refl _, Nat.le_refl _⟩
  · exact fun _ _ _ _ _ h => by cases h
theorem u_rft1 (l : Launch) (hlt : l.stackTraces = false) : UsX l yX14_fault (Cond.code yX14_fault cX14_fault 1 (some .int)) (some .int) 1 20 15 T_rft1 := by
  intro Rc Rs av S cs sl K Kx h
  unfold T_rft1 at h
  split at h
  · rename_i t_o
    obtain ⟨t, rfl, h_1⟩ := pa_of h
    obtain ⟨F, z, Y, R, kz, hp, hc, hs, hk⟩ := h_1
    refine ⟨(sp_rft1 t F z Y R kz), c_rft1 l hlt t F z Y R kz, fun _ _ h9 => ⟨_, _, h9.1, (h9.2 0).1⟩, ⟨rfl, hp⟩, hc, hs, fun v9 S' h8 => by
      obtain ⟨h7, h8⟩ := h8
      cases h7
      exact hk _ h8, fun _ _ q => q.elim⟩
  · exact h.elim
def T_rthn : TR := fun Rc Rs av S cs sl K _Kx => match av with
  | [.inr (.inr t_o)] => pa t_o fun t => (∃ (v9 : Int32), (isO S 15 t ∧ mI S 1551 t = v9) ∧ cs ≤ Rc ∧ sl ≤ Rs ∧ (K (some (.inl v9)) S cs sl))
  | _ => False
def sp_rthn (t : Nat) (v9 : Int32) : Sp := (fun av S => av = [.inr (.inr (some t))] ∧ (isO S 15 t ∧ mI S 1551 t = v9), fun _ S => 0, fun _ S => 0, fun _ S rv S' => rv = (some (.inl v9)) ∧ S' = S, fun _ _ _ _ => False)
def tX14_thrown : CD := [(0, .aload_n 0), (1, .getfield 512), (4, .ireturn)]
set_option maxRecDepth 100000 in
theorem kX14_thrown : chk cX14_thrown tX14_thrown = true := by decide +kernel

set_option maxRecDepth 100000 in
set_option maxHeartbeats 2000000 in
theorem c_rthn (l : Launch) : ∀ (t : Nat) (v9 : Int32), Ct l yX14_thrown cX14_thrown 1 (some .int) 0 0 (sp_rthn t v9) := by
  intro t v9
  refine Ct.of (fX14, nX14, aX14, iX14, lX14, [], qX14, gX14, []) false tX14_thrown (fun _ _ _ => none) (by decide) (by decide) kX14_thrown ⟨_, _, rfl⟩ fX14_ok nX14_ok aX14_ok iX14_ok lX14_ok (fun _ _ _ _ _ _ _ _ _ _ _ _ _ _ _ _ _ _ => no_all) qX14_ok gX14_ok rfl ?_ ?_
  · rintro _ S ⟨rfl, hp⟩
    refine ⟨Nat.le_of_ble_eq_true rfl, 300, ?_⟩
    show (isO S 15 t ∧ (([] : List MV) = [] ∧ mret (some .int) (sp_rthn t v9) [.inr (.inr (some t))] S (some (.inl (mI S 1551 t))) S 0 0))
    exact ⟨hp.1, rfl, trivial, ⟨by rw [hp.2], rfl⟩, Nat.le_refl _, Nat.le_refl _⟩
  · exact fun _ _ _ _ _ h => by cases h
theorem u_rthn (l : Launch) : Us l yX14_thrown cX14_thrown 1 (some .int) 0 0 15 T_rthn := by
  intro Rc Rs av S cs sl K Kx h
  unfold T_rthn at h
  split at h
  · rename_i t_o
    obtain ⟨t, rfl, h_1⟩ := pa_of h
    obtain ⟨v9, hp, hc, hs, hk⟩ := h_1
    refine ⟨(sp_rthn t v9), c_rthn l t v9, fun _ _ h9 => ⟨_, _, h9.1, h9.2.1⟩, ⟨rfl, hp⟩, hc, hs, fun v9 S' h8 => by
      obtain ⟨h7, h8⟩ := h8
      cases h7
      subst h8
      exact hk, fun _ _ q => q.elim⟩
  · exact h.elim
def T_rbl0 : TR := fun Rc Rs av S cs sl K Kx => match av with
  | [.inr (.inr t_o), .inl p, .inl x] => pa t_o fun t => (∃ (F : Nat → Nat × Nat) (z : Nat → Nat) (Y : Nat → Nat → Nat) (R : Rb) (kz : Nat → Nat), (MD S F t z Y R kz) ∧ cs + 2 ≤ Rc ∧ sl + 12 ≤ Rs ∧ ((∀ (v : Int64) (S' : MM), (S' = S ∧ ∃ n j k, n < 4 ∧ p = nI n ∧ x = nI j ∧ TxN (R.Q.G n) (R.Q.T n) j k ∧ v = lN ((R.Q.G n).key k)) → K (some (.inr (.inl v))) S' (cs + 2) (sl + 12)) ∧ ((npx R.Q p x) → Kx 1 S (cs + 2) (sl + 12))))
  | _ => False
def sp_rbl0 (t : Nat) (p : Int32) (x : Int32) (F : Nat → Nat × Nat) (z : Nat → Nat) (Y : Nat → Nat → Nat) (R : Rb) (kz : Nat → Nat) : Sp := (fun av S => av = [.inr (.inr (some t)), .inl p, .inl x] ∧ (MD S F t z Y R kz), fun _ S => 2, fun _ S => 12, fun _ S rv S' => ∃ v, rv = (some (.inr (.inl v))) ∧ (S' = S ∧ ∃ n j k, n < 4 ∧ p = nI n ∧ x = nI j ∧ TxN (R.Q.G n) (R.Q.T n) j k ∧ v = lN ((R.Q.G n).key k)), fun _ S E S' => (E = 1 ∧ (npx R.Q p x) ∧ S' = S))
def tX14_blame0 : CD := [(0, .aload_n 0), (1, .iload_n 1), (2, .invokevirtual 203), (5, .astore_n 3), (6, .iload_n 2), (7, .iconst 0), (8, .aload_n 3), (9, .invokevirtual 207), (12, .iconst 1), (13, .isub), (14, .invokestatic 144), (17, .invokestatic 148), (20, .aload_n 3), (21, .aload_n 3), (22, .iload_n 2), (23, .invokevirtual 262), (26, .invokestatic 274), (29, .lreturn)]
set_option maxRecDepth 100000 in
theorem kX14_blame0 : chk cX14_blame0 tX14_blame0 = true := by decide +kernel
theorem vX14_blame0_203 : ∀ w ∈ ([.methodLink RX14 203 yX14_graph, .instanceMethod yX14_graph, .selects yX14_graph.cls yX14_graph yX14_graph, .initialized yX14_graph.cls, .code yX14_graph cX14_graph 2 (some (.object "WeaveTextModel$Graph"))] : List Cond), w ∈ lw_good := List.forall_mem_cons.mpr ⟨mgd 1946 (by decide +kernel) (by decide +kernel), List.forall_mem_cons.mpr ⟨mgd 1948 (by decide +kernel) (by decide +kernel), List.forall_mem_cons.mpr ⟨mgd 52 (by decide +kernel) (by decide +kernel), List.forall_mem_cons.mpr ⟨mgd 136 (by decide +kernel) (by decide +kernel), List.forall_mem_cons.mpr ⟨mgd 1949 (by decide +kernel) (by decide +kernel), fun _ h => absurd h List.not_mem_nil⟩⟩⟩⟩⟩
theorem vX14_blame0_207 : ∀ w ∈ ([.methodLink RX14 207 yX12_length, .instanceMethod yX12_length, .selects yX12_length.cls yX12_length yX12_length, .initialized yX12_length.cls, .code yX12_length cX12_length 3 (some .int)] : List Cond), w ∈ lw_good := List.forall_mem_cons.mpr ⟨mgd 1950 (by decide +kernel) (by decide +kernel), List.forall_mem_cons.mpr ⟨mgd 1951 (by decide +kernel) (by decide +kernel), List.forall_mem_cons.mpr ⟨mgd 1952 (by decide +kernel) (by decide +kernel), List.forall_mem_cons.mpr ⟨mgd 138 (by decide +kernel) (by decide +kernel), List.forall_mem_cons.mpr ⟨mgd 1953 (by decide +kernel) (by decide +kernel), fun _ h => absurd h List.not_mem_nil⟩⟩⟩⟩⟩
theorem vX14_blame0_144 : ∀ w ∈ ([.methodLink RX14 144 yX14_in, .static yX14_in, .initialized yX14_in.cls, .code yX14_in cX14_in 3 (some .boolean)] : List Cond), w ∈ lw_good := List.forall_mem_cons.mpr ⟨mgd 1930 (by decide +kernel) (by decide +kernel), List.forall_mem_cons.mpr ⟨mgd 1931 (by decide +kernel) (by decide +kernel), List.forall_mem_cons.mpr ⟨mgd 136 (by decide +kernel) (by decide +kernel), List.forall_mem_cons.mpr ⟨mgd 1932 (by decide +kernel) (by decide +kernel), fun _ h => absurd h List.not_mem_nil⟩⟩⟩⟩
theorem vX14_blame0_148 : ∀ w ∈ ([.methodLink RX14 148 yX14_check, .static yX14_check, .initialized yX14_check.cls, .code yX14_check cX14_check 1 none] : List Cond), w ∈ lw_good := List.forall_mem_cons.mpr ⟨mgd 1933 (by decide +kernel) (by decide +kernel), List.forall_mem_cons.mpr ⟨mgd 1934 (by decide +kernel) (by decide +kernel), List.forall_mem_cons.mpr ⟨mgd 136 (by decide +kernel) (by decide +kernel), List.forall_mem_cons.mpr ⟨mgd 1935 (by decide +kernel) (by decide +kernel), fun _ h => absurd h List.not_mem_nil⟩⟩⟩⟩
theorem vX14_blame0_262 : ∀ w ∈ ([.methodLink RX14 262 yX12_shownAt, .instanceMethod yX12_shownAt, .selects yX12_shownAt.cls yX12_shownAt yX12_shownAt, .initialized yX12_shownAt.cls, .code yX12_shownAt cX12_shownAt 4 (some .int)] : List Cond), w ∈ lw_good := List.forall_mem_cons.mpr ⟨mgd 2095 (by decide +kernel) (by decide +kernel), List.forall_mem_cons.mpr ⟨mgd 2096 (by decide +kernel) (by decide +kernel), List.forall_mem_cons.mpr ⟨mgd 2097 (by decide +kernel) (by decide +kernel), List.forall_mem_cons.mpr ⟨mgd 138 (by decide +kernel) (by decide +kernel), List.forall_mem_cons.mpr ⟨mgd 2098 (by decide +kernel) (by decide +kernel), fun _ h => absurd h List.not_mem_nil⟩⟩⟩⟩⟩
theorem vX14_blame0_274 : ∀ w ∈ ([.methodLink RX14 274 yX14_id, .static yX14_id, .initialized yX14_id.cls, .code yX14_id cX14_id 2 (some .long)] : List Cond), w ∈ lw_good := List.forall_mem_cons.mpr ⟨mgd 2123 (by decide +kernel) (by decide +kernel), List.forall_mem_cons.mpr ⟨mgd 2124 (by decide +kernel) (by decide +kernel), List.forall_mem_cons.mpr ⟨mgd 136 (by decide +kernel) (by decide +kernel), List.forall_mem_cons.mpr ⟨mgd 2125 (by decide +kernel) (by decide +kernel), fun _ h => absurd h List.not_mem_nil⟩⟩⟩⟩
set_option maxRecDepth 100000 in
set_option maxHeartbeats 2000000 in
theorem c_rbl0 (l : Launch) (hlt : l.stackTraces = false) : ∀ (t : Nat) (p : Int32) (x : Int32) (F : Nat → Nat × Nat) (z : Nat → Nat) (Y : Nat → Nat → Nat) (R : Rb) (kz : Nat → Nat), CtX l yX14_blame0 (Cond.code yX14_blame0 cX14_blame0 4 (some .long)) (some .long) 8 130 (sp_rbl0 t p x F z Y R kz) := by
  intro t p x F z Y R kz
  refine CtX.of hlt (fX14, nX14, aX14, iX14, lX14, [(203, 0, 2, 3, T_rgr), (207, 0, 1, 1, T_rln), (144, 2, 3, 1, T_rin), (148, 2, 1, 0, T_rck), (262, 0, 2, 1, T_rsha), (274, 2, 2, 2, T_rid)], qX14, gX14, []) false tX14_blame0 (fun _ _ _ => none) (by decide) (by decide) kX14_blame0 ⟨_, _, rfl⟩ fX14_ok nX14_ok aX14_ok iX14_ok lX14_ok (fun p e R s m args below meth c Q D cy z r A C hR1 hR2 => List.forall_mem_cons.mpr ⟨cOK_use (fun _ _ _ _ _ _ _ _ h => let ⟨sp, h1, h2, h3⟩ := u_rgr l hlt _ _ _ _ _ _ _ _ h; ⟨sp, cOKx_V C h1 vX14_blame0_203 ⟨by decide, by decide, by decide +kernel⟩ ⟨by rw [hR1]; decide, by rw [hR2]; decide⟩ (k := 15) (T := TX14) (N := 52) rfl (by decide) h2, h3⟩), List.forall_mem_cons.mpr ⟨cOK_use (fun _ _ _ _ _ _ _ _ h => let ⟨sp, h1, h2, h3⟩ := u_rln l _ _ _ _ _ _ _ _ h; ⟨sp, cOK_V C h1 vX14_blame0_207 ⟨by decide, by decide, by decide +kernel⟩ ⟨by rw [hR1]; decide, by rw [hR2]; decide⟩ (k := 13) (T := TX12) (N := 27) rfl (by decide) h2, h3⟩), List.forall_mem_cons.mpr ⟨cOK_use (fun _ _ _ _ _ _ _ _ h => let ⟨sp, h1, _, h3⟩ := u_rin l _ _ _ _ _ _ _ _ h; ⟨sp, cOK_S C h1 vX14_blame0_144 ⟨by decide, by decide, by decide +kernel⟩ ⟨by rw [hR1]; decide, by rw [hR2]; decide⟩, h3⟩), List.forall_mem_cons.mpr ⟨cOK_use (fun _ _ _ _ _ _ _ _ h => let ⟨sp, h1, _, h3⟩ := u_rck l hlt _ _ _ _ _ _ _ _ h; ⟨sp, cOKx_S C h1 vX14_blame0_148 ⟨by decide, by decide, by decide +kernel⟩ ⟨by rw [hR1]; decide, by rw [hR2]; decide⟩, h3⟩), List.forall_mem_cons.mpr ⟨cOK_use (fun _ _ _ _ _ _ _ _ h => let ⟨sp, h1, h2, h3⟩ := u_rsha l _ _ _ _ _ _ _ _ h; ⟨sp, cOK_V C h1 vX14_blame0_262 ⟨by decide, by decide, by decide +kernel⟩ ⟨by rw [hR1]; decide, by rw [hR2]; decide⟩ (k := 13) (T := TX12) (N := 27) rfl (by decide) h2, h3⟩), List.forall_mem_cons.mpr ⟨cOK_use (fun _ _ _ _ _ _ _ _ h => let ⟨sp, h1, _, h3⟩ := u_rid l _ _ _ _ _ _ _ _ h; ⟨sp, cOK_S C h1 vX14_blame0_274 ⟨by decide, by decide, by decide +kernel⟩ ⟨by rw [hR1]; decide, by rw [hR2]; decide⟩, h3⟩), fun _ h => absurd h List.not_mem_nil⟩⟩⟩⟩⟩⟩) qX14_ok gX14_ok (fun _ h => absurd h List.not_mem_nil) ?_ ?_
  · rintro _ S ⟨rfl, hp⟩
    refine ⟨Nat.le_of_ble_eq_true rfl, 300, ?_⟩
    show (0 = 0 ∧ (∃ (F_1 : Nat → Nat × Nat) (z_2 : Nat → Nat) (Y_3 : Nat → Nat → Nat) (R_4 : Rb) (kz_5 : Nat → Nat), (MD S F_1 t z_2 Y_3 R_4 kz_5) ∧ 0 + 1 ≤ 2 ∧ 0 + 6 ≤ 12 ∧ ((∀ (x_7 : Option Nat) (S_6 : MM), (S_6 = S ∧ ∃ n, n < 4 ∧ p = nI n ∧ x_7 = some (Y_3 n 0)) → (0 = 0 ∧ ((pa x_7 fun a_8 => (∃ (F_9 : Nat → Nat × Nat) (i_10 : Nat) (y_11 : Nat → Nat) (G_12 : Gr) (T_13 : Tr), (a_8 = y_11 0 ∧ RG S_6 F_9 i_10 y_11 G_12 T_13) ∧ 0 + 1 ≤ 2 ∧ 0 + 6 ≤ 12 ∧ ((2 = 2 ∧ (True ∧ 0 + 1 ≤ 2 ∧ 0 + 6 ≤ 12 ∧ ((2 = 2 ∧ (((tf ((0 : Int32) ≤ x ∧ x ≤ ((nI (T_13.od.filter (vis G_12)).length) - (1 : Int32)))) = 0 ∨ (tf ((0 : Int32) ≤ x ∧ x ≤ ((nI (T_13.od.filter (vis G_12)).length) - (1 : Int32)))) = 1) ∧ 0 + 1 + 1 ≤ 2 ∧ 0 + 6 + 6 ≤ 12 ∧ ((∀ (S_16 : MM), (S_16 = S_6 ∧ (tf ((0 : Int32) ≤ x ∧ x ≤ ((nI (T_13.od.filter (vis G_12)).length) - (1 : Int32)))) = 1) → (0 = 0 ∧ ((pa x_7 fun a_17 => (∃ (ix_18 : Nat), x = nI ix_18 ∧ (∃ (F_19 : Nat → Nat × Nat) (i_20 : Nat) (y_21 : Nat → Nat) (G_22 : Gr) (T_23 : Tr), (a_17 = y_21 0 ∧ RG S_16 F_19 i_20 y_21 G_22 T_23 ∧ ix_18 < (T_23.od.filter (vis G_22)).length) ∧ 0 + 1 + 1 ≤ 2 ∧ 0 + 6 + 6 ≤ 12 ∧ (∀ (x_25 : Int32), (∃ j, atP T_23.od (vis G_22) ix_18 j ∧ x_25 = nI (T_23.od.getD j 0 - 1)) → (2 = 2 ∧ ((pa x_7 fun a_26 => (∃ (e_27 : Nat), x_25 = nI e_27 ∧ (∃ (F_28 : Nat → Nat × Nat) (i_29 : Nat) (y_30 : Nat → Nat) (G_31 : Gr) (T_32 : Tr), (a_26 = y_30 0 ∧ RG S_16 F_28 i_29 y_30 G_31 T_32 ∧ e_27 < G_31.n) ∧ 0 + 1 + 1 ≤ 2 ∧ 0 + 6 + 6 ≤ 12 ∧ ((([] : List MV) = [] ∧ mret (some .long) (sp_rbl0 t p x F z Y R kz) [.inr (.inr (some t)), .inl p, .inl x] S (some (.inr (.inl (lN (G_31.key e_27))))) S_16 (0 + 1 + 1) (0 + 6 + 6))))))))))))))) ∧ (((tf ((0 : Int32) ≤ x ∧ x ≤ ((nI (T_13.od.filter (vis G_12)).length) - (1 : Int32)))) = 0) → mthr (sp_rbl0 t p x F z Y R kz) [.inr (.inr (some t)), .inl p, .inl x] S 1 S_6 (0 + 1 + 1) (0 + 6 + 6)))))))))))))) ∧ ((np 4 p) → mthr (sp_rbl0 t p x F z Y R kz) [.inr (.inr (some t)), .inl p, .inl x] S 1 S (0 + 1) (0 + 6)))))
    refine ⟨rfl, F, z, Y, R, kz, hp, by decide, by decide, fun v S3 h => ?_, fun h => ⟨⟨rfl, Or.inl h, rfl⟩, Nat.le_of_ble_eq_true rfl, Nat.le_of_ble_eq_true rfl⟩⟩
    obtain ⟨rfl, n, hn, rfl, rfl⟩ := h
    have g := (hp 2 n hn).2.1
    have hnm := g.nm
    have hol := g.odl
    have hfl : ((R.Q.T n).od.filter (vis (R.Q.G n))).length ≤ (R.Q.T n).od.length := List.length_filter_le _ _
    refine ⟨rfl, F, 101 + n, Y n, R.Q.G n, R.Q.T n, ⟨rfl, g⟩, by decide, by decide, rfl, trivial, by decide, by decide, rfl, tf_b _, by decide, by decide, fun S4 h => ?_, fun h => ⟨⟨rfl, Or.inr ⟨n, hn, rfl, in_0m (m := ((R.Q.T n).od.filter (vis (R.Q.G n))).length) (by omega) h⟩, rfl⟩, Nat.le_of_ble_eq_true rfl, Nat.le_of_ble_eq_true rfl⟩⟩
    obtain ⟨rfl, h⟩ := h
    obtain ⟨j, hj, rfl⟩ := in_1m (by omega) h
    refine ⟨rfl, pa_i rfl ⟨j, rfl, F, 101 + n, Y n, R.Q.G n, R.Q.T n, ⟨rfl, g, hj⟩, by decide, by decide, fun x hx => ?_⟩⟩
    obtain ⟨i, hi, rfl⟩ := hx
    obtain ⟨k, hk, hkn, hkc, -⟩ := g.odn hi.1
    rw [hk, Nat.add_sub_cancel]
    exact ⟨rfl, pa_i rfl ⟨k, rfl, F, 101 + n, Y n, R.Q.G n, R.Q.T n, ⟨rfl, g, hkn⟩, by decide, by decide, rfl, trivial, ⟨_, rfl, rfl, n, j, k, hn, rfl, rfl, atP_tx hi hk, rfl⟩, Nat.le_refl _, Nat.le_refl _⟩⟩
  · exact fun _ _ _ _ _ h => by cases h
theorem u_rbl0 (l : Launch) (hlt : l.stackTraces = false) : UsX l yX14_blame0 (Cond.code yX14_blame0 cX14_blame0 4 (some .long)) (some .long) 8 130 15 T_rbl0 := by
  intro Rc Rs av S cs sl K Kx h
  unfold T_rbl0 at h
  split at h
  · rename_i t_o p x
    obtain ⟨t, rfl, h_1⟩ := pa_of h
    obtain ⟨F, z, Y, R, kz, hp, hc, hs, hk, hx0⟩ := h_1
    refine ⟨(sp_rbl0 t p x F z Y R kz), c_rbl0 l hlt t p x F z Y R kz, fun _ _ h9 => ⟨_, _, h9.1, (h9.2 0).1⟩, ⟨rfl, hp⟩, hc, hs, fun v9 S' h8 => by
      obtain ⟨v8, h7, h8⟩ := h8
      cases h7
      exact hk _ _ h8, fun _ _ q => by
      rcases q with ⟨rfl, q⟩
      · obtain ⟨q, rfl⟩ := q
        exact hx0 q⟩
  · exact h.elim
def T_rev0 : TR := fun Rc Rs av S cs sl K Kx => match av with
  | [.inr (.inr t_o), .inl p, .inl x] => pa t_o fun t => (∃ (F : Nat → Nat × Nat) (z : Nat → Nat) (Y : Nat → Nat → Nat) (R : Rb) (kz : Nat → Nat), (MD S F t z Y R kz) ∧ cs + 2 ≤ Rc ∧ sl + 12 ≤ Rs ∧ ((∀ (v : Int32) (S' : MM), (S' = S ∧ ∃ n, n < 4 ∧ p = nI n ∧ evA (R.Q.G n) x v) → K (some (.inl v)) S' (cs + 2) (sl + 12)) ∧ ((np 4 p ∨ (x ≠ -1 ∧ np 256 x)) → Kx 1 S (cs + 2) (sl + 12))))
  | _ => False
def sp_rev0 (t : Nat) (p : Int32) (x : Int32) (F : Nat → Nat × Nat) (z : Nat → Nat) (Y : Nat → Nat → Nat) (R : Rb) (kz : Nat → Nat) : Sp := (fun av S => av = [.inr (.inr (some t)), .inl p, .inl x] ∧ (MD S F t z Y R kz), fun _ S => 2, fun _ S => 12, fun _ S rv S' => ∃ v, rv = (some (.inl v)) ∧ (S' = S ∧ ∃ n, n < 4 ∧ p = nI n ∧ evA (R.Q.G n) x v), fun _ S E S' => (E = 1 ∧ (np 4 p ∨ (x ≠ -1 ∧ np 256 x)) ∧ S' = S))
def tX14_events0 : CD := [(0, .aload_n 0), (1, .iload_n 1), (2, .invokevirtual 203), (5, .astore_n 3), (6, .iload_n 2), (7, .iconst (-1)), (8, .sipush 255), (11, .invokestatic 144), (14, .invokestatic 148), (17, .iload_n 2), (18, .ifCond .ge 10), (21, .aload_n 3), (22, .getfield 173), (25, .goto 8), (28, .aload_n 3), (29, .iload_n 2), (30, .invokevirtual 218), (33, .ireturn)]
set_option maxRecDepth 100000 in
theorem kX14_events0 : chk cX14_events0 tX14_events0 = true := by decide +kernel
theorem vX14_events0_203 : ∀ w ∈ ([.methodLink RX14 203 yX14_graph, .instanceMethod yX14_graph, .selects yX14_graph.cls yX14_graph yX14_graph, .initialized yX14_graph.cls, .code yX14_graph cX14_graph 2 (some (.object "WeaveTextModel$Graph"))] : List Cond), w ∈ lw_good := List.forall_mem_cons.mpr ⟨mgd 1946 (by decide +kernel) (by decide +kernel), List.forall_mem_cons.mpr ⟨mgd 1948 (by decide +kernel) (by decide +kernel), List.forall_mem_cons.mpr ⟨mgd 52 (by decide +kernel) (by decide +kernel), List.forall_mem_cons.mpr ⟨mgd 136 (by decide +kernel) (by decide +kernel), List.forall_mem_cons.mpr ⟨mgd 1949 (by decide +kernel) (by decide +kernel), fun _ h => absurd h List.not_mem_nil⟩⟩⟩⟩⟩
theorem vX14_events0_144 : ∀ w ∈ ([.methodLink RX14 144 yX14_in, .static yX14_in, .initialized yX14_in.cls, .code yX14_in cX14_in 3 (some .boolean)] : List Cond), w ∈ lw_good := List.forall_mem_cons.mpr ⟨mgd 1930 (by decide +kernel) (by decide +kernel), List.forall_mem_cons.mpr ⟨mgd 1931 (by decide +kernel) (by decide +kernel), List.forall_mem_cons.mpr ⟨mgd 136 (by decide +kernel) (by decide +kernel), List.forall_mem_cons.mpr ⟨mgd 1932 (by decide +kernel) (by decide +kernel), fun _ h => absurd h List.not_mem_nil⟩⟩⟩⟩
theorem vX14_events0_148 : ∀ w ∈ ([.methodLink RX14 148 yX14_check, .static yX14_check, .initialized yX14_check.cls, .code yX14_check cX14_check 1 none] : List Cond), w ∈ lw_good := List.forall_mem_cons.mpr ⟨mgd 1933 (by decide +kernel) (by decide +kernel), List.forall_mem_cons.mpr ⟨mgd 1934 (by decide +kernel) (by decide +kernel), List.forall_mem_cons.mpr ⟨mgd 136 (by decide +kernel) (by decide +kernel), List.forall_mem_cons.mpr ⟨mgd 1935 (by decide +kernel) (by decide +kernel), fun _ h => absurd h List.not_mem_nil⟩⟩⟩⟩
theorem vX14_events0_218 : ∀ w ∈ ([.methodLink RX14 218 yX12_countOf, .instanceMethod yX12_countOf, .selects yX12_countOf.cls yX12_countOf yX12_countOf, .initialized yX12_countOf.cls, .code yX12_countOf cX12_countOf 3 (some .int)] : List Cond), w ∈ lw_good := List.forall_mem_cons.mpr ⟨mgd 1979 (by decide +kernel) (by decide +kernel), List.forall_mem_cons.mpr ⟨mgd 1980 (by decide +kernel) (by decide +kernel), List.forall_mem_cons.mpr ⟨mgd 1981 (by decide +kernel) (by decide +kernel), List.forall_mem_cons.mpr ⟨mgd 138 (by decide +kernel) (by decide +kernel), List.forall_mem_cons.mpr ⟨mgd 1982 (by decide +kernel) (by decide +kernel), fun _ h => absurd h List.not_mem_nil⟩⟩⟩⟩⟩
set_option maxRecDepth 100000 in
set_option maxHeartbeats 2000000 in
theorem c_rev0 (l : Launch) (hlt : l.stackTraces = false) : ∀ (t : Nat) (p : Int32) (x : Int32) (F : Nat → Nat × Nat) (z : Nat → Nat) (Y : Nat → Nat → Nat) (R : Rb) (kz : Nat → Nat), CtX l yX14_events0 (Cond.code yX14_events0 cX14_events0 4 (some .int)) (some .int) 8 130 (sp_rev0 t p x F z Y R kz) := by
  intro t p x F z Y R kz
  refine CtX.of hlt (fX14, nX14, aX14, iX14, lX14, [(203, 0, 2, 3, T_rgr), (144, 2, 3, 1, T_rin), (148, 2, 1, 0, T_rck), (218, 0, 2, 1, T_rco)], qX14, gX14, []) false tX14_events0 (fun _ _ _ => none) (by decide) (by decide) kX14_events0 ⟨_, _, rfl⟩ fX14_ok nX14_ok aX14_ok iX14_ok lX14_ok (fun p e R s m args below meth c Q D cy z r A C hR1 hR2 => List.forall_mem_cons.mpr ⟨cOK_use (fun _ _ _ _ _ _ _ _ h => let ⟨sp, h1, h2, h3⟩ := u_rgr l hlt _ _ _ _ _ _ _ _ h; ⟨sp, cOKx_V C h1 vX14_events0_203 ⟨by decide, by decide, by decide +kernel⟩ ⟨by rw [hR1]; decide, by rw [hR2]; decide⟩ (k := 15) (T := TX14) (N := 52) rfl (by decide) h2, h3⟩), List.forall_mem_cons.mpr ⟨cOK_use (fun _ _ _ _ _ _ _ _ h => let ⟨sp, h1, _, h3⟩ := u_rin l _ _ _ _ _ _ _ _ h; ⟨sp, cOK_S C h1 vX14_events0_144 ⟨by decide, by decide, by decide +kernel⟩ ⟨by rw [hR1]; decide, by rw [hR2]; decide⟩, h3⟩), List.forall_mem_cons.mpr ⟨cOK_use (fun _ _ _ _ _ _ _ _ h => let ⟨sp, h1, _, h3⟩ := u_rck l hlt _ _ _ _ _ _ _ _ h; ⟨sp, cOKx_S C h1 vX14_events0_148 ⟨by decide, by decide, by decide +kernel⟩ ⟨by rw [hR1]; decide, by rw [hR2]; decide⟩, h3⟩), List.forall_mem_cons.mpr ⟨cOK_use (fun _ _ _ _ _ _ _ _ h => let ⟨sp, h1, h2, h3⟩ := u_rco l _ _ _ _ _ _ _ _ h; ⟨sp, cOK_V C h1 vX14_events0_218 ⟨by decide, by decide, by decide +kernel⟩ ⟨by rw [hR1]; decide, by rw [hR2]; decide⟩ (k := 13) (T := TX12) (N := 27) rfl (by decide) h2, h3⟩), fun _ h => absurd h List.not_mem_nil⟩⟩⟩⟩) qX14_ok gX14_ok (fun _ h => absurd h List.not_mem_nil) ?_ ?_
  · rintro _ S ⟨rfl, hp⟩
    refine ⟨Nat.le_of_ble_eq_true rfl, 300, ?_⟩
    show (0 = 0 ∧ (∃ (F_1 : Nat → Nat × Nat) (z_2 : Nat → Nat) (Y_3 : Nat → Nat → Nat) (R_4 : Rb) (kz_5 : Nat → Nat), (MD S F_1 t z_2 Y_3 R_4 kz_5) ∧ 0 + 1 ≤ 2 ∧ 0 + 6 ≤ 12 ∧ ((∀ (x_7 : Option Nat) (S_6 : MM), (S_6 = S ∧ ∃ n, n < 4 ∧ p = nI n ∧ x_7 = some (Y_3 n 0)) → (2 = 2 ∧ (True ∧ 0 + 1 ≤ 2 ∧ 0 + 6 ≤ 12 ∧ ((2 = 2 ∧ (((tf ((-1 : Int32) ≤ x ∧ x ≤ (255 : Int32))) = 0 ∨ (tf ((-1 : Int32) ≤ x ∧ x ≤ (255 : Int32))) = 1) ∧ 0 + 1 + 1 ≤ 2 ∧ 0 + 6 + 6 ≤ 12 ∧ ((∀ (S_9 : MM), (S_9 = S_6 ∧ (tf ((-1 : Int32) ≤ x ∧ x ≤ (255 : Int32))) = 1) → ((0 ≤ x → (0 = 0 ∧ ((pa x_7 fun a_10 => (∃ (a_11 : Nat), x = nI a_11 ∧ (∃ (F_12 : Nat → Nat × Nat) (i_13 : Nat) (y_14 : Nat → Nat) (G_15 : Gr) (T_16 : Tr), (a_10 = y_14 0 ∧ RG S_9 F_12 i_13 y_14 G_15 T_16 ∧ a_11 < 256) ∧ 0 + 1 + 1 ≤ 2 ∧ 0 + 6 + 6 ≤ 12 ∧ ((([] : List MV) = [] ∧ mret (some .int) (sp_rev0 t p x F z Y R kz) [.inr (.inr (some t)), .inl p, .inl x] S (some (.inl (nI (agE G_15 a_11).length))) S_9 (0 + 1 + 1) (0 + 6 + 6))))))))) ∧ (¬ 0 ≤ x → (pa x_7 fun a_18 => isO S_9 13 a_18 ∧ (([] : List MV) = [] ∧ mret (some .int) (sp_rev0 t p x F z Y R kz) [.inr (.inr (some t)), .inl p, .inl x] S (some (.inl (mI S_9 1300 a_18))) S_9 (0 + 1 + 1) (0 + 6 + 6)))))) ∧ (((tf ((-1 : Int32) ≤ x ∧ x ≤ (255 : Int32))) = 0) → mthr (sp_rev0 t p x F z Y R kz) [.inr (.inr (some t)), .inl p, .inl x] S 1 S_6 (0 + 1 + 1) (0 + 6 + 6))))))))) ∧ ((np 4 p) → mthr (sp_rev0 t p x F z Y R kz) [.inr (.inr (some t)), .inl p, .inl x] S 1 S (0 + 1) (0 + 6)))))
    refine ⟨rfl, F, z, Y, R, kz, hp, by decide, by decide, fun v S3 h => ?_, fun h => ⟨⟨rfl, Or.inl h, rfl⟩, Nat.le_of_ble_eq_true rfl, Nat.le_of_ble_eq_true rfl⟩⟩
    obtain ⟨rfl, n, hn, rfl, rfl⟩ := h
    have g := (hp 2 n hn).2.1
    refine ⟨rfl, trivial, by decide, by decide, rfl, tf_b _, by decide, by decide, fun S4 h => ?_, fun h => ⟨⟨rfl, Or.inr ⟨fun e => ?_, fun k hk e => ?_⟩, rfl⟩, Nat.le_of_ble_eq_true rfl, Nat.le_of_ble_eq_true rfl⟩⟩
    · obtain ⟨rfl, h⟩ := h
      have h1 : -1 ≤ x ∧ x ≤ 255 := Classical.byContradiction (fun z => by rw [tf_f z] at h; exact absurd h (by decide))
      refine ⟨fun w => ?_, fun w => ?_⟩
      · obtain ⟨a, ha, rfl⟩ := nI_of (Int32.not_lt.2 w)
        have ha2 : a ≤ 255 := (nI_leI ha (by decide)).1 h1.2
        exact ⟨rfl, pa_i rfl ⟨a, rfl, F, 101 + n, Y n, R.Q.G n, R.Q.T n, ⟨rfl, g, by omega⟩, by decide, by decide, rfl, trivial, ⟨_, rfl, rfl, n, hn, rfl, Or.inr ⟨a, by omega, rfl, rfl⟩⟩, Nat.le_refl _, Nat.le_refl _⟩⟩
      · have e : x = -1 := m1_of (Int32.not_lt.2 h1.1) (Int32.not_le.1 w)
        exact pa_i rfl ⟨(g 0).1, rfl, trivial, ⟨_, rfl, rfl, n, hn, rfl, Or.inl ⟨e, (g 2).1⟩⟩, Nat.le_refl _, Nat.le_refl _⟩
    · subst e
      rw [tf_t (by decide)] at h
      exact absurd h (by decide)
    · subst e
      rw [tf_t ⟨Int32.le_trans (by decide : (-1 : Int32) ≤ 0) (nI_pos' (by omega)), (nI_leI (b := 255) (by omega) (by decide)).2 (by omega)⟩] at h
      exact absurd h (by decide)
  · exact fun _ _ _ _ _ h => by cases h
theorem u_rev0 (l : Launch) (hlt : l.stackTraces = false) : UsX l yX14_events0 (Cond.code yX14_events0 cX14_events0 4 (some .int)) (some .int) 8 130 15 T_rev0 := by
  intro Rc Rs av S cs sl K Kx h
  unfold T_rev0 at h
  split at h
  · rename_i t_o p x
    obtain ⟨t, rfl, h_1⟩ := pa_of h
    obtain ⟨F, z, Y, R, kz, hp, hc, hs, hk, hx0⟩ := h_1
    refine ⟨(sp_rev0 t p x F z Y R kz), c_rev0 l hlt t p x F z Y R kz, fun _ _ h9 => ⟨_, _, h9.1, (h9.2 0).1⟩, ⟨rfl, hp⟩, hc, hs, fun v9 S' h8 => by
      obtain ⟨v8, h7, h8⟩ := h8
      cases h7
      exact hk _ _ h8, fun _ _ q => by
      rcases q with ⟨rfl, q⟩
      · obtain ⟨q, rfl⟩ := q
        exact hx0 q⟩
  · exact h.elim
def T_rvw0 : TR := fun Rc Rs av S cs sl K Kx => match av with
  | [.inr (.inr t_o), .inl x] => pa t_o fun t => (∃ (F : Nat → Nat × Nat) (z : Nat → Nat) (Y : Nat → Nat → Nat) (R : Rb) (kz : Nat → Nat), (MD S F t z Y R kz) ∧ cs + 1 ≤ Rc ∧ sl + 6 ≤ Rs ∧ ((∀ (v : Int32) (S' : MM), (S' = S ∧ ∃ j, j < R.Q.vw.length ∧ x = nI j ∧ v = R.Q.vw.getD j 0) → K (some (.inl v)) S' (cs + 1) (sl + 6)) ∧ ((np R.Q.vw.length x) → Kx 1 S (cs + 1) (sl + 6))))
  | _ => False
def sp_rvw0 (t : Nat) (x : Int32) (F : Nat → Nat × Nat) (z : Nat → Nat) (Y : Nat → Nat → Nat) (R : Rb) (kz : Nat → Nat) : Sp := (fun av S => av = [.inr (.inr (some t)), .inl x] ∧ (MD S F t z Y R kz), fun _ S => 1, fun _ S => 6, fun _ S rv S' => ∃ v, rv = (some (.inl v)) ∧ (S' = S ∧ ∃ j, j < R.Q.vw.length ∧ x = nI j ∧ v = R.Q.vw.getD j 0), fun _ S E S' => (E = 1 ∧ (np R.Q.vw.length x) ∧ S' = S))
def tX14_viewed0 : CD := [(0, .iload_n 1), (1, .iconst 0), (2, .aload_n 0), (3, .getfield 294), (6, .iconst 1), (7, .isub), (8, .invokestatic 144), (11, .invokestatic 148), (14, .aload_n 0), (15, .getfield 36), (18, .iload_n 1), (19, .iaload), (20, .ireturn)]
set_option maxRecDepth 100000 in
theorem kX14_viewed0 : chk cX14_viewed0 tX14_viewed0 = true := by decide +kernel
theorem vX14_viewed0_144 : ∀ w ∈ ([.methodLink RX14 144 yX14_in, .static yX14_in, .initialized yX14_in.cls, .code yX14_in cX14_in 3 (some .boolean)] : List Cond), w ∈ lw_good := List.forall_mem_cons.mpr ⟨mgd 1930 (by decide +kernel) (by decide +kernel), List.forall_mem_cons.mpr ⟨mgd 1931 (by decide +kernel) (by decide +kernel), List.forall_mem_cons.mpr ⟨mgd 136 (by decide +kernel) (by decide +kernel), List.forall_mem_cons.mpr ⟨mgd 1932 (by decide +kernel) (by decide +kernel), fun _ h => absurd h List.not_mem_nil⟩⟩⟩⟩
theorem vX14_viewed0_148 : ∀ w ∈ ([.methodLink RX14 148 yX14_check, .static yX14_check, .initialized yX14_check.cls, .code yX14_check cX14_check 1 none] : List Cond), w ∈ lw_good := List.forall_mem_cons.mpr ⟨mgd 1933 (by decide +kernel) (by decide +kernel), List.forall_mem_cons.mpr ⟨mgd 1934 (by decide +kernel) (by decide +kernel), List.forall_mem_cons.mpr ⟨mgd 136 (by decide +kernel) (by decide +kernel), List.forall_mem_cons.mpr ⟨mgd 1935 (by decide +kernel) (by decide +kernel), fun _ h => absurd h List.not_mem_nil⟩⟩⟩⟩
set_option maxRecDepth 100000 in
set_option maxHeartbeats 2000000 in
theorem c_rvw0 (l : Launch) (hlt : l.stackTraces = false) : ∀ (t : Nat) (x : Int32) (F : Nat → Nat × Nat) (z : Nat → Nat) (Y : Nat → Nat → Nat) (R : Rb) (kz : Nat → Nat), CtX l yX14_viewed0 (Cond.code yX14_viewed0 cX14_viewed0 2 (some .int)) (some .int) 7 109 (sp_rvw0 t x F z Y R kz) := by
  intro t x F z Y R kz
  refine CtX.of hlt (fX14, nX14, aX14, iX14, lX14, [(144, 2, 3, 1, T_rin), (148, 2, 1, 0, T_rck)], qX14, gX14, []) false tX14_viewed0 (fun _ _ _ => none) (by decide) (by decide) kX14_viewed0 ⟨_, _, rfl⟩ fX14_ok nX14_ok aX14_ok iX14_ok lX14_ok (fun p e R s m args below meth c Q D cy z r A C hR1 hR2 => List.forall_mem_cons.mpr ⟨cOK_use (fun _ _ _ _ _ _ _ _ h => let ⟨sp, h1, _, h3⟩ := u_rin l _ _ _ _ _ _ _ _ h; ⟨sp, cOK_S C h1 vX14_viewed0_144 ⟨by decide, by decide, by decide +kernel⟩ ⟨by rw [hR1]; decide, by rw [hR2]; decide⟩, h3⟩), List.forall_mem_cons.mpr ⟨cOK_use (fun _ _ _ _ _ _ _ _ h => let ⟨sp, h1, _, h3⟩ := u_rck l hlt _ _ _ _ _ _ _ _ h; ⟨sp, cOKx_S C h1 vX14_viewed0_148 ⟨by decide, by decide, by decide +kernel⟩ ⟨by rw [hR1]; decide, by rw [hR2]; decide⟩, h3⟩), fun _ h => absurd h List.not_mem_nil⟩⟩) qX14_ok gX14_ok (fun _ h => absurd h List.not_mem_nil) ?_ ?_
  · rintro _ S ⟨rfl, hp⟩
    refine ⟨Nat.le_of_ble_eq_true rfl, 300, ?_⟩
    show (isO S 15 t ∧ (2 = 2 ∧ (True ∧ 0 ≤ 1 ∧ 0 ≤ 6 ∧ ((2 = 2 ∧ (((tf ((0 : Int32) ≤ x ∧ x ≤ ((mI S 1508 t) - (1 : Int32)))) = 0 ∨ (tf ((0 : Int32) ≤ x ∧ x ≤ ((mI S 1508 t) - (1 : Int32)))) = 1) ∧ 0 + 1 ≤ 1 ∧ 0 + 6 ≤ 6 ∧ ((∀ (S_2 : MM), (S_2 = S ∧ (tf ((0 : Int32) ≤ x ∧ x ≤ ((mI S 1508 t) - (1 : Int32)))) = 1) → (isO S_2 15 t ∧ (pa (mR S_2 1507 t) fun a_3 => ∃ v_4 : Int32, (isO S_2 17 a_3 ∧ inR S_2 a_3 x ∧ v_4 = eI S_2 a_3 x.toNatClampNeg ∨ a_3 = (mQ S_2).1 ∧ vp_in x 16 ∧ v_4 = mRem x.toNatClampNeg) ∧ (([] : List MV) = [] ∧ mret (some .int) (sp_rvw0 t x F z Y R kz) [.inr (.inr (some t)), .inl x] S (some (.inl v_4)) S_2 (0 + 1) (0 + 6))))) ∧ (((tf ((0 : Int32) ≤ x ∧ x ≤ ((mI S 1508 t) - (1 : Int32)))) = 0) → mthr (sp_rvw0 t x F z Y R kz) [.inr (.inr (some t)), .inl x] S 1 S (0 + 1) (0 + 6)))))))))
    obtain ⟨v1, v2, v3⟩ := hp 6
    rw [v1]
    refine ⟨(hp 0).1, rfl, trivial, by decide, by decide, rfl, tf_b _, by decide, by decide, fun S2 h => ?_, fun h => ⟨⟨rfl, in_0m (by omega) h, rfl⟩, Nat.le_refl _, Nat.le_refl _⟩⟩
    obtain ⟨rfl, h⟩ := h
    obtain ⟨j, hj, rfl⟩ := in_1m (by omega) h
    have r := hp 1 7 (by decide)
    exact ⟨(hp 0).1, rdI (v := R.Q.vw.getD j 0) r.1 r.2.2.1 (inRn (N := 8192) r.2.2.2 (by omega) (by decide)) (by rw [nI_clamp (by omega)]; exact v3 j hj) ⟨rfl, trivial, ⟨_, rfl, rfl, j, hj, rfl, rfl⟩, Nat.le_refl _, Nat.le_refl _⟩⟩
  · exact fun _ _ _ _ _ h => by cases h
theorem u_rvw0 (l : Launch) (hlt : l.stackTraces = false) : UsX l yX14_viewed0 (Cond.code yX14_viewed0 cX14_viewed0 2 (some .int)) (some .int) 7 109 15 T_rvw0 := by
  intro Rc Rs av S cs sl K Kx h
  unfold T_rvw0 at h
  split at h
  · rename_i t_o x
    obtain ⟨t, rfl, h_1⟩ := pa_of h
    obtain ⟨F, z, Y, R, kz, hp, hc, hs, hk, hx0⟩ := h_1
    refine ⟨(sp_rvw0 t x F z Y R kz), c_rvw0 l hlt t x F z Y R kz, fun _ _ h9 => ⟨_, _, h9.1, (h9.2 0).1⟩, ⟨rfl, hp⟩, hc, hs, fun v9 S' h8 => by
      obtain ⟨v8, h7, h8⟩ := h8
      cases h7
      exact hk _ _ h8, fun _ _ q => by
      rcases q with ⟨rfl, q⟩
      · obtain ⟨q, rfl⟩ := q
        exact hx0 q⟩
  · exact h.elim
def T_rhu0 : TR := fun Rc Rs av S cs sl K Kx => match av with
  | [.inr (.inr t_o), .inl x, .inl wv] => pa t_o fun t => (∃ (F : Nat → Nat × Nat) (z : Nat → Nat) (Y : Nat → Nat → Nat) (R : Rb) (kz : Nat → Nat), (MD S F t z Y R kz) ∧ cs + 2 ≤ Rc ∧ sl + 12 ≤ Rs ∧ ((∀ (v : Int32) (S' : MM), (S' = S ∧ ∃ j w, j < R.Q.hu.length ∧ x = nI j ∧ w < 4 ∧ wv = nI w ∧ v = nI (huV (R.Q.hu.getD j (0, 0, 0, 0)) w)) → K (some (.inl v)) S' (cs + 2) (sl + 12)) ∧ ((np 4 wv) → Kx 1 S (cs + 2) (sl + 12)) ∧ ((¬ np 4 wv ∧ np R.Q.hu.length x) → Kx 2 S (cs + 2) (sl + 12))))
  | _ => False
def sp_rhu0 (t : Nat) (x : Int32) (wv : Int32) (F : Nat → Nat × Nat) (z : Nat → Nat) (Y : Nat → Nat → Nat) (R : Rb) (kz : Nat → Nat) : Sp := (fun av S => av = [.inr (.inr (some t)), .inl x, .inl wv] ∧ (MD S F t z Y R kz), fun _ S => 2, fun _ S => 12, fun _ S rv S' => ∃ v, rv = (some (.inl v)) ∧ (S' = S ∧ ∃ j w, j < R.Q.hu.length ∧ x = nI j ∧ w < 4 ∧ wv = nI w ∧ v = nI (huV (R.Q.hu.getD j (0, 0, 0, 0)) w)), fun _ S E S' => (E = 1 ∧ (np 4 wv) ∧ S' = S) ∨ (E = 2 ∧ (¬ np 4 wv ∧ np R.Q.hu.length x) ∧ S' = S))
def tX14_hunk0 : CD := [(0, .iload_n 2), (1, .iconst 0), (2, .iconst 3), (3, .invokestatic 144), (6, .invokestatic 148), (9, .iload_n 1), (10, .iconst 0), (11, .aload_n 0), (12, .getfield 301), (15, .iconst 1), (16, .isub), (17, .invokestatic 144), (20, .invokestatic 236), (23, .aload_n 0), (24, .getfield 39), (27, .iconst 4), (28, .iload_n 1), (29, .imul), (30, .iload_n 2), (31, .iadd), (32, .iaload), (33, .ireturn)]
set_option maxRecDepth 100000 in
theorem kX14_hunk0 : chk cX14_hunk0 tX14_hunk0 = true := by decide +kernel
theorem vX14_hunk0_144 : ∀ w ∈ ([.methodLink RX14 144 yX14_in, .static yX14_in, .initialized yX14_in.cls, .code yX14_in cX14_in 3 (some .boolean)] : List Cond), w ∈ lw_good := List.forall_mem_cons.mpr ⟨mgd 1930 (by decide +kernel) (by decide +kernel), List.forall_mem_cons.mpr ⟨mgd 1931 (by decide +kernel) (by decide +kernel), List.forall_mem_cons.mpr ⟨mgd 136 (by decide +kernel) (by decide +kernel), List.forall_mem_cons.mpr ⟨mgd 1932 (by decide +kernel) (by decide +kernel), fun _ h => absurd h List.not_mem_nil⟩⟩⟩⟩
theorem vX14_hunk0_148 : ∀ w ∈ ([.methodLink RX14 148 yX14_check, .static yX14_check, .initialized yX14_check.cls, .code yX14_check cX14_check 1 none] : List Cond), w ∈ lw_good := List.forall_mem_cons.mpr ⟨mgd 1933 (by decide +kernel) (by decide +kernel), List.forall_mem_cons.mpr ⟨mgd 1934 (by decide +kernel) (by decide +kernel), List.forall_mem_cons.mpr ⟨mgd 136 (by decide +kernel) (by decide +kernel), List.forall_mem_cons.mpr ⟨mgd 1935 (by decide +kernel) (by decide +kernel), fun _ h => absurd h List.not_mem_nil⟩⟩⟩⟩
theorem vX14_hunk0_236 : ∀ w ∈ ([.methodLink RX14 236 yX14_there, .static yX14_there, .initialized yX14_there.cls, .code yX14_there cX14_there 1 none] : List Cond), w ∈ lw_good := List.forall_mem_cons.mpr ⟨mgd 2066 (by decide +kernel) (by decide +kernel), List.forall_mem_cons.mpr ⟨mgd 2067 (by decide +kernel) (by decide +kernel), List.forall_mem_cons.mpr ⟨mgd 136 (by decide +kernel) (by decide +kernel), List.forall_mem_cons.mpr ⟨mgd 2068 (by decide +kernel) (by decide +kernel), fun _ h => absurd h List.not_mem_nil⟩⟩⟩⟩
set_option maxRecDepth 100000 in
set_option maxHeartbeats 2000000 in
theorem c_rhu0 (l : Launch) (hlt : l.stackTraces = false) : ∀ (t : Nat) (x : Int32) (wv : Int32) (F : Nat → Nat × Nat) (z : Nat → Nat) (Y : Nat → Nat → Nat) (R : Rb) (kz : Nat → Nat), CtX l yX14_hunk0 (Cond.code yX14_hunk0 cX14_hunk0 3 (some .int)) (some .int) 7 109 (sp_rhu0 t x wv F z Y R kz) := by
  intro t x wv F z Y R kz
  refine CtX.of hlt (fX14, nX14, aX14, iX14, lX14, [(144, 2, 3, 1, T_rin), (148, 2, 1, 0, T_rck), (236, 2, 1, 0, T_rth)], qX14, gX14, []) false tX14_hunk0 (fun _ _ _ => none) (by decide) (by decide) kX14_hunk0 ⟨_, _, rfl⟩ fX14_ok nX14_ok aX14_ok iX14_ok lX14_ok (fun p e R s m args below meth c Q D cy z r A C hR1 hR2 => List.forall_mem_cons.mpr ⟨cOK_use (fun _ _ _ _ _ _ _ _ h => let ⟨sp, h1, _, h3⟩ := u_rin l _ _ _ _ _ _ _ _ h; ⟨sp, cOK_S C h1 vX14_hunk0_144 ⟨by decide, by decide, by decide +kernel⟩ ⟨by rw [hR1]; decide, by rw [hR2]; decide⟩, h3⟩), List.forall_mem_cons.mpr ⟨cOK_use (fun _ _ _ _ _ _ _ _ h => let ⟨sp, h1, _, h3⟩ := u_rck l hlt _ _ _ _ _ _ _ _ h; ⟨sp, cOKx_S C h1 vX14_hunk0_148 ⟨by decide, by decide, by decide +kernel⟩ ⟨by rw [hR1]; decide, by rw [hR2]; decide⟩, h3⟩), List.forall_mem_cons.mpr ⟨cOK_use (fun _ _ _ _ _ _ _ _ h => let ⟨sp, h1, _, h3⟩ := u_rth l hlt _ _ _ _ _ _ _ _ h; ⟨sp, cOKx_S C h1 vX14_hunk0_236 ⟨by decide, by decide, by decide +kernel⟩ ⟨by rw [hR1]; decide, by rw [hR2]; decide⟩, h3⟩), fun _ h => absurd h List.not_mem_nil⟩⟩⟩) qX14_ok gX14_ok (fun _ h => absurd h List.not_mem_nil) ?_ ?_
  · rintro _ S ⟨rfl, hp⟩
    refine ⟨Nat.le_of_ble_eq_true rfl, 300, ?_⟩
    show (2 = 2 ∧ (True ∧ 0 ≤ 2 ∧ 0 ≤ 12 ∧ ((2 = 2 ∧ (((tf ((0 : Int32) ≤ wv ∧ wv ≤ (3 : Int32))) = 0 ∨ (tf ((0 : Int32) ≤ wv ∧ wv ≤ (3 : Int32))) = 1) ∧ 0 + 1 ≤ 2 ∧ 0 + 6 ≤ 12 ∧ ((∀ (S_2 : MM), (S_2 = S ∧ (tf ((0 : Int32) ≤ wv ∧ wv ≤ (3 : Int32))) = 1) → (isO S_2 15 t ∧ (2 = 2 ∧ (True ∧ 0 + 1 ≤ 2 ∧ 0 + 6 ≤ 12 ∧ ((2 = 2 ∧ (((tf ((0 : Int32) ≤ x ∧ x ≤ ((mI S_2 1510 t) - (1 : Int32)))) = 0 ∨ (tf ((0 : Int32) ≤ x ∧ x ≤ ((mI S_2 1510 t) - (1 : Int32)))) = 1) ∧ 0 + 1 + 1 ≤ 2 ∧ 0 + 6 + 6 ≤ 12 ∧ ((∀ (S_4 : MM), (S_4 = S_2 ∧ (tf ((0 : Int32) ≤ x ∧ x ≤ ((mI S_2 1510 t) - (1 : Int32)))) = 1) → (isO S_4 15 t ∧ (pa (mR S_4 1509 t) fun a_5 => ∃ v_6 : Int32, (isO S_4 17 a_5 ∧ inR S_4 a_5 (((4 : Int32) * x) + wv) ∧ v_6 = eI S_4 a_5 (((4 : Int32) * x) + wv).toNatClampNeg ∨ a_5 = (mQ S_4).1 ∧ vp_in (((4 : Int32) * x) + wv) 16 ∧ v_6 = mRem (((4 : Int32) * x) + wv).toNatClampNeg) ∧ (([] : List MV) = [] ∧ mret (some .int) (sp_rhu0 t x wv F z Y R kz) [.inr (.inr (some t)), .inl x, .inl wv] S (some (.inl v_6)) S_4 (0 + 1 + 1) (0 + 6 + 6))))) ∧ (((tf ((0 : Int32) ≤ x ∧ x ≤ ((mI S_2 1510 t) - (1 : Int32)))) = 0) → mthr (sp_rhu0 t x wv F z Y R kz) [.inr (.inr (some t)), .inl x, .inl wv] S 2 S_2 (0 + 1 + 1) (0 + 6 + 6)))))))))) ∧ (((tf ((0 : Int32) ≤ wv ∧ wv ≤ (3 : Int32))) = 0) → mthr (sp_rhu0 t x wv F z Y R kz) [.inr (.inr (some t)), .inl x, .inl wv] S 1 S (0 + 1) (0 + 6))))))))
    obtain ⟨v1, v2, v3, v4, v5⟩ := hp 7
    refine ⟨rfl, trivial, by decide, by decide, rfl, tf_b _, by decide, by decide, fun S2 h => ?_, fun h => ⟨Or.inl ⟨rfl, in_0k (k := 3) (by decide) h, rfl⟩, Nat.le_of_ble_eq_true rfl, Nat.le_of_ble_eq_true rfl⟩⟩
    obtain ⟨rfl, h⟩ := h
    obtain ⟨w, hw, rfl⟩ := in_1k (k := 3) (by decide) h
    rw [v1]
    refine ⟨(hp 0).1, rfl, trivial, by decide, by decide, rfl, tf_b _, by decide, by decide, fun S4 h => ?_, fun h => ⟨Or.inr ⟨rfl, ⟨fun q => q w hw rfl, in_0m (by omega) h⟩, rfl⟩, Nat.le_of_ble_eq_true rfl, Nat.le_of_ble_eq_true rfl⟩⟩
    obtain ⟨rfl, h⟩ := h
    obtain ⟨j, hj, rfl⟩ := in_1m (by omega) h
    have r := hp 1 9 (by decide)
    rw [nI_mul4 (by omega), nI_add]
    refine ⟨(hp 0).1, rdI (v := nI (huV (R.Q.hu.getD j (0, 0, 0, 0)) w)) r.1 r.2.2.1 (inRn (N := kz 9) r.2.2.2 (by omega) (by omega)) ?_ ⟨rfl, trivial, ⟨_, rfl, rfl, j, w, hj, rfl, hw, rfl, rfl⟩, Nat.le_refl _, Nat.le_refl _⟩⟩
    rw [nI_clamp (by omega)]
    obtain ⟨q0, q1, q2, q3⟩ := v5 j hj
    match w, hw with
    | 0, _ => exact q0
    | 1, _ => exact q1
    | 2, _ => exact q2
    | 3, _ => exact q3
  · exact fun _ _ _ _ _ h => by cases h
theorem u_rhu0 (l : Launch) (hlt : l.stackTraces = false) : UsX l yX14_hunk0 (Cond.code yX14_hunk0 cX14_hunk0 3 (some .int)) (some .int) 7 109 15 T_rhu0 := by
  intro Rc Rs av S cs sl K Kx h
  unfold T_rhu0 at h
  split at h
  · rename_i t_o x wv
    obtain ⟨t, rfl, h_1⟩ := pa_of h
    obtain ⟨F, z, Y, R, kz, hp, hc, hs, hk, hx0, hx1⟩ := h_1
    refine ⟨(sp_rhu0 t x wv F z Y R kz), c_rhu0 l hlt t x wv F z Y R kz, fun _ _ h9 => ⟨_, _, h9.1, (h9.2 0).1⟩, ⟨rfl, hp⟩, hc, hs, fun v9 S' h8 => by
      obtain ⟨v8, h7, h8⟩ := h8
      cases h7
      exact hk _ _ h8, fun _ _ q => by
      rcases q with ⟨rfl, q⟩ | ⟨rfl, q⟩
      · obtain ⟨q, rfl⟩ := q
        exact hx0 q
      · obtain ⟨q, rfl⟩ := q
        exact hx1 q⟩
  · exact h.elim
def T_ren0 : TR := fun Rc Rs av S cs sl K Kx => match av with
  | [.inr (.inr t_o), .inl x] => pa t_o fun t => (∃ (F : Nat → Nat × Nat) (z : Nat → Nat) (Y : Nat → Nat → Nat) (R : Rb) (kz : Nat → Nat), (MD S F t z Y R kz) ∧ cs + 1 ≤ Rc ∧ sl + 6 ≤ Rs ∧ ((∀ (v : Int32) (S' : MM), (∃ j, j ≤ R.Q.tp.length ∧ x = nI j ∧ v = nI (R.Q.tp.length - j) ∧ S' = sI S 1502 t (nI j)) → K (some (.inl v)) S' (cs + 1) (sl + 6)) ∧ ((np (R.Q.tp.length + 1) x) → Kx 1 S (cs + 1) (sl + 6))))
  | _ => False
def sp_ren0 (t : Nat) (x : Int32) (F : Nat → Nat × Nat) (z : Nat → Nat) (Y : Nat → Nat → Nat) (R : Rb) (kz : Nat → Nat) : Sp := (fun av S => av = [.inr (.inr (some t)), .inl x] ∧ (MD S F t z Y R kz), fun _ S => 1, fun _ S => 6, fun _ S rv S' => ∃ v, rv = (some (.inl v)) ∧ (∃ j, j ≤ R.Q.tp.length ∧ x = nI j ∧ v = nI (R.Q.tp.length - j) ∧ S' = sI S 1502 t (nI j)), fun _ S E S' => (E = 1 ∧ (np (R.Q.tp.length + 1) x) ∧ S' = S))
def tX14_end0 : CD := [(0, .iload_n 1), (1, .iconst 0), (2, .aload_n 0), (3, .getfield 152), (6, .invokestatic 144), (9, .invokestatic 148), (12, .aload_n 0), (13, .getfield 152), (16, .iload_n 1), (17, .isub), (18, .istore_n 2), (19, .aload_n 0), (20, .iload_n 1), (21, .putfield 152), (24, .iload_n 2), (25, .ireturn)]
set_option maxRecDepth 100000 in
theorem kX14_end0 : chk cX14_end0 tX14_end0 = true := by decide +kernel
theorem vX14_end0_144 : ∀ w ∈ ([.methodLink RX14 144 yX14_in, .static yX14_in, .initialized yX14_in.cls, .code yX14_in cX14_in 3 (some .boolean)] : List Cond), w ∈ lw_good := List.forall_mem_cons.mpr ⟨mgd 1930 (by decide +kernel) (by decide +kernel), List.forall_mem_cons.mpr ⟨mgd 1931 (by decide +kernel) (by decide +kernel), List.forall_mem_cons.mpr ⟨mgd 136 (by decide +kernel) (by decide +kernel), List.forall_mem_cons.mpr ⟨mgd 1932 (by decide +kernel) (by decide +kernel), fun _ h => absurd h List.not_mem_nil⟩⟩⟩⟩
theorem vX14_end0_148 : ∀ w ∈ ([.methodLink RX14 148 yX14_check, .static yX14_check, .initialized yX14_check.cls, .code yX14_check cX14_check 1 none] : List Cond), w ∈ lw_good := List.forall_mem_cons.mpr ⟨mgd 1933 (by decide +kernel) (by decide +kernel), List.forall_mem_cons.mpr ⟨mgd 1934 (by decide +kernel) (by decide +kernel), List.forall_mem_cons.mpr ⟨mgd 136 (by decide +kernel) (by decide +kernel), List.forall_mem_cons.mpr ⟨mgd 1935 (by decide +kernel) (by decide +kernel), fun _ h => absurd h List.not_mem_nil⟩⟩⟩⟩
set_option maxRecDepth 100000 in
set_option maxHeartbeats 2000000 in
theorem c_ren0 (l : Launch) (hlt : l.stackTraces = false) : ∀ (t : Nat) (x : Int32) (F : Nat → Nat × Nat) (z : Nat → Nat) (Y : Nat → Nat → Nat) (R : Rb) (kz : Nat → Nat), CtX l yX14_end0 (Cond.code yX14_end0 cX14_end0 3 (some .int)) (some .int) 7 109 (sp_ren0 t x F z Y R kz) := by
  intro t x F z Y R kz
  refine CtX.of hlt (fX14, nX14, aX14, iX14, lX14, [(144, 2, 3, 1, T_rin), (148, 2, 1, 0, T_rck)], qX14, gX14, []) false tX14_end0 (fun _ _ _ => none) (by decide) (by decide) kX14_end0 ⟨_, _, rfl⟩ fX14_ok nX14_ok aX14_ok iX14_ok lX14_ok (fun p e R s m args below meth c Q D cy z r A C hR1 hR2 => List.forall_mem_cons.mpr ⟨cOK_use (fun _ _ _ _ _ _ _ _ h => let ⟨sp, h1, _, h3⟩ := u_rin l _ _ _ _ _ _ _ _ h; ⟨sp, cOK_S C h1 vX14_end0_144 ⟨by decide, by decide, by decide +kernel⟩ ⟨by rw [hR1]; decide, by rw [hR2]; decide⟩, h3⟩), List.forall_mem_cons.mpr ⟨cOK_use (fun _ _ _ _ _ _ _ _ h => let ⟨sp, h1, _, h3⟩ := u_rck l hlt _ _ _ _ _ _ _ _ h; ⟨sp, cOKx_S C h1 vX14_end0_148 ⟨by decide, by decide, by decide +kernel⟩ ⟨by rw [hR1]; decide, by rw [hR2]; decide⟩, h3⟩), fun _ h => absurd h List.not_mem_nil⟩⟩) qX14_ok gX14_ok (fun _ h => absurd h List.not_mem_nil) ?_ ?_
  · rintro _ S ⟨rfl, hp⟩
    refine ⟨Nat.le_of_ble_eq_true rfl, 300, ?_⟩
    show (isO S 15 t ∧ (2 = 2 ∧ (True ∧ 0 ≤ 1 ∧ 0 ≤ 6 ∧ ((2 = 2 ∧ (((tf ((0 : Int32) ≤ x ∧ x ≤ (mI S 1502 t))) = 0 ∨ (tf ((0 : Int32) ≤ x ∧ x ≤ (mI S 1502 t))) = 1) ∧ 0 + 1 ≤ 1 ∧ 0 + 6 ≤ 6 ∧ ((∀ (S_2 : MM), (S_2 = S ∧ (tf ((0 : Int32) ≤ x ∧ x ≤ (mI S 1502 t))) = 1) → (isO S_2 15 t ∧ (True ∧ (isO S_2 15 t ∧ (([] : List MV) = [] ∧ mret (some .int) (sp_ren0 t x F z Y R kz) [.inr (.inr (some t)), .inl x] S (some (.inl ((mI S_2 1502 t) - x))) (sI S_2 1502 t x) (0 + 1) (0 + 6)))))) ∧ (((tf ((0 : Int32) ≤ x ∧ x ≤ (mI S 1502 t))) = 0) → mthr (sp_ren0 t x F z Y R kz) [.inr (.inr (some t)), .inl x] S 1 S (0 + 1) (0 + 6)))))))))
    obtain ⟨v1, v2, v3⟩ := hp 3
    rw [v1]
    refine ⟨(hp 0).1, rfl, trivial, by decide, by decide, rfl, tf_b _, by decide, by decide, fun S2 h => ?_, fun h => ⟨⟨rfl, in_0k (by omega) h, rfl⟩, Nat.le_refl _, Nat.le_refl _⟩⟩
    obtain ⟨rfl, h⟩ := h
    obtain ⟨j, hj, rfl⟩ := in_1k (by omega) h
    exact ⟨(hp 0).1, trivial, (hp 0).1, rfl, trivial, ⟨_, rfl, j, by omega, rfl, by rw [v1, pk_sub (by omega)], rfl⟩, Nat.le_refl _, Nat.le_refl _⟩
  · exact fun _ _ _ _ _ h => by cases h
theorem u_ren0 (l : Launch) (hlt : l.stackTraces = false) : UsX l yX14_end0 (Cond.code yX14_end0 cX14_end0 3 (some .int)) (some .int) 7 109 15 T_ren0 := by
  intro Rc Rs av S cs sl K Kx h
  unfold T_ren0 at h
  split at h
  · rename_i t_o x
    obtain ⟨t, rfl, h_1⟩ := pa_of h
    obtain ⟨F, z, Y, R, kz, hp, hc, hs, hk, hx0⟩ := h_1
    refine ⟨(sp_ren0 t x F z Y R kz), c_ren0 l hlt t x F z Y R kz, fun _ _ h9 => ⟨_, _, h9.1, (h9.2 0).1⟩, ⟨rfl, hp⟩, hc, hs, fun v9 S' h8 => by
      obtain ⟨v8, h7, h8⟩ := h8
      cases h7
      exact hk _ _ h8, fun _ _ q => by
      rcases q with ⟨rfl, q⟩
      · obtain ⟨q, rfl⟩ := q
        exact hx0 q⟩
  · exact h.elim
def T_rat1 : TR := fun Rc Rs av S cs sl K _Kx => match av with
  | [.inr (.inr t_o), .inl p, .inl x] => pa t_o fun t => (∃ (F : Nat → Nat × Nat) (z : Nat → Nat) (Y : Nat → Nat → Nat) (R : Rb) (kz : Nat → Nat), (MD S F t z Y R kz) ∧ cs + 2 ≤ Rc ∧ sl + 12 ≤ Rs ∧ (∀ (v : Int32) (S' : MM), (∃ th, thQ S S' F t z Y R kz th ∧ ((th = 0 ∧ ∃ n j k, n < 4 ∧ p = nI n ∧ x = nI j ∧ TxN (R.Q.G n) (R.Q.T n) j k ∧ v = chI ((R.Q.G n).ev k).ch) ∨ (th = 1 ∧ npx R.Q p x ∧ v = 0))) → K (some (.inl v)) S' (cs + 2) (sl + 12)))
  | _ => False
def sp_rat1 (t : Nat) (p : Int32) (x : Int32) (F : Nat → Nat × Nat) (z : Nat → Nat) (Y : Nat → Nat → Nat) (R : Rb) (kz : Nat → Nat) : Sp := (fun av S => av = [.inr (.inr (some t)), .inl p, .inl x] ∧ (MD S F t z Y R kz), fun _ S => 2, fun _ S => 12, fun _ S rv S' => ∃ v, rv = (some (.inl v)) ∧ (∃ th, thQ S S' F t z Y R kz th ∧ ((th = 0 ∧ ∃ n j k, n < 4 ∧ p = nI n ∧ x = nI j ∧ TxN (R.Q.G n) (R.Q.T n) j k ∧ v = chI ((R.Q.G n).ev k).ch) ∨ (th = 1 ∧ npx R.Q p x ∧ v = 0))), fun _ _ _ _ => False)
def tX14_at : CD := [(0, .aload_n 0), (1, .iconst 0), (2, .putfield 512), (5, .aload_n 0), (6, .iload_n 1), (7, .iload_n 2), (8, .invokevirtual 535), (11, .ireturn), (12, .astore_n 3), (13, .aload_n 0), (14, .iconst 1), (15, .putfield 512), (18, .iconst 0), (19, .ireturn)]
set_option maxRecDepth 100000 in
theorem kX14_at : chk cX14_at tX14_at = true := by decide +kernel
theorem vX14_at_535 : ∀ w ∈ ([.methodLink RX14 535 yX14_at0, .instanceMethod yX14_at0, .selects yX14_at0.cls yX14_at0 yX14_at0, .initialized yX14_at0.cls, .code yX14_at0 cX14_at0 4 (some .int)] : List Cond), w ∈ lw_good := List.forall_mem_cons.mpr ⟨mgd 2091 (by decide +kernel) (by decide +kernel), List.forall_mem_cons.mpr ⟨mgd 2093 (by decide +kernel) (by decide +kernel), List.forall_mem_cons.mpr ⟨mgd 67 (by decide +kernel) (by decide +kernel), List.forall_mem_cons.mpr ⟨mgd 136 (by decide +kernel) (by decide +kernel), List.forall_mem_cons.mpr ⟨mgd 2094 (by decide +kernel) (by decide +kernel), fun _ h => absurd h List.not_mem_nil⟩⟩⟩⟩⟩
set_option maxRecDepth 100000 in
set_option maxHeartbeats 2000000 in
theorem c_rat1 (l : Launch) (hlt : l.stackTraces = false) : ∀ (t : Nat) (p : Int32) (x : Int32) (F : Nat → Nat × Nat) (z : Nat → Nat) (Y : Nat → Nat → Nat) (R : Rb) (kz : Nat → Nat), CtX l yX14_at (Cond.codeWith yX14_at cX14_at 4 (some .int) [(5, 11, 12, 138)]) (some .int) 9 153 (sp_rat1 t p x F z Y R kz) := by
  intro t p x F z Y R kz
  refine CtX.ofH hlt (fX14, nX14, aX14, iX14, lX14, [(535, 0, 3, 1, T_rat0)], qX14, gX14, []) false tX14_at [((5, 11, 12, 138), 1)] (fun _ _ _ => none) (by decide) (by decide) kX14_at ⟨_, _, rfl⟩ fX14_ok nX14_ok aX14_ok iX14_ok lX14_ok (fun p e R s m args below meth c Q D cy z r A C hR1 hR2 => List.forall_mem_cons.mpr ⟨cOK_use (fun _ _ _ _ _ _ _ _ h => let ⟨sp, h1, h2, h3⟩ := u_rat0 l hlt _ _ _ _ _ _ _ _ h; ⟨sp, cOKx_V C h1 vX14_at_535 ⟨by decide, by decide, by decide +kernel⟩ ⟨by rw [hR1]; decide, by rw [hR2]; decide⟩ (k := 15) (T := TX14) (N := 52) rfl (by decide) h2, h3⟩), fun _ h => absurd h List.not_mem_nil⟩) qX14_ok gX14_ok rfl (List.forall_mem_cons.mpr ⟨⟨by decide, mgd 1925 (by decide +kernel) (by decide +kernel)⟩, fun _ h => absurd h List.not_mem_nil⟩) (fun _ _ _ _ z => z) ?_ ?_
  · rintro _ S ⟨rfl, hp⟩
    refine ⟨Nat.le_of_ble_eq_true rfl, 300, ?_⟩
    show (True ∧ (isO S 15 t ∧ (0 = 0 ∧ (∃ (F_1 : Nat → Nat × Nat) (z_2 : Nat → Nat) (Y_3 : Nat → Nat → Nat) (R_4 : Rb) (kz_5 : Nat → Nat), (MD (sI S 1551 t (0 : Int32)) F_1 t z_2 Y_3 R_4 kz_5) ∧ 0 + 2 ≤ 2 ∧ 0 + 12 ≤ 12 ∧ ((∀ (x_7 : Int32) (S_6 : MM), (S_6 = (sI S 1551 t (0 : Int32)) ∧ ∃ n j k, n < 4 ∧ p = nI n ∧ x = nI j ∧ TxN (R_4.Q.G n) (R_4.Q.T n) j k ∧ x_7 = chI ((R_4.Q.G n).ev k).ch) → (([] : List MV) = [] ∧ mret (some .int) (sp_rat1 t p x F z Y R kz) [.inr (.inr (some t)), .inl p, .inl x] S (some (.inl x_7)) S_6 (0 + 2) (0 + 12))) ∧ ((npx R_4.Q p x) → (∀ e_9, (True ∧ (isO (sI S 1551 t (0 : Int32)) 15 t ∧ (([] : List MV) = [] ∧ mret (some .int) (sp_rat1 t p x F z Y R kz) [.inr (.inr (some t)), .inl p, .inl x] S (some (.inl (0 : Int32))) (sI (sI S 1551 t (0 : Int32)) 1551 t (1 : Int32)) (0 + 2) (0 + 12)))))))))))
    refine ⟨trivial, (hp 0).1, rfl, F, z, Y, R, kz, hp.th 0, by decide, by decide, fun v S3 h => ?_, fun h e => ⟨trivial, (hp 0).1, rfl, trivial, ⟨_, rfl, 1, hp.ex0 1 rfl, Or.inr ⟨rfl, h, rfl⟩⟩, Nat.le_refl _, Nat.le_refl _⟩⟩
    obtain ⟨rfl, h⟩ := h
    exact ⟨rfl, trivial, ⟨_, rfl, 0, hp.ok0, Or.inl ⟨rfl, h⟩⟩, Nat.le_refl _, Nat.le_refl _⟩
  · exact fun _ _ _ _ _ h => by cases h
theorem u_rat1 (l : Launch) (hlt : l.stackTraces = false) : UsX l yX14_at (Cond.codeWith yX14_at cX14_at 4 (some .int) [(5, 11, 12, 138)]) (some .int) 9 153 15 T_rat1 := by
  intro Rc Rs av S cs sl K Kx h
  unfold T_rat1 at h
  split at h
  · rename_i t_o p x
    obtain ⟨t, rfl, h_1⟩ := pa_of h
    obtain ⟨F, z, Y, R, kz, hp, hc, hs, hk⟩ := h_1
    refine ⟨(sp_rat1 t p x F z Y R kz), c_rat1 l hlt t p x F z Y R kz, fun _ _ h9 => ⟨_, _, h9.1, (h9.2 0).1⟩, ⟨rfl, hp⟩, hc, hs, fun v9 S' h8 => by
      obtain ⟨v8, h7, h8⟩ := h8
      cases h7
      exact hk _ _ h8, fun _ _ q => q.elim⟩
  · exact h.elim
def T_rbl1 : TR := fun Rc Rs av S cs sl K _Kx => match av with
  | [.inr (.inr t_o), .inl p, .inl x] => pa t_o fun t => (∃ (F : Nat → Nat × Nat) (z : Nat → Nat) (Y : Nat → Nat → Nat) (R : Rb) (kz : Nat → Nat), (MD S F t z Y R kz) ∧ cs + 2 ≤ Rc ∧ sl + 12 ≤ Rs ∧ (∀ (v : Int64) (S' : MM), (∃ th, thQ S S' F t z Y R kz th ∧ ((th = 0 ∧ ∃ n j k, n < 4 ∧ p = nI n ∧ x = nI j ∧ TxN (R.Q.G n) (R.Q.T n) j k ∧ v = lN ((R.Q.G n).key k)) ∨ (th = 1 ∧ npx R.Q p x ∧ v = 0))) → K (some (.inr (.inl v))) S' (cs + 2) (sl + 12)))
  | _ => False
def sp_rbl1 (t : Nat) (p : Int32) (x : Int32) (F : Nat → Nat × Nat) (z : Nat → Nat) (Y : Nat → Nat → Nat) (R : Rb) (kz : Nat → Nat) : Sp := (fun av S => av = [.inr (.inr (some t)), .inl p, .inl x] ∧ (MD S F t z Y R kz), fun _ S => 2, fun _ S => 12, fun _ S rv S' => ∃ v, rv = (some (.inr (.inl v))) ∧ (∃ th, thQ S S' F t z Y R kz th ∧ ((th = 0 ∧ ∃ n j k, n < 4 ∧ p = nI n ∧ x = nI j ∧ TxN (R.Q.G n) (R.Q.T n) j k ∧ v = lN ((R.Q.G n).key k)) ∨ (th = 1 ∧ npx R.Q p x ∧ v = 0))), fun _ _ _ _ => False)
def tX14_blame : CD := [(0, .aload_n 0), (1, .iconst 0), (2, .putfield 512), (5, .aload_n 0), (6, .iload_n 1), (7, .iload_n 2), (8, .invokevirtual 544), (11, .lreturn), (12, .astore_n 3), (13, .aload_n 0), (14, .iconst 1), (15, .putfield 512), (18, .lconst 0), (19, .lreturn)]
set_option maxRecDepth 100000 in
theorem kX14_blame : chk cX14_blame tX14_blame = true := by decide +kernel
theorem vX14_blame_544 : ∀ w ∈ ([.methodLink RX14 544 yX14_blame0, .instanceMethod yX14_blame0, .selects yX14_blame0.cls yX14_blame0 yX14_blame0, .initialized yX14_blame0.cls, .code yX14_blame0 cX14_blame0 4 (some .long)] : List Cond), w ∈ lw_good := List.forall_mem_cons.mpr ⟨mgd 2119 (by decide +kernel) (by decide +kernel), List.forall_mem_cons.mpr ⟨mgd 2121 (by decide +kernel) (by decide +kernel), List.forall_mem_cons.mpr ⟨mgd 70 (by decide +kernel) (by decide +kernel), List.forall_mem_cons.mpr ⟨mgd 136 (by decide +kernel) (by decide +kernel), List.forall_mem_cons.mpr ⟨mgd 2122 (by decide +kernel) (by decide +kernel), fun _ h => absurd h List.not_mem_nil⟩⟩⟩⟩⟩
set_option maxRecDepth 100000 in
set_option maxHeartbeats 2000000 in
theorem c_rbl1 (l : Launch) (hlt : l.stackTraces = false) : ∀ (t : Nat) (p : Int32) (x : Int32) (F : Nat → Nat × Nat) (z : Nat → Nat) (Y : Nat → Nat → Nat) (R : Rb) (kz : Nat → Nat), CtX l yX14_blame (Cond.codeWith yX14_blame cX14_blame 4 (some .long) [(5, 11, 12, 138)]) (some .long) 9 153 (sp_rbl1 t p x F z Y R kz) := by
  intro t p x F z Y R kz
  refine CtX.ofH hlt (fX14, nX14, aX14, iX14, lX14, [(544, 0, 3, 2, T_rbl0)], qX14, gX14, []) false tX14_blame [((5, 11, 12, 138), 1)] (fun _ _ _ => none) (by decide) (by decide) kX14_blame ⟨_, _, rfl⟩ fX14_ok nX14_ok aX14_ok iX14_ok lX14_ok (fun p e R s m args below meth c Q D cy z r A C hR1 hR2 => List.forall_mem_cons.mpr ⟨cOK_use (fun _ _ _ _ _ _ _ _ h => let ⟨sp, h1, h2, h3⟩ := u_rbl0 l hlt _ _ _ _ _ _ _ _ h; ⟨sp, cOKx_V C h1 vX14_blame_544 ⟨by decide, by decide, by decide +kernel⟩ ⟨by rw [hR1]; decide, by rw [hR2]; decide⟩ (k := 15) (T := TX14) (N := 52) rfl (by decide) h2, h3⟩), fun _ h => absurd h List.not_mem_nil⟩) qX14_ok gX14_ok rfl (List.forall_mem_cons.mpr ⟨⟨by decide, mgd 1925 (by decide +kernel) (by decide +kernel)⟩, fun _ h => absurd h List.not_mem_nil⟩) (fun _ _ _ _ z => z) ?_ ?_
  · rintro _ S ⟨rfl, hp⟩
    refine ⟨Nat.le_of_ble_eq_true rfl, 300, ?_⟩
    show (True ∧ (isO S 15 t ∧ (0 = 0 ∧ (∃ (F_1 : Nat → Nat × Nat) (z_2 : Nat → Nat) (Y_3 : Nat → Nat → Nat) (R_4 : Rb) (kz_5 : Nat → Nat), (MD (sI S 1551 t (0 : Int32)) F_1 t z_2 Y_3 R_4 kz_5) ∧ 0 + 2 ≤ 2 ∧ 0 + 12 ≤ 12 ∧ ((∀ (x_7 : Int64) (S_6 : MM), (S_6 = (sI S 1551 t (0 : Int32)) ∧ ∃ n j k, n < 4 ∧ p = nI n ∧ x = nI j ∧ TxN (R_4.Q.G n) (R_4.Q.T n) j k ∧ x_7 = lN ((R_4.Q.G n).key k)) → (([] : List MV) = [] ∧ mret (some .long) (sp_rbl1 t p x F z Y R kz) [.inr (.inr (some t)), .inl p, .inl x] S (some (.inr (.inl x_7))) S_6 (0 + 2) (0 + 12))) ∧ ((npx R_4.Q p x) → (∀ e_9, (True ∧ (isO (sI S 1551 t (0 : Int32)) 15 t ∧ (([] : List MV) = [] ∧ mret (some .long) (sp_rbl1 t p x F z Y R kz) [.inr (.inr (some t)), .inl p, .inl x] S (some (.inr (.inl (0 : Int64)))) (sI (sI S 1551 t (0 : Int32)) 1551 t (1 : Int32)) (0 + 2) (0 + 12)))))))))))
    refine ⟨trivial, (hp 0).1, rfl, F, z, Y, R, kz, hp.th 0, by decide, by decide, fun v S3 h => ?_, fun h e => ⟨trivial, (hp 0).1, rfl, trivial, ⟨_, rfl, 1, hp.ex0 1 rfl, Or.inr ⟨rfl, h, rfl⟩⟩, Nat.le_refl _, Nat.le_refl _⟩⟩
    obtain ⟨rfl, h⟩ := h
    exact ⟨rfl, trivial, ⟨_, rfl, 0, hp.ok0, Or.inl ⟨rfl, h⟩⟩, Nat.le_refl _, Nat.le_refl _⟩
  · exact fun _ _ _ _ _ h => by cases h
theorem u_rbl1 (l : Launch) (hlt : l.stackTraces = false) : UsX l yX14_blame (Cond.codeWith yX14_blame cX14_blame 4 (some .long) [(5, 11, 12, 138)]) (some .long) 9 153 15 T_rbl1 := by
  intro Rc Rs av S cs sl K Kx h
  unfold T_rbl1 at h
  split at h
  · rename_i t_o p x
    obtain ⟨t, rfl, h_1⟩ := pa_of h
    obtain ⟨F, z, Y, R, kz, hp, hc, hs, hk⟩ := h_1
    refine ⟨(sp_rbl1 t p x F z Y R kz), c_rbl1 l hlt t p x F z Y R kz, fun _ _ h9 => ⟨_, _, h9.1, (h9.2 0).1⟩, ⟨rfl, hp⟩, hc, hs, fun v9 S' h8 => by
      obtain ⟨v8, h7, h8⟩ := h8
      cases h7
      exact hk _ _ h8, fun _ _ q => q.elim⟩
  · exact h.elim
def T_revs : TR := fun Rc Rs av S cs sl K _Kx => match av with
  | [.inr (.inr t_o), .inl p, .inl x] => pa t_o fun t => (∃ (F : Nat → Nat × Nat) (z : Nat → Nat) (Y : Nat → Nat → Nat) (R : Rb) (kz : Nat → Nat), (MD S F t z Y R kz) ∧ cs + 2 ≤ Rc ∧ sl + 12 ≤ Rs ∧ (∀ (v : Int32) (S' : MM), (∃ th, thQ S S' F t z Y R kz th ∧ ((th = 0 ∧ ∃ n, n < 4 ∧ p = nI n ∧ evA (R.Q.G n) x v) ∨ (th = 1 ∧ (np 4 p ∨ (x ≠ -1 ∧ np 256 x)) ∧ v = 0))) → K (some (.inl v)) S' (cs + 2) (sl + 12)))
  | _ => False
def sp_revs (t : Nat) (p : Int32) (x : Int32) (F : Nat → Nat × Nat) (z : Nat → Nat) (Y : Nat → Nat → Nat) (R : Rb) (kz : Nat → Nat) : Sp := (fun av S => av = [.inr (.inr (some t)), .inl p, .inl x] ∧ (MD S F t z Y R kz), fun _ S => 2, fun _ S => 12, fun _ S rv S' => ∃ v, rv = (some (.inl v)) ∧ (∃ th, thQ S S' F t z Y R kz th ∧ ((th = 0 ∧ ∃ n, n < 4 ∧ p = nI n ∧ evA (R.Q.G n) x v) ∨ (th = 1 ∧ (np 4 p ∨ (x ≠ -1 ∧ np 256 x)) ∧ v = 0))), fun _ _ _ _ => False)
def tX14_events : CD := [(0, .aload_n 0), (1, .iconst 0), (2, .putfield 512), (5, .aload_n 0), (6, .iload_n 1), (7, .iload_n 2), (8, .invokevirtual 548), (11, .ireturn), (12, .astore_n 3), (13, .aload_n 0), (14, .iconst 1), (15, .putfield 512), (18, .iconst 0), (19, .ireturn)]
set_option maxRecDepth 100000 in
theorem kX14_events : chk cX14_events tX14_events = true := by decide +kernel
theorem vX14_events_548 : ∀ w ∈ ([.methodLink RX14 548 yX14_events0, .instanceMethod yX14_events0, .selects yX14_events0.cls yX14_events0 yX14_events0, .initialized yX14_events0.cls, .code yX14_events0 cX14_events0 4 (some .int)] : List Cond), w ∈ lw_good := List.forall_mem_cons.mpr ⟨mgd 2130 (by decide +kernel) (by decide +kernel), List.forall_mem_cons.mpr ⟨mgd 2132 (by decide +kernel) (by decide +kernel), List.forall_mem_cons.mpr ⟨mgd 71 (by decide +kernel) (by decide +kernel), List.forall_mem_cons.mpr ⟨mgd 136 (by decide +kernel) (by decide +kernel), List.forall_mem_cons.mpr ⟨mgd 2133 (by decide +kernel) (by decide +kernel), fun _ h => absurd h List.not_mem_nil⟩⟩⟩⟩⟩
set_option maxRecDepth 100000 in
set_option maxHeartbeats 2000000 in
theorem c_revs (l : Launch) (hlt : l.stackTraces = false) : ∀ (t : Nat) (p : Int32) (x : Int32) (F : Nat → Nat × Nat) (z : Nat → Nat) (Y : Nat → Nat → Nat) (R : Rb) (kz : Nat → Nat), CtX l yX14_events (Cond.codeWith yX14_events cX14_events 4 (some .int) [(5, 11, 12, 138)]) (some .int) 9 153 (sp_revs t p x F z Y R kz) := by
  intro t p x F z Y R kz
  refine CtX.ofH hlt (fX14, nX14, aX14, iX14, lX14, [(548, 0, 3, 1, T_rev0)], qX14, gX14, []) false tX14_events [((5, 11, 12, 138), 1)] (fun _ _ _ => none) (by decide) (by decide) kX14_events ⟨_, _, rfl⟩ fX14_ok nX14_ok aX14_ok iX14_ok lX14_ok (fun p e R s m args below meth c Q D cy z r A C hR1 hR2 => List.forall_mem_cons.mpr ⟨cOK_use (fun _ _ _ _ _ _ _ _ h => let ⟨sp, h1, h2, h3⟩ := u_rev0 l hlt _ _ _ _ _ _ _ _ h; ⟨sp, cOKx_V C h1 vX14_events_548 ⟨by decide, by decide, by decide +kernel⟩ ⟨by rw [hR1]; decide, by rw [hR2]; decide⟩ (k := 15) (T := TX14) (N := 52) rfl (by decide) h2, h3⟩), fun _ h => absurd h List.not_mem_nil⟩) qX14_ok gX14_ok rfl (List.forall_mem_cons.mpr ⟨⟨by decide, mgd 1925 (by decide +kernel) (by decide +kernel)⟩, fun _ h => absurd h List.not_mem_nil⟩) (fun _ _ _ _ z => z) ?_ ?_
  · rintro _ S ⟨rfl, hp⟩
    refine ⟨Nat.le_of_ble_eq_true rfl, 300, ?_⟩
    show (True ∧ (isO S 15 t ∧ (0 = 0 ∧ (∃ (F_1 : Nat → Nat × Nat) (z_2 : Nat → Nat) (Y_3 : Nat → Nat → Nat) (R_4 : Rb) (kz_5 : Nat → Nat), (MD (sI S 1551 t (0 : Int32)) F_1 t z_2 Y_3 R_4 kz_5) ∧ 0 + 2 ≤ 2 ∧ 0 + 12 ≤ 12 ∧ ((∀ (x_7 : Int32) (S_6 : MM), (S_6 = (sI S 1551 t (0 : Int32)) ∧ ∃ n, n < 4 ∧ p = nI n ∧ evA (R_4.Q.G n) x x_7) → (([] : List MV) = [] ∧ mret (some .int) (sp_revs t p x F z Y R kz) [.inr (.inr (some t)), .inl p, .inl x] S (some (.inl x_7)) S_6 (0 + 2) (0 + 12))) ∧ ((np 4 p ∨ (x ≠ -1 ∧ np 256 x)) → (∀ e_9, (True ∧ (isO (sI S 1551 t (0 : Int32)) 15 t ∧ (([] : List MV) = [] ∧ mret (some .int) (sp_revs t p x F z Y R kz) [.inr (.inr (some t)), .inl p, .inl x] S (some (.inl (0 : Int32))) (sI (sI S 1551 t (0 : Int32)) 1551 t (1 : Int32)) (0 + 2) (0 + 12)))))))))))
    refine ⟨trivial, (hp 0).1, rfl, F, z, Y, R, kz, hp.th 0, by decide, by decide, fun v S3 h => ?_, fun h e => ⟨trivial, (hp 0).1, rfl, trivial, ⟨_, rfl, 1, hp.ex0 1 rfl, Or.inr ⟨rfl, h, rfl⟩⟩, Nat.le_refl _, Nat.le_refl _⟩⟩
    obtain ⟨rfl, h⟩ := h
    exact ⟨rfl, trivial, ⟨_, rfl, 0, hp.ok0, Or.inl ⟨rfl, h⟩⟩, Nat.le_refl _, Nat.le_refl _⟩
  · exact fun _ _ _ _ _ h => by cases h
theorem u_revs (l : Launch) (hlt : l.stackTraces = false) : UsX l yX14_events (Cond.codeWith yX14_events cX14_events 4 (some .int) [(5, 11, 12, 138)]) (some .int) 9 153 15 T_revs := by
  intro Rc Rs av S cs sl K Kx h
  unfold T_revs at h
  split at h
  · rename_i t_o p x
    obtain ⟨t, rfl, h_1⟩ := pa_of h
    obtain ⟨F, z, Y, R, kz, hp, hc, hs, hk⟩ := h_1
    refine ⟨(sp_revs t p x F z Y R kz), c_revs l hlt t p x F z Y R kz, fun _ _ h9 => ⟨_, _, h9.1, (h9.2 0).1⟩, ⟨rfl, hp⟩, hc, hs, fun v9 S' h8 => by
      obtain ⟨v8, h7, h8⟩ := h8
      cases h7
      exact hk _ _ h8, fun _ _ q => q.elim⟩
  · exact h.elim
def T_rvw1 : TR := fun Rc Rs av S cs sl K _Kx => match av with
  | [.inr (.inr t_o), .inl x] => pa t_o fun t => (∃ (F : Nat → Nat × Nat) (z : Nat → Nat) (Y : Nat → Nat → Nat) (R : Rb) (kz : Nat → Nat), (MD S F t z Y R kz) ∧ cs + 1 ≤ Rc ∧ sl + 6 ≤ Rs ∧ (∀ (v : Int32) (S' : MM), (∃ th, thQ S S' F t z Y R kz th ∧ ((th = 0 ∧ ∃ j, j < R.Q.vw.length ∧ x = nI j ∧ v = R.Q.vw.getD j 0) ∨ (th = 1 ∧ np R.Q.vw.length x ∧ v = 0))) → K (some (.inl v)) S' (cs + 1) (sl + 6)))
  | _ => False
def sp_rvw1 (t : Nat) (x : Int32) (F : Nat → Nat × Nat) (z : Nat → Nat) (Y : Nat → Nat → Nat) (R : Rb) (kz : Nat → Nat) : Sp := (fun av S => av = [.inr (.inr (some t)), .inl x] ∧ (MD S F t z Y R kz), fun _ S => 1, fun _ S => 6, fun _ S rv S' => ∃ v, rv = (some (.inl v)) ∧ (∃ th, thQ S S' F t z Y R kz th ∧ ((th = 0 ∧ ∃ j, j < R.Q.vw.length ∧ x = nI j ∧ v = R.Q.vw.getD j 0) ∨ (th = 1 ∧ np R.Q.vw.length x ∧ v = 0))), fun _ _ _ _ => False)
def tX14_viewed : CD := [(0, .aload_n 0), (1, .iconst 0), (2, .putfield 512), (5, .aload_n 0), (6, .iload_n 1), (7, .invokevirtual 567), (10, .ireturn), (11, .astore_n 2), (12, .aload_n 0), (13, .iconst 1), (14, .putfield 512), (17, .iconst 0), (18, .ireturn)]
set_option maxRecDepth 100000 in
theorem kX14_viewed : chk cX14_viewed tX14_viewed = true := by decide +kernel
theorem vX14_viewed_567 : ∀ w ∈ ([.methodLink RX14 567 yX14_viewed0, .instanceMethod yX14_viewed0, .selects yX14_viewed0.cls yX14_viewed0 yX14_viewed0, .initialized yX14_viewed0.cls, .code yX14_viewed0 cX14_viewed0 2 (some .int)] : List Cond), w ∈ lw_good := List.forall_mem_cons.mpr ⟨mgd 2197 (by decide +kernel) (by decide +kernel), List.forall_mem_cons.mpr ⟨mgd 2199 (by decide +kernel) (by decide +kernel), List.forall_mem_cons.mpr ⟨mgd 78 (by decide +kernel) (by decide +kernel), List.forall_mem_cons.mpr ⟨mgd 136 (by decide +kernel) (by decide +kernel), List.forall_mem_cons.mpr ⟨mgd 2200 (by decide +kernel) (by decide +kernel), fun _ h => absurd h List.not_mem_nil⟩⟩⟩⟩⟩
set_option maxRecDepth 100000 in
set_option maxHeartbeats 2000000 in
theorem c_rvw1 (l : Launch) (hlt : l.stackTraces = false) : ∀ (t : Nat) (x : Int32) (F : Nat → Nat × Nat) (z : Nat → Nat) (Y : Nat → Nat → Nat) (R : Rb) (kz : Nat → Nat), CtX l yX14_viewed (Cond.codeWith yX14_viewed cX14_viewed 3 (some .int) [(5, 10, 11, 138)]) (some .int) 8 130 (sp_rvw1 t x F z Y R kz) := by
  intro t x F z Y R kz
  refine CtX.ofH hlt (fX14, nX14, aX14, iX14, lX14, [(567, 0, 2, 1, T_rvw0)], qX14, gX14, []) false tX14_viewed [((5, 10, 11, 138), 1)] (fun _ _ _ => none) (by decide) (by decide) kX14_viewed ⟨_, _, rfl⟩ fX14_ok nX14_ok aX14_ok iX14_ok lX14_ok (fun p e R s m args below meth c Q D cy z r A C hR1 hR2 => List.forall_mem_cons.mpr ⟨cOK_use (fun _ _ _ _ _ _ _ _ h => let ⟨sp, h1, h2, h3⟩ := u_rvw0 l hlt _ _ _ _ _ _ _ _ h; ⟨sp, cOKx_V C h1 vX14_viewed_567 ⟨by decide, by decide, by decide +kernel⟩ ⟨by rw [hR1]; decide, by rw [hR2]; decide⟩ (k := 15) (T := TX14) (N := 52) rfl (by decide) h2, h3⟩), fun _ h => absurd h List.not_mem_nil⟩) qX14_ok gX14_ok rfl (List.forall_mem_cons.mpr ⟨⟨by decide, mgd 1925 (by decide +kernel) (by decide +kernel)⟩, fun _ h => absurd h List.not_mem_nil⟩) (fun _ _ _ _ z => z) ?_ ?_
  · rintro _ S ⟨rfl, hp⟩
    refine ⟨Nat.le_of_ble_eq_true rfl, 300, ?_⟩
    show (True ∧ (isO S 15 t ∧ (0 = 0 ∧ (∃ (F_1 : Nat → Nat × Nat) (z_2 : Nat → Nat) (Y_3 : Nat → Nat → Nat) (R_4 : Rb) (kz_5 : Nat → Nat), (MD (sI S 1551 t (0 : Int32)) F_1 t z_2 Y_3 R_4 kz_5) ∧ 0 + 1 ≤ 1 ∧ 0 + 6 ≤ 6 ∧ ((∀ (x_7 : Int32) (S_6 : MM), (S_6 = (sI S 1551 t (0 : Int32)) ∧ ∃ j, j < R_4.Q.vw.length ∧ x = nI j ∧ x_7 = R_4.Q.vw.getD j 0) → (([] : List MV) = [] ∧ mret (some .int) (sp_rvw1 t x F z Y R kz) [.inr (.inr (some t)), .inl x] S (some (.inl x_7)) S_6 (0 + 1) (0 + 6))) ∧ ((np R_4.Q.vw.length x) → (∀ e_9, (True ∧ (isO (sI S 1551 t (0 : Int32)) 15 t ∧ (([] : List MV) = [] ∧ mret (some .int) (sp_rvw1 t x F z Y R kz) [.inr (.inr (some t)), .inl x] S (some (.inl (0 : Int32))) (sI (sI S 1551 t (0 : Int32)) 1551 t (1 : Int32)) (0 + 1) (0 + 6)))))))))))
    refine ⟨trivial, (hp 0).1, rfl, F, z, Y, R, kz, hp.th 0, by decide, by decide, fun v S3 h => ?_, fun h e => ⟨trivial, (hp 0).1, rfl, trivial, ⟨_, rfl, 1, hp.ex0 1 rfl, Or.inr ⟨rfl, h, rfl⟩⟩, Nat.le_refl _, Nat.le_refl _⟩⟩
    obtain ⟨rfl, h⟩ := h
    exact ⟨rfl, trivial, ⟨_, rfl, 0, hp.ok0, Or.inl ⟨rfl, h⟩⟩, Nat.le_refl _, Nat.le_refl _⟩
  · exact fun _ _ _ _ _ h => by cases h
theorem u_rvw1 (l : Launch) (hlt : l.stackTraces = false) : UsX l yX14_viewed (Cond.codeWith yX14_viewed cX14_viewed 3 (some .int) [(5, 10, 11, 138)]) (some .int) 8 130 15 T_rvw1 := by
  intro Rc Rs av S cs sl K Kx h
  unfold T_rvw1 at h
  split at h
  · rename_i t_o x
    obtain ⟨t, rfl, h_1⟩ := pa_of h
    obtain ⟨F, z, Y, R, kz, hp, hc, hs, hk⟩ := h_1
    refine ⟨(sp_rvw1 t x F z Y R kz), c_rvw1 l hlt t x F z Y R kz, fun _ _ h9 => ⟨_, _, h9.1, (h9.2 0).1⟩, ⟨rfl, hp⟩, hc, hs, fun v9 S' h8 => by
      obtain ⟨v8, h7, h8⟩ := h8
      cases h7
      exact hk _ _ h8, fun _ _ q => q.elim⟩
  · exact h.elim
def T_rhu1 : TR := fun Rc Rs av S cs sl K _Kx => match av with
  | [.inr (.inr t_o), .inl x, .inl wv] => pa t_o fun t => (∃ (F : Nat → Nat × Nat) (z : Nat → Nat) (Y : Nat → Nat → Nat) (R : Rb) (kz : Nat → Nat), (MD S F t z Y R kz) ∧ cs + 2 ≤ Rc ∧ sl + 12 ≤ Rs ∧ (∀ (v : Int32) (S' : MM), (∃ th, thQ S S' F t z Y R kz th ∧ ((th = 0 ∧ ∃ j w, j < R.Q.hu.length ∧ x = nI j ∧ w < 4 ∧ wv = nI w ∧ v = nI (huV (R.Q.hu.getD j (0, 0, 0, 0)) w)) ∨ (th = 1 ∧ np 4 wv ∧ v = 0) ∨ (th = 2 ∧ (¬ np 4 wv ∧ np R.Q.hu.length x) ∧ v = 0))) → K (some (.inl v)) S' (cs + 2) (sl + 12)))
  | _ => False
def sp_rhu1 (t : Nat) (x : Int32) (wv : Int32) (F : Nat → Nat × Nat) (z : Nat → Nat) (Y : Nat → Nat → Nat) (R : Rb) (kz : Nat → Nat) : Sp := (fun av S => av = [.inr (.inr (some t)), .inl x, .inl wv] ∧ (MD S F t z Y R kz), fun _ S => 2, fun _ S => 12, fun _ S rv S' => ∃ v, rv = (some (.inl v)) ∧ (∃ th, thQ S S' F t z Y R kz th ∧ ((th = 0 ∧ ∃ j w, j < R.Q.hu.length ∧ x = nI j ∧ w < 4 ∧ wv = nI w ∧ v = nI (huV (R.Q.hu.getD j (0, 0, 0, 0)) w)) ∨ (th = 1 ∧ np 4 wv ∧ v = 0) ∨ (th = 2 ∧ (¬ np 4 wv ∧ np R.Q.hu.length x) ∧ v = 0))), fun _ _ _ _ => False)
def tX14_hunk : CD := [(0, .aload_n 0), (1, .iconst 0), (2, .putfield 512), (5, .aload_n 0), (6, .iload_n 1), (7, .iload_n 2), (8, .invokevirtual 573), (11, .ireturn), (12, .astore_n 3), (13, .aload_n 0), (14, .iconst 1), (15, .putfield 512), (18, .goto 9), (21, .astore_n 3), (22, .aload_n 0), (23, .iconst 2), (24, .putfield 512), (27, .iconst 0), (28, .ireturn)]
set_option maxRecDepth 100000 in
theorem kX14_hunk : chk cX14_hunk tX14_hunk = true := by decide +kernel
theorem vX14_hunk_573 : ∀ w ∈ ([.methodLink RX14 573 yX14_hunk0, .instanceMethod yX14_hunk0, .selects yX14_hunk0.cls yX14_hunk0 yX14_hunk0, .initialized yX14_hunk0.cls, .code yX14_hunk0 cX14_hunk0 3 (some .int)] : List Cond), w ∈ lw_good := List.forall_mem_cons.mpr ⟨mgd 2214 (by decide +kernel) (by decide +kernel), List.forall_mem_cons.mpr ⟨mgd 2216 (by decide +kernel) (by decide +kernel), List.forall_mem_cons.mpr ⟨mgd 80 (by decide +kernel) (by decide +kernel), List.forall_mem_cons.mpr ⟨mgd 136 (by decide +kernel) (by decide +kernel), List.forall_mem_cons.mpr ⟨mgd 2217 (by decide +kernel) (by decide +kernel), fun _ h => absurd h List.not_mem_nil⟩⟩⟩⟩⟩
set_option maxRecDepth 100000 in
set_option maxHeartbeats 2000000 in
theorem c_rhu1 (l : Launch) (hlt : l.stackTraces = false) : ∀ (t : Nat) (x : Int32) (wv : Int32) (F : Nat → Nat × Nat) (z : Nat → Nat) (Y : Nat → Nat → Nat) (R : Rb) (kz : Nat → Nat), CtX l yX14_hunk (Cond.codeWith yX14_hunk cX14_hunk 4 (some .int) [(5, 11, 12, 138), (5, 11, 21, 141)]) (some .int) 8 131 (sp_rhu1 t x wv F z Y R kz) := by
  intro t x wv F z Y R kz
  refine CtX.ofH hlt (fX14, nX14, aX14, iX14, lX14, [(573, 0, 3, 1, T_rhu0)], qX14, gX14, []) false tX14_hunk [((5, 11, 12, 138), 1), ((5, 11, 21, 141), 2)] (fun _ _ _ => none) (by decide) (by decide) kX14_hunk ⟨_, _, rfl⟩ fX14_ok nX14_ok aX14_ok iX14_ok lX14_ok (fun p e R s m args below meth c Q D cy z r A C hR1 hR2 => List.forall_mem_cons.mpr ⟨cOK_use (fun _ _ _ _ _ _ _ _ h => let ⟨sp, h1, h2, h3⟩ := u_rhu0 l hlt _ _ _ _ _ _ _ _ h; ⟨sp, cOKx_V C h1 vX14_hunk_573 ⟨by decide, by decide, by decide +kernel⟩ ⟨by rw [hR1]; decide, by rw [hR2]; decide⟩ (k := 15) (T := TX14) (N := 52) rfl (by decide) h2, h3⟩), fun _ h => absurd h List.not_mem_nil⟩) qX14_ok gX14_ok rfl (List.forall_mem_cons.mpr ⟨⟨by decide, mgd 1925 (by decide +kernel) (by decide +kernel)⟩, List.forall_mem_cons.mpr ⟨⟨by decide, mgd 2061 (by decide +kernel) (by decide +kernel)⟩, fun _ h => absurd h List.not_mem_nil⟩⟩) (fun _ _ _ _ z => z) ?_ ?_
  · rintro _ S ⟨rfl, hp⟩
    refine ⟨Nat.le_of_ble_eq_true rfl, 300, ?_⟩
    show (True ∧ (isO S 15 t ∧ (0 = 0 ∧ (∃ (F_1 : Nat → Nat × Nat) (z_2 : Nat → Nat) (Y_3 : Nat → Nat → Nat) (R_4 : Rb) (kz_5 : Nat → Nat), (MD (sI S 1551 t (0 : Int32)) F_1 t z_2 Y_3 R_4 kz_5) ∧ 0 + 2 ≤ 2 ∧ 0 + 12 ≤ 12 ∧ ((∀ (x_7 : Int32) (S_6 : MM), (S_6 = (sI S 1551 t (0 : Int32)) ∧ ∃ j w, j < R_4.Q.hu.length ∧ x = nI j ∧ w < 4 ∧ wv = nI w ∧ x_7 = nI (huV (R_4.Q.hu.getD j (0, 0, 0, 0)) w)) → (([] : List MV) = [] ∧ mret (some .int) (sp_rhu1 t x wv F z Y R kz) [.inr (.inr (some t)), .inl x, .inl wv] S (some (.inl x_7)) S_6 (0 + 2) (0 + 12))) ∧ ((np 4 wv) → (∀ e_9, (True ∧ (isO (sI S 1551 t (0 : Int32)) 15 t ∧ (([] : List MV) = [] ∧ mret (some .int) (sp_rhu1 t x wv F z Y R kz) [.inr (.inr (some t)), .inl x, .inl wv] S (some (.inl (0 : Int32))) (sI (sI S 1551 t (0 : Int32)) 1551 t (1 : Int32)) (0 + 2) (0 + 12)))))) ∧ ((¬ np 4 wv ∧ np R_4.Q.hu.length x) → (∀ e_11, (True ∧ (isO (sI S 1551 t (0 : Int32)) 15 t ∧ (([] : List MV) = [] ∧ mret (some .int) (sp_rhu1 t x wv F z Y R kz) [.inr (.inr (some t)), .inl x, .inl wv] S (some (.inl (0 : Int32))) (sI (sI S 1551 t (0 : Int32)) 1551 t (2 : Int32)) (0 + 2) (0 + 12)))))))))))
    refine ⟨trivial, (hp 0).1, rfl, F, z, Y, R, kz, hp.th 0, by decide, by decide, fun v S3 h => ?_, fun h e => ⟨trivial, (hp 0).1, rfl, trivial, ⟨_, rfl, 1, hp.ex0 1 rfl, Or.inr (Or.inl ⟨rfl, h, rfl⟩)⟩, Nat.le_refl _, Nat.le_refl _⟩, fun h e => ⟨trivial, (hp 0).1, rfl, trivial, ⟨_, rfl, 2, hp.ex0 2 rfl, Or.inr (Or.inr ⟨rfl, h, rfl⟩)⟩, Nat.le_refl _, Nat.le_refl _⟩⟩
    obtain ⟨rfl, h⟩ := h
    exact ⟨rfl, trivial, ⟨_, rfl, 0, hp.ok0, Or.inl ⟨rfl, h⟩⟩, Nat.le_refl _, Nat.le_refl _⟩
  · exact fun _ _ _ _ _ h => by cases h
theorem u_rhu1 (l : Launch) (hlt : l.stackTraces = false) : UsX l yX14_hunk (Cond.codeWith yX14_hunk cX14_hunk 4 (some .int) [(5, 11, 12, 138), (5, 11, 21, 141)]) (some .int) 8 131 15 T_rhu1 := by
  intro Rc Rs av S cs sl K Kx h
  unfold T_rhu1 at h
  split at h
  · rename_i t_o x wv
    obtain ⟨t, rfl, h_1⟩ := pa_of h
    obtain ⟨F, z, Y, R, kz, hp, hc, hs, hk⟩ := h_1
    refine ⟨(sp_rhu1 t x wv F z Y R kz), c_rhu1 l hlt t x wv F z Y R kz, fun _ _ h9 => ⟨_, _, h9.1, (h9.2 0).1⟩, ⟨rfl, hp⟩, hc, hs, fun v9 S' h8 => by
      obtain ⟨v8, h7, h8⟩ := h8
      cases h7
      exact hk _ _ h8, fun _ _ q => q.elim⟩
  · exact h.elim
