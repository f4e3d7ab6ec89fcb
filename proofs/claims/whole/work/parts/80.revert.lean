/-! ===== Peer.revert ===== -/
/-- how many visible characters stand in front of a node -/
def rkN (G : Gr) (T : Tr) (x : Nat) : Nat := ((T.od.takeWhile (fun y => y != x)).filter (vis G)).length
theorem tkw {x : Nat} {V : List Nat} : ∀ {U : List Nat}, x ∉ U → (U ++ x :: V).takeWhile (fun y => y != x) = U
  | [], _ => by rw [List.nil_append, List.takeWhile_cons, if_neg (by simp)]
  | y :: U, h => by
    have h1 : y ≠ x := fun e => h (e ▸ List.mem_cons_self)
    rw [List.cons_append, List.takeWhile_cons, if_pos (by simpa using h1), tkw (fun q => h (List.mem_cons_of_mem _ q))]
theorem rkN_at {G : Gr} {T : Tr} {U V : List Nat} {x : Nat} (hn : T.od.Nodup) (e : T.od = U ++ x :: V) : rkN G T x = (U.filter (vis G)).length := by
  rw [rkN, e, tkw (fun q => ?_)]
  rw [e] at hn
  exact (List.nodup_append.1 hn).2.2 x q x List.mem_cons_self rfl
def bfr (T : Tr) (x y : Nat) : Prop := ∃ U V W, T.od = U ++ x :: (V ++ y :: W)
theorem rkN_lt {G : Gr} {T : Tr} {x y : Nat} (hn : T.od.Nodup) (h : bfr T x y) (hx : vis G x = true) : rkN G T x < rkN G T y := by
  obtain ⟨U, V, W, e⟩ := h
  have e2 : T.od = (U ++ x :: V) ++ y :: W := by rw [e]; simp
  rw [rkN_at hn e, rkN_at hn e2, List.filter_append, List.filter_cons, if_pos hx]
  simp
theorem rkN_le {G : Gr} {T : Tr} {x : Nat} (hn : T.od.Nodup) (hx : x ∈ T.od) : rkN G T x ≤ visN G T ∧ (vis G x = true → rkN G T x < visN G T) := by
  obtain ⟨U, V, e⟩ := List.append_of_mem hx
  rw [rkN_at hn e, visN, e, List.filter_append, List.length_append]
  refine ⟨Nat.le_add_right _ _, fun hv => ?_⟩
  rw [List.filter_cons, if_pos hv, List.length_cons]
  omega
section RVT
variable {S : MM} {F : Nat → Nat × Nat} {i : Nat} {A : Nat → Nat} {X : GX} {G : Gr} {T : Tr} {H : List Nat} {W : Nat → Nat}
theorem GI.visc (h : GI S F i A X G T H W) : ∀ {L : List Nat}, (∀ x ∈ L, x ∈ T.od) → visC S (L.map (xa A X)) = (L.filter (vis G)).length
  | [], _ => rfl
  | x :: L, hL => by
    have ih := h.visc (L := L) (fun y hy => hL y (List.mem_cons_of_mem _ hy))
    obtain ⟨k, rfl, k1, k2⟩ := h.nd (hL x List.mem_cons_self)
    have s514 : mI S 514 (X.ad k) = stI (stk G k) := h 15 k k1 k2
    have sm : stI (stk G k) = -1 ↔ stk G k = none := stI_m1 (fun l hl9 => by have := (Gr.stk_lt h.gt.2.1 hl9).1; have := h.ok.hn; omega)
    rw [List.map_cons, visC, ih, List.filter_cons]
    show (if mI S 514 (X.ad k) = -1 then 1 else 0) + _ = _
    rw [s514]
    by_cases u : stk G k = none
    · have hv : vis G (k + 1) = true := decide_eq_true (by rw [Nat.add_sub_cancel]; exact u)
      rw [if_pos (sm.2 u), if_pos hv, List.length_cons, Nat.add_comm]
    · have hv : ¬ vis G (k + 1) = true := fun q => u (by have := of_decide_eq_true q; rw [Nat.add_sub_cancel] at this; exact this)
      rw [if_neg (fun q => u (sm.1 q)), if_neg hv, Nat.zero_add]
/-- the ranks behind rankByText -/
theorem GI.rnk (h : GI S F i A X G T H W) {S1 : MM} (hr : rkP S S1 (T.od.map (xa A X))) : GI S1 F i A X G T H W ∧ Keep (fun c => (F c).1 = i) S S1 ∧ (∀ k, k + 1 ∈ T.od → mI S1 515 (X.ad k) = nI (rkN G T (k + 1))) := by
  obtain ⟨μ, rfl, hF, hm⟩ := hr
  have h5 : ∀ b ∈ T.od.map (xa A X), isO S 5 b := fun b hb => by
    obtain ⟨x, hx, rfl⟩ := List.mem_map.1 hb
    exact h.x5 (Or.inr hx)
  refine ⟨h.rank hF h5, ⟨fun b hb => ⟨hb, rfl, rfl⟩, fun b hb hp => ⟨fun j => hF j b (fun z => ?_), fun _ => rfl, fun _ => rfl, rfl, rfl, rfl⟩, rfl, rfl⟩, fun k hk => ?_⟩
  · obtain ⟨x, hx, e⟩ := List.mem_map.1 z.2
    obtain ⟨l, rfl, l1, -⟩ := h.nd hx
    refine hp ?_
    rw [← e]
    show (F (X.ad l)).1 = i
    rw [(h 11 l l1).1]
  · obtain ⟨U, V, e⟩ := List.append_of_mem hk
    show μ 515 (X.ad k) = _
    rw [hm (U.map (xa A X)) (X.ad k) (V.map (xa A X)) (by rw [e, List.map_append, List.map_cons]; rfl), rkN_at h.gt.2.2.1.2.1 e, h.visc (fun x hx => by rw [e]; exact List.mem_append_left _ hx)]
end RVT
def EdOk (G : Gr) (T : Tr) (fi sz : Nat) : Prop := ((∀ k, k < sz → (G.ev (fi + k)).ch ≠ none) ∧ ∀ k k', k < k' → k' < sz → bfr T (fi + k + 1) (fi + k' + 1)) ∨ ∀ k, k < sz → (G.ev (fi + k)).ch = none
def UndR (p s fi sz : Nat) (G : Gr) (T : Tr) (G' : Gr) (T' : Tr) : Prop := ((G.ev fi).ch ≠ none ∧ UnD p s fi (fun k => rkN G T (fi + k + 1)) sz G T G' T') ∨ ((G.ev fi).ch = none ∧ Run p s (iaO G fi (fun k => rkN G T ((G.ev (fi + k)).tg + 1)) sz) G T G' T')
theorem cuN_del {G : Gr} {fi : Nat} : ∀ {n : Nat}, (∀ k, k < n → (G.ev (fi + k)).ch = none) → cuN G fi n = n
  | 0, _ => rfl
  | n + 1, h => by
    have hx9 : cuX G (fi + n) = true := decide_eq_true (Or.inl (h n (Nat.lt_succ_self n)))
    rw [cuN, if_pos hx9, cuN_del (fun k hk => h k (by omega))]
def rvQ (S S' : MM) (F : Nat → Nat × Nat) (i jo b r p s : Nat) (A : Nat → Nat) (X : GX) (G : Gr) (T : Tr) (a d c : Nat) (E : List (Nat × Nat)) (ea : Nat → Nat) (fi sz : Nat) : Prop := ∃ F' A' X' G' T' H' W', WrR S' F' i jo b r p A' X' G' T' H' W' ∧ mR S' 1102 b = some a ∧ EdL S' F' jo a d c E.dropLast ea ∧ (∀ c, c ∈ mL S → F' c = F c) ∧ Keep (fun c => (F c).1 = i ∨ jo3 jo (F c)) S S' ∧ UndR p s fi sz G T G' T' ∧ A' 0 = A 0 ∧ ∀ l, l < G.n → X'.ad l = X.ad l
def rvR (S : MM) (F : Nat → Nat × Nat) (i jo b r p s : Nat) (A : Nat → Nat) (X : GX) (G : Gr) (T : Tr) (H : List Nat) (W : Nat → Nat) (a d c : Nat) (E : List (Nat × Nat)) (ea : Nat → Nat) (e fi sz : Nat) : Prop :=
  WrR S F i jo b r p A X G T H W ∧ mR S 1102 b = some a ∧ EdL S F jo a d c E ea ∧ p < 256 ∧ OwSl G p s ∧ 1 ≤ E.length ∧ e = ea (E.length - 1) ∧ E[E.length - 1]? = some (fi, sz) ∧ 1 ≤ sz ∧ fi + sz ≤ G.n ∧ G.n + cuN G fi sz ≤ 8192 ∧ EdOk G T fi sz
theorem RnQ.pre {S S0 S1 : MM} {F F1 : Nat → Nat × Nat} {i jo b r p s : Nat} {A A1 : Nat → Nat} {X X1 : GX} {G G1 : Gr} {T T1 : Tr} {H1 : List Nat} {W1 : Nat → Nat} {a d c : Nat} {E : List (Nat × Nat)} {ea : Nat → Nat} {ops : List (Option Nat × Nat)} (h : RnQ S0 S1 F i jo b r p s A X G T a d c E ea ops F1 A1 X1 G1 T1 H1 W1) (hk : Keep (fun c => (F c).1 = i) S S0) : RnQ S S1 F i jo b r p s A X G T a d c E ea ops F1 A1 X1 G1 T1 H1 W1 := by
  obtain ⟨q1, q2, q3, q4, q5, q6⟩ := h
  exact ⟨q1, q2, q3, fun x hx => q4 x (hk.1 x hx).1, (hk.mono (fun _ _ z => Or.inl z)).tr q5, q6⟩
def I_rv (b : Nat) (F : Nat → Nat × Nat) (i jo r p s : Nat) (A : Nat → Nat) (X : GX) (G : Gr) (T : Tr) (a d c : Nat) (E : List (Nat × Nat)) (ea : Nat → Nat) (fi sz : Nat) (S : MM) (t : Nat) : KT := fun lo st S1 cs sl => t = 1 ∧ lo = [(0, .inr (.inr (some b)))] ∧ st = [] ∧ (∃ ops F' A' X' G' T' H' W', RnQ S S1 F i jo b r p s A X G T a d c E ea ops F' A' X' G' T' H' W' ∧ UndR p s fi sz G T G' T') ∧ cs ≤ runC G s (cuN G fi sz) ∧ sl ≤ runZ G s (cuN G fi sz)
def T_prv : TR := fun Rc Rs av S cs sl K _Kx => match av with
  | [.inr (.inr b_o), .inr (.inr e_o)] => pa b_o fun b => (pa e_o fun e => (∃ (F : Nat → Nat × Nat) (i jo r p s : Nat) (A : Nat → Nat) (X : GX) (G : Gr) (T : Tr) (H : List Nat) (W : Nat → Nat) (a d c : Nat) (E : List (Nat × Nat)) (ea : Nat → Nat) (fi sz : Nat), (rvR S F i jo b r p s A X G T H W a d c E ea e fi sz) ∧ cs + (runC G s (cuN G fi sz)) ≤ Rc ∧ sl + (runZ G s (cuN G fi sz)) ≤ Rs ∧ (∀ (S' : MM), (rvQ S S' F i jo b r p s A X G T a d c E ea fi sz) → K none S' (cs + (runC G s (cuN G fi sz))) (sl + (runZ G s (cuN G fi sz))))))
  | _ => False
def sp_prv (b : Nat) (e : Nat) (F : Nat → Nat × Nat) (i jo r p s : Nat) (A : Nat → Nat) (X : GX) (G : Gr) (T : Tr) (H : List Nat) (W : Nat → Nat) (a d c : Nat) (E : List (Nat × Nat)) (ea : Nat → Nat) (fi sz : Nat) : Sp := (fun av S => av = [.inr (.inr (some b)), .inr (.inr (some e))] ∧ (rvR S F i jo b r p s A X G T H W a d c E ea e fi sz), fun _ S => runC G s (cuN G fi sz), fun _ S => runZ G s (cuN G fi sz), fun _ S rv S' => rv = none ∧ (rvQ S S' F i jo b r p s A X G T a d c E ea fi sz), fun _ _ _ _ => False)
def tX10_revert : CD := [(0, .aload_n 0), (1, .getfield 12), (4, .invokevirtual 118), (7, .aload_n 0), (8, .getfield 12), (11, .getfield 70), (14, .aload_n 1), (15, .getfield 109), (18, .invokevirtual 92), (21, .checkcast 30), (24, .invokevirtual 112), (27, .ifCond .eq 11), (30, .aload_n 0), (31, .aload_n 1), (32, .invokevirtual 121), (35, .goto 8), (38, .aload_n 0), (39, .aload_n 1), (40, .invokevirtual 125), (43, .aload_n 0), (44, .getfield 21), (47, .aload_n 0), (48, .getfield 21), (51, .invokevirtual 73), (54, .iconst 1), (55, .isub), (56, .invokevirtual 128), (59, .pop), (60, .return_)]
set_option maxRecDepth 100000 in
theorem kX10_revert : chk cX10_revert tX10_revert = true := by decide +kernel
theorem vX10_revert_118 : ∀ w ∈ ([.methodLink RX10 118 yX5_rankByText, .instanceMethod yX5_rankByText, .selects yX5_rankByText.cls yX5_rankByText yX5_rankByText, .initialized yX5_rankByText.cls, .code yX5_rankByText cX5_rankByText 3 none] : List Cond), w ∈ lw_good := List.forall_mem_cons.mpr ⟨mgd 1123 (by decide +kernel) (by decide +kernel), List.forall_mem_cons.mpr ⟨mgd 1124 (by decide +kernel) (by decide +kernel), List.forall_mem_cons.mpr ⟨mgd 1125 (by decide +kernel) (by decide +kernel), List.forall_mem_cons.mpr ⟨mgd 125 (by decide +kernel) (by decide +kernel), List.forall_mem_cons.mpr ⟨mgd 1126 (by decide +kernel) (by decide +kernel), fun _ h => absurd h List.not_mem_nil⟩⟩⟩⟩⟩
theorem vX10_revert_92 : ∀ w ∈ ([.methodLink RX10 92 yJx4a65c_get_915e3, .instanceMethod yJx4a65c_get_915e3, .selects yJx4a65c_get_915e3.cls yJx4a65c_get_915e3 yJx4a65c_get_915e3, .initialized yJx4a65c_get_915e3.cls, .code yJx4a65c_get_915e3 cJx4a65c_get_915e3 2 (some (.object "java/lang/Object"))] : List Cond), w ∈ lw_good := List.forall_mem_cons.mpr ⟨mgd 873 (by decide +kernel) (by decide +kernel), List.forall_mem_cons.mpr ⟨mgd 677 (by decide +kernel) (by decide +kernel), List.forall_mem_cons.mpr ⟨mgd 678 (by decide +kernel) (by decide +kernel), List.forall_mem_cons.mpr ⟨mgd 130 (by decide +kernel) (by decide +kernel), List.forall_mem_cons.mpr ⟨mgd 679 (by decide +kernel) (by decide +kernel), fun _ h => absurd h List.not_mem_nil⟩⟩⟩⟩⟩
theorem vX10_revert_112 : ∀ w ∈ ([.methodLink RX10 112 yX4_inserts, .instanceMethod yX4_inserts, .selects yX4_inserts.cls yX4_inserts yX4_inserts, .initialized yX4_inserts.cls, .code yX4_inserts cX4_inserts 1 (some .boolean)] : List Cond), w ∈ lw_good := List.forall_mem_cons.mpr ⟨mgd 1117 (by decide +kernel) (by decide +kernel), List.forall_mem_cons.mpr ⟨mgd 691 (by decide +kernel) (by decide +kernel), List.forall_mem_cons.mpr ⟨mgd 692 (by decide +kernel) (by decide +kernel), List.forall_mem_cons.mpr ⟨mgd 126 (by decide +kernel) (by decide +kernel), List.forall_mem_cons.mpr ⟨mgd 693 (by decide +kernel) (by decide +kernel), fun _ h => absurd h List.not_mem_nil⟩⟩⟩⟩⟩
theorem vX10_revert_121 : ∀ w ∈ ([.methodLink RX10 121 yX10_deleteAgain, .instanceMethod yX10_deleteAgain, .selects yX10_deleteAgain.cls yX10_deleteAgain yX10_deleteAgain, .initialized yX10_deleteAgain.cls, .code yX10_deleteAgain cX10_deleteAgain 4 none] : List Cond), w ∈ lw_good := List.forall_mem_cons.mpr ⟨mgd 1127 (by decide +kernel) (by decide +kernel), List.forall_mem_cons.mpr ⟨mgd 1129 (by decide +kernel) (by decide +kernel), List.forall_mem_cons.mpr ⟨mgd 17 (by decide +kernel) (by decide +kernel), List.forall_mem_cons.mpr ⟨mgd 124 (by decide +kernel) (by decide +kernel), List.forall_mem_cons.mpr ⟨mgd 1130 (by decide +kernel) (by decide +kernel), fun _ h => absurd h List.not_mem_nil⟩⟩⟩⟩⟩
theorem vX10_revert_125 : ∀ w ∈ ([.methodLink RX10 125 yX10_insertAgain, .instanceMethod yX10_insertAgain, .selects yX10_insertAgain.cls yX10_insertAgain yX10_insertAgain, .initialized yX10_insertAgain.cls, .code yX10_insertAgain cX10_insertAgain 4 none] : List Cond), w ∈ lw_good := List.forall_mem_cons.mpr ⟨mgd 1131 (by decide +kernel) (by decide +kernel), List.forall_mem_cons.mpr ⟨mgd 1133 (by decide +kernel) (by decide +kernel), List.forall_mem_cons.mpr ⟨mgd 18 (by decide +kernel) (by decide +kernel), List.forall_mem_cons.mpr ⟨mgd 124 (by decide +kernel) (by decide +kernel), List.forall_mem_cons.mpr ⟨mgd 1134 (by decide +kernel) (by decide +kernel), fun _ h => absurd h List.not_mem_nil⟩⟩⟩⟩⟩
theorem vX10_revert_73 : ∀ w ∈ ([.methodLink RX10 73 yJx4a65c_size_8abf5, .instanceMethod yJx4a65c_size_8abf5, .selects yJx4a65c_size_8abf5.cls yJx4a65c_size_8abf5 yJx4a65c_size_8abf5, .initialized yJx4a65c_size_8abf5.cls, .code yJx4a65c_size_8abf5 cJx4a65c_size_8abf5 1 (some .int)] : List Cond), w ∈ lw_good := List.forall_mem_cons.mpr ⟨mgd 871 (by decide +kernel) (by decide +kernel), List.forall_mem_cons.mpr ⟨mgd 673 (by decide +kernel) (by decide +kernel), List.forall_mem_cons.mpr ⟨mgd 674 (by decide +kernel) (by decide +kernel), List.forall_mem_cons.mpr ⟨mgd 130 (by decide +kernel) (by decide +kernel), List.forall_mem_cons.mpr ⟨mgd 675 (by decide +kernel) (by decide +kernel), fun _ h => absurd h List.not_mem_nil⟩⟩⟩⟩⟩
theorem vX10_revert_128 : ∀ w ∈ ([.methodLink RX10 128 yJx4a65c_remove_915e3, .instanceMethod yJx4a65c_remove_915e3, .selects yJx4a65c_remove_915e3.cls yJx4a65c_remove_915e3 yJx4a65c_remove_915e3, .initialized yJx4a65c_remove_915e3.cls, .code yJx4a65c_remove_915e3 cJx4a65c_remove_915e3 4 (some (.object "java/lang/Object"))] : List Cond), w ∈ lw_good := List.forall_mem_cons.mpr ⟨mgd 1135 (by decide +kernel) (by decide +kernel), List.forall_mem_cons.mpr ⟨mgd 1016 (by decide +kernel) (by decide +kernel), List.forall_mem_cons.mpr ⟨mgd 1017 (by decide +kernel) (by decide +kernel), List.forall_mem_cons.mpr ⟨mgd 130 (by decide +kernel) (by decide +kernel), List.forall_mem_cons.mpr ⟨mgd 1018 (by decide +kernel) (by decide +kernel), fun _ h => absurd h List.not_mem_nil⟩⟩⟩⟩⟩
set_option maxRecDepth 100000 in
set_option maxHeartbeats 2000000 in
theorem c_prv (l : Launch) : ∀ (b : Nat) (e : Nat) (F : Nat → Nat × Nat) (i jo r p s : Nat) (A : Nat → Nat) (X : GX) (G : Gr) (T : Tr) (H : List Nat) (W : Nat → Nat) (a d c : Nat) (E : List (Nat × Nat)) (ea : Nat → Nat) (fi sz : Nat), Ct l yX10_revert cX10_revert 2 none 10 242 (sp_prv b e F i jo r p s A X G T H W a d c E ea fi sz) := by
  intro b e F i jo r p s A X G T H W a d c E ea fi sz
  refine Ct.of (fX10, nX10, aX10, iX10, lX10, [(118, 0, 1, 0, T_grk), (92, 0, 2, 3, T_alget), (112, 0, 1, 1, T_ins), (121, 0, 2, 0, T_pda), (125, 0, 2, 0, T_pia), (73, 0, 1, 1, T_alsz), (128, 0, 2, 3, T_alrm)], qX10, gX10, []) false tX10_revert (fun _ S => look [(43, ([0], I_rv b F i jo r p s A X G T a d c E ea fi sz S))]) (by decide) (by decide) kX10_revert ⟨_, _, rfl⟩ fX10_ok nX10_ok aX10_ok iX10_ok lX10_ok (fun p e R s m args below meth c Q D cy z r A C hR1 hR2 => List.forall_mem_cons.mpr ⟨cOK_use (fun _ _ _ _ _ _ _ _ h => let ⟨sp, h1, h2, h3⟩ := u_grk l _ _ _ _ _ _ _ _ h; ⟨sp, cOK_V C h1 vX10_revert_118 ⟨by decide, by decide, by decide +kernel⟩ ⟨by rw [hR1]; decide, by rw [hR2]; decide⟩ (k := 6) (T := TX5) (N := 12) rfl (by decide) h2, h3⟩), List.forall_mem_cons.mpr ⟨cOK_use (fun _ _ _ _ _ _ _ _ h => let ⟨sp, h1, h2, h3⟩ := u_alget l _ _ _ _ _ _ _ _ h; ⟨sp, cOK_V C h1 vX10_revert_92 ⟨by decide, by decide, by decide +kernel⟩ ⟨by rw [hR1]; decide, by rw [hR2]; decide⟩ (k := 0) (T := TJx4a65c) (N := 3) rfl (by decide) h2, h3⟩), List.forall_mem_cons.mpr ⟨cOK_use (fun _ _ _ _ _ _ _ _ h => let ⟨sp, h1, h2, h3⟩ := u_ins l _ _ _ _ _ _ _ _ h; ⟨sp, cOK_V C h1 vX10_revert_112 ⟨by decide, by decide, by decide +kernel⟩ ⟨by rw [hR1]; decide, by rw [hR2]; decide⟩ (k := 5) (T := TX4) (N := 16) rfl (by decide) h2, h3⟩), List.forall_mem_cons.mpr ⟨cOK_use (fun _ _ _ _ _ _ _ _ h => let ⟨sp, h1, h2, h3⟩ := u_pda l _ _ _ _ _ _ _ _ h; ⟨sp, cOK_V C h1 vX10_revert_121 ⟨by decide, by decide, by decide +kernel⟩ ⟨by rw [hR1]; decide, by rw [hR2]; decide⟩ (k := 11) (T := TX10) (N := 6) rfl (by decide) h2, h3⟩), List.forall_mem_cons.mpr ⟨cOK_use (fun _ _ _ _ _ _ _ _ h => let ⟨sp, h1, h2, h3⟩ := u_pia l _ _ _ _ _ _ _ _ h; ⟨sp, cOK_V C h1 vX10_revert_125 ⟨by decide, by decide, by decide +kernel⟩ ⟨by rw [hR1]; decide, by rw [hR2]; decide⟩ (k := 11) (T := TX10) (N := 6) rfl (by decide) h2, h3⟩), List.forall_mem_cons.mpr ⟨cOK_use (fun _ _ _ _ _ _ _ _ h => let ⟨sp, h1, h2, h3⟩ := u_alsz l _ _ _ _ _ _ _ _ h; ⟨sp, cOK_V C h1 vX10_revert_73 ⟨by decide, by decide, by decide +kernel⟩ ⟨by rw [hR1]; decide, by rw [hR2]; decide⟩ (k := 0) (T := TJx4a65c) (N := 3) rfl (by decide) h2, h3⟩), List.forall_mem_cons.mpr ⟨cOK_use (fun _ _ _ _ _ _ _ _ h => let ⟨sp, h1, h2, h3⟩ := u_alrm l _ _ _ _ _ _ _ _ h; ⟨sp, cOK_V C h1 vX10_revert_128 ⟨by decide, by decide, by decide +kernel⟩ ⟨by rw [hR1]; decide, by rw [hR2]; decide⟩ (k := 0) (T := TJx4a65c) (N := 3) rfl (by decide) h2, h3⟩), fun _ h => absurd h List.not_mem_nil⟩⟩⟩⟩⟩⟩⟩) qX10_ok gX10_ok rfl ?_ ?_
  · rintro _ S ⟨rfl, hp⟩
    refine ⟨Nat.le_of_ble_eq_true rfl, 300, ?_⟩
    show (isO S 11 b ∧ (0 = 0 ∧ ((pa (mR S 1101 b) fun a_1 => (∃ (rt_2 : Nat) (O_3 : List Nat), (GCh S a_1 rt_2 O_3 ∧ O_3.Nodup) ∧ 0 ≤ runC G s (cuN G fi sz) ∧ 0 ≤ runZ G s (cuN G fi sz) ∧ (∀ (S_4 : MM), (rkP S S_4 O_3) → (isO S_4 11 b ∧ (pa (mR S_4 1101 b) fun a_5 => isO S_4 6 a_5 ∧ (isO S_4 4 e ∧ (0 = 0 ∧ ((pa (mR S_4 601 a_5) fun a_6 => (∃ (i_7 : Nat), mI S_4 400 e = nI i_7 ∧ (∃ (d_8 c_9 kk_10 : Nat) (L_11 : List Nat), (AL S_4 a_6 d_8 c_9 kk_10 L_11 ∧ i_7 < L_11.length) ∧ 0 ≤ runC G s (cuN G fi sz) ∧ 0 ≤ runZ G s (cuN G fi sz) ∧ (((∀ w_13, (L_11[i_7]?) = some w_13 → isO S_4 5 w_13) ∧ (0 = 0 ∧ ((pa (L_11[i_7]?) fun a_14 => ((isO S_4 5 a_14) ∧ 0 ≤ runC G s (cuN G fi sz) ∧ 0 ≤ runZ G s (cuN G fi sz) ∧ ((((if mI S_4 505 a_14 = -1 then 0 else 1) = 0 → (0 = 0 ∧ (∃ (F_16 : Nat → Nat × Nat) (i_17 jo_18 r_19 p_20 s_21 : Nat) (A_22 : Nat → Nat) (X_23 : GX) (G_24 : Gr) (T_25 : Tr) (H_26 : List Nat) (W_27 : Nat → Nat) (a_28 d_29 c_30 : Nat) (E_31 : List (Nat × Nat)) (ea_32 : Nat → Nat) (l9_33 fi_34 sz_35 : Nat) (R_36 : Nat → Nat), (iaR S_4 F_16 i_17 jo_18 b r_19 p_20 s_21 A_22 X_23 G_24 T_25 H_26 W_27 a_28 d_29 c_30 E_31 ea_32 e l9_33 fi_34 sz_35 R_36) ∧ 0 + (runC G_24 s_21 sz_35) ≤ runC G s (cuN G fi sz) ∧ 0 + (runZ G_24 s_21 sz_35) ≤ runZ G s (cuN G fi sz) ∧ (∀ (S_37 : MM), (iaQ S_4 S_37 F_16 i_17 jo_18 b r_19 p_20 s_21 A_22 X_23 G_24 T_25 a_28 d_29 c_30 E_31 ea_32 fi_34 sz_35 R_36) → (∃ k1, I_rv b F i jo r p s A X G T a d c E ea fi sz S k1 [(0, .inr (.inr (some b)))] [] S_37 (0 + (runC G_24 s_21 sz_35)) (0 + (runZ G_24 s_21 sz_35))))))) ∧ (¬ (if mI S_4 505 a_14 = -1 then 0 else 1) = 0 → (0 = 0 ∧ (∃ (F_38 : Nat → Nat × Nat) (i_39 jo_40 r_41 p_42 s_43 : Nat) (A_44 : Nat → Nat) (X_45 : GX) (G_46 : Gr) (T_47 : Tr) (H_48 : List Nat) (W_49 : Nat → Nat) (a_50 d_51 c_52 : Nat) (E_53 : List (Nat × Nat)) (ea_54 : Nat → Nat) (l9_55 fi_56 sz_57 : Nat) (R_58 : Nat → Nat), (daR S_4 F_38 i_39 jo_40 b r_41 p_42 s_43 A_44 X_45 G_46 T_47 H_48 W_49 a_50 d_51 c_52 E_53 ea_54 e l9_55 fi_56 sz_57 R_58) ∧ 0 + (runC G_46 s_43 (cuN G_46 fi_56 sz_57)) ≤ runC G s (cuN G fi sz) ∧ 0 + (runZ G_46 s_43 (cuN G_46 fi_56 sz_57)) ≤ runZ G s (cuN G fi sz) ∧ (∀ (S_59 : MM), (daQ S_4 S_59 F_38 i_39 jo_40 b r_41 p_42 s_43 A_44 X_45 G_46 T_47 a_50 d_51 c_52 E_53 ea_54 fi_56 sz_57 R_58) → (∃ k1, I_rv b F i jo r p s A X G T a d c E ea fi sz S k1 [(0, .inr (.inr (some b)))] [] S_59 (0 + (runC G_46 s_43 (cuN G_46 fi_56 sz_57))) (0 + (runZ G_46 s_43 (cuN G_46 fi_56 sz_57))))))))))))))))))))))))))))))
    obtain ⟨hW, h1, hE, h2, h3, h4, rfl, h5, h6, h7, h8, h9⟩ := hp
    obtain ⟨w1, w2, w3, w4, w5, w6, w7, w8, wG, wF, wi, wj, wj0⟩ := id hW
    refine ⟨w1, rfl, pa_i w4 ⟨A 1, T.od.map (xa A X), ⟨wG.gch, wG.ndp⟩, Nat.zero_le _, Nat.zero_le _, fun S4 hS4 => ?_⟩⟩
    obtain ⟨g1, g2, g3⟩ := wG.rnk hS4
    have nP : ∀ {x rl : Nat}, F x = (jo, rl) → ¬ (F x).1 = i := fun hx w => wj (by rw [hx] at w; exact w)
    have kb := g2.2.1 b w1.1 (nP w2)
    have hW4 : WrR S4 F i jo b r p A X G T H W := ⟨g2.isO w1, w2, (kb.1 1100).trans w3, (kb.2.1 1101).trans w4, (kb.2.1 1104).trans w5, g2.isO w6, (g2.1 r w6.1).2.2.trans w7, w8, g1, fun c hc => (g2.1 c (wF c hc)).1, wi, wj, wj0⟩
    have hE4 : EdL S4 F jo a d c E ea := hE.keep g2 (nP hE.2.1) (fun q => nP (hE.2.2.1 q)) (fun l hl => nP (hE.2.2.2 l hl).2.1) (fun _ _ => rfl)
    have h14 : mR S4 1102 b = some a := (kb.2.1 1102).trans h1
    obtain ⟨e1, e2, e3, e4⟩ := hE4.at h5
    have gn := wG.ok.hn
    have hl : fi < G.n := by omega
    have el : ((List.range G.n).map X.ad).length = G.n := by rw [List.length_map, List.length_range]
    have e5 : ((List.range G.n).map X.ad)[fi]? = some (X.ad fi) := by
      rw [List.getElem?_map, List.getElem?_range hl]; rfl
    have v0 := g1.ev.2.1 fi hl
    have cm : chI (G.ev fi).ch = -1 ↔ (G.ev fi).ch = none := chI_m1 (wG.gt.2.1 _ hl).1
    have c505 : mI S4 505 (X.ad fi) = chI (G.ev fi).ch := v0.2.2.2.2.2.2.2.2.2.2.2.2.1
    have nd := wG.gt.2.2.1.2.1
    have inT : ∀ k, k < G.n → (G.ev k).ch ≠ none → k + 1 ∈ T.od := fun k hk hc => (wG.gt.2.2.2.1 _).2 ⟨k, rfl, hk, hc⟩
    refine ⟨g2.isO w1, pa_i hW4.2.2.2.1 ⟨(g1 0).1, e1, rfl, pa_i (g1 2).1 ⟨fi, e3, A 3, capF G.n, 5, _, ⟨(g1 2).2.2.2, by rw [el]; exact hl⟩, Nat.zero_le _, Nat.zero_le _, ?_⟩⟩⟩
    rw [e5]
    refine ⟨(fun w hw => by cases hw; exact v0.1), rfl, v0.1, Nat.zero_le _, Nat.zero_le _, fun z => ?_, fun z => ?_⟩
    · have hc : (G.ev fi).ch = none := by
        by_cases u : chI (G.ev fi).ch = -1
        · exact cm.1 u
        · rw [c505, if_neg u] at z; exact absurd z (by decide)
      have hall : ∀ k, k < sz → (G.ev (fi + k)).ch = none := by
        rcases h9 with q | q
        · exact absurd hc (q.1 0 (by omega))
        · exact q
      have cu := cuN_del hall
      rw [cu] at h8 ⊢
      refine ⟨rfl, F, i, jo, r, p, s, A, X, G, T, H, W, a, d, c, E, ea, E.length - 1, fi, sz, (fun k => rkN G T ((G.ev (fi + k)).tg + 1)), ⟨hW4, h14, hE4, h2, h3, rfl, h5, h7, h8, fun k hk => ?_⟩, by omega, by omega, fun S5 hS5 => ?_⟩
      · have hl9 : fi + k < G.n := by omega
        obtain ⟨t1, t2⟩ := (wG.gt.2.1 _ hl9).2 (hall k hk)
        have ht := inT (G.ev (fi + k)).tg (by omega) t2
        exact ⟨hall k hk, g3 _ ht, (rkN_le nd ht).1⟩
      · obtain ⟨F', A', X', G', T', H', W', hQ⟩ := hS5
        exact ⟨1, rfl, rfl, rfl, ⟨_, F', A', X', G', T', H', W', hQ.pre g2, Or.inr ⟨hc, hQ.2.2.2.2.2.1⟩⟩, by rw [cu]; omega, by rw [cu]; omega⟩
    · have hc : (G.ev fi).ch ≠ none := fun w => z (by rw [c505, if_pos (cm.2 w)])
      have hall : (∀ k, k < sz → (G.ev (fi + k)).ch ≠ none) ∧ ∀ k k', k < k' → k' < sz → bfr T (fi + k + 1) (fi + k' + 1) := by
        rcases h9 with q | q
        · exact q
        · exact absurd (q 0 (by omega)) hc
      refine ⟨rfl, F, i, jo, r, p, s, A, X, G, T, H, W, a, d, c, E, ea, E.length - 1, fi, sz, (fun k => rkN G T (fi + k + 1)), ⟨hW4, h14, hE4, h2, h3, rfl, h5, h7, h8, fun k hk => ⟨hall.1 k hk, fun hv => ?_⟩, fun k k' q1 q2 q3 _ => rkN_lt nd (hall.2 k k' q1 q2) q3⟩, by omega, by omega, fun S5 hS5 => ?_⟩
      · have ht := inT (fi + k) (by omega) (hall.1 k hk)
        exact ⟨g3 _ ht, (rkN_le nd ht).2 hv⟩
      · obtain ⟨ops, F', A', X', G', T', H', W', hQ, hU⟩ := hS5
        exact ⟨1, rfl, rfl, rfl, ⟨ops, F', A', X', G', T', H', W', hQ.pre g2, Or.inl ⟨hc, hU⟩⟩, by omega, by omega⟩
  · intro av S hpre pc I hI k lo st S1 cs sl h
    obtain ⟨rfl, hp⟩ := hpre
    have hm := look_in hI
    rw [List.mem_singleton] at hm
    cases hm
    obtain ⟨rfl, rfl, rfl, hQ, hcs, hsl⟩ := h
    refine ⟨300, ?_⟩
    show (isO S1 11 b ∧ (isO S1 11 b ∧ (0 = 0 ∧ ((pa (mR S1 1102 b) fun a_1 => (∃ (d_2 c_3 kk_4 : Nat) (L_5 : List Nat), (AL S1 a_1 d_2 c_3 kk_4 L_5) ∧ cs ≤ runC G s (cuN G fi sz) ∧ sl ≤ runZ G s (cuN G fi sz) ∧ ((0 = 0 ∧ ((pa (mR S1 1102 b) fun a_7 => (∃ (i_8 : Nat), (nI L_5.length) - (1 : Int32) = nI i_8 ∧ (∃ (d_9 c_10 kk_11 : Nat) (L_12 : List Nat), (AL S1 a_7 d_9 c_10 kk_11 L_12 ∧ i_8 < L_12.length) ∧ cs ≤ runC G s (cuN G fi sz) ∧ sl ≤ runZ G s (cuN G fi sz) ∧ (∀ (S_13 : MM), (rmP S1 S_13 a_7 d_9 c_10 kk_11 (L_12.take i_8 ++ L_12.drop (i_8 + 1))) → (([] : List MV) = [] ∧ mret none (sp_prv b e F i jo r p s A X G T H W a d c E ea fi sz) [.inr (.inr (some b)), .inr (.inr (some e))] S none S_13 cs sl))))))))))))))
    obtain ⟨hW, h1, hE, h2, h3, h4, rfl, h5, h6, h7, h8, h9⟩ := hp
    obtain ⟨ops, F1, A1, X1, G1, T1, H1, W1, hQ, hU⟩ := hQ
    obtain ⟨q1, q2, q3, q4, q5, q6, q7, q8, q9, q10, q11⟩ := id hQ
    obtain ⟨w1, w2, w3, w4, w5, w6, w7, w8, wG, wF, wi, wj, wj0⟩ := id q1
    have len : ((List.range E.length).map ea).length = E.length := by rw [List.length_map, List.length_range]
    refine ⟨w1, w1, rfl, pa_i q2 ⟨d, c, 4, _, q3.1, hcs, hsl, rfl, pa_i q2 ⟨E.length - 1, by rw [len]; exact pk_sub (b := 1) h4, d, c, 4, _, ⟨q3.1, by rw [len]; omega⟩, hcs, hsl, fun S2 hS2 => ?_⟩⟩⟩
    obtain ⟨r1, r2⟩ := hS2
    have e1 : ((List.range E.length).map ea).take (E.length - 1) ++ ((List.range E.length).map ea).drop (E.length - 1 + 1) = (List.range E.dropLast.length).map ea := by
      rw [List.length_dropLast, show E.length - 1 + 1 = E.length by omega, List.drop_eq_nil_of_le (by rw [len]; exact Nat.le_refl _), List.append_nil, ← List.map_take, List.take_range, Nat.min_eq_left (by omega)]
    rw [e1] at r1
    have nA : ∀ {x : Nat}, x ∈ mL S1 → F1 x ≠ (jo, 2) → F1 x ≠ (jo, 3) → ¬ AP S1 a d c x := fun hx n2 n3 z => by
      rcases z with z | ⟨z, z1, -⟩
      · exact n2 (z ▸ q3.2.1)
      · exact n3 (z ▸ q3.2.2.1 z1)
    have nj : ∀ {x rl : Nat}, F1 x = (jo, rl) → ∀ n, rl ≠ n → F1 x ≠ (jo, n) := fun hx n hn z => by
      rw [hx] at z
      injection z with _ z
      exact hn z
    have kb := r2.2.1 b w1.1 (nA w1.1 (nj w2 2 (by decide)) (nj w2 3 (by decide)))
    have gI : ∀ x, (F1 x).1 = i → ¬ AP S1 a d c x := fun x hx z => by
      rcases z with z | ⟨z, z1, -⟩
      · rw [z, q3.2.1] at hx; exact wj hx
      · rw [z, q3.2.2.1 z1] at hx; exact wj hx
    have g2 : GI S2 F1 i A1 X1 G1 T1 H1 W1 := wG.keep r2 gI wF wi (fun _ _ => rfl)
    refine ⟨rfl, trivial, ⟨rfl, F1, A1, X1, G1, T1, H1, W1, ⟨r2.isO w1, w2, (kb.1 1100).trans w3, (kb.2.1 1101).trans w4, (kb.2.1 1104).trans w5, r2.isO w6, (r2.1 r w6.1).2.2.trans w7, w8, g2, fun x hx => (r2.1 x (wF x hx)).1, wi, wj, wj0⟩, (kb.2.1 1102).trans q2, ⟨r1, q3.2.1, q3.2.2.1, fun l hl => ?_⟩, q4, ?_, hU, q7, q8⟩, hcs, hsl⟩
    · rw [List.length_dropLast] at hl
      obtain ⟨v1, v2, v3, v4⟩ := q3.2.2.2 l (by omega)
      have kl := r2.2.1 _ v1.1 (nA v1.1 (nj v2 2 (by omega)) (nj v2 3 (by omega)))
      have eg : E.dropLast.getD l (0, 0) = E.getD l (0, 0) := by
        rw [List.getD_eq_getElem?_getD, List.getD_eq_getElem?_getD, List.getElem?_dropLast, if_pos hl]
      rw [eg]
      exact ⟨r2.isO v1, v2, (kl.1 400).trans v3, (kl.1 401).trans v4⟩
    · have r8 := hW.2.2.2.2.2.2.2.1
      refine (q5.mono (Q := fun c => (F c).1 = i ∨ jo3 jo (F c)) (fun x _ w => w.imp id (fun v => by rw [v, r8]; exact Or.inr (Or.inr rfl)))).trN r2 (fun x hx w => Or.inr ?_)
      rw [← q4 x hx]
      rcases w with w | ⟨w, w1, -⟩
      · exact Or.inl (by rw [w, q3.2.1])
      · exact Or.inr (Or.inl (by rw [w, q3.2.2.1 w1]))
theorem u_prv (l : Launch) : Us l yX10_revert cX10_revert 2 none 10 242 11 T_prv := by
  intro Rc Rs av S cs sl K Kx h
  unfold T_prv at h
  split at h
  · rename_i b_o e_o
    obtain ⟨b, rfl, h_1⟩ := pa_of h
    obtain ⟨e, rfl, h_2⟩ := pa_of h_1
    obtain ⟨F, i, jo, r, p, s, A, X, G, T, H, W, a, d, c, E, ea, fi, sz, hp, hc, hs, hk⟩ := h_2
    refine ⟨(sp_prv b e F i jo r p s A X G T H W a d c E ea fi sz), c_prv l b e F i jo r p s A X G T H W a d c E ea fi sz, fun _ _ h9 => ⟨_, _, h9.1, h9.2.1.1⟩, ⟨rfl, hp⟩, hc, hs, fun S' h8 => by
      obtain ⟨-, h8⟩ := h8
      exact hk _ h8, fun _ _ q => q.elim⟩
  · exact h.elim
