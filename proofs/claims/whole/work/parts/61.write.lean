/-! ===== Peer.write ===== -/
/-- what an own event of agent p must be: its character, its index, its slot -/
def OwP (G : Gr) (T : Tr) (p : Nat) (oc : Option Nat) (ix s : Nat) : Prop := G.n < 8192 ∧ p < 256 ∧ ((s < G.m ∧ G.ag s = p) ∨ (s = G.m ∧ G.m < 16 ∧ ∀ t, t < G.m → G.ag t ≠ p)) ∧ (∀ c, oc = some c → c < 2000000 ∧ ix ≤ visN G T) ∧ (oc = none → ix < visN G T)
section OWN
variable {S S' : MM} {F : Nat → Nat × Nat} {i : Nat} {A : Nat → Nat} {X : GX} {G : Gr} {T : Tr} {H : List Nat} {W : Nat → Nat}
theorem gt_vc (h : GT G T) : c1 G G.cn G.n = visN G T := by
  rw [h.c1, visN]
  refine congrArg List.length (List.filter_congr (fun x hx => ?_))
  obtain ⟨k, rfl, k1, -⟩ := (h.2.2.2.1 x).1 hx
  exact vis_sn h.1 k1
theorem OwP.enp {p : Nat} {oc : Option Nat} {ix s : Nat} (h : OwP G T p oc ix s) (hg : GT G T) (hd : HdS G H) : EnP G p H oc ix s := by
  obtain ⟨h1, h2, h3, h4, h5⟩ := h
  have hl := hd.len hg.1
  have hm := hg.1.hm
  have hj := hd.jn hg.1
  refine ⟨h1, h2, by omega, ?_, fun q hq => ((hd.1 q).1 hq).1, fun a b ha hb => ((hd.1 a).1 ha).2 b ((hd.1 b).1 hb).1, h3, by rw [hj], fun c q => ⟨(h4 c q).1, by rw [hj, (gt_vc hg)]; exact (h4 c q).2⟩, fun q => by rw [hj, (gt_vc hg)]; exact h5 q⟩
  exact hd.2.imp (fun {a b} q e => by subst e; omega)
end OWN
/-- a peer b of number p with its graph and its row r of parents -/
def WrR (S : MM) (F : Nat → Nat × Nat) (i jo b r p : Nat) (A : Nat → Nat) (X : GX) (G : Gr) (T : Tr) (H : List Nat) (W : Nat → Nat) : Prop := isO S 11 b ∧ F b = (jo, 1) ∧ mI S 1100 b = nI p ∧ mR S 1101 b = some (A 0) ∧ mR S 1104 b = some r ∧ isO S 23 r ∧ mN S r = 16 ∧ F r = (jo, 5) ∧ GI S F i A X G T H W ∧ FO S F ∧ i ≠ 0 ∧ jo ≠ i ∧ jo ≠ 0
def wrQ (S S' : MM) (F : Nat → Nat × Nat) (i r : Nat) (A : Nat → Nat) (X : GX) (G : Gr) (T : Tr) (H : List Nat) (p : Nat) (oc : Option Nat) (ix s : Nat) : Prop := ∃ F' A' X' G' T' H' W', GI S' F' i A' X' G' T' H' W' ∧ FO S' F' ∧ (∀ b, b ∈ mL S → F' b = F b) ∧ Keep (fun b => (F b).1 = i ∨ b = r) S S' ∧ StpE G T p H oc ix s G' T' ∧ A' 0 = A 0 ∧ (∀ k, k < G.n → X'.ad k = X.ad k) ∧ KRk S S'
def I_wr (b : Nat) (ch : Int32) (ix r : Nat) (X : GX) (H : List Nat) (S : MM) (t : Nat) : KT := fun lo st S1 cs sl => ∃ j f, j + t = H.length ∧ lo = [(4, .inl (nI j)), (3, .inl (nI H.length)), (0, .inr (.inr (some b))), (1, .inl ch), (2, .inl (nI ix))] ∧ st = [] ∧ S1 = rR S r f ∧ (∀ l, l < j → f l = some (X.ad (H.getD l 0))) ∧ cs = 0 ∧ sl = 0
def T_pwr : TR := fun Rc Rs av S cs sl K _Kx => match av with
  | [.inr (.inr b_o), .inl ch, .inl ix_v] => pa b_o fun b => (∃ (ix : Nat), ix_v = nI ix ∧ (∃ (F : Nat → Nat × Nat) (i jo r p : Nat) (A : Nat → Nat) (X : GX) (G : Gr) (T : Tr) (H : List Nat) (W : Nat → Nat) (oc : Option Nat) (s : Nat), (WrR S F i jo b r p A X G T H W ∧ OwP G T p oc ix s ∧ ch = chI oc) ∧ cs + (enC G s) ≤ Rc ∧ sl + (enZ G s) ≤ Rs ∧ (∀ (S' : MM), (wrQ S S' F i r A X G T H p oc ix s) → K none S' (cs + (enC G s)) (sl + (enZ G s)))))
  | _ => False
def sp_pwr (b : Nat) (ch : Int32) (ix : Nat) (F : Nat → Nat × Nat) (i jo r p : Nat) (A : Nat → Nat) (X : GX) (G : Gr) (T : Tr) (H : List Nat) (W : Nat → Nat) (oc : Option Nat) (s : Nat) : Sp := (fun av S => av = [.inr (.inr (some b)), .inl ch, .inl (nI ix)] ∧ (WrR S F i jo b r p A X G T H W ∧ OwP G T p oc ix s ∧ ch = chI oc), fun _ S => enC G s, fun _ S => enZ G s, fun _ S rv S' => rv = none ∧ (wrQ S S' F i r A X G T H p oc ix s), fun _ _ _ _ => False)
def tX10_write : CD := [(0, .bipush 16), (2, .aload_n 0), (3, .getfield 12), (6, .getfield 83), (9, .invokevirtual 73), (12, .invokestatic 86), (15, .istore_n 3), (16, .iconst 0), (17, .istore 4), (19, .iload 4), (21, .iload_n 3), (22, .if_icmp .ge 31), (25, .aload_n 0), (26, .getfield 32), (29, .iload 4), (31, .aload_n 0), (32, .getfield 12), (35, .getfield 83), (38, .iload 4), (40, .invokevirtual 92), (43, .checkcast 30), (46, .aastore), (47, .iinc 4 1), (50, .goto (-31)), (53, .aload_n 0), (54, .getfield 12), (57, .invokevirtual 96), (60, .aload_n 0), (61, .getfield 12), (64, .aload_n 0), (65, .getfield 43), (68, .aload_n 0), (69, .getfield 32), (72, .iload_n 3), (73, .iload_n 1), (74, .iload_n 2), (75, .invokevirtual 99), (78, .return_)]
set_option maxRecDepth 100000 in
theorem kX10_write : chk cX10_write tX10_write = true := by decide +kernel
theorem vX10_write_73 : ∀ w ∈ ([.methodLink RX10 73 yJx4a65c_size_8abf5, .instanceMethod yJx4a65c_size_8abf5, .selects yJx4a65c_size_8abf5.cls yJx4a65c_size_8abf5 yJx4a65c_size_8abf5, .initialized yJx4a65c_size_8abf5.cls, .code yJx4a65c_size_8abf5 cJx4a65c_size_8abf5 1 (some .int)] : List Cond), w ∈ lw_good := List.forall_mem_cons.mpr ⟨mgd 871 (by decide +kernel) (by decide +kernel), List.forall_mem_cons.mpr ⟨mgd 673 (by decide +kernel) (by decide +kernel), List.forall_mem_cons.mpr ⟨mgd 674 (by decide +kernel) (by decide +kernel), List.forall_mem_cons.mpr ⟨mgd 130 (by decide +kernel) (by decide +kernel), List.forall_mem_cons.mpr ⟨mgd 675 (by decide +kernel) (by decide +kernel), fun _ h => absurd h List.not_mem_nil⟩⟩⟩⟩⟩
theorem vX10_write_86 : ∀ w ∈ ([.methodLink RX10 86 Lib.Math.min.name, .static Lib.Math.min.name, .initialized "java/lang/Math", .code Lib.Math.min.name Lib.Math.min.code 2 (some .int)] : List Cond), w ∈ lw_good := List.forall_mem_cons.mpr ⟨mgd 872 (by decide +kernel) (by decide +kernel), List.forall_mem_cons.mpr ⟨mgd 777 (by decide +kernel) (by decide +kernel), List.forall_mem_cons.mpr ⟨mgd 143 (by decide +kernel) (by decide +kernel), List.forall_mem_cons.mpr ⟨mgd 778 (by decide +kernel) (by decide +kernel), fun _ h => absurd h List.not_mem_nil⟩⟩⟩⟩
theorem vX10_write_92 : ∀ w ∈ ([.methodLink RX10 92 yJx4a65c_get_915e3, .instanceMethod yJx4a65c_get_915e3, .selects yJx4a65c_get_915e3.cls yJx4a65c_get_915e3 yJx4a65c_get_915e3, .initialized yJx4a65c_get_915e3.cls, .code yJx4a65c_get_915e3 cJx4a65c_get_915e3 2 (some (.object "java/lang/Object"))] : List Cond), w ∈ lw_good := List.forall_mem_cons.mpr ⟨mgd 873 (by decide +kernel) (by decide +kernel), List.forall_mem_cons.mpr ⟨mgd 677 (by decide +kernel) (by decide +kernel), List.forall_mem_cons.mpr ⟨mgd 678 (by decide +kernel) (by decide +kernel), List.forall_mem_cons.mpr ⟨mgd 130 (by decide +kernel) (by decide +kernel), List.forall_mem_cons.mpr ⟨mgd 679 (by decide +kernel) (by decide +kernel), fun _ h => absurd h List.not_mem_nil⟩⟩⟩⟩⟩
theorem vX10_write_96 : ∀ w ∈ ([.methodLink RX10 96 yX5_showAll, .instanceMethod yX5_showAll, .selects yX5_showAll.cls yX5_showAll yX5_showAll, .initialized yX5_showAll.cls, .code yX5_showAll cX5_showAll 2 none] : List Cond), w ∈ lw_good := List.forall_mem_cons.mpr ⟨mgd 874 (by decide +kernel) (by decide +kernel), List.forall_mem_cons.mpr ⟨mgd 875 (by decide +kernel) (by decide +kernel), List.forall_mem_cons.mpr ⟨mgd 876 (by decide +kernel) (by decide +kernel), List.forall_mem_cons.mpr ⟨mgd 125 (by decide +kernel) (by decide +kernel), List.forall_mem_cons.mpr ⟨mgd 877 (by decide +kernel) (by decide +kernel), fun _ h => absurd h List.not_mem_nil⟩⟩⟩⟩⟩
theorem vX10_write_99 : ∀ w ∈ ([.methodLink RX10 99 yX5_enter, .instanceMethod yX5_enter, .selects yX5_enter.cls yX5_enter yX5_enter, .initialized yX5_enter.cls, .code yX5_enter cX5_enter 11 none] : List Cond), w ∈ lw_good := List.forall_mem_cons.mpr ⟨mgd 898 (by decide +kernel) (by decide +kernel), List.forall_mem_cons.mpr ⟨mgd 899 (by decide +kernel) (by decide +kernel), List.forall_mem_cons.mpr ⟨mgd 900 (by decide +kernel) (by decide +kernel), List.forall_mem_cons.mpr ⟨mgd 125 (by decide +kernel) (by decide +kernel), List.forall_mem_cons.mpr ⟨mgd 901 (by decide +kernel) (by decide +kernel), fun _ h => absurd h List.not_mem_nil⟩⟩⟩⟩⟩
set_option maxRecDepth 100000 in
set_option maxHeartbeats 2000000 in
theorem c_pwr (l : Launch) : ∀ (b : Nat) (ch : Int32) (ix : Nat) (F : Nat → Nat × Nat) (i jo r p : Nat) (A : Nat → Nat) (X : GX) (G : Gr) (T : Tr) (H : List Nat) (W : Nat → Nat) (oc : Option Nat) (s : Nat), Ct l yX10_write cX10_write 5 none 8 195 (sp_pwr b ch ix F i jo r p A X G T H W oc s) := by
  intro b ch ix F i jo r p A X G T H W oc s
  refine Ct.of (fX10, nX10, aX10, iX10, lX10, [(73, 0, 1, 1, T_alsz), (86, 2, 2, 1, T_min), (92, 0, 2, 3, T_alget), (96, 0, 1, 0, T_gsa), (99, 0, 6, 0, T_gen)], qX10, gX10, []) false tX10_write (fun _ S => look [(19, ([4,3,0,1,2], I_wr b ch ix r X H S))]) (by decide) (by decide) kX10_write ⟨_, _, rfl⟩ fX10_ok nX10_ok aX10_ok iX10_ok lX10_ok (fun p e R s m args below meth c Q D cy z r A C hR1 hR2 => List.forall_mem_cons.mpr ⟨cOK_use (fun _ _ _ _ _ _ _ _ h => let ⟨sp, h1, h2, h3⟩ := u_alsz l _ _ _ _ _ _ _ _ h; ⟨sp, cOK_V C h1 vX10_write_73 ⟨by decide, by decide, by decide +kernel⟩ ⟨by rw [hR1]; decide, by rw [hR2]; decide⟩ (k := 0) (T := TJx4a65c) (N := 3) rfl (by decide) h2, h3⟩), List.forall_mem_cons.mpr ⟨cOK_use (fun _ _ _ _ _ _ _ _ h => ⟨sp_min, cOK_min C vX10_write_86 ⟨by rw [hR1]; decide, by rw [hR2]; decide⟩, T_min_ok h⟩), List.forall_mem_cons.mpr ⟨cOK_use (fun _ _ _ _ _ _ _ _ h => let ⟨sp, h1, h2, h3⟩ := u_alget l _ _ _ _ _ _ _ _ h; ⟨sp, cOK_V C h1 vX10_write_92 ⟨by decide, by decide, by decide +kernel⟩ ⟨by rw [hR1]; decide, by rw [hR2]; decide⟩ (k := 0) (T := TJx4a65c) (N := 3) rfl (by decide) h2, h3⟩), List.forall_mem_cons.mpr ⟨cOK_use (fun _ _ _ _ _ _ _ _ h => let ⟨sp, h1, h2, h3⟩ := u_gsa l _ _ _ _ _ _ _ _ h; ⟨sp, cOK_V C h1 vX10_write_96 ⟨by decide, by decide, by decide +kernel⟩ ⟨by rw [hR1]; decide, by rw [hR2]; decide⟩ (k := 6) (T := TX5) (N := 12) rfl (by decide) h2, h3⟩), List.forall_mem_cons.mpr ⟨cOK_use (fun _ _ _ _ _ _ _ _ h => let ⟨sp, h1, h2, h3⟩ := u_gen l _ _ _ _ _ _ _ _ h; ⟨sp, cOK_V C h1 vX10_write_99 ⟨by decide, by decide, by decide +kernel⟩ ⟨by rw [hR1]; decide, by rw [hR2]; decide⟩ (k := 6) (T := TX5) (N := 12) rfl (by decide) h2, h3⟩), fun _ h => absurd h List.not_mem_nil⟩⟩⟩⟩⟩) qX10_ok gX10_ok rfl ?_ ?_
  · rintro _ S ⟨rfl, hp⟩
    refine ⟨Nat.le_of_ble_eq_true rfl, 300, ?_⟩
    show (isO S 11 b ∧ (pa (mR S 1101 b) fun a_1 => isO S 6 a_1 ∧ (0 = 0 ∧ ((pa (mR S 604 a_1) fun a_2 => (∃ (d_3 c_4 kk_5 : Nat) (L_6 : List Nat), (AL S a_2 d_3 c_4 kk_5 L_6) ∧ 0 ≤ enC G s ∧ 0 ≤ enZ G s ∧ ((2 = 2 ∧ (True ∧ 0 ≤ enC G s ∧ 0 ≤ enZ G s ∧ ((∃ k1, I_wr b ch ix r X H S k1 [(4, .inl (0 : Int32)), (3, .inl (imin (16 : Int32) (nI L_6.length))), (0, .inr (.inr (some b))), (1, .inl ch), (2, .inl (nI ix))] [] S 0 0)))))))))))
    obtain ⟨⟨h1, h2, h3, h4, h5, h6, h7, h8, hG, hF, hi, hj, hj0⟩, hO, rfl⟩ := hp
    have hd : HdS G H := hG 20
    have hl := hd.len hG.ok
    have hm := hG.ok.hm
    have q5 := hG 5
    have lm : (H.map X.ad).length = H.length := List.length_map ..
    refine ⟨h1, pa_i h4 ⟨(hG 0).1, rfl, pa_i q5.1 ⟨A 6, A 7, 5, H.map X.ad, q5.2.2.2.1, Nat.zero_le _, Nat.zero_le _, rfl, trivial, Nat.zero_le _, Nat.zero_le _, H.length, 0, eR S r, by omega, ?_, rfl, ?_, fun l hl => absurd hl (Nat.not_lt_zero _), rfl, rfl⟩⟩⟩
    · have : imin 16 (nI (H.map X.ad).length) = nI H.length := by
        rw [lm]
        unfold imin
        by_cases z : H.length = 16
        · rw [z]; decide
        · exact if_pos ((nI_ltI (a := H.length) (b := 16) (by omega) (by decide)).2 (by omega))
      rw [this]; rfl
    · exact (rR_id rfl).symm
  · intro av S hpre pc I hI k lo st S1 cs sl h
    obtain ⟨rfl, hp⟩ := hpre
    have hm := look_in hI
    rw [List.mem_singleton] at hm
    cases hm
    obtain ⟨j, f, hjt, rfl, rfl, rfl, hf, rfl, rfl⟩ := h
    refine ⟨300, ?_⟩
    show (((nI H.length) ≤ (nI j) → (isO (rR S r f) 11 b ∧ (0 = 0 ∧ ((pa (mR (rR S r f) 1101 b) fun a_1 => (∃ (rt_2 tk_3 d_4 c_5 sh_6 wa_7 ho_8 he_9 ht_10 : Nat) (X_11 : GX) (G_12 : Gr) (W0_13 : Nat → Nat) (H_14 : List Nat), (ShP (rR S r f) X_11 G_12 a_1 rt_2 tk_3 d_4 c_5 sh_6 wa_7 W0_13 ∧ mR (rR S r f) 604 a_1 = some ho_8 ∧ AL (rR S r f) ho_8 he_9 ht_10 5 (H_14.map X_11.ad) ∧ (∀ y, y ∈ H_14 → y < G_12.n) ∧ mI (rR S r f) 603 a_1 = nI G_12.m) ∧ 0 ≤ enC G s ∧ 0 ≤ enZ G s ∧ (∀ (S_15 : MM), (saP (rR S r f) S_15 X_11 G_12 a_1 rt_2 sh_6 wa_7 W0_13 H_14) → (isO S_15 11 b ∧ (isO S_15 11 b ∧ (isO S_15 11 b ∧ (0 = 0 ∧ ((pa (mR S_15 1101 b) fun a_16 => ((pa (mR S_15 1104 b) fun a_17 => (∃ (a_18 : Nat), mI S_15 1100 b = nI a_18 ∧ (∃ (n_19 : Nat), nI H.length = nI n_19 ∧ (∃ (ix_20 : Nat), nI ix = nI ix_20 ∧ (∃ (F_21 : Nat → Nat × Nat) (i_22 : Nat) (A_23 : Nat → Nat) (X_24 : GX) (G_25 : Gr) (T_26 : Tr) (H_27 : List Nat) (W_28 : Nat → Nat) (P_29 : List Nat) (oc_30 : Option Nat) (s_31 : Nat), (a_16 = A_23 0 ∧ enR S_15 F_21 i_22 A_23 X_24 G_25 T_26 H_27 W_28 a_17 P_29 a_18 oc_30 ix_20 s_31 ∧ n_19 = P_29.length ∧ ch = chI oc_30) ∧ 0 + (enC G_25 s_31) ≤ enC G s ∧ 0 + (enZ G_25 s_31) ≤ enZ G s ∧ (∀ (S_32 : MM), (enQ S_15 S_32 F_21 i_22 A_23 X_24 G_25 T_26 a_18 P_29 oc_30 ix_20 s_31) → (([] : List MV) = [] ∧ mret none (sp_pwr b ch ix F i jo r p A X G T H W oc s) [.inr (.inr (some b)), .inl ch, .inl (nI ix)] S none S_32 (0 + (enC G_25 s_31)) (0 + (enZ G_25 s_31))))))))))))))))))))))) ∧ (¬ (nI H.length) ≤ (nI j) → (isO (rR S r f) 11 b ∧ (isO (rR S r f) 11 b ∧ (pa (mR (rR S r f) 1101 b) fun a_33 => isO (rR S r f) 6 a_33 ∧ (0 = 0 ∧ ((pa (mR (rR S r f) 604 a_33) fun a_34 => (∃ (i_35 : Nat), nI j = nI i_35 ∧ (∃ (d_36 c_37 kk_38 : Nat) (L_39 : List Nat), (AL (rR S r f) a_34 d_36 c_37 kk_38 L_39 ∧ i_35 < L_39.length) ∧ 0 ≤ enC G s ∧ 0 ≤ enZ G s ∧ (((∀ w_41, (L_39[i_35]?) = some w_41 → isO (rR S r f) 5 w_41) ∧ (pa (mR (rR S r f) 1104 b) fun a_42 => a_42 ∈ mL (rR S r f) ∧ ¬ mK (rR S r f) a_42 < 21 ∧ mK (rR S r f) a_42 < 29 ∧ inR (rR S r f) a_42 (nI j) ∧ (∀ w_43, (L_39[i_35]?) = some w_43 → w_43 ∈ mL (rR S r f) ∧ (mK (rR S r f) a_42 = 21 ∧ mK (rR S r f) w_43 = 1 ∨ mK (rR S r f) a_42 = 22 ∧ mK (rR S r f) w_43 = 2 ∨ mK (rR S r f) a_42 = 23 ∧ mK (rR S r f) w_43 = 5 ∨ mK (rR S r f) a_42 = 24 ∧ mK (rR S r f) w_43 = 11 ∨ mK (rR S r f) a_42 = 25 ∧ mK (rR S r f) w_43 = 13 ∨ mK (rR S r f) a_42 = 26 ∧ (mK (rR S r f) w_43 = 4 ∨ mK (rR S r f) w_43 = 5) ∨ mK (rR S r f) a_42 = 27 ∧ mK (rR S r f) w_43 = 16 ∨ mK (rR S r f) a_42 = 28 ∧ mK (rR S r f) w_43 = 17)) ∧ (∃ k1, k1 < k ∧ I_wr b ch ix r X H S k1 [(4, .inl ((nI j) + (1 : Int32))), (3, .inl (nI H.length)), (0, .inr (.inr (some b))), (1, .inl ch), (2, .inl (nI ix))] [] (rR (rR S r f) a_42 (va_up (eR (rR S r f) a_42) (nI j).toNatClampNeg (L_39[i_35]?))) 0 0))))))))))))))
    obtain ⟨⟨h1, h2, h3, h4, h5, h6, h7, h8, hG, hF, hi, hj, hj0⟩, hO, rfl⟩ := hp
    have hd : HdS G H := hG 20
    have hl := hd.len hG.ok
    have hm := hG.ok.hm
    have kr : Keep (fun b => b = r) S (rR S r f) := Keep.rR (P := fun b => b = r) Keep.rf rfl
    have rG : GI (rR S r f) F i A X G T H W := hG.keep kr (fun b hb z => hj (by rw [← hb, z, h8])) hF hi (fun _ _ => rfl)
    have er : eR (rR S r f) r = f := eR_self
    have q5 := rG 5
    have hE := hO.enp hG.gt hd
    have br : b ≠ r := fun z => by rw [z, h8] at h2; injection h2 with _ q; exact absurd q (by decide)
    refine if_le (by omega) (by omega) (fun z => ?_) (fun z => ?_)
    · have hz : j = H.length := by omega
      subst hz
      refine ⟨h1, rfl, pa_i (show mR (rR S r f) 1101 b = _ from h4) ⟨A 1, A 2, A 3, capF G.n, A 8, A 9, A 5, A 6, A 7, X, G, W, H, ⟨rG.shp, q5.1, q5.2.2.2.1, fun y hy => ((hd.1 y).1 hy).1, rG 4⟩, Nat.zero_le _, Nat.zero_le _, fun S2 hS2 => ?_⟩⟩
      obtain ⟨hG2, hK2⟩ := rG.showAll hS2
      have bk : ∀ {c : Nat}, c ∈ mL S → (F c).1 = jo → (∀ l, mR S2 l c = mR (rR S r f) l c) ∧ (∀ l, mI S2 l c = mI (rR S r f) l c) ∧ eR S2 c = eR (rR S r f) c := fun hc hq => by
        have := hK2.2.1 _ (show _ ∈ mL (rR S r f) from hc) (fun w => hj (hq.symm.trans w))
        exact ⟨this.2.1, this.1, this.2.2.2.2.2⟩
      obtain ⟨b1, b2, -⟩ := bk h1.1 (F1 h2)
      obtain ⟨-, -, b3⟩ := bk h6.1 (F1 h8)
      have ob : isO S2 11 b := hK2.isO (show isO (rR S r f) 11 b from h1)
      have e4 : mR S2 1101 b = some (A 0) := (b1 1101).trans h4
      have e5 : mR S2 1104 b = some r := (b1 1104).trans h5
      have e0 : mI S2 1100 b = nI p := (b2 1100).trans h3
      have or : isO S2 23 r := hK2.isO (show isO (rR S r f) 23 r from h6)
      have nr : mN S2 r = 16 := (hK2.1 r (show r ∈ mL (rR S r f) from h6.1)).2.2.trans h7
      have rw2 : RwE S2 X G r H := ⟨or, by omega, by omega, fun l hl => ⟨by rw [b3, er]; exact hf l hl, ((hd.1 _).1 (by rw [getD_el hl]; exact List.getElem_mem _)).1⟩⟩
      refine ⟨ob, ob, ob, rfl, pa_i e4 (pa_i e5 ⟨p, e0, H.length, rfl, ix, rfl, F, i, A, X, G, T, H, G.cn, H, oc, s, ⟨rfl, ⟨hG2, ?_, hi, rw2, by rw [h8]; exact hj, (hd.jn hG.ok).symm, hE⟩, rfl, rfl⟩, Nat.le_of_eq (Nat.zero_add _), Nat.le_of_eq (Nat.zero_add _), fun S3 hS3 => ⟨rfl, trivial, ⟨rfl, ?_⟩, Nat.le_of_eq (Nat.zero_add _), Nat.le_of_eq (Nat.zero_add _)⟩⟩)⟩
      · exact fun c hc => (hK2.1 c (hF c hc)).1
      · obtain ⟨F3, A3, X3, G3, T3, H3, W3, w1, w2, w3, w4, w5, w6, w7, w8⟩ := hS3
        have k12 : Keep (fun b => (F b).1 = i ∨ b = r) S S2 := (kr.mono (fun _ _ z => Or.inr z)).trN hK2 (fun _ _ z => Or.inl z)
        refine ⟨F3, A3, X3, G3, T3, H3, W3, w1, w2, fun c hc => w3 c (k12.1 c hc).1, k12.trN w4 (fun _ _ z => Or.inl z), w5, w6 0 (by decide) (by decide) (by decide) (by decide), w7, ?_⟩
        exact KRk.tr (KRk.tr (S1 := rR S r f) (fun _ _ => rfl) kr (KRk.sa hS2)) k12 w8
    · have hin : H.getD j 0 ∈ H := by rw [getD_el z]; exact List.getElem_mem _
      have hjn := ((hd.1 _).1 hin).1
      have el : (H.map X.ad)[j]? = some (X.ad (H.getD j 0)) := by rw [List.getElem?_map, List.getElem?_eq_getElem z, getD_el z]; rfl
      have o5 : isO S 5 (X.ad (H.getD j 0)) := (hG.ev.2.1 _ hjn).1
      refine ⟨h1, h1, pa_i (show mR (rR S r f) 1101 b = _ from h4) ⟨(rG 0).1, rfl, pa_i q5.1 ⟨j, rfl, A 6, A 7, 5, H.map X.ad, ⟨q5.2.2.2.1, by rw [List.length_map]; exact z⟩, Nat.zero_le _, Nat.zero_le _, ?_⟩⟩⟩
      rw [el]
      refine ⟨(fun w hw => by cases hw; exact o5), pa_i (show mR (rR S r f) 1104 b = _ from h5) ⟨h6.1, by rw [show mK (rR S r f) r = mK S r from rfl, h6.2]; decide, by rw [show mK (rR S r f) r = mK S r from rfl, h6.2]; decide, vp_in_nI (show j < mN S r by omega) (show mN S r < 2147483648 by omega), (fun w hw => by cases hw; exact ⟨o5.1, Or.inr (Or.inr (Or.inl ⟨h6.2, o5.2⟩))⟩), k - 1, by omega, j + 1, va_up f j (some (X.ad (H.getD j 0))), by omega, by rw [nI_1], rfl, ?_, fun l hl => ?_, rfl, rfl⟩⟩
      · rw [nI_clamp (by omega), er, rR_rR]
      · by_cases w : l = j
        · rw [w]; exact va_up_self _ _ _
        · rw [va_up_ne _ _ w]; exact hf l (by omega)
theorem u_pwr (l : Launch) : Us l yX10_write cX10_write 5 none 8 195 11 T_pwr := by
  intro Rc Rs av S cs sl K Kx h
  unfold T_pwr at h
  split at h
  · rename_i b_o ch ix_v
    obtain ⟨b, rfl, h_1⟩ := pa_of h
    obtain ⟨ix, rfl, h_2⟩ := h_1
    obtain ⟨F, i, jo, r, p, A, X, G, T, H, W, oc, s, hp, hc, hs, hk⟩ := h_2
    refine ⟨(sp_pwr b ch ix F i jo r p A X G T H W oc s), c_pwr l b ch ix F i jo r p A X G T H W oc s, fun _ _ h9 => ⟨_, _, h9.1, h9.2.1.1⟩, ⟨rfl, hp⟩, hc, hs, fun S' h8 => by
      obtain ⟨-, h8⟩ := h8
      exact hk _ h8, fun _ _ q => q.elim⟩
  · exact h.elim
