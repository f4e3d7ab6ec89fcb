/-! ===== Graph.showWanted, showAll ===== -/
/-- what showing a version asks: the graph g, root rt, the list tk of events, the rows sh (shown, W0) and wa -/
def ShP (S : MM) (X : GX) (G : Gr) (g rt tk d c sh wa : Nat) (W0 : Nat → Nat) : Prop := isO S 6 g ∧ mR S 600 g = some rt ∧ mR S 601 g = some tk ∧ AL S tk d c 5 ((List.range G.n).map X.ad) ∧ mR S 606 g = some sh ∧ WR S sh W0 ∧ EvT S X G ∧ G.okt ∧ mR S 607 g = some wa ∧ isO S 17 wa ∧ mN S wa = 16 ∧ sh ≠ wa ∧ ∀ k, k < G.n → X.bf k ≠ sh ∧ X.bf k ≠ wa
theorem EvT.row {S : MM} {X : GX} {G : Gr} {r : Nat} {f : Nat → Int32} (h : EvT S X G) (hr : isO S 17 r) (hb : ∀ k, k < G.n → X.bf k ≠ r) : EvT (rI S r f) X G := by
  have kk : Keep (fun b => b = r) S (rI S r f) := Keep.rf.rI rfl
  refine h.keep kk (fun k q => ?_) (fun s q => ?_)
  · obtain ⟨a1, a2, a3, a4, a5, a6, a7, a8, a9, a10, -⟩ := h.2.1 k q
    exact ⟨isO_ne a1 hr (by decide), isO_ne a6 hr (by decide), hb k q⟩
  · obtain ⟨a1, -⟩ := h.2.2.1 s q
    exact isO_ne a1 hr (by decide)
theorem AL.row17 {S : MM} {a d c kk r : Nat} {L : List Nat} {f : Nat → Int32} (h : AL S a d c kk L) (hr : isO S 17 r) : AL (rI S r f) a d c kk L :=
  h.keep ((Keep.rf : Keep (fun b => b = r) S S).rI rfl) (isO_ne h.1 hr (by decide)) (fun q => isO_ne q hr (by decide))
def cpF (f h : Nat → Int32) (i : Nat) : Nat → Int32 := fun s => if s < i then h s else f s
def swP (S S' : MM) (X : GX) (G : Gr) (g rt sh wa : Nat) (W0 W : Nat → Nat) : Prop := ((∀ s, s < 16 → W0 s = W s) ∧ S' = S) ∨ (¬ (∀ s, s < 16 → W0 s = W s) ∧ ∃ f, (∀ s, s < 16 → f s = nI (W s)) ∧ rbP (rI S sh f) S' X G g rt W)
def I_sw (g sh wa : Nat) (W0 W : Nat → Nat) (S : MM) (t : Nat) : KT := fun lo st S1 cs sl => ∃ i, i + t = 16 ∧ lo = [(1, .inl (tf (∀ s, s < i → W0 s = W s))), (2, .inl (nI i)), (0, .inr (.inr (some g)))] ∧ st = [] ∧ S1 = rI S sh (cpF (eI S sh) (eI S wa) i) ∧ cs = 0 ∧ sl = 0
def T_gsw : TR := fun Rc Rs av S cs sl K _Kx => match av with
  | [.inr (.inr g_o)] => pa g_o fun g => (∃ (rt tk d c sh wa : Nat) (X : GX) (G : Gr) (W0 W : Nat → Nat), (ShP S X G g rt tk d c sh wa W0 ∧ WR S wa W) ∧ cs ≤ Rc ∧ sl ≤ Rs ∧ (∀ (S' : MM), (swP S S' X G g rt sh wa W0 W) → K none S' cs sl))
  | _ => False
def sp_gsw (g : Nat) (rt tk d c sh wa : Nat) (X : GX) (G : Gr) (W0 W : Nat → Nat) : Sp := (fun av S => av = [.inr (.inr (some g))] ∧ (ShP S X G g rt tk d c sh wa W0 ∧ WR S wa W), fun _ S => 0, fun _ S => 0, fun _ S rv S' => rv = none ∧ (swP S S' X G g rt sh wa W0 W), fun _ _ _ _ => False)
def tX5_showWanted : CD := [(0, .iconst 1), (1, .istore_n 1), (2, .iconst 0), (3, .istore_n 2), (4, .iload_n 2), (5, .bipush 16), (7, .if_icmp .ge 46), (10, .iload_n 1), (11, .ifCond .eq 22), (14, .aload_n 0), (15, .getfield 46), (18, .iload_n 2), (19, .iaload), (20, .aload_n 0), (21, .getfield 50), (24, .iload_n 2), (25, .iaload), (26, .if_icmp .ne 7), (29, .iconst 1), (30, .goto 4), (33, .iconst 0), (34, .istore_n 1), (35, .aload_n 0), (36, .getfield 46), (39, .iload_n 2), (40, .aload_n 0), (41, .getfield 50), (44, .iload_n 2), (45, .iaload), (46, .iastore), (47, .iinc 2 1), (50, .goto (-46)), (53, .iload_n 1), (54, .ifCond .ne 7), (57, .aload_n 0), (58, .invokevirtual 132), (61, .return_)]
set_option maxRecDepth 100000 in
theorem kX5_showWanted : chk cX5_showWanted tX5_showWanted = true := by decide +kernel
theorem vX5_showWanted_132 : ∀ w ∈ ([.methodLink RX5 132 yX5_rebuildShown, .instanceMethod yX5_rebuildShown, .selects yX5_rebuildShown.cls yX5_rebuildShown yX5_rebuildShown, .initialized yX5_rebuildShown.cls, .code yX5_rebuildShown cX5_rebuildShown 4 none] : List Cond), w ∈ lw_good := List.forall_mem_cons.mpr ⟨mgd 894 (by decide +kernel) (by decide +kernel), List.forall_mem_cons.mpr ⟨mgd 896 (by decide +kernel) (by decide +kernel), List.forall_mem_cons.mpr ⟨mgd 5 (by decide +kernel) (by decide +kernel), List.forall_mem_cons.mpr ⟨mgd 125 (by decide +kernel) (by decide +kernel), List.forall_mem_cons.mpr ⟨mgd 897 (by decide +kernel) (by decide +kernel), fun _ h => absurd h List.not_mem_nil⟩⟩⟩⟩⟩
set_option maxRecDepth 100000 in
set_option maxHeartbeats 2000000 in
theorem c_gsw (l : Launch) : ∀ (g : Nat) (rt tk d c sh wa : Nat) (X : GX) (G : Gr) (W0 W : Nat → Nat), Ct l yX5_showWanted cX5_showWanted 3 none 4 87 (sp_gsw g rt tk d c sh wa X G W0 W) := by
  intro g rt tk d c sh wa X G W0 W
  refine Ct.of (fX5, nX5, aX5, iX5, lX5, [(132, 0, 1, 0, T_grb)], qX5, gX5, []) false tX5_showWanted (fun _ S => look [(4, ([1,2,0], I_sw g sh wa W0 W S))]) (by decide) (by decide) kX5_showWanted ⟨_, _, rfl⟩ fX5_ok nX5_ok aX5_ok iX5_ok lX5_ok (fun p e R s m args below meth c Q D cy z r A C hR1 hR2 => List.forall_mem_cons.mpr ⟨cOK_use (fun _ _ _ _ _ _ _ _ h => let ⟨sp, h1, h2, h3⟩ := u_grb l _ _ _ _ _ _ _ _ h; ⟨sp, cOK_V C h1 vX5_showWanted_132 ⟨by decide, by decide, by decide +kernel⟩ ⟨by rw [hR1]; decide, by rw [hR2]; decide⟩ (k := 6) (T := TX5) (N := 12) rfl (by decide) h2, h3⟩), fun _ h => absurd h List.not_mem_nil⟩) qX5_ok gX5_ok rfl ?_ ?_
  · rintro _ S ⟨rfl, hp⟩
    refine ⟨Nat.le_of_ble_eq_true rfl, 300, ?_⟩
    show (∃ k1, I_sw g sh wa W0 W S k1 [(1, .inl (1 : Int32)), (2, .inl (0 : Int32)), (0, .inr (.inr (some g)))] [] S 0 0)
    refine ⟨16, 0, by omega, ?_, rfl, ?_, rfl, rfl⟩
    · rw [tf_t (fun s hs => absurd hs (Nat.not_lt_zero _))]; rfl
    · have e : cpF (eI S sh) (eI S wa) 0 = eI S sh := by funext s; exact if_neg (Nat.not_lt_zero _)
      rw [e, rI_id rfl]
  · intro av S hpre pc I hI k lo st S1 cs sl h
    obtain ⟨rfl, hp⟩ := hpre
    have hm := look_in hI
    rw [List.mem_singleton] at hm
    cases hm
    obtain ⟨i, hi, rfl, rfl, rfl, rfl, rfl⟩ := h
    refine ⟨300, ?_⟩
    show (((16 : Int32) ≤ (nI i) → ((¬ (tf (∀ s, s < i → W0 s = W s)) = 0 → (([] : List MV) = [] ∧ mret none (sp_gsw g rt tk d c sh wa X G W0 W) [.inr (.inr (some g))] S none (rI S sh (cpF (eI S sh) (eI S wa) i)) 0 0)) ∧ ((tf (∀ s, s < i → W0 s = W s)) = 0 → (0 = 0 ∧ (∃ (rt_1 tk_2 d_3 c_4 sh_5 : Nat) (X_6 : GX) (G_7 : Gr) (W_8 : Nat → Nat), (isO (rI S sh (cpF (eI S sh) (eI S wa) i)) 6 g ∧ mR (rI S sh (cpF (eI S sh) (eI S wa) i)) 600 g = some rt_1 ∧ mR (rI S sh (cpF (eI S sh) (eI S wa) i)) 601 g = some tk_2 ∧ AL (rI S sh (cpF (eI S sh) (eI S wa) i)) tk_2 d_3 c_4 5 ((List.range G_7.n).map X_6.ad) ∧ mR (rI S sh (cpF (eI S sh) (eI S wa) i)) 606 g = some sh_5 ∧ WR (rI S sh (cpF (eI S sh) (eI S wa) i)) sh_5 W_8 ∧ EvT (rI S sh (cpF (eI S sh) (eI S wa) i)) X_6 G_7 ∧ G_7.okt) ∧ 0 ≤ 0 ∧ 0 ≤ 0 ∧ (∀ (S_9 : MM), (rbP (rI S sh (cpF (eI S sh) (eI S wa) i)) S_9 X_6 G_7 g rt_1 W_8) → (([] : List MV) = [] ∧ mret none (sp_gsw g rt tk d c sh wa X G W0 W) [.inr (.inr (some g))] S none S_9 0 0))))))) ∧ (¬ (16 : Int32) ≤ (nI i) → (((tf (∀ s, s < i → W0 s = W s)) = 0 → (isO (rI S sh (cpF (eI S sh) (eI S wa) i)) 6 g ∧ (isO (rI S sh (cpF (eI S sh) (eI S wa) i)) 6 g ∧ (pa (mR (rI S sh (cpF (eI S sh) (eI S wa) i)) 607 g) fun a_10 => ∃ v_11 : Int32, (isO (rI S sh (cpF (eI S sh) (eI S wa) i)) 17 a_10 ∧ inR (rI S sh (cpF (eI S sh) (eI S wa) i)) a_10 (nI i) ∧ v_11 = eI (rI S sh (cpF (eI S sh) (eI S wa) i)) a_10 (nI i).toNatClampNeg ∨ a_10 = (mQ (rI S sh (cpF (eI S sh) (eI S wa) i))).1 ∧ vp_in (nI i) 16 ∧ v_11 = mRem (nI i).toNatClampNeg) ∧ (pa (mR (rI S sh (cpF (eI S sh) (eI S wa) i)) 606 g) fun a_12 => isO (rI S sh (cpF (eI S sh) (eI S wa) i)) 17 a_12 ∧ inR (rI S sh (cpF (eI S sh) (eI S wa) i)) a_12 (nI i) ∧ (∃ k1, k1 < k ∧ I_sw g sh wa W0 W S k1 [(1, .inl (0 : Int32)), (2, .inl ((nI i) + (1 : Int32))), (0, .inr (.inr (some g)))] [] (rI (rI S sh (cpF (eI S sh) (eI S wa) i)) a_12 (upd (eI (rI S sh (cpF (eI S sh) (eI S wa) i)) a_12) (nI i).toNatClampNeg v_11)) 0 0)))))) ∧ (¬ (tf (∀ s, s < i → W0 s = W s)) = 0 → (isO (rI S sh (cpF (eI S sh) (eI S wa) i)) 6 g ∧ (pa (mR (rI S sh (cpF (eI S sh) (eI S wa) i)) 606 g) fun a_13 => ∃ v_14 : Int32, (isO (rI S sh (cpF (eI S sh) (eI S wa) i)) 17 a_13 ∧ inR (rI S sh (cpF (eI S sh) (eI S wa) i)) a_13 (nI i) ∧ v_14 = eI (rI S sh (cpF (eI S sh) (eI S wa) i)) a_13 (nI i).toNatClampNeg ∨ a_13 = (mQ (rI S sh (cpF (eI S sh) (eI S wa) i))).1 ∧ vp_in (nI i) 16 ∧ v_14 = mRem (nI i).toNatClampNeg) ∧ (isO (rI S sh (cpF (eI S sh) (eI S wa) i)) 6 g ∧ (pa (mR (rI S sh (cpF (eI S sh) (eI S wa) i)) 607 g) fun a_15 => ∃ v_16 : Int32, (isO (rI S sh (cpF (eI S sh) (eI S wa) i)) 17 a_15 ∧ inR (rI S sh (cpF (eI S sh) (eI S wa) i)) a_15 (nI i) ∧ v_16 = eI (rI S sh (cpF (eI S sh) (eI S wa) i)) a_15 (nI i).toNatClampNeg ∨ a_15 = (mQ (rI S sh (cpF (eI S sh) (eI S wa) i))).1 ∧ vp_in (nI i) 16 ∧ v_16 = mRem (nI i).toNatClampNeg) ∧ ((¬ v_14 = v_16 → (isO (rI S sh (cpF (eI S sh) (eI S wa) i)) 6 g ∧ (isO (rI S sh (cpF (eI S sh) (eI S wa) i)) 6 g ∧ (pa (mR (rI S sh (cpF (eI S sh) (eI S wa) i)) 607 g) fun a_17 => ∃ v_18 : Int32, (isO (rI S sh (cpF (eI S sh) (eI S wa) i)) 17 a_17 ∧ inR (rI S sh (cpF (eI S sh) (eI S wa) i)) a_17 (nI i) ∧ v_18 = eI (rI S sh (cpF (eI S sh) (eI S wa) i)) a_17 (nI i).toNatClampNeg ∨ a_17 = (mQ (rI S sh (cpF (eI S sh) (eI S wa) i))).1 ∧ vp_in (nI i) 16 ∧ v_18 = mRem (nI i).toNatClampNeg) ∧ (pa (mR (rI S sh (cpF (eI S sh) (eI S wa) i)) 606 g) fun a_19 => isO (rI S sh (cpF (eI S sh) (eI S wa) i)) 17 a_19 ∧ inR (rI S sh (cpF (eI S sh) (eI S wa) i)) a_19 (nI i) ∧ (∃ k1, k1 < k ∧ I_sw g sh wa W0 W S k1 [(1, .inl (0 : Int32)), (2, .inl ((nI i) + (1 : Int32))), (0, .inr (.inr (some g)))] [] (rI (rI S sh (cpF (eI S sh) (eI S wa) i)) a_19 (upd (eI (rI S sh (cpF (eI S sh) (eI S wa) i)) a_19) (nI i).toNatClampNeg v_18)) 0 0)))))) ∧ (v_14 = v_16 → (isO (rI S sh (cpF (eI S sh) (eI S wa) i)) 6 g ∧ (isO (rI S sh (cpF (eI S sh) (eI S wa) i)) 6 g ∧ (pa (mR (rI S sh (cpF (eI S sh) (eI S wa) i)) 607 g) fun a_20 => ∃ v_21 : Int32, (isO (rI S sh (cpF (eI S sh) (eI S wa) i)) 17 a_20 ∧ inR (rI S sh (cpF (eI S sh) (eI S wa) i)) a_20 (nI i) ∧ v_21 = eI (rI S sh (cpF (eI S sh) (eI S wa) i)) a_20 (nI i).toNatClampNeg ∨ a_20 = (mQ (rI S sh (cpF (eI S sh) (eI S wa) i))).1 ∧ vp_in (nI i) 16 ∧ v_21 = mRem (nI i).toNatClampNeg) ∧ (pa (mR (rI S sh (cpF (eI S sh) (eI S wa) i)) 606 g) fun a_22 => isO (rI S sh (cpF (eI S sh) (eI S wa) i)) 17 a_22 ∧ inR (rI S sh (cpF (eI S sh) (eI S wa) i)) a_22 (nI i) ∧ (∃ k1, k1 < k ∧ I_sw g sh wa W0 W S k1 [(1, .inl (1 : Int32)), (2, .inl ((nI i) + (1 : Int32))), (0, .inr (.inr (some g)))] [] (rI (rI S sh (cpF (eI S sh) (eI S wa) i)) a_22 (upd (eI (rI S sh (cpF (eI S sh) (eI S wa) i)) a_22) (nI i).toNatClampNeg v_21)) 0 0)))))))))))))))
    obtain ⟨⟨h1, h2, h3, h4, h5, ⟨s1, s2, s3⟩, h7, h8, h9, w1, w2, hne, hbf⟩, ⟨-, -, w3⟩⟩ := hp
    have eS : eI (rI S sh (cpF (eI S sh) (eI S wa) i)) sh = cpF (eI S sh) (eI S wa) i := va_up_self _ _ _
    have eW : eI (rI S sh (cpF (eI S sh) (eI S wa) i)) wa = eI S wa := va_up_ne _ _ (fun e => hne e.symm)
    have r606 : mR (rI S sh (cpF (eI S sh) (eI S wa) i)) 606 g = some sh := h5
    have r607 : mR (rI S sh (cpF (eI S sh) (eI S wa) i)) 607 g = some wa := h9
    refine if_le (a := 16) (by decide) (by omega) (fun z => ?_) (fun z => ?_)
    · have ei : i = 16 := by omega
      subst ei
      refine if_tfn (fun q => ⟨rfl, trivial, ⟨rfl, Or.inl ⟨q, ?_⟩⟩, Nat.le_refl _, Nat.le_refl _⟩) (fun q => ⟨rfl, rt, tk, d, c, sh, X, G, W, ⟨h1, h2, h3, h4.row17 s1, h5, ⟨s1, s2, fun s hs => ?_⟩, h7.row s1 (fun k hk => (hbf k hk).1), h8⟩, Nat.le_refl _, Nat.le_refl _, fun S9 h => ⟨rfl, trivial, ⟨rfl, Or.inr ⟨q, _, fun s hs => ?_, h⟩⟩, Nat.le_refl _, Nat.le_refl _⟩⟩)
      · refine rI_id ?_
        funext s
        show _ = if s < 16 then eI S wa s else eI S sh s
        by_cases y : s < 16
        · rw [if_pos y, (s3 s y).1, (w3 s y).1, q s y]
        · rw [if_neg y]
      · rw [eS]
        show (if s < 16 then eI S wa s else _) = _ ∧ _
        rw [if_pos hs]; exact w3 s hs
      · show (if s < 16 then eI S wa s else _) = _
        rw [if_pos hs]; exact (w3 s hs).1
    · have inS : inR (rI S sh (cpF (eI S sh) (eI S wa) i)) sh (nI i) := by rw [inR]; show vp_in _ (mN S sh); rw [s2]; exact vp_in_nI z (by decide)
      have inW : inR (rI S sh (cpF (eI S sh) (eI S wa) i)) wa (nI i) := by rw [inR]; show vp_in _ (mN S wa); rw [w2]; exact vp_in_nI z (by decide)
      have up : rI (rI S sh (cpF (eI S sh) (eI S wa) i)) sh (upd (eI (rI S sh (cpF (eI S sh) (eI S wa) i)) sh) i (eI S wa i)) = rI S sh (cpF (eI S sh) (eI S wa) (i + 1)) := by
        rw [rI_rI, eS]
        congr 1
        funext s
        by_cases y : s = i
        · subst y
          rw [pk_us]
          show _ = if s < s + 1 then eI S wa s else _
          rw [if_pos (by omega)]
        · rw [pk_un y]
          show (if s < i then _ else _) = if s < i + 1 then _ else _
          by_cases x : s < i
          · rw [if_pos x, if_pos (by omega)]
          · rw [if_neg x, if_neg (by omega)]
      have nx : ∀ v : Int32, v = tf (∀ s, s < i + 1 → W0 s = W s) → ∃ k1, k1 < k ∧ I_sw g sh wa W0 W S k1 [(1, .inl v), (2, .inl (nI i + 1)), (0, .inr (.inr (some g)))] [] (rI (rI S sh (cpF (eI S sh) (eI S wa) i)) sh (upd (eI (rI S sh (cpF (eI S sh) (eI S wa) i)) sh) i (eI S wa i))) 0 0 := fun v hv => ⟨k - 1, by omega, i + 1, by omega, by rw [hv, nI_1], rfl, up, rfl, rfl⟩
      obtain ⟨s4, s5⟩ := s3 i z
      obtain ⟨w4, w5⟩ := w3 i z
      rw [r606, r607, nI_clamp (by omega)]
      refine if_tf (fun q => ⟨h1, h1, eI S wa i, Or.inl ⟨w1, inW, by rw [eW]⟩, s1, inS, nx 0 (tf_f (fun y => q (fun s hs => y s (by omega)))).symm⟩) (fun q => ⟨h1, nI (W0 i), Or.inl ⟨s1, inS, ?_⟩, h1, nI (W i), Or.inl ⟨w1, inW, by rw [eW, w4]⟩, ?_⟩)
      · rw [eS]
        show _ = if i < i then _ else eI S sh i
        rw [if_neg (Nat.lt_irrefl _), s4]
      · refine if_ne (by omega) (by omega) (fun y => ⟨h1, h1, eI S wa i, Or.inl ⟨w1, inW, by rw [eW]⟩, s1, inS, nx 0 (tf_f (fun x => y (x i (by omega)))).symm⟩) (fun y => ⟨h1, h1, eI S wa i, Or.inl ⟨w1, inW, by rw [eW]⟩, s1, inS, nx 1 (tf_t (fun s hs => ?_)).symm⟩)
        by_cases x : s = i
        · rw [x]; exact y
        · exact q s (by omega)
theorem u_gsw (l : Launch) : Us l yX5_showWanted cX5_showWanted 3 none 4 87 6 T_gsw := by
  intro Rc Rs av S cs sl K Kx h
  unfold T_gsw at h
  split at h
  · rename_i g_o
    obtain ⟨g, rfl, h_1⟩ := pa_of h
    obtain ⟨rt, tk, d, c, sh, wa, X, G, W0, W, hp, hc, hs, hk⟩ := h_1
    refine ⟨(sp_gsw g rt tk d c sh wa X G W0 W), c_gsw l g rt tk d c sh wa X G W0 W, fun _ _ h9 => ⟨_, _, h9.1, h9.2.1.1⟩, ⟨rfl, hp⟩, hc, hs, fun S' h8 => by
      obtain ⟨-, h8⟩ := h8
      exact hk _ h8, fun _ _ q => q.elim⟩
  · exact h.elim
theorem Gr.jn_snoc (G : Gr) (P : List Nat) (p t : Nat) : G.jn (P ++ [p]) t = max (G.jn P t) (G.full p t) := by
  induction P with
  | nil => show max (G.full p t) 0 = max 0 (G.full p t); omega
  | cons q P ih =>
    show max (G.full q t) (G.jn (P ++ [p]) t) = max (max (G.full q t) (G.jn P t)) (G.full p t)
    rw [ih]; omega
def saP (S S' : MM) (X : GX) (G : Gr) (g rt sh wa : Nat) (W0 : Nat → Nat) (H : List Nat) : Prop := ∃ f, (∀ s, s < 16 → f s = nI (G.jn H s)) ∧ swP (rI S wa f) S' X G g rt sh wa W0 (G.jn H)
def I_sa (g wa : Nat) (G : Gr) (H : List Nat) (S : MM) (t : Nat) : KT := fun lo st S1 cs sl => ∃ i f, i + t = H.length ∧ lo = [(1, .inl (nI i)), (0, .inr (.inr (some g)))] ∧ st = [] ∧ S1 = rI S wa f ∧ (∀ s, s < 16 → f s = nI (G.jn (H.take i) s)) ∧ cs = 0 ∧ sl = 0
def T_gsa : TR := fun Rc Rs av S cs sl K _Kx => match av with
  | [.inr (.inr g_o)] => pa g_o fun g => (∃ (rt tk d c sh wa ho he ht : Nat) (X : GX) (G : Gr) (W0 : Nat → Nat) (H : List Nat), (ShP S X G g rt tk d c sh wa W0 ∧ mR S 604 g = some ho ∧ AL S ho he ht 5 (H.map X.ad) ∧ (∀ y, y ∈ H → y < G.n) ∧ mI S 603 g = nI G.m) ∧ cs ≤ Rc ∧ sl ≤ Rs ∧ (∀ (S' : MM), (saP S S' X G g rt sh wa W0 H) → K none S' cs sl))
  | _ => False
def sp_gsa (g : Nat) (rt tk d c sh wa ho he ht : Nat) (X : GX) (G : Gr) (W0 : Nat → Nat) (H : List Nat) : Sp := (fun av S => av = [.inr (.inr (some g))] ∧ (ShP S X G g rt tk d c sh wa W0 ∧ mR S 604 g = some ho ∧ AL S ho he ht 5 (H.map X.ad) ∧ (∀ y, y ∈ H → y < G.n) ∧ mI S 603 g = nI G.m), fun _ S => 0, fun _ S => 0, fun _ S rv S' => rv = none ∧ (saP S S' X G g rt sh wa W0 H), fun _ _ _ _ => False)
def tX5_showAll : CD := [(0, .aload_n 0), (1, .getfield 50), (4, .iconst 0), (5, .invokestatic 88), (8, .iconst 0), (9, .istore_n 1), (10, .iload_n 1), (11, .aload_n 0), (12, .getfield 40), (15, .invokevirtual 68), (18, .if_icmp .ge 24), (21, .aload_n 0), (22, .aload_n 0), (23, .getfield 40), (26, .iload_n 1), (27, .invokevirtual 76), (30, .checkcast 9), (33, .invokevirtual 94), (36, .iinc 1 1), (39, .goto (-29)), (42, .aload_n 0), (43, .invokevirtual 101), (46, .return_)]
set_option maxRecDepth 100000 in
theorem kX5_showAll : chk cX5_showAll tX5_showAll = true := by decide +kernel
theorem vX5_showAll_88 : ∀ w ∈ ([.methodLink RX5 88 yJ7_fill_53178, .static yJ7_fill_53178, .initialized yJ7_fill_53178.cls, .code yJ7_fill_53178 cJ7_fill_53178 4 none] : List Cond), w ∈ lw_good := List.forall_mem_cons.mpr ⟨mgd 878 (by decide +kernel) (by decide +kernel), List.forall_mem_cons.mpr ⟨mgd 604 (by decide +kernel) (by decide +kernel), List.forall_mem_cons.mpr ⟨mgd 135 (by decide +kernel) (by decide +kernel), List.forall_mem_cons.mpr ⟨mgd 605 (by decide +kernel) (by decide +kernel), fun _ h => absurd h List.not_mem_nil⟩⟩⟩⟩
theorem vX5_showAll_68 : ∀ w ∈ ([.methodLink RX5 68 yJx4a65c_size_8abf5, .instanceMethod yJx4a65c_size_8abf5, .selects yJx4a65c_size_8abf5.cls yJx4a65c_size_8abf5 yJx4a65c_size_8abf5, .initialized yJx4a65c_size_8abf5.cls, .code yJx4a65c_size_8abf5 cJx4a65c_size_8abf5 1 (some .int)] : List Cond), w ∈ lw_good := List.forall_mem_cons.mpr ⟨mgd 672 (by decide +kernel) (by decide +kernel), List.forall_mem_cons.mpr ⟨mgd 673 (by decide +kernel) (by decide +kernel), List.forall_mem_cons.mpr ⟨mgd 674 (by decide +kernel) (by decide +kernel), List.forall_mem_cons.mpr ⟨mgd 130 (by decide +kernel) (by decide +kernel), List.forall_mem_cons.mpr ⟨mgd 675 (by decide +kernel) (by decide +kernel), fun _ h => absurd h List.not_mem_nil⟩⟩⟩⟩⟩
theorem vX5_showAll_76 : ∀ w ∈ ([.methodLink RX5 76 yJx4a65c_get_915e3, .instanceMethod yJx4a65c_get_915e3, .selects yJx4a65c_get_915e3.cls yJx4a65c_get_915e3 yJx4a65c_get_915e3, .initialized yJx4a65c_get_915e3.cls, .code yJx4a65c_get_915e3 cJx4a65c_get_915e3 2 (some (.object "java/lang/Object"))] : List Cond), w ∈ lw_good := List.forall_mem_cons.mpr ⟨mgd 676 (by decide +kernel) (by decide +kernel), List.forall_mem_cons.mpr ⟨mgd 677 (by decide +kernel) (by decide +kernel), List.forall_mem_cons.mpr ⟨mgd 678 (by decide +kernel) (by decide +kernel), List.forall_mem_cons.mpr ⟨mgd 130 (by decide +kernel) (by decide +kernel), List.forall_mem_cons.mpr ⟨mgd 679 (by decide +kernel) (by decide +kernel), fun _ h => absurd h List.not_mem_nil⟩⟩⟩⟩⟩
theorem vX5_showAll_94 : ∀ w ∈ ([.methodLink RX5 94 yX5_wantWith, .instanceMethod yX5_wantWith, .selects yX5_wantWith.cls yX5_wantWith yX5_wantWith, .initialized yX5_wantWith.cls, .code yX5_wantWith cX5_wantWith 3 none] : List Cond), w ∈ lw_good := List.forall_mem_cons.mpr ⟨mgd 879 (by decide +kernel) (by decide +kernel), List.forall_mem_cons.mpr ⟨mgd 881 (by decide +kernel) (by decide +kernel), List.forall_mem_cons.mpr ⟨mgd 3 (by decide +kernel) (by decide +kernel), List.forall_mem_cons.mpr ⟨mgd 125 (by decide +kernel) (by decide +kernel), List.forall_mem_cons.mpr ⟨mgd 882 (by decide +kernel) (by decide +kernel), fun _ h => absurd h List.not_mem_nil⟩⟩⟩⟩⟩
theorem vX5_showAll_101 : ∀ w ∈ ([.methodLink RX5 101 yX5_showWanted, .instanceMethod yX5_showWanted, .selects yX5_showWanted.cls yX5_showWanted yX5_showWanted, .initialized yX5_showWanted.cls, .code yX5_showWanted cX5_showWanted 3 none] : List Cond), w ∈ lw_good := List.forall_mem_cons.mpr ⟨mgd 890 (by decide +kernel) (by decide +kernel), List.forall_mem_cons.mpr ⟨mgd 892 (by decide +kernel) (by decide +kernel), List.forall_mem_cons.mpr ⟨mgd 4 (by decide +kernel) (by decide +kernel), List.forall_mem_cons.mpr ⟨mgd 125 (by decide +kernel) (by decide +kernel), List.forall_mem_cons.mpr ⟨mgd 893 (by decide +kernel) (by decide +kernel), fun _ h => absurd h List.not_mem_nil⟩⟩⟩⟩⟩
set_option maxRecDepth 100000 in
set_option maxHeartbeats 2000000 in
theorem c_gsa (l : Launch) : ∀ (g : Nat) (rt tk d c sh wa ho he ht : Nat) (X : GX) (G : Gr) (W0 : Nat → Nat) (H : List Nat), Ct l yX5_showAll cX5_showAll 2 none 5 109 (sp_gsa g rt tk d c sh wa ho he ht X G W0 H) := by
  intro g rt tk d c sh wa ho he ht X G W0 H
  refine Ct.of (fX5, nX5, aX5, iX5, lX5, [(88, 2, 2, 0, T_fillI), (68, 0, 1, 1, T_alsz), (76, 0, 2, 3, T_alget), (94, 0, 2, 0, T_gww), (101, 0, 1, 0, T_gsw)], qX5, gX5, []) false tX5_showAll (fun _ S => look [(10, ([1,0], I_sa g wa G H S))]) (by decide) (by decide) kX5_showAll ⟨_, _, rfl⟩ fX5_ok nX5_ok aX5_ok iX5_ok lX5_ok (fun p e R s m args below meth c Q D cy z r A C hR1 hR2 => List.forall_mem_cons.mpr ⟨cOK_use (fun _ _ _ _ _ _ _ _ h => let ⟨sp, h1, _, h3⟩ := u_fillI l _ _ _ _ _ _ _ _ h; ⟨sp, cOK_S C h1 vX5_showAll_88 ⟨by decide, by decide, by decide +kernel⟩ ⟨by rw [hR1]; decide, by rw [hR2]; decide⟩, h3⟩), List.forall_mem_cons.mpr ⟨cOK_use (fun _ _ _ _ _ _ _ _ h => let ⟨sp, h1, h2, h3⟩ := u_alsz l _ _ _ _ _ _ _ _ h; ⟨sp, cOK_V C h1 vX5_showAll_68 ⟨by decide, by decide, by decide +kernel⟩ ⟨by rw [hR1]; decide, by rw [hR2]; decide⟩ (k := 0) (T := TJx4a65c) (N := 3) rfl (by decide) h2, h3⟩), List.forall_mem_cons.mpr ⟨cOK_use (fun _ _ _ _ _ _ _ _ h => let ⟨sp, h1, h2, h3⟩ := u_alget l _ _ _ _ _ _ _ _ h; ⟨sp, cOK_V C h1 vX5_showAll_76 ⟨by decide, by decide, by decide +kernel⟩ ⟨by rw [hR1]; decide, by rw [hR2]; decide⟩ (k := 0) (T := TJx4a65c) (N := 3) rfl (by decide) h2, h3⟩), List.forall_mem_cons.mpr ⟨cOK_use (fun _ _ _ _ _ _ _ _ h => let ⟨sp, h1, h2, h3⟩ := u_gww l _ _ _ _ _ _ _ _ h; ⟨sp, cOK_V C h1 vX5_showAll_94 ⟨by decide, by decide, by decide +kernel⟩ ⟨by rw [hR1]; decide, by rw [hR2]; decide⟩ (k := 6) (T := TX5) (N := 12) rfl (by decide) h2, h3⟩), List.forall_mem_cons.mpr ⟨cOK_use (fun _ _ _ _ _ _ _ _ h => let ⟨sp, h1, h2, h3⟩ := u_gsw l _ _ _ _ _ _ _ _ h; ⟨sp, cOK_V C h1 vX5_showAll_101 ⟨by decide, by decide, by decide +kernel⟩ ⟨by rw [hR1]; decide, by rw [hR2]; decide⟩ (k := 6) (T := TX5) (N := 12) rfl (by decide) h2, h3⟩), fun _ h => absurd h List.not_mem_nil⟩⟩⟩⟩⟩) qX5_ok gX5_ok rfl ?_ ?_
  · rintro _ S ⟨rfl, hp⟩
    refine ⟨Nat.le_of_ble_eq_true rfl, 300, ?_⟩
    show (isO S 6 g ∧ (2 = 2 ∧ ((pa (mR S 607 g) fun a_1 => ((isO S 17 a_1 ∧ mN S a_1 < 2147483648) ∧ 0 ≤ 0 ∧ 0 ≤ 0 ∧ ((∃ k1, I_sa g wa G H S k1 [(1, .inl (0 : Int32)), (0, .inr (.inr (some g)))] [] (rI S a_1 (fillF (eI S a_1) (mN S a_1) (0 : Int32))) 0 0)))))))
    obtain ⟨⟨h1, h2, h3, h4, h5, h6, h7, h8, h9, w1, w2, hne, hbf⟩, g1, g2, g3, g4⟩ := hp
    rw [h9]
    refine ⟨h1, rfl, ⟨w1, by rw [w2]; decide⟩, Nat.le_refl _, Nat.le_refl _, H.length, 0, _, by omega, rfl, rfl, rfl, fun s hs => ?_, rfl, rfl⟩
    rw [w2, fillF_in hs]; rfl
  · intro av S hpre pc I hI k lo st S1 cs sl h
    obtain ⟨rfl, hp⟩ := hpre
    have hm := look_in hI
    rw [List.mem_singleton] at hm
    cases hm
    obtain ⟨i, f, hi, rfl, rfl, rfl, hf, rfl, rfl⟩ := h
    refine ⟨300, ?_⟩
    show (isO (rI S wa f) 6 g ∧ (0 = 0 ∧ ((pa (mR (rI S wa f) 604 g) fun a_1 => (∃ (d_2 c_3 kk_4 : Nat) (L_5 : List Nat), (AL (rI S wa f) a_1 d_2 c_3 kk_4 L_5) ∧ 0 ≤ 0 ∧ 0 ≤ 0 ∧ ((((nI L_5.length) ≤ (nI i) → (0 = 0 ∧ (∃ (rt_7 tk_8 d_9 c_10 sh_11 wa_12 : Nat) (X_13 : GX) (G_14 : Gr) (W0_15 W_16 : Nat → Nat), (ShP (rI S wa f) X_13 G_14 g rt_7 tk_8 d_9 c_10 sh_11 wa_12 W0_15 ∧ WR (rI S wa f) wa_12 W_16) ∧ 0 ≤ 0 ∧ 0 ≤ 0 ∧ (∀ (S_17 : MM), (swP (rI S wa f) S_17 X_13 G_14 g rt_7 sh_11 wa_12 W0_15 W_16) → (([] : List MV) = [] ∧ mret none (sp_gsa g rt tk d c sh wa ho he ht X G W0 H) [.inr (.inr (some g))] S none S_17 0 0))))) ∧ (¬ (nI L_5.length) ≤ (nI i) → (isO (rI S wa f) 6 g ∧ (0 = 0 ∧ ((pa (mR (rI S wa f) 604 g) fun a_18 => (∃ (i_19 : Nat), nI i = nI i_19 ∧ (∃ (d_20 c_21 kk_22 : Nat) (L_23 : List Nat), (AL (rI S wa f) a_18 d_20 c_21 kk_22 L_23 ∧ i_19 < L_23.length) ∧ 0 ≤ 0 ∧ 0 ≤ 0 ∧ (((∀ w_25, (L_23[i_19]?) = some w_25 → isO (rI S wa f) 5 w_25) ∧ (0 = 0 ∧ ((pa (L_23[i_19]?) fun a_26 => (∃ (X_27 : GX) (G_28 : Gr) (wa_29 ke_30 : Nat) (w_31 : Nat → Nat), (EvT (rI S wa f) X_27 G_28 ∧ isO (rI S wa f) 6 g ∧ mR (rI S wa f) 607 g = some wa_29 ∧ WR (rI S wa f) wa_29 w_31 ∧ mI (rI S wa f) 603 g = nI G_28.m ∧ ke_30 < G_28.n ∧ a_26 = X_27.ad ke_30 ∧ wa_29 ≠ X_27.bf ke_30) ∧ 0 ≤ 0 ∧ 0 ≤ 0 ∧ (∀ (S_32 : MM), (∃ fw, S_32 = rI (rI S wa f) wa_29 fw ∧ ∀ s, s < 16 → fw s = nI (max (w_31 s) (G_28.full ke_30 s))) → (∃ k1, k1 < k ∧ I_sa g wa G H S k1 [(1, .inl ((nI i) + (1 : Int32))), (0, .inr (.inr (some g)))] [] S_32 0 0))))))))))))))))))))))
    obtain ⟨⟨h1, h2, h3, h4, h5, ⟨s1, s2, s3⟩, h7, h8, h9, w1, w2, hne, hbf⟩, g1, g2, g3, g4⟩ := hp
    have hE : EvT (rI S wa f) X G := h7.row w1 (fun k hk => (hbf k hk).2)
    have hA : AL (rI S wa f) ho he ht 5 (H.map X.ad) := g2.row17 w1
    have hl := g2.2.2.2.1
    have hl2 := g2.2.2.2.2.1
    have jb : ∀ j s, G.jn (H.take j) s ≤ 100000 := fun j s => by
      have a := Gr.jn_cnt h7.1 (fun p hp9 => g3 p (List.mem_of_mem_take hp9)) s (P := H.take j)
      have b := Gr.cnt_le (G := G) G.n s
      have c := h7.1.hn
      rw [Gr.cn] at a
      omega
    have hWR : WR (rI S wa f) wa (G.jn (H.take i)) := ⟨w1, w2, fun s hs => ⟨by rw [show eI (rI S wa f) wa = f from va_up_self _ _ _]; exact hf s hs, jb i s⟩⟩
    have r604 : mR (rI S wa f) 604 g = some ho := g1
    rw [r604]
    rw [List.length_map] at hl
    refine ⟨h1, rfl, he, ht, 5, H.map X.ad, hA, Nat.le_refl _, Nat.le_refl _, ?_⟩
    rw [List.length_map]
    refine if_le (by omega) (by omega) (fun z => ⟨rfl, rt, tk, d, c, sh, wa, X, G, W0, G.jn H, ⟨⟨h1, h2, h3, h4.row17 w1, h5, ⟨s1, s2, fun s hs => ?_⟩, hE, h8, h9, w1, w2, hne, hbf⟩, ?_⟩, Nat.le_refl _, Nat.le_refl _, fun S9 h => ⟨rfl, trivial, ⟨rfl, f, ?_, h⟩, Nat.le_refl _, Nat.le_refl _⟩⟩) (fun z => ⟨h1, rfl, i, rfl, he, ht, 5, H.map X.ad, ⟨hA, by rw [List.length_map]; exact z⟩, Nat.le_refl _, Nat.le_refl _, fun w hw => hA.el (List.mem_of_getElem? hw), rfl, ?_⟩)
    · rw [show eI (rI S wa f) sh = eI S sh from va_up_ne _ _ hne]; exact s3 s hs
    · rw [List.take_of_length_le z] at hWR; exact hWR
    · rw [List.take_of_length_le z] at hf; exact hf
    · rw [List.getElem?_map, List.getElem?_eq_getElem z]
      have hin : H[i] < G.n := g3 _ (List.getElem_mem _)
      refine ⟨X, G, wa, H[i], G.jn (H.take i), ⟨hE, h1, h9, hWR, g4, hin, rfl, fun e => (hbf _ hin).2 e.symm⟩, Nat.le_refl _, Nat.le_refl _, fun S2 h => ?_⟩
      obtain ⟨f2, rfl, hf2⟩ := h
      refine ⟨k - 1, by omega, i + 1, f2, by omega, by rw [nI_1], rfl, rI_rI, fun s hs => ?_, rfl, rfl⟩
      rw [hf2 s hs, List.take_succ_eq_append_getElem z, Gr.jn_snoc]
theorem u_gsa (l : Launch) : Us l yX5_showAll cX5_showAll 2 none 5 109 6 T_gsa := by
  intro Rc Rs av S cs sl K Kx h
  unfold T_gsa at h
  split at h
  · rename_i g_o
    obtain ⟨g, rfl, h_1⟩ := pa_of h
    obtain ⟨rt, tk, d, c, sh, wa, ho, he, ht, X, G, W0, H, hp, hc, hs, hk⟩ := h_1
    refine ⟨(sp_gsa g rt tk d c sh wa ho he ht X G W0 H), c_gsa l g rt tk d c sh wa ho he ht X G W0 H, fun _ _ h9 => ⟨_, _, h9.1, h9.2.1.1⟩, ⟨rfl, hp⟩, hc, hs, fun S' h8 => by
      obtain ⟨-, h8⟩ := h8
      exact hk _ h8, fun _ _ q => q.elim⟩
  · exact h.elim
