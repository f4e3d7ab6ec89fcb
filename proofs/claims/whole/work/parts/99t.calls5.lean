/-! ===== VIEWS AND HUNKS ===== -/
def T_wbp : TR := fun Rc Rs av S cs sl K Kx => match av with
  | [.inr (.inr t_o), .inl b] => pa t_o fun t => (∃ (F : Nat → Nat × Nat) (z : Nat → Nat) (ft fo : Nat) (mp : Nat → Option Nat) (ms : Nat → Nat), (SfA S F t z ∧ SfB S F t z ft fo mp ms) ∧ cs + 1 ≤ Rc ∧ sl + 6 ≤ Rs ∧ ((∀ (v : Int32) (S' : MM), (S' = S ∧ ∃ i, i < 8 ∧ b = nI i ∧ v = stI (mp i)) → K (some (.inl v)) S' (cs + 1) (sl + 6)) ∧ ((np 8 b) → Kx 1 S (cs + 1) (sl + 6))))
  | _ => False
def sp_wbp (t : Nat) (b : Int32) (F : Nat → Nat × Nat) (z : Nat → Nat) (ft fo : Nat) (mp : Nat → Option Nat) (ms : Nat → Nat) : Sp := (fun av S => av = [.inr (.inr (some t)), .inl b] ∧ (SfA S F t z ∧ SfB S F t z ft fo mp ms), fun _ S => 1, fun _ S => 6, fun _ S rv S' => ∃ v, rv = (some (.inl v)) ∧ (S' = S ∧ ∃ i, i < 8 ∧ b = nI i ∧ v = stI (mp i)), fun _ S E S' => (E = 1 ∧ (np 8 b) ∧ S' = S))
def tX11_bookmarkedPeer : CD := [(0, .iload_n 1), (1, .ifCond .lt 13), (4, .iload_n 1), (5, .bipush 8), (7, .if_icmp .ge 7), (10, .iconst 1), (11, .goto 4), (14, .iconst 0), (15, .invokestatic 104), (18, .aload_n 0), (19, .getfield 37), (22, .iload_n 1), (23, .iaload), (24, .ireturn)]
set_option maxRecDepth 100000 in
theorem kX11_bookmarkedPeer : chk cX11_bookmarkedPeer tX11_bookmarkedPeer = true := by decide +kernel
theorem vX11_bookmarkedPeer_104 : ∀ w ∈ ([.methodLink RX11 104 yX11_require, .static yX11_require, .initialized yX11_require.cls, .code yX11_require cX11_require 1 none] : List Cond), w ∈ lw_good := List.forall_mem_cons.mpr ⟨mgd 801 (by decide +kernel) (by decide +kernel), List.forall_mem_cons.mpr ⟨mgd 802 (by decide +kernel) (by decide +kernel), List.forall_mem_cons.mpr ⟨mgd 121 (by decide +kernel) (by decide +kernel), List.forall_mem_cons.mpr ⟨mgd 803 (by decide +kernel) (by decide +kernel), fun _ h => absurd h List.not_mem_nil⟩⟩⟩⟩
set_option maxRecDepth 100000 in
set_option maxHeartbeats 2000000 in
theorem c_wbp (l : Launch) (hlt : l.stackTraces = false) : ∀ (t : Nat) (b : Int32) (F : Nat → Nat × Nat) (z : Nat → Nat) (ft fo : Nat) (mp : Nat → Option Nat) (ms : Nat → Nat), CtX l yX11_bookmarkedPeer (Cond.code yX11_bookmarkedPeer cX11_bookmarkedPeer 2 (some .int)) (some .int) 7 109 (sp_wbp t b F z ft fo mp ms) := by
  intro t b F z ft fo mp ms
  refine CtX.of hlt (fX11, nX11, aX11, iX11, lX11, [(104, 2, 1, 0, T_wrq)], qX11, gX11, []) false tX11_bookmarkedPeer (fun _ _ _ => none) (by decide) (by decide) kX11_bookmarkedPeer ⟨_, _, rfl⟩ fX11_ok nX11_ok aX11_ok iX11_ok lX11_ok (fun p e R s m args below meth c Q D cy z r A C hR1 hR2 => List.forall_mem_cons.mpr ⟨cOK_use (fun _ _ _ _ _ _ _ _ h => let ⟨sp, h1, _, h3⟩ := u_wrq l hlt _ _ _ _ _ _ _ _ h; ⟨sp, cOKx_S C h1 vX11_bookmarkedPeer_104 ⟨by decide, by decide, by decide +kernel⟩ ⟨by rw [hR1]; decide, by rw [hR2]; decide⟩, h3⟩), fun _ h => absurd h List.not_mem_nil⟩) qX11_ok gX11_ok (fun _ h => absurd h List.not_mem_nil) ?_ ?_
  · rintro _ S ⟨rfl, hp⟩
    refine ⟨Nat.le_of_ble_eq_true rfl, 300, ?_⟩
    show ((b < 0 → (2 = 2 ∧ (((0 : Int32) = 0 ∨ (0 : Int32) = 1) ∧ 0 + 1 ≤ 1 ∧ 0 + 6 ≤ 6 ∧ ((∀ (S_1 : MM), (S_1 = S ∧ (0 : Int32) = 1) → (isO S_1 12 t ∧ (pa (mR S_1 1208 t) fun a_2 => ∃ v_3 : Int32, (isO S_1 17 a_2 ∧ inR S_1 a_2 b ∧ v_3 = eI S_1 a_2 b.toNatClampNeg ∨ a_2 = (mQ S_1).1 ∧ vp_in b 16 ∧ v_3 = mRem b.toNatClampNeg) ∧ (([] : List MV) = [] ∧ mret (some .int) (sp_wbp t b F z ft fo mp ms) [.inr (.inr (some t)), .inl b] S (some (.inl v_3)) S_1 (0 + 1) (0 + 6))))) ∧ (((0 : Int32) = 0) → mthr (sp_wbp t b F z ft fo mp ms) [.inr (.inr (some t)), .inl b] S 1 S (0 + 1) (0 + 6)))))) ∧ (¬ b < 0 → (((8 : Int32) ≤ b → (2 = 2 ∧ (((0 : Int32) = 0 ∨ (0 : Int32) = 1) ∧ 0 + 1 ≤ 1 ∧ 0 + 6 ≤ 6 ∧ ((∀ (S_5 : MM), (S_5 = S ∧ (0 : Int32) = 1) → (isO S_5 12 t ∧ (pa (mR S_5 1208 t) fun a_6 => ∃ v_7 : Int32, (isO S_5 17 a_6 ∧ inR S_5 a_6 b ∧ v_7 = eI S_5 a_6 b.toNatClampNeg ∨ a_6 = (mQ S_5).1 ∧ vp_in b 16 ∧ v_7 = mRem b.toNatClampNeg) ∧ (([] : List MV) = [] ∧ mret (some .int) (sp_wbp t b F z ft fo mp ms) [.inr (.inr (some t)), .inl b] S (some (.inl v_7)) S_5 (0 + 1) (0 + 6))))) ∧ (((0 : Int32) = 0) → mthr (sp_wbp t b F z ft fo mp ms) [.inr (.inr (some t)), .inl b] S 1 S (0 + 1) (0 + 6)))))) ∧ (¬ (8 : Int32) ≤ b → (2 = 2 ∧ (((1 : Int32) = 0 ∨ (1 : Int32) = 1) ∧ 0 + 1 ≤ 1 ∧ 0 + 6 ≤ 6 ∧ ((∀ (S_9 : MM), (S_9 = S ∧ (1 : Int32) = 1) → (isO S_9 12 t ∧ (pa (mR S_9 1208 t) fun a_10 => ∃ v_11 : Int32, (isO S_9 17 a_10 ∧ inR S_9 a_10 b ∧ v_11 = eI S_9 a_10 b.toNatClampNeg ∨ a_10 = (mQ S_9).1 ∧ vp_in b 16 ∧ v_11 = mRem b.toNatClampNeg) ∧ (([] : List MV) = [] ∧ mret (some .int) (sp_wbp t b F z ft fo mp ms) [.inr (.inr (some t)), .inl b] S (some (.inl v_11)) S_9 (0 + 1) (0 + 6))))) ∧ (((1 : Int32) = 0) → mthr (sp_wbp t b F z ft fo mp ms) [.inr (.inr (some t)), .inl b] S 1 S (0 + 1) (0 + 6)))))))))
    obtain ⟨hA, hB⟩ := hp
    obtain ⟨c1, c2, c3, c4⟩ := hB.2.2.2.2.1
    refine ⟨fun h => ⟨rfl, Or.inl rfl, by decide, by decide, rq0 ⟨⟨rfl, np_lo (by decide) h, rfl⟩, Nat.le_of_ble_eq_true rfl, Nat.le_of_ble_eq_true rfl⟩⟩, fun q1 => ⟨fun h => ⟨rfl, Or.inl rfl, by decide, by decide, rq0 ⟨⟨rfl, np_hi (by decide) h, rfl⟩, Nat.le_of_ble_eq_true rfl, Nat.le_of_ble_eq_true rfl⟩⟩, fun q2 => ⟨rfl, Or.inr rfl, by decide, by decide, rq1 ?_⟩⟩⟩
    obtain ⟨i, hi, rfl⟩ := rng (m := 8) (by decide) q1 q2
    exact ⟨hA.1, pa_i (hA.2.2.1 8 (by decide) (by decide) (by decide) (by decide)) ⟨_, Or.inl ⟨c1, inRn c2 hi (by decide), rfl⟩, rfl, trivial, ⟨_, rfl, rfl, i, hi, rfl, by rw [nI_clamp (by omega)]; exact c4 i hi⟩, Nat.le_of_ble_eq_true rfl, Nat.le_of_ble_eq_true rfl⟩⟩
  · exact fun _ _ _ _ _ h => by cases h
theorem u_wbp (l : Launch) (hlt : l.stackTraces = false) : UsX l yX11_bookmarkedPeer (Cond.code yX11_bookmarkedPeer cX11_bookmarkedPeer 2 (some .int)) (some .int) 7 109 12 T_wbp := by
  intro Rc Rs av S cs sl K Kx h
  unfold T_wbp at h
  split at h
  · rename_i t_o b
    obtain ⟨t, rfl, h_1⟩ := pa_of h
    obtain ⟨F, z, ft, fo, mp, ms, hp, hc, hs, hk, hx0⟩ := h_1
    refine ⟨(sp_wbp t b F z ft fo mp ms), c_wbp l hlt t b F z ft fo mp ms, fun _ _ h9 => ⟨_, _, h9.1, h9.2.1.1⟩, ⟨rfl, hp⟩, hc, hs, fun v9 S' h8 => by
      obtain ⟨v8, h7, h8⟩ := h8
      cases h7
      exact hk _ _ h8, fun _ _ q => by
      rcases q with ⟨rfl, q⟩
      · obtain ⟨q, rfl⟩ := q
        exact hx0 q⟩
  · exact h.elim
def vgS (n l : Nat) : Nat := if l = n then 2 * n else n
def avQ (S S' : MM) (F : Nat → Nat × Nat) (t : Nat) (z : Nat → Nat) (vw : List Int32) (n : Nat) (c : Int32) : Prop := ∃ F' z', SfV S' F' t z' (vw ++ [c]) (vgS n vw.length) ∧ mR S' 1210 t = some (z' 10) ∧ (∀ k, k ≠ 10 → z' k = z k) ∧ (∀ b, b ∈ mL S → F' b = F b) ∧ FO S' F' ∧ Keep (fun b => b = t ∨ b = z 10) S S' ∧ (∀ k, k ≠ 1210 → mR S' k t = mR S k t) ∧ (∀ k, k ≠ 1211 → mI S' k t = mI S k t) ∧ (z' 10 = z 10 ∨ z' 10 ∉ mL S)
def avR (S : MM) (F : Nat → Nat × Nat) (t : Nat) (z : Nat → Nat) (vw : List Int32) (n : Nat) : Prop := isO S 12 t ∧ F t = (20, 1) ∧ mR S 1210 t = some (z 10) ∧ SfV S F t z vw n ∧ FO S F ∧ vw.length ≤ 10000
section AVQ
variable {S S' : MM} {F F' : Nat → Nat × Nat} {t : Nat} {z z' : Nat → Nat} {X X' : Nat → GX} {K K' : Nat → Nat} {Q Q' : Ab} {O : Nat → Prop}
theorem WTz.rest (h : WTz S F t z X K Q) (hk : Keep (fun b => O (F b).1) S S') (hf : ∀ b, b ∈ mL S → F' b = F b) (hFO : FO S' F')
    (h2 : ∀ p, p < 4 → PeX S' F' p (z (30 + p)) (X' p) (Q'.G p) (Q'.T p) (Q'.E p) (Q'.Kn p) (K' (30 + p)) ∨ (¬ O (p + 1) ∧ ¬ O (p + 11) ∧ ¬ O (p + 31) ∧ X' p = X p ∧ Q'.G p = Q.G p ∧ Q'.T p = Q.T p ∧ Q'.E p = Q.E p ∧ Q'.Kn p = Q.Kn p ∧ K' (30 + p) = K (30 + p)))
    (h3 : (∃ d, Bt S' F' 21 (z 0) d Q'.tp (K' 0)) ∨ (¬ O 21 ∧ Q'.tp = Q.tp ∧ K' 0 = K 0))
    (h4 : (∃ d B, Bt S' F' 22 (z 1) d B (K' 1)) ∨ (¬ O 22 ∧ K' 1 = K 1))
    (h5 : ∀ k, k < 8 → (∃ d, Bt S' F' (50 + k) (z (20 + k)) d (Q'.sl k) (K' (20 + k))) ∨ (¬ O (50 + k) ∧ Q'.sl k = Q.sl k ∧ K' (20 + k) = K (20 + k)))
    (h6 : Wk S' F' (z 4) (z 6) K' ∨ (¬ O 23 ∧ ∀ k, 40 ≤ k → k ≤ 50 → K' k = K k))
    (h7 : Rk S' F' (z 5) (z 6) ∨ ¬ O 24)
    (h8 : (∃ r f0 s0, HuR S' F' 25 (z 12) r (K' 12) Q'.hu f0 s0 0 0 ∧ K' 12 ≤ 32768) ∨ (¬ O 25 ∧ Q'.hu = Q.hu ∧ K' 12 = K 12)) : (∀ p, p < 4 → PeX S' F' p (z (30 + p)) (X' p) (Q'.G p) (Q'.T p) (Q'.E p) (Q'.Kn p) (K' (30 + p))) ∧ (∃ d, Bt S' F' 21 (z 0) d Q'.tp (K' 0)) ∧ (∃ d B, Bt S' F' 22 (z 1) d B (K' 1)) ∧ (∀ k, k < 8 → ∃ d, Bt S' F' (50 + k) (z (20 + k)) d (Q'.sl k) (K' (20 + k))) ∧ Wk S' F' (z 4) (z 6) K' ∧ Rk S' F' (z 5) (z 6) ∧ (∃ r f0 s0, HuR S' F' 25 (z 12) r (K' 12) Q'.hu f0 s0 0 0 ∧ K' 12 ≤ 32768) ∧ FO S' F' := by
  obtain ⟨g1, g2, g3, g4, g5, g6, g7, g8, g9⟩ := h
  refine ⟨fun p hp => ?_, ?_, ?_, fun k hk9 => ?_, ?_, ?_, ?_, hFO⟩
  · rcases h2 p hp with w | ⟨w1, w2, w9, w3, w4, w5, w6, w7, w8⟩
    · exact w
    · rw [w3, w4, w5, w6, w7, w8]
      obtain ⟨A, H, W, r, a, d, ea, kn, kr, cu, hp9⟩ := g2 p hp
      exact ⟨A, H, W, r, a, d, ea, kn, kr, cu, hp9.keep hk (fun b e => by rcases e with e | e | e <;> rw [e] <;> assumption) hf hFO⟩
  · rcases h3 with w | ⟨w1, w2, w3⟩
    · exact w
    · obtain ⟨d, hd⟩ := g3
      exact ⟨d, by rw [w2, w3]; exact hd.keep hk (fun b e => by rw [e]; exact w1) hf⟩
  · rcases h4 with w | ⟨w1, w2⟩
    · exact w
    · obtain ⟨d, B, hd⟩ := g4
      exact ⟨d, B, by rw [w2]; exact hd.keep hk (fun b e => by rw [e]; exact w1) hf⟩
  · rcases h5 k hk9 with w | ⟨w1, w2, w3⟩
    · exact w
    · obtain ⟨d, hd⟩ := g5 k hk9
      exact ⟨d, by rw [w2, w3]; exact hd.keep hk (fun b e => by rw [e]; exact w1) hf⟩
  · rcases h6 with w | ⟨w1, w2⟩
    · exact w
    · obtain ⟨pl, me, a, d, V, cap, hp, hn, ho⟩ := g6
      have q : ∀ b, (F b).1 = 23 → ¬ O (F b).1 := fun b e => by rw [e]; exact w1
      refine ⟨pl, me, a, d, V, cap, hp.keep hk q hf hFO, fun k hk9 => ?_, ?_⟩
      · rw [w2 _ (by omega) (by omega), ← hn k hk9]
        exact (hk.1 (d k) (hp.2.2.2.2.2.2.2.2.2.1 k hk9).1.2.2.1.1).2.2
      · rw [w2 _ (by omega) (by omega), ← ho]
        exact (hk.1 (a 7) hp.2.2.2.2.2.2.2.2.2.2.2.2.1.2.2.2.2.2.2.1.1).2.2
  · rcases h7 with w | w
    · exact w
    · obtain ⟨cu, ids, fnd, hr⟩ := g7
      exact ⟨cu, ids, fnd, hr.kp hk (fun b e => by rw [e]; exact w) hf⟩
  · rcases h8 with w | ⟨w1, w2, w3⟩
    · exact w
    · obtain ⟨r, f0, s0, hu, h32⟩ := g8
      exact ⟨r, f0, s0, by rw [w2, w3]; exact ⟨hu.kp hk (fun b e => by rw [e]; exact w1) hf hFO, h32⟩⟩
/-- the view's row may be another -/
theorem WTz.selfz (h : WTz S F t z X K Q) (hz : ∀ k, k ≠ 10 → z' k = z k) (h1 : Sf S' F' t z' X K' Q') (hK : ∀ l, l ≠ 10 → K' l = K l) (e1 : Q'.G = Q.G) (e2 : Q'.T = Q.T) (e3 : Q'.E = Q.E) (e4 : Q'.Kn = Q.Kn) (e5 : Q'.tp = Q.tp) (e6 : Q'.sl = Q.sl) (e7 : Q'.hu = Q.hu) (hk : Keep (fun b => (F b).1 = 20) S S') (hf : ∀ b, b ∈ mL S → F' b = F b) (hFO : FO S' F') : WTz S' F' t z' X K' Q' := by
  obtain ⟨a1, a2, a3, a4, a5, a6, a7, a8⟩ := h.rest (O := fun o => o = 20) (X' := X) (K' := K') (Q' := Q') hk hf hFO (fun p hp => Or.inr ⟨(fun w => by replace w : p + 1 = 20 := w; omega), (fun w => by replace w : p + 11 = 20 := w; omega), (fun w => by replace w : p + 31 = 20 := w; omega), rfl, by rw [e1], by rw [e2], by rw [e3], by rw [e4], hK _ (by omega)⟩) (Or.inr ⟨(fun w => by replace w : 21 = 20 := w; omega), e5, hK 0 (by omega)⟩) (Or.inr ⟨(fun w => by replace w : 22 = 20 := w; omega), hK 1 (by omega)⟩) (fun k hk9 => Or.inr ⟨(fun w => by replace w : 50 + k = 20 := w; omega), by rw [e6], hK _ (by omega)⟩) (Or.inr ⟨(fun w => by replace w : 23 = 20 := w; omega), fun l h1 h2 => hK _ (by omega)⟩) (Or.inr (fun w => by replace w : 24 = 20 := w; omega)) (Or.inr ⟨(fun w => by replace w : 25 = 20 := w; omega), e7, hK 12 (by omega)⟩)
  refine ⟨h1, fun p hp => ?_, ?_, ?_, fun k hk9 => ?_, ?_, ?_, ?_, a8⟩
  · rw [hz _ (by omega)]; exact a1 p hp
  · rw [hz _ (by omega)]; exact a2
  · rw [hz _ (by omega)]; exact a3
  · rw [hz _ (by omega)]; exact a4 k hk9
  · rw [hz _ (by omega), hz _ (by omega)]; exact a5
  · rw [hz _ (by omega), hz _ (by omega)]; exact a6
  · rw [hz _ (by omega)]; exact a7
theorem SfV.put {vw : List Int32} {n : Nat} {c : Int32} (h : SfV S F t z vw n) (ht : isO S 12 t) (h0 : F t = (20, 1)) (hl : vw.length < n) : SfV (sI (rI S (z 10) (upd (eI S (z 10)) vw.length c)) 1211 t (nI (vw.length + 1))) F t z (vw ++ [c]) n := by
  obtain ⟨h1, a1, a2, a3, h2, h3, h4, a4⟩ := h
  have el : (vw ++ [c]).length = vw.length + 1 := by rw [List.length_append]; rfl
  refine ⟨by rw [el]; exact mI_sIs, a1, a2, a3, by rw [el]; omega, h3, h4, fun k hk => ?_⟩
  rw [el] at hk
  show va_up (eI S) (z 10) (upd (eI S (z 10)) vw.length c) (z 10) k = _
  rw [va_up_self]
  show (if k = vw.length then c else eI S (z 10) k) = _
  by_cases e : k = vw.length
  · rw [if_pos e, e, List.getD_eq_getElem?_getD, List.getElem?_append_right (Nat.le_refl _), Nat.sub_self]; rfl
  · rw [if_neg e, a4 k (by omega), List.getD_eq_getElem?_getD, List.getD_eq_getElem?_getD, List.getElem?_append_left (by omega)]
end AVQ
def T_wav : TR := fun Rc Rs av S cs sl K _Kx => match av with
  | [.inr (.inr t_o), .inl c] => pa t_o fun t => (∃ (F : Nat → Nat × Nat) (z : Nat → Nat) (vw : List Int32) (n : Nat), (avR S F t z vw n) ∧ cs + (if vw.length = n then 1 else 0) ≤ Rc ∧ sl + (if vw.length = n then 2 * n else 0) ≤ Rs ∧ (∀ (S' : MM), (avQ S S' F t z vw n c) → K none S' (cs + (if vw.length = n then 1 else 0)) (sl + (if vw.length = n then 2 * n else 0))))
  | _ => False
def sp_wav (t : Nat) (c : Int32) (F : Nat → Nat × Nat) (z : Nat → Nat) (vw : List Int32) (n : Nat) : Sp := (fun av S => av = [.inr (.inr (some t)), .inl c] ∧ (avR S F t z vw n), fun _ S => (if vw.length = n then 1 else 0), fun _ S => (if vw.length = n then 2 * n else 0), fun _ S rv S' => rv = none ∧ (avQ S S' F t z vw n c), fun _ _ _ _ => False)
def tX11_addToView : CD := [(0, .aload_n 0), (1, .getfield 47), (4, .aload_n 0), (5, .getfield 44), (8, .arraylength), (9, .if_icmp .ne 20), (12, .aload_n 0), (13, .aload_n 0), (14, .getfield 44), (17, .iconst 2), (18, .aload_n 0), (19, .getfield 47), (22, .imul), (23, .invokestatic 284), (26, .putfield 44), (29, .aload_n 0), (30, .getfield 44), (33, .aload_n 0), (34, .getfield 47), (37, .iload_n 1), (38, .iastore), (39, .aload_n 0), (40, .dup), (41, .getfield 47), (44, .iconst 1), (45, .iadd), (46, .putfield 47), (49, .return_)]
set_option maxRecDepth 100000 in
theorem kX11_addToView : chk cX11_addToView tX11_addToView = true := by decide +kernel
theorem vX11_addToView_284 : ∀ w ∈ ([.methodLink RX11 284 yJ7_copyOf_59c91, .static yJ7_copyOf_59c91, .initialized yJ7_copyOf_59c91.cls, .code yJ7_copyOf_59c91 cJ7_copyOf_59c91 3 (some (.array .int))] : List Cond), w ∈ lw_good := List.forall_mem_cons.mpr ⟨mgd 1266 (by decide +kernel) (by decide +kernel), List.forall_mem_cons.mpr ⟨mgd 1267 (by decide +kernel) (by decide +kernel), List.forall_mem_cons.mpr ⟨mgd 135 (by decide +kernel) (by decide +kernel), List.forall_mem_cons.mpr ⟨mgd 1268 (by decide +kernel) (by decide +kernel), fun _ h => absurd h List.not_mem_nil⟩⟩⟩⟩
set_option maxRecDepth 100000 in
set_option maxHeartbeats 2000000 in
theorem c_wav (l : Launch) : ∀ (t : Nat) (c : Int32) (F : Nat → Nat × Nat) (z : Nat → Nat) (vw : List Int32) (n : Nat), Ct l yX11_addToView cX11_addToView 2 none 2 54 (sp_wav t c F z vw n) := by
  intro t c F z vw n
  refine Ct.of (fX11, nX11, aX11, iX11, lX11, [(284, 2, 2, 3, T_cpi)], qX11, gX11, []) false tX11_addToView (fun _ _ _ => none) (by decide) (by decide) kX11_addToView ⟨_, _, rfl⟩ fX11_ok nX11_ok aX11_ok iX11_ok lX11_ok (fun p e R s m args below meth c Q D cy z r A C hR1 hR2 => List.forall_mem_cons.mpr ⟨cOK_use (fun _ _ _ _ _ _ _ _ h => let ⟨sp, h1, _, h3⟩ := u_cpi l _ _ _ _ _ _ _ _ h; ⟨sp, cOK_S C h1 vX11_addToView_284 ⟨by decide, by decide, by decide +kernel⟩ ⟨by rw [hR1]; decide, by rw [hR2]; decide⟩, h3⟩), fun _ h => absurd h List.not_mem_nil⟩) qX11_ok gX11_ok rfl ?_ ?_
  · rintro _ S ⟨rfl, hp⟩
    refine ⟨Nat.le_of_ble_eq_true rfl, 300, ?_⟩
    show (isO S 12 t ∧ (isO S 12 t ∧ (pa (mR S 1210 t) fun a_1 => ∃ v_2 : Int32, (a_1 ∈ mL S ∧ ¬ mK S a_1 < 16 ∧ mK S a_1 < 29 ∧ v_2 = Int32.ofNat (mN S a_1) ∨ a_1 = mZ S ∧ v_2 = 0) ∧ ((¬ (mI S 1211 t) = v_2 → (isO S 12 t ∧ (isO S 12 t ∧ (pa (mR S 1210 t) fun a_3 => isO S 17 a_3 ∧ inR S a_3 (mI S 1211 t) ∧ (isO (rI S a_3 (upd (eI S a_3) (mI S 1211 t).toNatClampNeg c)) 12 t ∧ (True ∧ (isO (rI S a_3 (upd (eI S a_3) (mI S 1211 t).toNatClampNeg c)) 12 t ∧ (([] : List MV) = [] ∧ mret none (sp_wav t c F z vw n) [.inr (.inr (some t)), .inl c] S none (sI (rI S a_3 (upd (eI S a_3) (mI S 1211 t).toNatClampNeg c)) 1211 t ((mI (rI S a_3 (upd (eI S a_3) (mI S 1211 t).toNatClampNeg c)) 1211 t) + (1 : Int32))) 0 0)))))))) ∧ ((mI S 1211 t) = v_2 → (isO S 12 t ∧ (isO S 12 t ∧ (2 = 2 ∧ ((pa (mR S 1210 t) fun a_4 => (∃ (n_5 : Nat), (2 : Int32) * (mI S 1211 t) = nI n_5 ∧ ((isO S 17 a_4 ∧ mN S a_4 < n_5 ∧ n_5 ≤ 60000000) ∧ 0 + 1 ≤ (if vw.length = n then 1 else 0) ∧ 0 + n_5 ≤ (if vw.length = n then 2 * n else 0) ∧ (∀ (x_7 : Option Nat) (S_6 : MM), (∃ q, q ∉ mL S ∧ x_7 = some q ∧ S_6 = cpI S a_4 q n_5) → (True ∧ (isO S_6 12 t ∧ (isO (sR S_6 1210 t x_7) 12 t ∧ (isO (sR S_6 1210 t x_7) 12 t ∧ (pa (mR (sR S_6 1210 t x_7) 1210 t) fun a_8 => isO (sR S_6 1210 t x_7) 17 a_8 ∧ inR (sR S_6 1210 t x_7) a_8 (mI (sR S_6 1210 t x_7) 1211 t) ∧ (isO (rI (sR S_6 1210 t x_7) a_8 (upd (eI (sR S_6 1210 t x_7) a_8) (mI (sR S_6 1210 t x_7) 1211 t).toNatClampNeg c)) 12 t ∧ (True ∧ (isO (rI (sR S_6 1210 t x_7) a_8 (upd (eI (sR S_6 1210 t x_7) a_8) (mI (sR S_6 1210 t x_7) 1211 t).toNatClampNeg c)) 12 t ∧ (([] : List MV) = [] ∧ mret none (sp_wav t c F z vw n) [.inr (.inr (some t)), .inl c] S none (sI (rI (sR S_6 1210 t x_7) a_8 (upd (eI (sR S_6 1210 t x_7) a_8) (mI (sR S_6 1210 t x_7) 1211 t).toNatClampNeg c)) 1211 t ((mI (rI (sR S_6 1210 t x_7) a_8 (upd (eI (sR S_6 1210 t x_7) a_8) (mI (sR S_6 1210 t x_7) 1211 t).toNatClampNeg c)) 1211 t) + (1 : Int32))) (0 + 1) (0 + n_5)))))))))))))))))))))))
    obtain ⟨ht, h0, hr, hV, hF, hl⟩ := hp
    have hV0 := hV
    obtain ⟨v1, v2, v3, v4, v5, v6, v7, v8⟩ := hV
    have tz : t ≠ z 10 := F_ne h0 v4 (by decide)
    refine ⟨ht, ht, pa_i hr ⟨_, Or.inl ⟨v2.1, by rw [v2.2]; decide, by rw [v2.2]; decide, rfl⟩, ?_⟩⟩
    rw [v1, v3, show Int32.ofNat n = nI n from rfl, nI_clamp (by omega)]
    refine ⟨fun ne => ?_, fun eq => ?_⟩
    · have hne : vw.length ≠ n := fun e => ne (by rw [e])
      have k1 : Keep (fun b => b = t ∨ b = z 10) S (sI (rI S (z 10) (upd (eI S (z 10)) vw.length c)) 1211 t (nI (vw.length + 1))) := Keep.sI (P := fun b => b = t ∨ b = z 10) (Keep.rI (P := fun b => b = t ∨ b = z 10) Keep.rf (Or.inr rfl)) (Or.inl rfl)
      refine ⟨ht, ht, pa_i hr ⟨v2, inRn v3 (by omega) (by omega), ht, trivial, ht, rfl, ?_⟩⟩
      rw [show mI (rI S (z 10) (upd (eI S (z 10)) vw.length c)) 1211 t = nI vw.length from v1, nI_1]
      refine ⟨trivial, ⟨rfl, F, z, ?_, hr, fun _ _ => rfl, fun _ _ => rfl, hF, k1, fun _ _ => rfl, fun k hk => ?_, Or.inl rfl⟩, Nat.zero_le _, Nat.zero_le _⟩
      · rw [vgS, if_neg hne]; exact hV0.put ht h0 (by omega)
      · rw [mI_sI, if_neg (fun w => hk w.1)]; rfl
    · have he : vw.length = n := (nI_eq (by omega) (by omega)).1 eq
      refine ⟨ht, ht, rfl, pa_i hr ⟨2 * vw.length, nI_mul2 (by omega), ⟨v2, by omega, by omega⟩, by rw [if_pos he]; omega, by rw [if_pos he]; omega, fun v S6 h6 => ?_⟩⟩
      obtain ⟨q, hq, rfl, e6⟩ := h6
      have tq : t ≠ q := fun e => hq (e ▸ ht.1)
      have k6 : Keep (fun _ => False) S S6 := by
        rw [e6]
        exact (Keep.nA (P := fun _ => False) (k := 17) (n := 2 * vw.length) Keep.rf hq).trN (Keep.rI (P := fun b => b = q) Keep.rf rfl) (fun b hb w => absurd (w ▸ hb) hq)
      have oq : isO S6 17 q := by rw [e6]; exact (isO_nA_self : isO (nA S q 17 (2 * vw.length)) 17 q)
      have nq : mN S6 q = 2 * n := by rw [e6]; show mN (nA S q 17 (2 * vw.length)) q = 2 * n; rw [mN_nA, if_pos rfl, he]
      have eq9 : ∀ k, k < vw.length → eI S6 q k = vw.getD k 0 := fun k hk => by
        rw [e6]
        show va_up (eI (nA S q 17 (2 * vw.length))) q (fun k => if k < mN S (z 10) then eI S (z 10) k else 0) q k = _
        rw [va_up_self, v3, if_pos (by omega)]; exact v8 k hk
      clear e6
      have o6 : isO S6 12 t := k6.isO ht
      have o7 : isO (sR S6 1210 t (some q)) 12 t := isO_sR o6
      have m6 : mI S6 1211 t = nI vw.length := ((k6.2.1 t ht.1 (fun w => w)).1 _).trans v1
      have hV7 : SfV (sR S6 1210 t (some q)) (fun b => if b = q then (20, 6) else F b) t (updN z 10 q) vw (2 * n) := ⟨m6, by rw [updN_eq]; exact isO_sR oq, by rw [updN_eq]; exact nq, by rw [updN_eq]; exact if_pos rfl, by omega, by omega, by omega, fun k hk => by rw [updN_eq]; exact eq9 k hk⟩
      have f7 : (fun b => if b = q then ((20, 6) : Nat × Nat) else F b) t = (20, 1) := (if_neg tq).trans h0
      have w := hV7.put (c := c) o7 f7 (by omega)
      rw [updN_eq] at w
      have k7 : Keep (fun b => b = t ∨ b = z 10) S (sR S6 1210 t (some q)) := Keep.sR (P := fun b => b = t ∨ b = z 10) (k6.mono (fun _ _ w => w.elim)) (Or.inl rfl)
      have k8 : Keep (fun b => b = t ∨ b = q) (sR S6 1210 t (some q)) (sI (rI (sR S6 1210 t (some q)) q (upd (eI (sR S6 1210 t (some q)) q) vw.length c)) 1211 t (nI (vw.length + 1))) := Keep.sI (P := fun b => b = t ∨ b = q) (Keep.rI (P := fun b => b = t ∨ b = q) Keep.rf (Or.inr rfl)) (Or.inl rfl)
      have k9 := k7.trN k8 (fun b hb w => w.elim (fun e => Or.inl e) (fun e => absurd (e ▸ hb) hq))
      have mq : mR (sR S6 1210 t (some q)) 1210 t = some q := by rw [mR_sR, if_pos ⟨rfl, rfl⟩]
      refine ⟨trivial, o6, o7, o7, pa_i mq ⟨isO_sR oq, ?_, ?_⟩⟩
      · rw [show mI (sR S6 1210 t (some q)) 1211 t = nI vw.length from m6]; exact inRn (S := sR S6 1210 t (some q)) nq (by omega) (by omega)
      · rw [show mI (sR S6 1210 t (some q)) 1211 t = nI vw.length from m6, nI_clamp (by omega), show mI (rI (sR S6 1210 t (some q)) q (upd (eI (sR S6 1210 t (some q)) q) vw.length c)) 1211 t = nI vw.length from m6, nI_1]
        refine ⟨o7, trivial, o7, rfl, trivial, ⟨rfl, (fun b => if b = q then ((20, 6) : Nat × Nat) else F b), updN z 10 q, ?_, ?_, fun k hk => updN_ne hk, F_new hq, FO_new hF (fun b hb => (k9.1 b hb).1) (k8.1 q (isO_sR oq).1).1, k9, fun k hk => ?_, fun k hk => ?_, Or.inr (by rw [updN_eq]; exact hq)⟩, ?_, ?_⟩
        · rw [vgS, if_pos he]; exact w
        · rw [updN_eq]; exact mq
        · show mR (sR S6 1210 t (some q)) k t = _
          rw [mR_sR, if_neg (fun w => hk w.1)]; exact (k6.2.1 t ht.1 (fun w => w)).2.1 k
        · rw [mI_sI, if_neg (fun w => hk w.1)]; exact (k6.2.1 t ht.1 (fun w => w)).1 k
        · show 0 + 1 ≤ (if vw.length = n then 1 else 0); rw [if_pos he]; omega
        · show 0 + 2 * vw.length ≤ (if vw.length = n then 2 * n else 0); rw [if_pos he]; omega
  · exact fun _ _ _ _ _ h => by cases h
theorem u_wav (l : Launch) : Us l yX11_addToView cX11_addToView 2 none 2 54 12 T_wav := by
  intro Rc Rs av S cs sl K Kx h
  unfold T_wav at h
  split at h
  · rename_i t_o c
    obtain ⟨t, rfl, h_1⟩ := pa_of h
    obtain ⟨F, z, vw, n, hp, hc, hs, hk⟩ := h_1
    refine ⟨(sp_wav t c F z vw n), c_wav l t c F z vw n, fun _ _ h9 => ⟨_, _, h9.1, h9.2.1⟩, ⟨rfl, hp⟩, hc, hs, fun S' h8 => by
      obtain ⟨-, h8⟩ := h8
      exact hk _ h8, fun _ _ q => q.elim⟩
  · exact h.elim
/-! view -/
/-- whether event k stands in the version of the first m events -/
def stM (G : Gr) (m k : Nat) : Nat := if k < m ∧ (∀ j, stk G k = some j → m ≤ j) then 1 else 0
def vwG (G : Gr) (m : Nat) (L : List Nat) : List Int32 := (L.filter (fun x => stM G m (x - 1) == 1)).map (fun x => chI (G.ev (x - 1)).ch)
def vgN (n : Nat) : Nat → Nat
  | 0 => n
  | m + 1 => vgS (vgN n m) m
def vgC (n : Nat) : Nat → Nat
  | 0 => 0
  | m + 1 => vgC n m + (if m = vgN n m then 1 else 0)
def vgZ (n : Nat) : Nat → Nat
  | 0 => 0
  | m + 1 => vgZ n m + (if m = vgN n m then 2 * vgN n m else 0)
theorem vgC_mono {n a b : Nat} (h : a ≤ b) : vgC n a ≤ vgC n b := by
  induction h with
  | refl => exact Nat.le_refl _
  | step _ ih => exact Nat.le_trans ih (Nat.le_add_right _ _)
theorem vgZ_mono {n a b : Nat} (h : a ≤ b) : vgZ n a ≤ vgZ n b := by
  induction h with
  | refl => exact Nat.le_refl _
  | step _ ih => exact Nat.le_trans ih (Nat.le_add_right _ _)
/-- marks are no later than their graphs -/
def AbM (Q : Ab) : Prop := ∀ i, i < 8 → ∀ p, Q.mp i = some p → Q.ms i ≤ (Q.G p).n
def viN (Q : Ab) (i : Nat) : Nat := match Q.mp i with
  | none => 0
  | some p => (vwG (Q.G p) (Q.ms i) (Q.T p).od).length
theorem chn_mid {S : MM} : ∀ {L1 : List Nat} {p : Option Nat} {v : Nat} {L2 : List Nat}, chn S p (L1 ++ v :: L2) → isO S 5 v ∧ mR S 512 v = L2.head?
  | [], p, v, L2, h => by
    obtain ⟨h1, h2, h3⟩ := h
    refine ⟨h2, ?_⟩
    cases L2 with
    | nil => exact h3
    | cons w R => exact h3.1
  | a :: L1, p, v, L2, h => chn_mid (L1 := L1) h.2.2
theorem std_stM {S : MM} {X : GX} {G : Gr} {k m : Nat} (h2 : mI S 502 (X.ad k) = nI k) (h14 : mI S 514 (X.ad k) = stI (stk G k)) (hk : k < 8192) (hm : m ≤ 8192) (hn : G.n ≤ 8192) : stN S (nI m) (X.ad k) = stM G m k := by
  unfold stN stM
  rw [h2, h14]
  by_cases c : m ≤ k
  · rw [if_pos ((nI_leI (by omega) (by omega)).2 c), if_neg (fun w => by omega)]
  · rw [if_neg (fun w => c ((nI_leI (by omega) (by omega)).1 w))]
    cases e : stk G k with
    | none =>
      show (if (-1 : Int32) = -1 then 1 else if (-1 : Int32) < nI m then 0 else 1) = _
      rw [if_pos rfl, if_pos ⟨by omega, fun j w => by cases w⟩]
    | some j =>
      have hj : j < G.n := List.mem_range.1 (List.mem_of_find?_eq_some e)
      show (if nI j = -1 then 1 else if nI j < nI m then 0 else 1) = _
      rw [if_neg (fun (w : nI j = -1) => absurd (show nI j < 0 by rw [w]; decide) (nI_pos (by omega)))]
      by_cases c2 : j < m
      · rw [if_pos ((nI_ltI (by omega) (by omega)).2 c2), if_neg (fun w => by have := w.2 j rfl; omega)]
      · rw [if_neg (fun w => c2 ((nI_ltI (by omega) (by omega)).1 w)), if_pos ⟨by omega, fun j2 w => by cases w; omega⟩]
def I_vi (t : Nat) (b : Int32) (F : Nat → Nat × Nat) (X : Nat → GX) (kz : Nat → Nat) (Q : Ab) (S : MM) (k : Nat) : KT := fun lo st S1 cs sl => ∃ z A H W i p F1 z1 U V, k = V.length ∧ WTz S F t z X kz Q ∧ i < 8 ∧ b = nI i ∧ p < 4 ∧ Q.mp i = some p ∧ GI S F (p + 1) A (X p) (Q.G p) (Q.T p) H W ∧ (Q.T p).od = U ++ V ∧ avR S1 F1 t z1 (vwG (Q.G p) (Q.ms i) U) (vgN (kz 10) (vwG (Q.G p) (Q.ms i) U).length) ∧ (∀ k, k ≠ 10 → z1 k = z k) ∧ (∀ b, b ∈ mL S → F1 b = F b) ∧ Keep (fun b => b = t ∨ b = z 10) S S1 ∧ (∀ k, k ≠ 1210 → mR S1 k t = mR S k t) ∧ (∀ k, k ≠ 1211 → mI S1 k t = mI S k t) ∧ (z1 10 = z 10 ∨ z1 10 ∉ mL S) ∧ lo = [(0, .inr (.inr (some t))), (1, .inl b), (3, .inr (.inr (V.map (xa A (X p))).head?))] ∧ st = [] ∧ cs = 1 + vgC (kz 10) (vwG (Q.G p) (Q.ms i) U).length ∧ sl = 6 + vgZ (kz 10) (vwG (Q.G p) (Q.ms i) U).length
def T_wvi : TR := fun Rc Rs av S cs sl K Kx => match av with
  | [.inr (.inr t_o), .inl b] => pa t_o fun t => (∃ (F : Nat → Nat × Nat) (X : Nat → GX) (kz : Nat → Nat) (Q : Ab), (WT S F t X kz Q ∧ AbM Q) ∧ cs + (vgC (kz 10) (viN Q b.toNatClampNeg) + 2) ≤ Rc ∧ sl + (vgZ (kz 10) (viN Q b.toNatClampNeg) + 12) ≤ Rs ∧ ((∀ (v : Int32) (S' : MM), (∃ i p, i < 8 ∧ b = nI i ∧ Q.mp i = some p ∧ v = nI (vwG (Q.G p) (Q.ms i) (Q.T p).od).length ∧ wtQ S S' F t X (upF kz 10 (vgN (kz 10) (viN Q i))) (Q.sVw (vwG (Q.G p) (Q.ms i) (Q.T p).od))) → K (some (.inl v)) S' (cs + (vgC (kz 10) (viN Q b.toNatClampNeg) + 2)) (sl + (vgZ (kz 10) (viN Q b.toNatClampNeg) + 12))) ∧ ((np 8 b) → Kx 1 S (cs + (vgC (kz 10) (viN Q b.toNatClampNeg) + 2)) (sl + (vgZ (kz 10) (viN Q b.toNatClampNeg) + 12))) ∧ ((∃ i, i < 8 ∧ b = nI i ∧ Q.mp i = none) → Kx 2 S (cs + (vgC (kz 10) (viN Q b.toNatClampNeg) + 2)) (sl + (vgZ (kz 10) (viN Q b.toNatClampNeg) + 12)))))
  | _ => False
def sp_wvi (t : Nat) (b : Int32) (F : Nat → Nat × Nat) (X : Nat → GX) (kz : Nat → Nat) (Q : Ab) : Sp := (fun av S => av = [.inr (.inr (some t)), .inl b] ∧ (WT S F t X kz Q ∧ AbM Q), fun _ S => vgC (kz 10) (viN Q b.toNatClampNeg) + 2, fun _ S => vgZ (kz 10) (viN Q b.toNatClampNeg) + 12, fun _ S rv S' => ∃ v, rv = (some (.inl v)) ∧ (∃ i p, i < 8 ∧ b = nI i ∧ Q.mp i = some p ∧ v = nI (vwG (Q.G p) (Q.ms i) (Q.T p).od).length ∧ wtQ S S' F t X (upF kz 10 (vgN (kz 10) (viN Q i))) (Q.sVw (vwG (Q.G p) (Q.ms i) (Q.T p).od))), fun _ S E S' => (E = 1 ∧ (np 8 b) ∧ S' = S) ∨ (E = 2 ∧ (∃ i, i < 8 ∧ b = nI i ∧ Q.mp i = none) ∧ S' = S))
theorem vwG_app {G : Gr} {m : Nat} {U : List Nat} {x : Nat} : vwG G m (U ++ [x]) = if stM G m (x - 1) = 1 then vwG G m U ++ [chI (G.ev (x - 1)).ch] else vwG G m U := by
  unfold vwG
  rw [List.filter_append, List.map_append, List.filter_cons]
  by_cases e : stM G m (x - 1) = 1
  · rw [if_pos e, if_pos (beq_iff_eq.2 e)]; rfl
  · rw [if_neg e, if_neg (fun w => e (beq_iff_eq.1 w))]; simp
theorem vwG_le {G : Gr} {m : Nat} {U V : List Nat} : (vwG G m U).length ≤ (vwG G m (U ++ V)).length := by
  unfold vwG
  rw [List.length_map, List.length_map, List.filter_append, List.length_append]
  exact Nat.le_add_right _ _
def tX11_view : CD := [(0, .aload_n 0), (1, .iload_n 1), (2, .invokevirtual 208), (5, .istore_n 2), (6, .iload_n 2), (7, .iconst (-1)), (8, .if_icmp .ne 11), (11, .new 147), (14, .dup), (15, .invokespecial 149), (18, .athrow), (19, .aload_n 0), (20, .iconst 0), (21, .putfield 47), (24, .aload_n 0), (25, .getfield 25), (28, .iload_n 2), (29, .aaload), (30, .getfield 112), (33, .getfield 211), (36, .getfield 215), (39, .astore_n 3), (40, .aload_n 3), (41, .ifnull 32), (44, .aload_n 3), (45, .aload_n 0), (46, .getfield 41), (49, .iload_n 1), (50, .iaload), (51, .invokevirtual 218), (54, .ifCond .eq 11), (57, .aload_n 0), (58, .aload_n 3), (59, .getfield 162), (62, .invokevirtual 221), (65, .aload_n 3), (66, .getfield 215), (69, .astore_n 3), (70, .goto (-30)), (73, .aload_n 0), (74, .getfield 47), (77, .ireturn)]
set_option maxRecDepth 100000 in
theorem kX11_view : chk cX11_view tX11_view = true := by decide +kernel
theorem vX11_view_208 : ∀ w ∈ ([.methodLink RX11 208 yX11_bookmarkedPeer, .instanceMethod yX11_bookmarkedPeer, .selects yX11_bookmarkedPeer.cls yX11_bookmarkedPeer yX11_bookmarkedPeer, .initialized yX11_bookmarkedPeer.cls, .code yX11_bookmarkedPeer cX11_bookmarkedPeer 2 (some .int)] : List Cond), w ∈ lw_good := List.forall_mem_cons.mpr ⟨mgd 1254 (by decide +kernel) (by decide +kernel), List.forall_mem_cons.mpr ⟨mgd 1256 (by decide +kernel) (by decide +kernel), List.forall_mem_cons.mpr ⟨mgd 20 (by decide +kernel) (by decide +kernel), List.forall_mem_cons.mpr ⟨mgd 121 (by decide +kernel) (by decide +kernel), List.forall_mem_cons.mpr ⟨mgd 1257 (by decide +kernel) (by decide +kernel), fun _ h => absurd h List.not_mem_nil⟩⟩⟩⟩⟩
theorem vX11_view_218 : ∀ w ∈ ([.methodLink RX11 218 yX4_standsIn, .instanceMethod yX4_standsIn, .selects yX4_standsIn.cls yX4_standsIn yX4_standsIn, .initialized yX4_standsIn.cls, .code yX4_standsIn cX4_standsIn 2 (some .boolean)] : List Cond), w ∈ lw_good := List.forall_mem_cons.mpr ⟨mgd 1258 (by decide +kernel) (by decide +kernel), List.forall_mem_cons.mpr ⟨mgd 1259 (by decide +kernel) (by decide +kernel), List.forall_mem_cons.mpr ⟨mgd 1260 (by decide +kernel) (by decide +kernel), List.forall_mem_cons.mpr ⟨mgd 126 (by decide +kernel) (by decide +kernel), List.forall_mem_cons.mpr ⟨mgd 1261 (by decide +kernel) (by decide +kernel), fun _ h => absurd h List.not_mem_nil⟩⟩⟩⟩⟩
theorem vX11_view_221 : ∀ w ∈ ([.methodLink RX11 221 yX11_addToView, .instanceMethod yX11_addToView, .selects yX11_addToView.cls yX11_addToView yX11_addToView, .initialized yX11_addToView.cls, .code yX11_addToView cX11_addToView 2 none] : List Cond), w ∈ lw_good := List.forall_mem_cons.mpr ⟨mgd 1262 (by decide +kernel) (by decide +kernel), List.forall_mem_cons.mpr ⟨mgd 1264 (by decide +kernel) (by decide +kernel), List.forall_mem_cons.mpr ⟨mgd 21 (by decide +kernel) (by decide +kernel), List.forall_mem_cons.mpr ⟨mgd 121 (by decide +kernel) (by decide +kernel), List.forall_mem_cons.mpr ⟨mgd 1265 (by decide +kernel) (by decide +kernel), fun _ h => absurd h List.not_mem_nil⟩⟩⟩⟩⟩
set_option maxRecDepth 100000 in
set_option maxHeartbeats 2000000 in
theorem c_wvi (l : Launch) (hlt : l.stackTraces = false) : ∀ (t : Nat) (b : Int32) (F : Nat → Nat × Nat) (X : Nat → GX) (kz : Nat → Nat) (Q : Ab), CtX l yX11_view (Cond.code yX11_view cX11_view 4 (some .int)) (some .int) 8 130 (sp_wvi t b F X kz Q) := by
  intro t b F X kz Q
  refine CtX.of hlt (fX11, nX11, aX11, iX11, lX11, [(208, 0, 2, 1, T_wbp), (218, 0, 2, 1, T_std), (221, 0, 2, 0, T_wav)], qX11, gX11, thX11) false tX11_view (fun _ S => look [(40, ([0,1,3], I_vi t b F X kz Q S))]) (by decide) (by decide) kX11_view ⟨_, _, rfl⟩ fX11_ok nX11_ok aX11_ok iX11_ok lX11_ok (fun p e R s m args below meth c Q D cy z r A C hR1 hR2 => List.forall_mem_cons.mpr ⟨cOK_use (fun _ _ _ _ _ _ _ _ h => let ⟨sp, h1, h2, h3⟩ := u_wbp l hlt _ _ _ _ _ _ _ _ h; ⟨sp, cOKx_V C h1 vX11_view_208 ⟨by decide, by decide, by decide +kernel⟩ ⟨by rw [hR1]; decide, by rw [hR2]; decide⟩ (k := 12) (T := TX11) (N := 15) rfl (by decide) h2, h3⟩), List.forall_mem_cons.mpr ⟨cOK_use (fun _ _ _ _ _ _ _ _ h => let ⟨sp, h1, h2, h3⟩ := u_std l _ _ _ _ _ _ _ _ h; ⟨sp, cOK_V C h1 vX11_view_218 ⟨by decide, by decide, by decide +kernel⟩ ⟨by rw [hR1]; decide, by rw [hR2]; decide⟩ (k := 5) (T := TX4) (N := 16) rfl (by decide) h2, h3⟩), List.forall_mem_cons.mpr ⟨cOK_use (fun _ _ _ _ _ _ _ _ h => let ⟨sp, h1, h2, h3⟩ := u_wav l _ _ _ _ _ _ _ _ h; ⟨sp, cOK_V C h1 vX11_view_221 ⟨by decide, by decide, by decide +kernel⟩ ⟨by rw [hR1]; decide, by rw [hR2]; decide⟩ (k := 12) (T := TX11) (N := 15) rfl (by decide) h2, h3⟩), fun _ h => absurd h List.not_mem_nil⟩⟩⟩) qX11_ok gX11_ok (fun q hq => ⟨thX11_ok q hq, by decide, by decide⟩) ?_ ?_
  · rintro _ S ⟨rfl, hp⟩
    refine ⟨Nat.le_of_ble_eq_true rfl, 300, ?_⟩
    show (0 = 0 ∧ (∃ (F_1 : Nat → Nat × Nat) (z_2 : Nat → Nat) (ft_3 fo_4 : Nat) (mp_5 : Nat → Option Nat) (ms_6 : Nat → Nat), (SfA S F_1 t z_2 ∧ SfB S F_1 t z_2 ft_3 fo_4 mp_5 ms_6) ∧ 0 + 1 ≤ vgC (kz 10) (viN Q b.toNatClampNeg) + 2 ∧ 0 + 6 ≤ vgZ (kz 10) (viN Q b.toNatClampNeg) + 12 ∧ ((∀ (x_8 : Int32) (S_7 : MM), (S_7 = S ∧ ∃ i, i < 8 ∧ b = nI i ∧ x_8 = stI (mp_5 i)) → ((¬ x_8 = (-1 : Int32) → (True ∧ (isO S_7 12 t ∧ (isO (sI S_7 1211 t (0 : Int32)) 12 t ∧ (pa (mR (sI S_7 1211 t (0 : Int32)) 1203 t) fun a_9 => a_9 ∈ mL (sI S_7 1211 t (0 : Int32)) ∧ ¬ mK (sI S_7 1211 t (0 : Int32)) a_9 < 21 ∧ mK (sI S_7 1211 t (0 : Int32)) a_9 < 29 ∧ inR (sI S_7 1211 t (0 : Int32)) a_9 x_8 ∧ (pa (eR (sI S_7 1211 t (0 : Int32)) a_9 x_8.toNatClampNeg) fun a_10 => isO (sI S_7 1211 t (0 : Int32)) 11 a_10 ∧ (pa (mR (sI S_7 1211 t (0 : Int32)) 1101 a_10) fun a_11 => isO (sI S_7 1211 t (0 : Int32)) 6 a_11 ∧ (pa (mR (sI S_7 1211 t (0 : Int32)) 600 a_11) fun a_12 => isO (sI S_7 1211 t (0 : Int32)) 5 a_12 ∧ (∃ k1, I_vi t b F X kz Q S k1 [(0, .inr (.inr (some t))), (1, .inl b), (3, .inr (.inr (mR (sI S_7 1211 t (0 : Int32)) 512 a_12)))] [] (sI S_7 1211 t (0 : Int32)) (0 + 1) (0 + 6)))))))))) ∧ (x_8 = (-1 : Int32) → (mthr (sp_wvi t b F X kz Q) [.inr (.inr (some t)), .inl b] S 2 S_7 (0 + 1 + 1) (0 + 6 + 6))))) ∧ ((np 8 b) → mthr (sp_wvi t b F X kz Q) [.inr (.inr (some t)), .inl b] S 1 S (0 + 1) (0 + 6)))))
    obtain ⟨⟨z, hz⟩, hM⟩ := hp
    refine ⟨rfl, F, z, _, _, _, _, ⟨hz.1.1, hz.1.2.1⟩, by omega, by omega, fun v S3 h => ?_, fun h => ⟨Or.inl ⟨rfl, h, rfl⟩, by show _ ≤ vgC (kz 10) (viN Q b.toNatClampNeg) + 2; omega, by show _ ≤ vgZ (kz 10) (viN Q b.toNatClampNeg) + 12; omega⟩⟩
    obtain ⟨rfl, i, hi, rfl, rfl⟩ := h
    cases e : Q.mp i with
    | none => exact ⟨fun w => absurd rfl w, fun _ => ⟨Or.inr ⟨rfl, ⟨i, hi, rfl, e⟩, rfl⟩, by show _ ≤ vgC (kz 10) (viN Q (nI i).toNatClampNeg) + 2; omega, by show _ ≤ vgZ (kz 10) (viN Q (nI i).toNatClampNeg) + 12; omega⟩⟩
    | some p =>
      have hp4 : p < 4 := hz.1.2.1.2.2.2.2.2.2 i hi p e
      refine ⟨fun _ => ?_, fun w => absurd (show nI p < 0 by rw [show nI p = -1 from w]; decide) (nI_pos (by omega))⟩
      obtain ⟨A, H, W, r, a', d, ea, kn, kr, cu, hP⟩ := hz.2.1 p hp4
      have g := hP.gi
      obtain ⟨c1, c2, c3, c4⟩ := hz.1.1.2.2.2.2
      have ht := hz.1.1.1
      have r3 : mR S3 1203 t = some (z 3) := hz.1.1.2.2.1 3 (by decide) (by decide) (by decide) (by decide)
      have k0 : Keep (fun b => b = t) S3 (sI S3 1211 t 0) := Keep.sI (P := fun b => b = t) Keep.rf rfl
      obtain ⟨v1, v2, v3, v4, v5, v6, v7, v8⟩ := hz.1.2.2.1
      have ch := g.chn
      have hd : mR S3 512 (A 1) = ((Q.T p).od.map (xa A (X p))).head? := by
        cases e9 : (Q.T p).od.map (xa A (X p)) with
        | nil => rw [e9] at ch; exact ch
        | cons v R => rw [e9] at ch; exact ch.1
      refine ⟨trivial, ht, isO_sI ht, pa_i r3 ⟨c1.1, by show ¬ mK S3 (z 3) < 21; rw [c1.2]; decide, by show mK S3 (z 3) < 29; rw [c1.2]; decide, inRn (S := sI S3 1211 t 0) c2 hp4 (by decide), ?_⟩⟩
      rw [show stI (some p) = nI p from rfl, nI_clamp (by omega), show eR (sI S3 1211 t 0) (z 3) p = some (z (30 + p)) from c4 p hp4]
      refine ⟨isO_sI hP.1.1, pa_i hP.1.2.2.2.1 ⟨isO_sI (g 0).1, pa_i (g 1).1 ⟨isO_sI (g 1).2.1, _, z, A, H, W, i, p, F, z, [], (Q.T p).od, rfl, hz, hi, rfl, hp4, e, g, rfl, ⟨isO_sI ht, hz.1.1.2.1, hz.1.1.2.2.1 10 (by decide) (by decide) (by decide) (by decide), ⟨mI_sIs, v2, v3, v4, Nat.zero_le _, v6, v7, fun k hk => absurd hk (Nat.not_lt_zero k)⟩, hz.fo, Nat.zero_le _⟩, fun _ _ => rfl, fun _ _ => rfl, k0.mono (fun b _ w => Or.inl w), fun _ _ => rfl, fun k hk => by rw [mI_sI, if_neg (fun w => hk w.1)], Or.inl rfl, ?_, rfl, rfl, rfl⟩⟩⟩
      rw [show mR (sI S3 1211 t 0) 512 (A 1) = mR S3 512 (A 1) from rfl, hd]
  · intro av S hpre pc I hI k lo st S1 cs sl h
    obtain ⟨rfl, hp⟩ := hpre
    have hm := look_in hI
    rw [List.mem_singleton] at hm
    cases hm
    obtain ⟨z, A, H, W, i, p, F1, z1, U, V, rfl, hz, hi, hbi, hp4, hmp, hg, hod, hav, hz1, hf1, hk1, hr1, hi1, hn1, rfl, rfl, rfl, rfl⟩ := h
    refine ⟨300, ?_⟩
    show ((((V.map (xa A (X p))).head?) = none → (isO S1 12 t ∧ (([] : List MV) = [] ∧ mret (some .int) (sp_wvi t b F X kz Q) [.inr (.inr (some t)), .inl b] S (some (.inl (mI S1 1211 t))) S1 (1 + vgC (kz 10) (vwG (Q.G p) (Q.ms i) U).length) (6 + vgZ (kz 10) (vwG (Q.G p) (Q.ms i) U).length)))) ∧ (∀ w_1, ((V.map (xa A (X p))).head?) = some w_1 → (isO S1 12 t ∧ (pa (mR S1 1209 t) fun a_2 => ∃ v_3 : Int32, (isO S1 17 a_2 ∧ inR S1 a_2 b ∧ v_3 = eI S1 a_2 b.toNatClampNeg ∨ a_2 = (mQ S1).1 ∧ vp_in b 16 ∧ v_3 = mRem b.toNatClampNeg) ∧ (0 = 0 ∧ ((pa ((V.map (xa A (X p))).head?) fun a_4 => ((isO S1 5 a_4) ∧ 1 + vgC (kz 10) (vwG (Q.G p) (Q.ms i) U).length ≤ vgC (kz 10) (viN Q b.toNatClampNeg) + 2 ∧ 6 + vgZ (kz 10) (vwG (Q.G p) (Q.ms i) U).length ≤ vgZ (kz 10) (viN Q b.toNatClampNeg) + 12 ∧ ((((if v_3 ≤ mI S1 502 a_4 then 0 else if mI S1 514 a_4 = -1 then 1 else if mI S1 514 a_4 < v_3 then 0 else 1) = 0 → (pa ((V.map (xa A (X p))).head?) fun a_6 => isO S1 5 a_6 ∧ (∃ k1, k1 < V.length ∧ I_vi t b F X kz Q S k1 [(0, .inr (.inr (some t))), (1, .inl b), (3, .inr (.inr (mR S1 512 a_6)))] [] S1 (1 + vgC (kz 10) (vwG (Q.G p) (Q.ms i) U).length) (6 + vgZ (kz 10) (vwG (Q.G p) (Q.ms i) U).length)))) ∧ (¬ (if v_3 ≤ mI S1 502 a_4 then 0 else if mI S1 514 a_4 = -1 then 1 else if mI S1 514 a_4 < v_3 then 0 else 1) = 0 → (pa ((V.map (xa A (X p))).head?) fun a_7 => isO S1 5 a_7 ∧ (0 = 0 ∧ (∃ (F_8 : Nat → Nat × Nat) (z_9 : Nat → Nat) (vw_10 : List Int32) (n_11 : Nat), (avR S1 F_8 t z_9 vw_10 n_11) ∧ 1 + vgC (kz 10) (vwG (Q.G p) (Q.ms i) U).length + (if vw_10.length = n_11 then 1 else 0) ≤ vgC (kz 10) (viN Q b.toNatClampNeg) + 2 ∧ 6 + vgZ (kz 10) (vwG (Q.G p) (Q.ms i) U).length + (if vw_10.length = n_11 then 2 * n_11 else 0) ≤ vgZ (kz 10) (viN Q b.toNatClampNeg) + 12 ∧ (∀ (S_12 : MM), (avQ S1 S_12 F_8 t z_9 vw_10 n_11 (mI S1 505 a_7)) → (pa ((V.map (xa A (X p))).head?) fun a_13 => isO S_12 5 a_13 ∧ (∃ k1, k1 < V.length ∧ I_vi t b F X kz Q S k1 [(0, .inr (.inr (some t))), (1, .inl b), (3, .inr (.inr (mR S_12 512 a_13)))] [] S_12 (1 + vgC (kz 10) (vwG (Q.G p) (Q.ms i) U).length + (if vw_10.length = n_11 then 1 else 0)) (6 + vgZ (kz 10) (vwG (Q.G p) (Q.ms i) U).length + (if vw_10.length = n_11 then 2 * n_11 else 0)))))))))))))))))))
    have hM := hp.2
    have cb : b.toNatClampNeg = i := by rw [hbi]; exact nI_clamp (by omega)
    have eN : viN Q i = (vwG (Q.G p) (Q.ms i) (Q.T p).od).length := by unfold viN; rw [hmp]
    have hle : (vwG (Q.G p) (Q.ms i) U).length ≤ viN Q i := by rw [eN, hod]; exact vwG_le
    have fne := hz.1.ne
    have gn := hg.ok.hn
    rw [cb]
    cases V with
    | nil =>
      refine ⟨fun _ => ?_, fun w hw => by cases hw⟩
      rw [List.append_nil] at hod
      have ht1 := hav.1
      obtain ⟨f1, f2, f3, f8, f9, f10, f13, f14⟩ := fne
      have q : ∀ {b r}, F b = (20, r) → r ≠ 1 → r ≠ 6 → ¬ (b = t ∨ b = z 10) := fun e r1 r6 w => w.elim (F_ne e f1 r1) (F_ne e f10 r6)
      have k20 : Keep (fun b => (F b).1 = 20) S S1 := hk1.mono (fun b _ w => by
        rcases w with w | w <;> rw [w]
        · rw [f1]
        · rw [f10])
      have sf : Sf S1 F1 t z1 X (upF kz 10 (vgN (kz 10) (viN Q i))) (Q.sVw (vwG (Q.G p) (Q.ms i) (Q.T p).od)) := by
        obtain ⟨⟨a1, a2, a3, ⟨b1, b2, b3, b4⟩, ⟨c1, c2, c3, c4⟩⟩, ⟨s1, s2, s3, s4, ⟨d1, d2, d3, d4⟩, ⟨e1, e2, e3, e4⟩, s5⟩, -, ⟨⟨g1, g2, g3, g4⟩, ⟨h1, h2, h3, h4⟩, s6⟩⟩ := hz.1
        have r2 := row_keep (F' := F1) b1 b2 b3 hk1 hf1
        have r3 := row_keep (F' := F1) c1 c2 c3 hk1 hf1
        have r8 := row_keep (F' := F1) d1 d2 d3 hk1 hf1
        have r9 := row_keep (F' := F1) e1 e2 e3 hk1 hf1
        have r13 := row_keep (F' := F1) g1 g2 g3 hk1 hf1
        have r14 := row_keep (F' := F1) h1 h2 h3 hk1 hf1
        refine ⟨⟨ht1, hav.2.1, fun k k1 k2 k3 k4 => ?_, ?_, ?_⟩, ⟨(hi1 1206 (by decide)).trans s1, s2, (hi1 1207 (by decide)).trans s3, s4, ?_, ?_, s5⟩, ?_, ?_, ?_, s6⟩
        · by_cases e : k = 10
          · subst e; exact hav.2.2.1
          · rw [hz1 k e, hr1 _ (by omega)]; exact a3 k k1 k2 k3 k4
        · rw [hz1 2 (by decide)]
          exact ⟨r2.1, r2.2.1, r2.2.2, fun k hk => by rw [(hk1.2.1 _ b1.1 (q f2 (by decide) (by decide))).2.2.2.2.2, hz1 (20 + k) (by omega)]; exact b4 k hk⟩
        · rw [hz1 3 (by decide)]
          exact ⟨r3.1, r3.2.1, r3.2.2, fun k hk => by rw [(hk1.2.1 _ c1.1 (q f3 (by decide) (by decide))).2.2.2.2.2, hz1 (30 + k) (by omega)]; exact c4 k hk⟩
        · rw [hz1 8 (by decide)]
          exact ⟨r8.1, r8.2.1, r8.2.2, fun k hk => by rw [(hk1.2.1 _ d1.1 (q f8 (by decide) (by decide))).2.2.2.1]; exact d4 k hk⟩
        · rw [hz1 9 (by decide)]
          exact ⟨r9.1, r9.2.1, r9.2.2, fun k hk hn => by rw [(hk1.2.1 _ e1.1 (q f9 (by decide) (by decide))).2.2.2.1]; exact e4 k hk hn⟩
        · show SfV S1 F1 t z1 (vwG (Q.G p) (Q.ms i) (Q.T p).od) (upF kz 10 (vgN (kz 10) (viN Q i)) 10)
          rw [upF_s, eN, hod]
          exact hav.2.2.2.1
        · rw [hz1 13 (by decide)]
          exact ⟨r13.1, r13.2.1, r13.2.2, fun k hk => by rw [(hk1.2.1 _ g1.1 (q f13 (by decide) (by decide))).2.2.2.1]; exact g4 k hk⟩
        · rw [hz1 14 (by decide)]
          exact ⟨r14.1, r14.2.1, r14.2.2, fun k hk p9 hp9 => by rw [(hk1.2.1 _ h1.1 (q f14 (by decide) (by decide))).2.2.2.2.2]; exact h4 k hk p9 hp9⟩
      have w := hz.selfz hz1 sf (fun l hl => upF_o hl) rfl rfl rfl rfl rfl rfl rfl k20 hf1 hav.2.2.2.2.1
      refine ⟨ht1, rfl, trivial, ⟨_, rfl, i, p, hi, hbi, hmp, ?_, F1, ⟨z1, w⟩, hf1, k20.mono (fun b _ e => by show cO (F b).1; rw [e]; exact ⟨by decide, by decide⟩)⟩, ?_, ?_⟩
      · rw [hav.2.2.2.1.1, hod]
      · show _ ≤ vgC (kz 10) (viN Q b.toNatClampNeg) + 2
        have := vgC_mono (n := kz 10) hle
        rw [cb]; omega
      · show _ ≤ vgZ (kz 10) (viN Q b.toNatClampNeg) + 12
        have := vgZ_mono (n := kz 10) hle
        rw [cb]; omega
    | cons x V =>
      refine ⟨(fun w => by cases w), fun w hw => ?_⟩
      cases hw
      have hx : x ∈ (Q.T p).od := by rw [hod]; simp
      obtain ⟨k, rfl, hkn, hkc⟩ := hg.nd hx
      have ho2 : (Q.T p).od = (U ++ [k + 1]) ++ V := by rw [hod]; simp
      have ch := hg.chn
      rw [hod, List.map_append, List.map_cons] at ch
      obtain ⟨o5, n5⟩ := chn_mid ch
      have fk : F ((X p).ad k) = (p + 1, 100 + k) := (hg 11 k hkn).1
      have nk : ¬ ((X p).ad k = t ∨ (X p).ad k = z 10) := fun w => by
        rcases w with w | w <;> rw [w] at fk
        · rw [fne.1] at fk; injection fk with q1; omega
        · rw [fne.2.2.2.2.2.1] at fk; injection fk with q1; omega
      have kk := hk1.2.1 ((X p).ad k) o5.1 nk
      have ev := hg.ev.2.1 k hkn
      have o51 : isO S1 5 ((X p).ad k) := hk1.isO o5
      have m2 : mI S1 502 ((X p).ad k) = nI k := (kk.1 _).trans ev.2.2.2.1
      have m14 : mI S1 514 ((X p).ad k) = stI (stk (Q.G p) k) := (kk.1 _).trans (hg 15 k hkn hkc)
      have m5 : mI S1 505 ((X p).ad k) = chI ((Q.G p).ev k).ch := (kk.1 _).trans ev.2.2.2.2.2.2.2.2.2.2.2.2.1
      have hms : Q.ms i ≤ (Q.G p).n := hM i hi p hmp
      obtain ⟨e1, e2, e3, e4⟩ := hz.1.2.1.2.2.2.2.2.1
      have r9 := row_keep (F' := F1) e1 e2 e3 hk1 hf1
      have n9 : ¬ (z 9 = t ∨ z 9 = z 10) := fun w => w.elim (F_ne fne.2.2.2.2.1 fne.1 (by decide)) (F_ne fne.2.2.2.2.1 fne.2.2.2.2.2.1 (by decide))
      have v9 : eI S1 (z 9) i = nI (Q.ms i) := by rw [(hk1.2.1 _ e1.1 n9).2.2.2.1]; exact e4 i hi (by rw [hmp]; intro w; cases w)
      have sv : (if nI (Q.ms i) ≤ mI S1 502 ((X p).ad k) then (0 : Int32) else if mI S1 514 ((X p).ad k) = -1 then 1 else if mI S1 514 ((X p).ad k) < nI (Q.ms i) then 0 else 1) = nI (stM (Q.G p) (Q.ms i) k) := by
        rw [stN_v, std_stM m2 m14 (by omega) (by omega) gn]
      have cc1 := vgC_mono (n := kz 10) hle
      have cc2 := vgZ_mono (n := kz 10) hle
      refine ⟨hav.1, pa_i ((hr1 1209 (by decide)).trans (hz.1.1.2.2.1 9 (by decide) (by decide) (by decide) (by decide))) ⟨_, Or.inl ⟨r9.1, by rw [hbi]; exact inRn r9.2.1 hi (by decide), rfl⟩, rfl, pa_i rfl ⟨o51, by omega, by omega, ?_⟩⟩⟩
      rw [v9]
      show ((if nI (Q.ms i) ≤ mI S1 502 ((X p).ad k) then (0 : Int32) else if mI S1 514 ((X p).ad k) = -1 then 1 else if mI S1 514 ((X p).ad k) < nI (Q.ms i) then 0 else 1) = 0 → _) ∧ (¬ (if nI (Q.ms i) ≤ mI S1 502 ((X p).ad k) then (0 : Int32) else if mI S1 514 ((X p).ad k) = -1 then 1 else if mI S1 514 ((X p).ad k) < nI (Q.ms i) then 0 else 1) = 0 → _)
      rw [sv]
      have s01 : stM (Q.G p) (Q.ms i) k = 0 ∨ stM (Q.G p) (Q.ms i) k = 1 := by unfold stM; split <;> simp
      refine ⟨fun h0 => ?_, fun h1 => ?_⟩
      · have es : stM (Q.G p) (Q.ms i) k ≠ 1 := fun w => by rw [w] at h0; exact absurd h0 (by decide)
        have ev2 : vwG (Q.G p) (Q.ms i) (U ++ [k + 1]) = vwG (Q.G p) (Q.ms i) U := by rw [vwG_app, Nat.add_sub_cancel, if_neg es]
        refine pa_i rfl ⟨o51, V.length, by simp, z, A, H, W, i, p, F1, z1, U ++ [k + 1], V, rfl, hz, hi, hbi, hp4, hmp, hg, ho2, by rw [ev2]; exact hav, hz1, hf1, hk1, hr1, hi1, hn1, ?_, rfl, by rw [ev2], by rw [ev2]⟩
        rw [show mR S1 512 (xa A (X p) (k + 1)) = mR S 512 ((X p).ad k) from kk.2.1 512]
        rw [show mR S 512 ((X p).ad k) = (V.map (xa A (X p))).head? from n5]
      · have es : stM (Q.G p) (Q.ms i) k = 1 := s01.resolve_left (fun w => h1 (by rw [w]; rfl))
        have ev2 : vwG (Q.G p) (Q.ms i) (U ++ [k + 1]) = vwG (Q.G p) (Q.ms i) U ++ [chI ((Q.G p).ev k).ch] := by rw [vwG_app, Nat.add_sub_cancel, if_pos es]
        have el : (vwG (Q.G p) (Q.ms i) (U ++ [k + 1])).length = (vwG (Q.G p) (Q.ms i) U).length + 1 := by rw [ev2, List.length_append]; rfl
        have hle2 : (vwG (Q.G p) (Q.ms i) U).length + 1 ≤ viN Q i := by rw [← el, eN, ho2]; exact vwG_le
        have d1 := vgC_mono (n := kz 10) hle2
        have d2 := vgZ_mono (n := kz 10) hle2
        have d1 : vgC (kz 10) (vwG (Q.G p) (Q.ms i) U).length + (if (vwG (Q.G p) (Q.ms i) U).length = vgN (kz 10) (vwG (Q.G p) (Q.ms i) U).length then 1 else 0) ≤ vgC (kz 10) (viN Q i) := d1
        have d2 : vgZ (kz 10) (vwG (Q.G p) (Q.ms i) U).length + (if (vwG (Q.G p) (Q.ms i) U).length = vgN (kz 10) (vwG (Q.G p) (Q.ms i) U).length then 2 * vgN (kz 10) (vwG (Q.G p) (Q.ms i) U).length else 0) ≤ vgZ (kz 10) (viN Q i) := d2
        refine pa_i rfl ⟨o51, rfl, F1, z1, _, _, hav, by omega, by omega, fun S3 h3 => ?_⟩
        obtain ⟨F3, z3, g1, g2, g3, g4, g5, g6, g7, g8, g9⟩ := h3
        have k3 : Keep (fun b => b = t ∨ b = z 10) S S3 := hk1.trN g6 (fun b hb w => w.elim Or.inl (fun w => by
          rcases hn1 with e | e
          · exact Or.inr (w.trans e)
          · exact absurd (w ▸ hb) e))
        have l10 : ((vwG (Q.G p) (Q.ms i) U) ++ [mI S1 505 (xa A (X p) (k + 1))]).length ≤ 10000 := by
          have a1 : viN Q i ≤ 8192 := by
            rw [eN]; unfold vwG
            rw [List.length_map]
            exact Nat.le_trans (List.length_filter_le _ _) (Nat.le_trans hg.odl gn)
          rw [List.length_append, List.length_singleton]; omega
        have ev3 : vwG (Q.G p) (Q.ms i) (U ++ [k + 1]) = vwG (Q.G p) (Q.ms i) U ++ [mI S1 505 (xa A (X p) (k + 1))] := by rw [ev2]; exact congrArg (fun c => _ ++ [c]) m5.symm
        refine pa_i rfl ⟨k3.isO o5, V.length, by simp, z, A, H, W, i, p, F3, z3, U ++ [k + 1], V, rfl, hz, hi, hbi, hp4, hmp, hg, ho2, ⟨k3.isO hz.1.1.1, (g4 t hav.1.1).trans hav.2.1, g2, ?_, g5, by rw [ev3]; exact l10⟩, fun k9 hk9 => (g3 k9 hk9).trans (hz1 k9 hk9), fun b9 hb9 => (g4 b9 (hk1.1 b9 hb9).1).trans (hf1 b9 hb9), k3, fun k9 hk9 => (g7 k9 hk9).trans (hr1 k9 hk9), fun k9 hk9 => (g8 k9 hk9).trans (hi1 k9 hk9), ?_, ?_, rfl, ?_, ?_⟩
        · rw [el, ev3]; exact g1
        · rcases g9 with e | e
          · rw [e]; exact hn1
          · exact Or.inr (fun w => e (hk1.1 _ w).1)
        · rw [show mR S3 512 (xa A (X p) (k + 1)) = mR S 512 ((X p).ad k) from (k3.2.1 ((X p).ad k) o5.1 nk).2.1 512]
          rw [show mR S 512 ((X p).ad k) = (V.map (xa A (X p))).head? from n5]
        · rw [el, Nat.add_assoc]; rfl
        · rw [el, Nat.add_assoc]; rfl
theorem u_wvi (l : Launch) (hlt : l.stackTraces = false) : UsX l yX11_view (Cond.code yX11_view cX11_view 4 (some .int)) (some .int) 8 130 12 T_wvi := by
  intro Rc Rs av S cs sl K Kx h
  unfold T_wvi at h
  split at h
  · rename_i t_o b
    obtain ⟨t, rfl, h_1⟩ := pa_of h
    obtain ⟨F, X, kz, Q, hp, hc, hs, hk, hx0, hx1⟩ := h_1
    refine ⟨(sp_wvi t b F X kz Q), c_wvi l hlt t b F X kz Q, fun _ _ h9 => ⟨_, _, h9.1, h9.2.1.choose_spec.1.1.1⟩, ⟨rfl, hp⟩, hc, hs, fun v9 S' h8 => by
      obtain ⟨v8, h7, h8⟩ := h8
      cases h7
      exact hk _ _ h8, fun _ _ q => by
      rcases q with ⟨rfl, q⟩ | ⟨rfl, q⟩
      · obtain ⟨q, rfl⟩ := q
        exact hx0 q
      · obtain ⟨q, rfl⟩ := q
        exact hx1 q⟩
  · exact h.elim
