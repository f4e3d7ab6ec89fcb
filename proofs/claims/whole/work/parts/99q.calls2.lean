/-! ===== CALLS THAT READ A GRAPH ===== -/
section RDQ
variable {S : MM} {F : Nat → Nat × Nat} {t : Nat} {z : Nat → Nat} {X : Nat → GX} {K : Nat → Nat} {Q : Ab}
theorem WTz.ev (h : WTz S F t z X K Q) {n : Nat} (hn : n < 4) : EvT S (X n) (Q.G n) := by
  obtain ⟨A, H, W, r, a, d, ea, kn, kr, cu, hp⟩ := h.2.1 n hn
  exact hp.1.2.2.2.2.2.2.2.2.1.ev
theorem Pe.gi {p b : Nat} {A : Nat → Nat} {X : GX} {G : Gr} {T : Tr} {H : List Nat} {W : Nat → Nat} {r a d c : Nat} {E : List (Nat × Nat)} {ea : Nat → Nat} {kn : Nat} {kr : Nat → Nat} {Kn : Nat → Nat → Nat} {cu : Nat} (h : Pe S F p b A X G T H W r a d c E ea kn kr Kn cu) : GI S F (p + 1) A X G T H W := h.1.2.2.2.2.2.2.2.2.1
/-- a peer whose graph alone was touched -/
theorem Pe.mv {S' : MM} {p b : Nat} {A A' : Nat → Nat} {X X' : GX} {G G' : Gr} {T T' : Tr} {H H' : List Nat} {W W' : Nat → Nat} {r a d c : Nat} {E : List (Nat × Nat)} {ea : Nat → Nat} {kn : Nat} {kr : Nat → Nat} {Kn : Nat → Nat → Nat} {cu : Nat} {F' : Nat → Nat × Nat} (h : Pe S F p b A X G T H W r a d c E ea kn kr Kn cu) (hG : GI S' F' (p + 1) A' X' G' T' H' W') (h0 : A' 0 = A 0) (hk : Keep (fun b => (F b).1 = p + 1) S S') (hf : ∀ b, b ∈ mL S → F' b = F b) (hFO : FO S' F') : Pe S' F' p b A' X' G' T' H' W' r a d c E ea kn kr Kn cu := by
  obtain ⟨⟨w1, w2, w3, w4, w5, w6, w7, w8, w9, w10, w11, w12, w13⟩, h2, h3, h4, h5, h6, h7, h8, h9⟩ := h
  have q : ∀ {b x}, F b = (p + 11, x) → ¬ (F b).1 = p + 1 := fun {b x} e w => by rw [e] at w; have w : p + 11 = p + 1 := w; omega
  have q3 : ∀ {b x}, F b = (p + 31, x) → ¬ (F b).1 = p + 1 := fun {b x} e w => by rw [e] at w; have w : p + 31 = p + 1 := w; omega
  have kb := hk.2.1 b w1.1 (q w2)
  refine ⟨⟨hk.isO w1, (hf b w1.1).trans w2, (kb.1 _).trans w3, by rw [h0]; exact (kb.2.1 _).trans w4, (kb.2.1 _).trans w5, hk.isO w6, (hk.1 r w6.1).2.2.trans w7, (hf r w6.1).trans w8, hG, hFO, w11, w12, w13⟩, (kb.2.1 _).trans h2, h3.keep hk (q h3.2.1) (fun e => q (h3.2.2.1 e)) (fun l hl => q (h3.2.2.2 l hl).2.1) hf, h4.keep w1.1 hk (q w2) (q3 h7) (fun o ho => q3 (h8 o ho)), (kb.2.1 _).trans h5, hk.isO h6, (hf kn h4.2.1.1).trans h7, fun o ho => (hf _ (h4.2.2.2 o ho).2.1.1).trans (h8 o ho), (hf cu h6.1).trans h9⟩
theorem WTz.touch {S' : MM} (h : WTz S F t z X K Q) {n : Nat} (hn : n < 4) {A A' : Nat → Nat} {H H' : List Nat} {W W' : Nat → Nat} {r a d : Nat} {ea : Nat → Nat} {kn : Nat} {kr : Nat → Nat} {cu : Nat} (hp : Pe S F n (z (30 + n)) A (X n) (Q.G n) (Q.T n) H W r a d (K (30 + n)) (Q.E n) ea kn kr (Q.Kn n) cu) (hG : GI S' F (n + 1) A' (X n) (Q.G n) (Q.T n) H' W') (h0 : A' 0 = A 0) (hk : Keep (fun b => (F b).1 = n + 1) S S') : WTz S' F t z X K Q :=
  h.peer0 hn ⟨A', H', W', r, a, d, ea, kn, kr, cu, hp.mv hG h0 hk (fun _ _ => rfl) (fun b hb => (hk.1 b (h.fo b hb)).1)⟩ (hk.mono (fun b _ e => Or.inl e)) (fun _ _ => rfl) (fun b hb => (hk.1 b (h.fo b hb)).1)
theorem vis_xa {i : Nat} {A : Nat → Nat} {X : GX} {G : Gr} {T : Tr} {H : List Nat} {W : Nat → Nat} (h : GI S F i A X G T H W) {x : Nat} (hx : x ∈ T.od) : visb S (xa A X x) = vis G x := by
  obtain ⟨k, rfl, h1, h2⟩ := h.nd hx
  show decide (mI S 514 (X.ad k) = -1) = decide (stk G k = none)
  rw [show mI S 514 (X.ad k) = stI (stk G k) from h 15 k h1 h2]
  cases e : stk G k with
  | none => rfl
  | some j =>
    have hj : j < G.n := by
      have := List.mem_of_find?_eq_some e
      exact List.mem_range.1 this
    have hn : G.n ≤ 100000 := by
      have := (h 2).2.2.2
      have l1 := this.2.2.2.1
      have l2 := this.2.2.2.2.1
      rw [List.length_map, List.length_range] at l1; omega
    rw [decide_eq_false (fun w : stI (some j) = -1 => absurd (show nI j < 0 by rw [show nI j = -1 from w]; decide) (nI_pos (by omega))), decide_eq_false (fun w => by cases w)]
/-- the text -/
def txtG (G : Gr) (T : Tr) : List Int32 := (T.od.filter (vis G)).map (fun x => chI (G.ev (x - 1)).ch)
theorem txt_xa {i : Nat} {A : Nat → Nat} {X : GX} {G : Gr} {T : Tr} {H : List Nat} {W : Nat → Nat} (h : GI S F i A X G T H W) : txt S (T.od.map (xa A X)) = txtG G T := by
  have k : ∀ L : List Nat, (∀ x ∈ L, x ∈ T.od) → txt S (L.map (xa A X)) = (L.filter (vis G)).map (fun x => chI (G.ev (x - 1)).ch) := by
    intro L
    induction L with
    | nil => intro _; rfl
    | cons x L ih =>
      intro hL
      have hx := hL x List.mem_cons_self
      have e := vis_xa h hx
      have i9 := ih (fun y hy => hL y (List.mem_cons_of_mem _ hy))
      rw [List.map_cons, List.filter_cons]
      by_cases v : vis G x = true
      · rw [if_pos v, List.map_cons, txt_v (of_decide_eq_true (e.trans v)), i9]
        obtain ⟨k, rfl, h1, h2⟩ := h.nd hx
        exact congrArg (· :: _) (h.ev.2.1 k h1).2.2.2.2.2.2.2.2.2.2.2.2.1
      · rw [if_neg v, txt_i (fun w => v (e.symm.trans (decide_eq_true w))), i9]
  exact k T.od (fun _ h => h)
/-- how many of the text stand in front of a node -/
def cfG (G : Gr) (o : Option Nat) : List Nat → Nat
  | [] => 0
  | x :: R => if some (x - 1) = o then 0 else (if vis G x = true then 1 else 0) + cfG G o R
theorem cif_xa {i : Nat} {A : Nat → Nat} {X : GX} {G : Gr} {T : Tr} {H : List Nat} {W : Nat → Nat} (h : GI S F i A X G T H W) {o : Option Nat} (ho : ∀ k, o = some k → k < G.n) : cif S (o.map X.ad) (T.od.map (xa A X)) = cfG G o T.od := by
  have k : ∀ L : List Nat, (∀ x ∈ L, x ∈ T.od) → cif S (o.map X.ad) (L.map (xa A X)) = cfG G o L := by
    intro L
    induction L with
    | nil => intro _; rfl
    | cons x L ih =>
      intro hL
      have hx := hL x List.mem_cons_self
      have e := vis_xa h hx
      have i9 := ih (fun y hy => hL y (List.mem_cons_of_mem _ hy))
      rw [List.map_cons, cif, cfG, i9]
      have e2 : (if mI S 514 (xa A X x) = -1 then 1 else 0) = (if vis G x = true then 1 else 0) := by
        by_cases v : vis G x = true
        · rw [if_pos v, if_pos (of_decide_eq_true (e.trans v))]
        · rw [if_neg v, if_neg (fun w => v (e.symm.trans (decide_eq_true w)))]
      rw [e2]
      obtain ⟨k, rfl, h1, h2⟩ := h.nd hx
      have e3 : (some (xa A X (k + 1)) = o.map X.ad) ↔ (some (k + 1 - 1) = o) := by
        cases o with
        | none => exact ⟨(fun w => by cases w), (fun w => by cases w)⟩
        | some j =>
          constructor
          · intro w
            have w : X.ad k = X.ad j := Option.some.inj w
            rw [h.ev.2.2.2 k j h1 (ho j rfl) w]; rfl
          · intro w
            have w : k = j := Option.some.inj w
            rw [w]; rfl
      by_cases c : some (k + 1 - 1) = o
      · rw [if_pos c, if_pos (e3.2 c)]
      · rw [if_neg c, if_neg (fun w => c (e3.1 w))]
  exact k T.od (fun _ h => h)
theorem GI.vl {i : Nat} {A : Nat → Nat} {X : GX} {G : Gr} {T : Tr} {H : List Nat} {W : Nat → Nat} (h : GI S F i A X G T H W) : visN G T ≤ 8192 := Nat.le_trans (List.length_filter_le _ _) (Nat.le_trans h.odl h.ok.hn)
theorem GI.rank10 {i : Nat} {A : Nat → Nat} {X : GX} {G : Gr} {T : Tr} {H : List Nat} {W : Nat → Nat} (h : GI S F i A X G T H W) {fl : Nat → Int32} : GI (rI S (A 10) fl) F i A X G T H W := by
  have hk : Keep (fun b => b = A 0 ∨ b = A 8 ∨ b = A 9 ∨ b = A 10) (msk0 S) (msk0 (rI S (A 10) fl)) := Keep.rI (P := fun b => b = A 0 ∨ b = A 8 ∨ b = A 9 ∨ b = A 10) (S := msk0 S) (S1 := msk0 S) Keep.rf (Or.inr (Or.inr (Or.inr rfl)))
  have n8 : A 8 ≠ A 10 := h.fne (h 7).2.1 (h 9).2.1 (by decide)
  refine h.str hk (fun _ _ _ _ => rfl) (fun _ _ => rfl) (h 6) ⟨(h 7).2.2.1, (h 7).2.2.2.1, fun s hs => ?_⟩ (h 13) (h 14) (h 15) (h 16) (ChP.cg (h 17) (fun _ q => q) (fun _ => rfl) (fun _ => rfl)) ?_ (h 21)
  · show va_up (eI S) (A 10) fl (A 8) s = nI (W s) ∧ W s ≤ 100000
    rw [va_up_ne _ _ n8]; exact (h 7).2.2.2.2 s hs
  · obtain ⟨U, V, e1, e2, e3⟩ := h 18
    exact ⟨U, V, e1, e2, by rw [seenC_cg (S := S) (S' := rI S (A 10) fl) (fun _ _ => rfl)]; exact e3⟩
end RDQ
def npx (Q : Ab) (p x : Int32) : Prop := np 4 p ∨ ∃ n, n < 4 ∧ p = nI n ∧ np (visN (Q.G n) (Q.T n)) x
def T_wno : TR := fun Rc Rs av S cs sl K Kx => match av with
  | [.inr (.inr t_o), .inl p, .inl x] => pa t_o fun t => (∃ (F : Nat → Nat × Nat) (z : Nat → Nat) (X : Nat → GX) (kz : Nat → Nat) (Q : Ab), (WTz S F t z X kz Q) ∧ cs + 2 ≤ Rc ∧ sl + 12 ≤ Rs ∧ ((∀ (v : Option Nat) (S' : MM), (∃ n j k, n < 4 ∧ p = nI n ∧ x = nI j ∧ TxN (Q.G n) (Q.T n) j k ∧ k < (Q.G n).n ∧ v = some ((X n).ad k) ∧ WTz S' F t z X kz Q ∧ Keep (fun b => (F b).1 = n + 1) S S') → K (some (.inr (.inr v))) S' (cs + 2) (sl + 12)) ∧ ((npx Q p x) → Kx 1 S (cs + 2) (sl + 12))))
  | _ => False
def sp_wno (t : Nat) (p : Int32) (x : Int32) (F : Nat → Nat × Nat) (z : Nat → Nat) (X : Nat → GX) (kz : Nat → Nat) (Q : Ab) : Sp := (fun av S => av = [.inr (.inr (some t)), .inl p, .inl x] ∧ (WTz S F t z X kz Q), fun _ S => 2, fun _ S => 12, fun _ S rv S' => ∃ v, rv = (some (.inr (.inr v))) ∧ (∃ n j k, n < 4 ∧ p = nI n ∧ x = nI j ∧ TxN (Q.G n) (Q.T n) j k ∧ k < (Q.G n).n ∧ v = some ((X n).ad k) ∧ WTz S' F t z X kz Q ∧ Keep (fun b => (F b).1 = n + 1) S S'), fun _ S E S' => (E = 1 ∧ (npx Q p x) ∧ S' = S))
def tX11_nodeOf : CD := [(0, .aload_n 0), (1, .iload_n 1), (2, .invokevirtual 108), (5, .getfield 112), (8, .astore_n 3), (9, .iload_n 2), (10, .ifCond .lt 15), (13, .iload_n 2), (14, .aload_n 3), (15, .getfield 116), (18, .if_icmp .ge 7), (21, .iconst 1), (22, .goto 4), (25, .iconst 0), (26, .invokestatic 104), (29, .aload_n 3), (30, .iload_n 2), (31, .invokevirtual 234), (34, .areturn)]
set_option maxRecDepth 100000 in
theorem kX11_nodeOf : chk cX11_nodeOf tX11_nodeOf = true := by decide +kernel
theorem vX11_nodeOf_108 : ∀ w ∈ ([.methodLink RX11 108 yX11_peerOf, .instanceMethod yX11_peerOf, .selects yX11_peerOf.cls yX11_peerOf yX11_peerOf, .initialized yX11_peerOf.cls, .code yX11_peerOf cX11_peerOf 2 (some (.object "WeaveText$Peer"))] : List Cond), w ∈ lw_good := List.forall_mem_cons.mpr ⟨mgd 827 (by decide +kernel) (by decide +kernel), List.forall_mem_cons.mpr ⟨mgd 829 (by decide +kernel) (by decide +kernel), List.forall_mem_cons.mpr ⟨mgd 1 (by decide +kernel) (by decide +kernel), List.forall_mem_cons.mpr ⟨mgd 121 (by decide +kernel) (by decide +kernel), List.forall_mem_cons.mpr ⟨mgd 830 (by decide +kernel) (by decide +kernel), fun _ h => absurd h List.not_mem_nil⟩⟩⟩⟩⟩
theorem vX11_nodeOf_104 : ∀ w ∈ ([.methodLink RX11 104 yX11_require, .static yX11_require, .initialized yX11_require.cls, .code yX11_require cX11_require 1 none] : List Cond), w ∈ lw_good := List.forall_mem_cons.mpr ⟨mgd 801 (by decide +kernel) (by decide +kernel), List.forall_mem_cons.mpr ⟨mgd 802 (by decide +kernel) (by decide +kernel), List.forall_mem_cons.mpr ⟨mgd 121 (by decide +kernel) (by decide +kernel), List.forall_mem_cons.mpr ⟨mgd 803 (by decide +kernel) (by decide +kernel), fun _ h => absurd h List.not_mem_nil⟩⟩⟩⟩
theorem vX11_nodeOf_234 : ∀ w ∈ ([.methodLink RX11 234 yX5_textNode, .instanceMethod yX5_textNode, .selects yX5_textNode.cls yX5_textNode yX5_textNode, .initialized yX5_textNode.cls, .code yX5_textNode cX5_textNode 2 (some (.object "WeaveText$Event"))] : List Cond), w ∈ lw_good := List.forall_mem_cons.mpr ⟨mgd 1154 (by decide +kernel) (by decide +kernel), List.forall_mem_cons.mpr ⟨mgd 1155 (by decide +kernel) (by decide +kernel), List.forall_mem_cons.mpr ⟨mgd 1156 (by decide +kernel) (by decide +kernel), List.forall_mem_cons.mpr ⟨mgd 125 (by decide +kernel) (by decide +kernel), List.forall_mem_cons.mpr ⟨mgd 1157 (by decide +kernel) (by decide +kernel), fun _ h => absurd h List.not_mem_nil⟩⟩⟩⟩⟩
set_option maxRecDepth 100000 in
set_option maxHeartbeats 2000000 in
theorem c_wno (l : Launch) (hlt : l.stackTraces = false) : ∀ (t : Nat) (p : Int32) (x : Int32) (F : Nat → Nat × Nat) (z : Nat → Nat) (X : Nat → GX) (kz : Nat → Nat) (Q : Ab), CtX l yX11_nodeOf (Cond.code yX11_nodeOf cX11_nodeOf 4 (some (.object "WeaveText$Event"))) (some (.object "WeaveText$Event")) 8 151 (sp_wno t p x F z X kz Q) := by
  intro t p x F z X kz Q
  refine CtX.of hlt (fX11, nX11, aX11, iX11, lX11, [(108, 0, 2, 3, T_wpo), (104, 2, 1, 0, T_wrq), (234, 0, 2, 3, T_gtn)], qX11, gX11, []) false tX11_nodeOf (fun _ _ _ => none) (by decide) (by decide) kX11_nodeOf ⟨_, _, rfl⟩ fX11_ok nX11_ok aX11_ok iX11_ok lX11_ok (fun p e R s m args below meth c Q D cy z r A C hR1 hR2 => List.forall_mem_cons.mpr ⟨cOK_use (fun _ _ _ _ _ _ _ _ h => let ⟨sp, h1, h2, h3⟩ := u_wpo l hlt _ _ _ _ _ _ _ _ h; ⟨sp, cOKx_V C h1 vX11_nodeOf_108 ⟨by decide, by decide, by decide +kernel⟩ ⟨by rw [hR1]; decide, by rw [hR2]; decide⟩ (k := 12) (T := TX11) (N := 15) rfl (by decide) h2, h3⟩), List.forall_mem_cons.mpr ⟨cOK_use (fun _ _ _ _ _ _ _ _ h => let ⟨sp, h1, _, h3⟩ := u_wrq l hlt _ _ _ _ _ _ _ _ h; ⟨sp, cOKx_S C h1 vX11_nodeOf_104 ⟨by decide, by decide, by decide +kernel⟩ ⟨by rw [hR1]; decide, by rw [hR2]; decide⟩, h3⟩), List.forall_mem_cons.mpr ⟨cOK_use (fun _ _ _ _ _ _ _ _ h => let ⟨sp, h1, h2, h3⟩ := u_gtn l _ _ _ _ _ _ _ _ h; ⟨sp, cOK_V C h1 vX11_nodeOf_234 ⟨by decide, by decide, by decide +kernel⟩ ⟨by rw [hR1]; decide, by rw [hR2]; decide⟩ (k := 6) (T := TX5) (N := 12) rfl (by decide) h2, h3⟩), fun _ h => absurd h List.not_mem_nil⟩⟩⟩) qX11_ok gX11_ok (fun _ h => absurd h List.not_mem_nil) ?_ ?_
  · rintro _ S ⟨rfl, hp⟩
    refine ⟨Nat.le_of_ble_eq_true rfl, 300, ?_⟩
    show (0 = 0 ∧ (∃ (F_1 : Nat → Nat × Nat) (z_2 : Nat → Nat), (SfA S F_1 t z_2) ∧ 0 + 1 ≤ 2 ∧ 0 + 6 ≤ 12 ∧ ((∀ (x_4 : Option Nat) (S_3 : MM), (S_3 = S ∧ ∃ n, n < 4 ∧ p = nI n ∧ x_4 = some (z_2 (30 + n))) → (pa x_4 fun a_5 => isO S_3 11 a_5 ∧ ((x < 0 → (2 = 2 ∧ (((0 : Int32) = 0 ∨ (0 : Int32) = 1) ∧ 0 + 1 + 1 ≤ 2 ∧ 0 + 6 + 6 ≤ 12 ∧ ((∀ (S_6 : MM), (S_6 = S_3 ∧ (0 : Int32) = 1) → (0 = 0 ∧ ((pa (mR S_3 1101 a_5) fun a_7 => (∃ (x_8 : Nat), x = nI x_8 ∧ (∃ (F_9 : Nat → Nat × Nat) (i_10 : Nat) (A_11 : Nat → Nat) (X_12 : GX) (G_13 : Gr) (T_14 : Tr) (H_15 : List Nat) (W_16 : Nat → Nat), (a_7 = A_11 0 ∧ GI S_6 F_9 i_10 A_11 X_12 G_13 T_14 H_15 W_16 ∧ x_8 < visN G_13 T_14) ∧ 0 + 1 + 1 ≤ 2 ∧ 0 + 6 + 6 ≤ 12 ∧ (∀ (x_18 : Option Nat) (S_17 : MM), (tnP S_6 S_17 F_9 i_10 A_11 X_12 G_13 T_14 H_15 x_8 x_18) → (([] : List MV) = [] ∧ mret (some (.object "WeaveText$Event")) (sp_wno t p x F z X kz Q) [.inr (.inr (some t)), .inl p, .inl x] S (some (.inr (.inr x_18))) S_17 (0 + 1 + 1) (0 + 6 + 6))))))))) ∧ (((0 : Int32) = 0) → mthr (sp_wno t p x F z X kz Q) [.inr (.inr (some t)), .inl p, .inl x] S 1 S_3 (0 + 1 + 1) (0 + 6 + 6)))))) ∧ (¬ x < 0 → (pa (mR S_3 1101 a_5) fun a_20 => isO S_3 6 a_20 ∧ (((mI S_3 605 a_20) ≤ x → (2 = 2 ∧ (((0 : Int32) = 0 ∨ (0 : Int32) = 1) ∧ 0 + 1 + 1 ≤ 2 ∧ 0 + 6 + 6 ≤ 12 ∧ ((∀ (S_21 : MM), (S_21 = S_3 ∧ (0 : Int32) = 1) → (0 = 0 ∧ ((pa (mR S_3 1101 a_5) fun a_22 => (∃ (x_23 : Nat), x = nI x_23 ∧ (∃ (F_24 : Nat → Nat × Nat) (i_25 : Nat) (A_26 : Nat → Nat) (X_27 : GX) (G_28 : Gr) (T_29 : Tr) (H_30 : List Nat) (W_31 : Nat → Nat), (a_22 = A_26 0 ∧ GI S_21 F_24 i_25 A_26 X_27 G_28 T_29 H_30 W_31 ∧ x_23 < visN G_28 T_29) ∧ 0 + 1 + 1 ≤ 2 ∧ 0 + 6 + 6 ≤ 12 ∧ (∀ (x_33 : Option Nat) (S_32 : MM), (tnP S_21 S_32 F_24 i_25 A_26 X_27 G_28 T_29 H_30 x_23 x_33) → (([] : List MV) = [] ∧ mret (some (.object "WeaveText$Event")) (sp_wno t p x F z X kz Q) [.inr (.inr (some t)), .inl p, .inl x] S (some (.inr (.inr x_33))) S_32 (0 + 1 + 1) (0 + 6 + 6))))))))) ∧ (((0 : Int32) = 0) → mthr (sp_wno t p x F z X kz Q) [.inr (.inr (some t)), .inl p, .inl x] S 1 S_3 (0 + 1 + 1) (0 + 6 + 6)))))) ∧ (¬ (mI S_3 605 a_20) ≤ x → (2 = 2 ∧ (((1 : Int32) = 0 ∨ (1 : Int32) = 1) ∧ 0 + 1 + 1 ≤ 2 ∧ 0 + 6 + 6 ≤ 12 ∧ ((∀ (S_35 : MM), (S_35 = S_3 ∧ (1 : Int32) = 1) → (0 = 0 ∧ ((pa (mR S_3 1101 a_5) fun a_36 => (∃ (x_37 : Nat), x = nI x_37 ∧ (∃ (F_38 : Nat → Nat × Nat) (i_39 : Nat) (A_40 : Nat → Nat) (X_41 : GX) (G_42 : Gr) (T_43 : Tr) (H_44 : List Nat) (W_45 : Nat → Nat), (a_36 = A_40 0 ∧ GI S_35 F_38 i_39 A_40 X_41 G_42 T_43 H_44 W_45 ∧ x_37 < visN G_42 T_43) ∧ 0 + 1 + 1 ≤ 2 ∧ 0 + 6 + 6 ≤ 12 ∧ (∀ (x_47 : Option Nat) (S_46 : MM), (tnP S_35 S_46 F_38 i_39 A_40 X_41 G_42 T_43 H_44 x_37 x_47) → (([] : List MV) = [] ∧ mret (some (.object "WeaveText$Event")) (sp_wno t p x F z X kz Q) [.inr (.inr (some t)), .inl p, .inl x] S (some (.inr (.inr x_47))) S_46 (0 + 1 + 1) (0 + 6 + 6))))))))) ∧ (((1 : Int32) = 0) → mthr (sp_wno t p x F z X kz Q) [.inr (.inr (some t)), .inl p, .inl x] S 1 S_3 (0 + 1 + 1) (0 + 6 + 6)))))))))))) ∧ ((np 4 p) → mthr (sp_wno t p x F z X kz Q) [.inr (.inr (some t)), .inl p, .inl x] S 1 S (0 + 1) (0 + 6)))))
    refine ⟨rfl, F, z, hp.1.1, by decide, by decide, fun v S3 h => ?_, fun h => ⟨⟨rfl, Or.inl h, rfl⟩, Nat.le_of_ble_eq_true rfl, Nat.le_of_ble_eq_true rfl⟩⟩
    obtain ⟨rfl, n, hn, rfl, rfl⟩ := h
    obtain ⟨A, H, W, r, a, d, ea, kn, kr, cu, hP⟩ := hp.2.1 n hn
    have g := hP.gi
    have r1 : mR S3 1101 (z (30 + n)) = some (A 0) := hP.1.2.2.2.1
    have m5 : mI S3 605 (A 0) = nI (visN (Q.G n) (Q.T n)) := g 6
    have vl := g.vl
    refine ⟨hP.1.1, fun h => ⟨rfl, Or.inl rfl, by decide, by decide, rq0 ⟨⟨rfl, Or.inr ⟨n, hn, rfl, np_lo (by omega) h⟩, rfl⟩, Nat.le_of_ble_eq_true rfl, Nat.le_of_ble_eq_true rfl⟩⟩, fun h1 => pa_i r1 ⟨(g 0).1, ?_⟩⟩
    rw [m5]
    refine ⟨fun h => ⟨rfl, Or.inl rfl, by decide, by decide, rq0 ⟨⟨rfl, Or.inr ⟨n, hn, rfl, np_hi (by omega) h⟩, rfl⟩, Nat.le_of_ble_eq_true rfl, Nat.le_of_ble_eq_true rfl⟩⟩, fun h2 => ⟨rfl, Or.inr rfl, by decide, by decide, rq1 ?_⟩⟩
    obtain ⟨j, hj, rfl⟩ := rng (m := visN (Q.G n) (Q.T n)) (by omega) h1 h2
    refine ⟨rfl, pa_i r1 ⟨j, rfl, F, n + 1, A, X n, Q.G n, Q.T n, H, W, ⟨rfl, g, hj⟩, by decide, by decide, fun v S4 h4 => ?_⟩⟩
    obtain ⟨k, rfl, t1, t2, t3, t4⟩ := h4
    exact ⟨rfl, trivial, ⟨_, rfl, n, j, k, hn, rfl, rfl, t1, t2, rfl, hp.touch hn hP t3 rfl t4, t4⟩, Nat.le_refl _, Nat.le_refl _⟩
  · exact fun _ _ _ _ _ h => by cases h
theorem u_wno (l : Launch) (hlt : l.stackTraces = false) : UsX l yX11_nodeOf (Cond.code yX11_nodeOf cX11_nodeOf 4 (some (.object "WeaveText$Event"))) (some (.object "WeaveText$Event")) 8 151 12 T_wno := by
  intro Rc Rs av S cs sl K Kx h
  unfold T_wno at h
  split at h
  · rename_i t_o p x
    obtain ⟨t, rfl, h_1⟩ := pa_of h
    obtain ⟨F, z, X, kz, Q, hp, hc, hs, hk, hx0⟩ := h_1
    refine ⟨(sp_wno t p x F z X kz Q), c_wno l hlt t p x F z X kz Q, fun _ _ h9 => ⟨_, _, h9.1, h9.2.1.1.1⟩, ⟨rfl, hp⟩, hc, hs, fun v9 S' h8 => by
      obtain ⟨v8, h7, h8⟩ := h8
      cases h7
      exact hk _ _ h8, fun _ _ q => by
      rcases q with ⟨rfl, q⟩
      · obtain ⟨q, rfl⟩ := q
        exact hx0 q⟩
  · exact h.elim
theorem cO_g {n : Nat} (hn : n < 4) : cO (n + 1) := ⟨by omega, by omega⟩
def T_wat : TR := fun Rc Rs av S cs sl K Kx => match av with
  | [.inr (.inr t_o), .inl p, .inl x] => pa t_o fun t => (∃ (F : Nat → Nat × Nat) (X : Nat → GX) (kz : Nat → Nat) (Q : Ab), (WT S F t X kz Q) ∧ cs + 2 ≤ Rc ∧ sl + 12 ≤ Rs ∧ ((∀ (v : Int32) (S' : MM), (∃ n j k, n < 4 ∧ p = nI n ∧ x = nI j ∧ TxN (Q.G n) (Q.T n) j k ∧ v = chI ((Q.G n).ev k).ch ∧ wtQ S S' F t X kz Q) → K (some (.inl v)) S' (cs + 2) (sl + 12)) ∧ ((npx Q p x) → Kx 1 S (cs + 2) (sl + 12))))
  | _ => False
def sp_wat (t : Nat) (p : Int32) (x : Int32) (F : Nat → Nat × Nat) (X : Nat → GX) (kz : Nat → Nat) (Q : Ab) : Sp := (fun av S => av = [.inr (.inr (some t)), .inl p, .inl x] ∧ (WT S F t X kz Q), fun _ S => 2, fun _ S => 12, fun _ S rv S' => ∃ v, rv = (some (.inl v)) ∧ (∃ n j k, n < 4 ∧ p = nI n ∧ x = nI j ∧ TxN (Q.G n) (Q.T n) j k ∧ v = chI ((Q.G n).ev k).ch ∧ wtQ S S' F t X kz Q), fun _ S E S' => (E = 1 ∧ (npx Q p x) ∧ S' = S))
def tX11_at : CD := [(0, .aload_n 0), (1, .iload_n 1), (2, .iload_n 2), (3, .invokevirtual 158), (6, .getfield 162), (9, .ireturn)]
set_option maxRecDepth 100000 in
theorem kX11_at : chk cX11_at tX11_at = true := by decide +kernel
theorem vX11_at_158 : ∀ w ∈ ([.methodLink RX11 158 yX11_nodeOf, .instanceMethod yX11_nodeOf, .selects yX11_nodeOf.cls yX11_nodeOf yX11_nodeOf, .initialized yX11_nodeOf.cls, .code yX11_nodeOf cX11_nodeOf 4 (some (.object "WeaveText$Event"))] : List Cond), w ∈ lw_good := List.forall_mem_cons.mpr ⟨mgd 1150 (by decide +kernel) (by decide +kernel), List.forall_mem_cons.mpr ⟨mgd 1152 (by decide +kernel) (by decide +kernel), List.forall_mem_cons.mpr ⟨mgd 19 (by decide +kernel) (by decide +kernel), List.forall_mem_cons.mpr ⟨mgd 121 (by decide +kernel) (by decide +kernel), List.forall_mem_cons.mpr ⟨mgd 1153 (by decide +kernel) (by decide +kernel), fun _ h => absurd h List.not_mem_nil⟩⟩⟩⟩⟩
set_option maxRecDepth 100000 in
set_option maxHeartbeats 2000000 in
theorem c_wat (l : Launch) (hlt : l.stackTraces = false) : ∀ (t : Nat) (p : Int32) (x : Int32) (F : Nat → Nat × Nat) (X : Nat → GX) (kz : Nat → Nat) (Q : Ab), CtX l yX11_at (Cond.code yX11_at cX11_at 3 (some .int)) (some .int) 9 174 (sp_wat t p x F X kz Q) := by
  intro t p x F X kz Q
  refine CtX.of hlt (fX11, nX11, aX11, iX11, lX11, [(158, 0, 3, 3, T_wno)], qX11, gX11, []) false tX11_at (fun _ _ _ => none) (by decide) (by decide) kX11_at ⟨_, _, rfl⟩ fX11_ok nX11_ok aX11_ok iX11_ok lX11_ok (fun p e R s m args below meth c Q D cy z r A C hR1 hR2 => List.forall_mem_cons.mpr ⟨cOK_use (fun _ _ _ _ _ _ _ _ h => let ⟨sp, h1, h2, h3⟩ := u_wno l hlt _ _ _ _ _ _ _ _ h; ⟨sp, cOKx_V C h1 vX11_at_158 ⟨by decide, by decide, by decide +kernel⟩ ⟨by rw [hR1]; decide, by rw [hR2]; decide⟩ (k := 12) (T := TX11) (N := 15) rfl (by decide) h2, h3⟩), fun _ h => absurd h List.not_mem_nil⟩) qX11_ok gX11_ok (fun _ h => absurd h List.not_mem_nil) ?_ ?_
  · rintro _ S ⟨rfl, hp⟩
    refine ⟨Nat.le_of_ble_eq_true rfl, 300, ?_⟩
    show (0 = 0 ∧ (∃ (F_1 : Nat → Nat × Nat) (z_2 : Nat → Nat) (X_3 : Nat → GX) (kz_4 : Nat → Nat) (Q_5 : Ab), (WTz S F_1 t z_2 X_3 kz_4 Q_5) ∧ 0 + 2 ≤ 2 ∧ 0 + 12 ≤ 12 ∧ ((∀ (x_7 : Option Nat) (S_6 : MM), (∃ n j k, n < 4 ∧ p = nI n ∧ x = nI j ∧ TxN (Q_5.G n) (Q_5.T n) j k ∧ k < (Q_5.G n).n ∧ x_7 = some ((X_3 n).ad k) ∧ WTz S_6 F_1 t z_2 X_3 kz_4 Q_5 ∧ Keep (fun b => (F_1 b).1 = n + 1) S S_6) → (pa x_7 fun a_8 => isO S_6 5 a_8 ∧ (([] : List MV) = [] ∧ mret (some .int) (sp_wat t p x F X kz Q) [.inr (.inr (some t)), .inl p, .inl x] S (some (.inl (mI S_6 505 a_8))) S_6 (0 + 2) (0 + 12)))) ∧ ((npx Q_5 p x) → mthr (sp_wat t p x F X kz Q) [.inr (.inr (some t)), .inl p, .inl x] S 1 S (0 + 2) (0 + 12)))))
    obtain ⟨z, hz⟩ := hp
    refine ⟨rfl, F, z, X, kz, Q, hz, by decide, by decide, fun v S3 h => ?_, fun h => ⟨⟨rfl, h, rfl⟩, Nat.le_of_ble_eq_true rfl, Nat.le_of_ble_eq_true rfl⟩⟩
    obtain ⟨n, j, k, hn, rfl, rfl, h1, h2, rfl, h3, h4⟩ := h
    have e := (h3.ev hn).2.1 k h2
    exact ⟨e.1, rfl, trivial, ⟨_, rfl, n, j, k, hn, rfl, rfl, h1, e.2.2.2.2.2.2.2.2.2.2.2.2.1, F, ⟨z, h3⟩, fun _ _ => rfl, h4.mono (fun b _ e => by show cO (F b).1; rw [e]; exact cO_g hn)⟩, Nat.le_refl _, Nat.le_refl _⟩
  · exact fun _ _ _ _ _ h => by cases h
theorem u_wat (l : Launch) (hlt : l.stackTraces = false) : UsX l yX11_at (Cond.code yX11_at cX11_at 3 (some .int)) (some .int) 9 174 12 T_wat := by
  intro Rc Rs av S cs sl K Kx h
  unfold T_wat at h
  split at h
  · rename_i t_o p x
    obtain ⟨t, rfl, h_1⟩ := pa_of h
    obtain ⟨F, X, kz, Q, hp, hc, hs, hk, hx0⟩ := h_1
    refine ⟨(sp_wat t p x F X kz Q), c_wat l hlt t p x F X kz Q, fun _ _ h9 => ⟨_, _, h9.1, h9.2.choose_spec.1.1.1⟩, ⟨rfl, hp⟩, hc, hs, fun v9 S' h8 => by
      obtain ⟨v8, h7, h8⟩ := h8
      cases h7
      exact hk _ _ h8, fun _ _ q => by
      rcases q with ⟨rfl, q⟩
      · obtain ⟨q, rfl⟩ := q
        exact hx0 q⟩
  · exact h.elim
def T_wbl : TR := fun Rc Rs av S cs sl K Kx => match av with
  | [.inr (.inr t_o), .inl p, .inl x] => pa t_o fun t => (∃ (F : Nat → Nat × Nat) (X : Nat → GX) (kz : Nat → Nat) (Q : Ab), (WT S F t X kz Q) ∧ cs + 2 ≤ Rc ∧ sl + 12 ≤ Rs ∧ ((∀ (v : Int64) (S' : MM), (∃ n j k, n < 4 ∧ p = nI n ∧ x = nI j ∧ TxN (Q.G n) (Q.T n) j k ∧ v = lN ((Q.G n).key k) ∧ wtQ S S' F t X kz Q) → K (some (.inr (.inl v))) S' (cs + 2) (sl + 12)) ∧ ((npx Q p x) → Kx 1 S (cs + 2) (sl + 12))))
  | _ => False
def sp_wbl (t : Nat) (p : Int32) (x : Int32) (F : Nat → Nat × Nat) (X : Nat → GX) (kz : Nat → Nat) (Q : Ab) : Sp := (fun av S => av = [.inr (.inr (some t)), .inl p, .inl x] ∧ (WT S F t X kz Q), fun _ S => 2, fun _ S => 12, fun _ S rv S' => ∃ v, rv = (some (.inr (.inl v))) ∧ (∃ n j k, n < 4 ∧ p = nI n ∧ x = nI j ∧ TxN (Q.G n) (Q.T n) j k ∧ v = lN ((Q.G n).key k) ∧ wtQ S S' F t X kz Q), fun _ S E S' => (E = 1 ∧ (npx Q p x) ∧ S' = S))
def tX11_blame : CD := [(0, .aload_n 0), (1, .iload_n 1), (2, .iload_n 2), (3, .invokevirtual 158), (6, .invokevirtual 176), (9, .lreturn)]
set_option maxRecDepth 100000 in
theorem kX11_blame : chk cX11_blame tX11_blame = true := by decide +kernel
theorem vX11_blame_158 : ∀ w ∈ ([.methodLink RX11 158 yX11_nodeOf, .instanceMethod yX11_nodeOf, .selects yX11_nodeOf.cls yX11_nodeOf yX11_nodeOf, .initialized yX11_nodeOf.cls, .code yX11_nodeOf cX11_nodeOf 4 (some (.object "WeaveText$Event"))] : List Cond), w ∈ lw_good := List.forall_mem_cons.mpr ⟨mgd 1150 (by decide +kernel) (by decide +kernel), List.forall_mem_cons.mpr ⟨mgd 1152 (by decide +kernel) (by decide +kernel), List.forall_mem_cons.mpr ⟨mgd 19 (by decide +kernel) (by decide +kernel), List.forall_mem_cons.mpr ⟨mgd 121 (by decide +kernel) (by decide +kernel), List.forall_mem_cons.mpr ⟨mgd 1153 (by decide +kernel) (by decide +kernel), fun _ h => absurd h List.not_mem_nil⟩⟩⟩⟩⟩
theorem vX11_blame_176 : ∀ w ∈ ([.methodLink RX11 176 yX4_id, .instanceMethod yX4_id, .selects yX4_id.cls yX4_id yX4_id, .initialized yX4_id.cls, .code yX4_id cX4_id 1 (some .long)] : List Cond), w ∈ lw_good := List.forall_mem_cons.mpr ⟨mgd 1197 (by decide +kernel) (by decide +kernel), List.forall_mem_cons.mpr ⟨mgd 911 (by decide +kernel) (by decide +kernel), List.forall_mem_cons.mpr ⟨mgd 912 (by decide +kernel) (by decide +kernel), List.forall_mem_cons.mpr ⟨mgd 126 (by decide +kernel) (by decide +kernel), List.forall_mem_cons.mpr ⟨mgd 913 (by decide +kernel) (by decide +kernel), fun _ h => absurd h List.not_mem_nil⟩⟩⟩⟩⟩
set_option maxRecDepth 100000 in
set_option maxHeartbeats 2000000 in
theorem c_wbl (l : Launch) (hlt : l.stackTraces = false) : ∀ (t : Nat) (p : Int32) (x : Int32) (F : Nat → Nat × Nat) (X : Nat → GX) (kz : Nat → Nat) (Q : Ab), CtX l yX11_blame (Cond.code yX11_blame cX11_blame 3 (some .long)) (some .long) 9 174 (sp_wbl t p x F X kz Q) := by
  intro t p x F X kz Q
  refine CtX.of hlt (fX11, nX11, aX11, iX11, lX11, [(158, 0, 3, 3, T_wno), (176, 0, 1, 2, T_eid)], qX11, gX11, []) false tX11_blame (fun _ _ _ => none) (by decide) (by decide) kX11_blame ⟨_, _, rfl⟩ fX11_ok nX11_ok aX11_ok iX11_ok lX11_ok (fun p e R s m args below meth c Q D cy z r A C hR1 hR2 => List.forall_mem_cons.mpr ⟨cOK_use (fun _ _ _ _ _ _ _ _ h => let ⟨sp, h1, h2, h3⟩ := u_wno l hlt _ _ _ _ _ _ _ _ h; ⟨sp, cOKx_V C h1 vX11_blame_158 ⟨by decide, by decide, by decide +kernel⟩ ⟨by rw [hR1]; decide, by rw [hR2]; decide⟩ (k := 12) (T := TX11) (N := 15) rfl (by decide) h2, h3⟩), List.forall_mem_cons.mpr ⟨cOK_use (fun _ _ _ _ _ _ _ _ h => let ⟨sp, h1, h2, h3⟩ := u_eid l _ _ _ _ _ _ _ _ h; ⟨sp, cOK_V C h1 vX11_blame_176 ⟨by decide, by decide, by decide +kernel⟩ ⟨by rw [hR1]; decide, by rw [hR2]; decide⟩ (k := 5) (T := TX4) (N := 16) rfl (by decide) h2, h3⟩), fun _ h => absurd h List.not_mem_nil⟩⟩) qX11_ok gX11_ok (fun _ h => absurd h List.not_mem_nil) ?_ ?_
  · rintro _ S ⟨rfl, hp⟩
    refine ⟨Nat.le_of_ble_eq_true rfl, 300, ?_⟩
    show (0 = 0 ∧ (∃ (F_1 : Nat → Nat × Nat) (z_2 : Nat → Nat) (X_3 : Nat → GX) (kz_4 : Nat → Nat) (Q_5 : Ab), (WTz S F_1 t z_2 X_3 kz_4 Q_5) ∧ 0 + 2 ≤ 2 ∧ 0 + 12 ≤ 12 ∧ ((∀ (x_7 : Option Nat) (S_6 : MM), (∃ n j k, n < 4 ∧ p = nI n ∧ x = nI j ∧ TxN (Q_5.G n) (Q_5.T n) j k ∧ k < (Q_5.G n).n ∧ x_7 = some ((X_3 n).ad k) ∧ WTz S_6 F_1 t z_2 X_3 kz_4 Q_5 ∧ Keep (fun b => (F_1 b).1 = n + 1) S S_6) → (0 = 0 ∧ ((pa x_7 fun a_8 => (∃ (g_9 : Nat), (isO S_6 5 a_8 ∧ mR S_6 500 a_8 = some g_9 ∧ isO S_6 1 g_9) ∧ 0 + 2 ≤ 2 ∧ 0 + 12 ≤ 12 ∧ ((([] : List MV) = [] ∧ mret (some .long) (sp_wbl t p x F X kz Q) [.inr (.inr (some t)), .inl p, .inl x] S (some (.inr (.inl (evId S_6 a_8 g_9)))) S_6 (0 + 2) (0 + 12)))))))) ∧ ((npx Q_5 p x) → mthr (sp_wbl t p x F X kz Q) [.inr (.inr (some t)), .inl p, .inl x] S 1 S (0 + 2) (0 + 12)))))
    obtain ⟨z, hz⟩ := hp
    refine ⟨rfl, F, z, X, kz, Q, hz, by decide, by decide, fun v S3 h => ?_, fun h => ⟨⟨rfl, h, rfl⟩, Nat.le_of_ble_eq_true rfl, Nat.le_of_ble_eq_true rfl⟩⟩
    obtain ⟨n, j, k, hn, rfl, rfl, h1, h2, rfl, h3, h4⟩ := h
    have ev := h3.ev hn
    have e := ev.2.1 k h2
    exact ⟨rfl, (X n).aa ((Q.G n).ev k).sl, ⟨e.1, e.2.1, (ev.2.2.1 _ (ev.1.sl1 _ h2)).1⟩, by decide, by decide, rfl, trivial, ⟨_, rfl, n, j, k, hn, rfl, rfl, h1, ev.id h2, F, ⟨z, h3⟩, fun _ _ => rfl, h4.mono (fun b _ e => by show cO (F b).1; rw [e]; exact cO_g hn)⟩, Nat.le_refl _, Nat.le_refl _⟩
  · exact fun _ _ _ _ _ h => by cases h
theorem u_wbl (l : Launch) (hlt : l.stackTraces = false) : UsX l yX11_blame (Cond.code yX11_blame cX11_blame 3 (some .long)) (some .long) 9 174 12 T_wbl := by
  intro Rc Rs av S cs sl K Kx h
  unfold T_wbl at h
  split at h
  · rename_i t_o p x
    obtain ⟨t, rfl, h_1⟩ := pa_of h
    obtain ⟨F, X, kz, Q, hp, hc, hs, hk, hx0⟩ := h_1
    refine ⟨(sp_wbl t p x F X kz Q), c_wbl l hlt t p x F X kz Q, fun _ _ h9 => ⟨_, _, h9.1, h9.2.choose_spec.1.1.1⟩, ⟨rfl, hp⟩, hc, hs, fun v9 S' h8 => by
      obtain ⟨v8, h7, h8⟩ := h8
      cases h7
      exact hk _ _ h8, fun _ _ q => by
      rcases q with ⟨rfl, q⟩
      · obtain ⟨q, rfl⟩ := q
        exact hx0 q⟩
  · exact h.elim
def evA (G : Gr) (x : Int32) (v : Int32) : Prop := (x = -1 ∧ v = nI G.n) ∨ ∃ a, a < 256 ∧ x = nI a ∧ v = nI (agE G a).length
theorem m1_of {x : Int32} (h1 : ¬ x < -1) (h : x < 0) : x = -1 := by
  have a := Int32.lt_iff_toInt_lt.1 h
  have b : ¬ x.toInt < (-1 : Int32).toInt := fun w => h1 (Int32.lt_iff_toInt_lt.2 w)
  exact Int32.toInt_inj.1 (by
    have e : (-1 : Int32).toInt = -1 := by decide
    have e0 : (0 : Int32).toInt = 0 := by decide
    rw [e] at b; rw [e0] at a; rw [e]; omega)
def T_wev : TR := fun Rc Rs av S cs sl K Kx => match av with
  | [.inr (.inr t_o), .inl p, .inl x] => pa t_o fun t => (∃ (F : Nat → Nat × Nat) (X : Nat → GX) (kz : Nat → Nat) (Q : Ab), (WT S F t X kz Q) ∧ cs + 2 ≤ Rc ∧ sl + 12 ≤ Rs ∧ ((∀ (v : Int32) (S' : MM), (S' = S ∧ ∃ n, n < 4 ∧ p = nI n ∧ evA (Q.G n) x v) → K (some (.inl v)) S' (cs + 2) (sl + 12)) ∧ ((np 4 p ∨ (x ≠ -1 ∧ np 256 x)) → Kx 1 S (cs + 2) (sl + 12))))
  | _ => False
def sp_wev (t : Nat) (p : Int32) (x : Int32) (F : Nat → Nat × Nat) (X : Nat → GX) (kz : Nat → Nat) (Q : Ab) : Sp := (fun av S => av = [.inr (.inr (some t)), .inl p, .inl x] ∧ (WT S F t X kz Q), fun _ S => 2, fun _ S => 12, fun _ S rv S' => ∃ v, rv = (some (.inl v)) ∧ (S' = S ∧ ∃ n, n < 4 ∧ p = nI n ∧ evA (Q.G n) x v), fun _ S E S' => (E = 1 ∧ (np 4 p ∨ (x ≠ -1 ∧ np 256 x)) ∧ S' = S))
def tX11_events : CD := [(0, .aload_n 0), (1, .iload_n 1), (2, .invokevirtual 108), (5, .getfield 112), (8, .astore_n 3), (9, .iload_n 2), (10, .iconst (-1)), (11, .if_icmp .lt 14), (14, .iload_n 2), (15, .sipush 256), (18, .if_icmp .ge 7), (21, .iconst 1), (22, .goto 4), (25, .iconst 0), (26, .invokestatic 104), (29, .iload_n 2), (30, .iconst (-1)), (31, .if_icmp .ne 13), (34, .aload_n 3), (35, .getfield 180), (38, .invokevirtual 184), (41, .goto 8), (44, .aload_n 3), (45, .iload_n 2), (46, .invokevirtual 188), (49, .ireturn)]
set_option maxRecDepth 100000 in
theorem kX11_events : chk cX11_events tX11_events = true := by decide +kernel
theorem vX11_events_108 : ∀ w ∈ ([.methodLink RX11 108 yX11_peerOf, .instanceMethod yX11_peerOf, .selects yX11_peerOf.cls yX11_peerOf yX11_peerOf, .initialized yX11_peerOf.cls, .code yX11_peerOf cX11_peerOf 2 (some (.object "WeaveText$Peer"))] : List Cond), w ∈ lw_good := List.forall_mem_cons.mpr ⟨mgd 827 (by decide +kernel) (by decide +kernel), List.forall_mem_cons.mpr ⟨mgd 829 (by decide +kernel) (by decide +kernel), List.forall_mem_cons.mpr ⟨mgd 1 (by decide +kernel) (by decide +kernel), List.forall_mem_cons.mpr ⟨mgd 121 (by decide +kernel) (by decide +kernel), List.forall_mem_cons.mpr ⟨mgd 830 (by decide +kernel) (by decide +kernel), fun _ h => absurd h List.not_mem_nil⟩⟩⟩⟩⟩
theorem vX11_events_104 : ∀ w ∈ ([.methodLink RX11 104 yX11_require, .static yX11_require, .initialized yX11_require.cls, .code yX11_require cX11_require 1 none] : List Cond), w ∈ lw_good := List.forall_mem_cons.mpr ⟨mgd 801 (by decide +kernel) (by decide +kernel), List.forall_mem_cons.mpr ⟨mgd 802 (by decide +kernel) (by decide +kernel), List.forall_mem_cons.mpr ⟨mgd 121 (by decide +kernel) (by decide +kernel), List.forall_mem_cons.mpr ⟨mgd 803 (by decide +kernel) (by decide +kernel), fun _ h => absurd h List.not_mem_nil⟩⟩⟩⟩
theorem vX11_events_184 : ∀ w ∈ ([.methodLink RX11 184 yJx4a65c_size_8abf5, .instanceMethod yJx4a65c_size_8abf5, .selects yJx4a65c_size_8abf5.cls yJx4a65c_size_8abf5 yJx4a65c_size_8abf5, .initialized yJx4a65c_size_8abf5.cls, .code yJx4a65c_size_8abf5 cJx4a65c_size_8abf5 1 (some .int)] : List Cond), w ∈ lw_good := List.forall_mem_cons.mpr ⟨mgd 1205 (by decide +kernel) (by decide +kernel), List.forall_mem_cons.mpr ⟨mgd 673 (by decide +kernel) (by decide +kernel), List.forall_mem_cons.mpr ⟨mgd 674 (by decide +kernel) (by decide +kernel), List.forall_mem_cons.mpr ⟨mgd 130 (by decide +kernel) (by decide +kernel), List.forall_mem_cons.mpr ⟨mgd 675 (by decide +kernel) (by decide +kernel), fun _ h => absurd h List.not_mem_nil⟩⟩⟩⟩⟩
theorem vX11_events_188 : ∀ w ∈ ([.methodLink RX11 188 yX5_countOf, .instanceMethod yX5_countOf, .selects yX5_countOf.cls yX5_countOf yX5_countOf, .initialized yX5_countOf.cls, .code yX5_countOf cX5_countOf 3 (some .int)] : List Cond), w ∈ lw_good := List.forall_mem_cons.mpr ⟨mgd 1206 (by decide +kernel) (by decide +kernel), List.forall_mem_cons.mpr ⟨mgd 669 (by decide +kernel) (by decide +kernel), List.forall_mem_cons.mpr ⟨mgd 670 (by decide +kernel) (by decide +kernel), List.forall_mem_cons.mpr ⟨mgd 125 (by decide +kernel) (by decide +kernel), List.forall_mem_cons.mpr ⟨mgd 671 (by decide +kernel) (by decide +kernel), fun _ h => absurd h List.not_mem_nil⟩⟩⟩⟩⟩
set_option maxRecDepth 100000 in
set_option maxHeartbeats 2000000 in
theorem c_wev (l : Launch) (hlt : l.stackTraces = false) : ∀ (t : Nat) (p : Int32) (x : Int32) (F : Nat → Nat × Nat) (X : Nat → GX) (kz : Nat → Nat) (Q : Ab), CtX l yX11_events (Cond.code yX11_events cX11_events 4 (some .int)) (some .int) 8 130 (sp_wev t p x F X kz Q) := by
  intro t p x F X kz Q
  refine CtX.of hlt (fX11, nX11, aX11, iX11, lX11, [(108, 0, 2, 3, T_wpo), (104, 2, 1, 0, T_wrq), (184, 0, 1, 1, T_alsz), (188, 0, 2, 1, T_gcof)], qX11, gX11, []) false tX11_events (fun _ _ _ => none) (by decide) (by decide) kX11_events ⟨_, _, rfl⟩ fX11_ok nX11_ok aX11_ok iX11_ok lX11_ok (fun p e R s m args below meth c Q D cy z r A C hR1 hR2 => List.forall_mem_cons.mpr ⟨cOK_use (fun _ _ _ _ _ _ _ _ h => let ⟨sp, h1, h2, h3⟩ := u_wpo l hlt _ _ _ _ _ _ _ _ h; ⟨sp, cOKx_V C h1 vX11_events_108 ⟨by decide, by decide, by decide +kernel⟩ ⟨by rw [hR1]; decide, by rw [hR2]; decide⟩ (k := 12) (T := TX11) (N := 15) rfl (by decide) h2, h3⟩), List.forall_mem_cons.mpr ⟨cOK_use (fun _ _ _ _ _ _ _ _ h => let ⟨sp, h1, _, h3⟩ := u_wrq l hlt _ _ _ _ _ _ _ _ h; ⟨sp, cOKx_S C h1 vX11_events_104 ⟨by decide, by decide, by decide +kernel⟩ ⟨by rw [hR1]; decide, by rw [hR2]; decide⟩, h3⟩), List.forall_mem_cons.mpr ⟨cOK_use (fun _ _ _ _ _ _ _ _ h => let ⟨sp, h1, h2, h3⟩ := u_alsz l _ _ _ _ _ _ _ _ h; ⟨sp, cOK_V C h1 vX11_events_184 ⟨by decide, by decide, by decide +kernel⟩ ⟨by rw [hR1]; decide, by rw [hR2]; decide⟩ (k := 0) (T := TJx4a65c) (N := 3) rfl (by decide) h2, h3⟩), List.forall_mem_cons.mpr ⟨cOK_use (fun _ _ _ _ _ _ _ _ h => let ⟨sp, h1, h2, h3⟩ := u_gcof l _ _ _ _ _ _ _ _ h; ⟨sp, cOK_V C h1 vX11_events_188 ⟨by decide, by decide, by decide +kernel⟩ ⟨by rw [hR1]; decide, by rw [hR2]; decide⟩ (k := 6) (T := TX5) (N := 12) rfl (by decide) h2, h3⟩), fun _ h => absurd h List.not_mem_nil⟩⟩⟩⟩) qX11_ok gX11_ok (fun _ h => absurd h List.not_mem_nil) ?_ ?_
  · rintro _ S ⟨rfl, hp⟩
    refine ⟨Nat.le_of_ble_eq_true rfl, 300, ?_⟩
    show (0 = 0 ∧ (∃ (F_1 : Nat → Nat × Nat) (z_2 : Nat → Nat), (SfA S F_1 t z_2) ∧ 0 + 1 ≤ 2 ∧ 0 + 6 ≤ 12 ∧ ((∀ (x_4 : Option Nat) (S_3 : MM), (S_3 = S ∧ ∃ n, n < 4 ∧ p = nI n ∧ x_4 = some (z_2 (30 + n))) → (pa x_4 fun a_5 => isO S_3 11 a_5 ∧ ((x < (-1 : Int32) → (2 = 2 ∧ (((0 : Int32) = 0 ∨ (0 : Int32) = 1) ∧ 0 + 1 + 1 ≤ 2 ∧ 0 + 6 + 6 ≤ 12 ∧ ((∀ (S_6 : MM), (S_6 = S_3 ∧ (0 : Int32) = 1) → ((¬ x = (-1 : Int32) → (0 = 0 ∧ ((pa (mR S_3 1101 a_5) fun a_7 => (∃ (i_8 : Nat), x = nI i_8 ∧ (∃ (ar_9 : Nat) (Lf_10 : Nat → List Nat), (AgT S_6 a_7 ar_9 Lf_10 ∧ i_8 < 256) ∧ 0 + 1 + 1 ≤ 2 ∧ 0 + 6 + 6 ≤ 12 ∧ ((([] : List MV) = [] ∧ mret (some .int) (sp_wev t p x F X kz Q) [.inr (.inr (some t)), .inl p, .inl x] S (some (.inl (nI (Lf_10 i_8).length))) S_6 (0 + 1 + 1) (0 + 6 + 6))))))))) ∧ (x = (-1 : Int32) → (pa (mR S_3 1101 a_5) fun a_12 => isO S_6 6 a_12 ∧ (0 = 0 ∧ ((pa (mR S_6 601 a_12) fun a_13 => (∃ (d_14 c_15 kk_16 : Nat) (L_17 : List Nat), (AL S_6 a_13 d_14 c_15 kk_16 L_17) ∧ 0 + 1 + 1 ≤ 2 ∧ 0 + 6 + 6 ≤ 12 ∧ ((([] : List MV) = [] ∧ mret (some .int) (sp_wev t p x F X kz Q) [.inr (.inr (some t)), .inl p, .inl x] S (some (.inl (nI L_17.length))) S_6 (0 + 1 + 1) (0 + 6 + 6))))))))))) ∧ (((0 : Int32) = 0) → mthr (sp_wev t p x F X kz Q) [.inr (.inr (some t)), .inl p, .inl x] S 1 S_3 (0 + 1 + 1) (0 + 6 + 6)))))) ∧ (¬ x < (-1 : Int32) → (((256 : Int32) ≤ x → (2 = 2 ∧ (((0 : Int32) = 0 ∨ (0 : Int32) = 1) ∧ 0 + 1 + 1 ≤ 2 ∧ 0 + 6 + 6 ≤ 12 ∧ ((∀ (S_20 : MM), (S_20 = S_3 ∧ (0 : Int32) = 1) → ((¬ x = (-1 : Int32) → (0 = 0 ∧ ((pa (mR S_3 1101 a_5) fun a_21 => (∃ (i_22 : Nat), x = nI i_22 ∧ (∃ (ar_23 : Nat) (Lf_24 : Nat → List Nat), (AgT S_20 a_21 ar_23 Lf_24 ∧ i_22 < 256) ∧ 0 + 1 + 1 ≤ 2 ∧ 0 + 6 + 6 ≤ 12 ∧ ((([] : List MV) = [] ∧ mret (some .int) (sp_wev t p x F X kz Q) [.inr (.inr (some t)), .inl p, .inl x] S (some (.inl (nI (Lf_24 i_22).length))) S_20 (0 + 1 + 1) (0 + 6 + 6))))))))) ∧ (x = (-1 : Int32) → (pa (mR S_3 1101 a_5) fun a_26 => isO S_20 6 a_26 ∧ (0 = 0 ∧ ((pa (mR S_20 601 a_26) fun a_27 => (∃ (d_28 c_29 kk_30 : Nat) (L_31 : List Nat), (AL S_20 a_27 d_28 c_29 kk_30 L_31) ∧ 0 + 1 + 1 ≤ 2 ∧ 0 + 6 + 6 ≤ 12 ∧ ((([] : List MV) = [] ∧ mret (some .int) (sp_wev t p x F X kz Q) [.inr (.inr (some t)), .inl p, .inl x] S (some (.inl (nI L_31.length))) S_20 (0 + 1 + 1) (0 + 6 + 6))))))))))) ∧ (((0 : Int32) = 0) → mthr (sp_wev t p x F X kz Q) [.inr (.inr (some t)), .inl p, .inl x] S 1 S_3 (0 + 1 + 1) (0 + 6 + 6)))))) ∧ (¬ (256 : Int32) ≤ x → (2 = 2 ∧ (((1 : Int32) = 0 ∨ (1 : Int32) = 1) ∧ 0 + 1 + 1 ≤ 2 ∧ 0 + 6 + 6 ≤ 12 ∧ ((∀ (S_34 : MM), (S_34 = S_3 ∧ (1 : Int32) = 1) → ((¬ x = (-1 : Int32) → (0 = 0 ∧ ((pa (mR S_3 1101 a_5) fun a_35 => (∃ (i_36 : Nat), x = nI i_36 ∧ (∃ (ar_37 : Nat) (Lf_38 : Nat → List Nat), (AgT S_34 a_35 ar_37 Lf_38 ∧ i_36 < 256) ∧ 0 + 1 + 1 ≤ 2 ∧ 0 + 6 + 6 ≤ 12 ∧ ((([] : List MV) = [] ∧ mret (some .int) (sp_wev t p x F X kz Q) [.inr (.inr (some t)), .inl p, .inl x] S (some (.inl (nI (Lf_38 i_36).length))) S_34 (0 + 1 + 1) (0 + 6 + 6))))))))) ∧ (x = (-1 : Int32) → (pa (mR S_3 1101 a_5) fun a_40 => isO S_34 6 a_40 ∧ (0 = 0 ∧ ((pa (mR S_34 601 a_40) fun a_41 => (∃ (d_42 c_43 kk_44 : Nat) (L_45 : List Nat), (AL S_34 a_41 d_42 c_43 kk_44 L_45) ∧ 0 + 1 + 1 ≤ 2 ∧ 0 + 6 + 6 ≤ 12 ∧ ((([] : List MV) = [] ∧ mret (some .int) (sp_wev t p x F X kz Q) [.inr (.inr (some t)), .inl p, .inl x] S (some (.inl (nI L_45.length))) S_34 (0 + 1 + 1) (0 + 6 + 6))))))))))) ∧ (((1 : Int32) = 0) → mthr (sp_wev t p x F X kz Q) [.inr (.inr (some t)), .inl p, .inl x] S 1 S_3 (0 + 1 + 1) (0 + 6 + 6))))))))))) ∧ ((np 4 p) → mthr (sp_wev t p x F X kz Q) [.inr (.inr (some t)), .inl p, .inl x] S 1 S (0 + 1) (0 + 6)))))
    obtain ⟨z, hz⟩ := hp
    refine ⟨rfl, F, z, hz.1.1, by decide, by decide, fun v S3 h => ?_, fun h => ⟨⟨rfl, Or.inl h, rfl⟩, Nat.le_of_ble_eq_true rfl, Nat.le_of_ble_eq_true rfl⟩⟩
    obtain ⟨rfl, n, hn, rfl, rfl⟩ := h
    obtain ⟨A, H, W, r, a, d, ea, kn, kr, cu, hP⟩ := hz.2.1 n hn
    have g := hP.gi
    have r1 : mR S3 1101 (z (30 + n)) = some (A 0) := hP.1.2.2.2.1
    refine ⟨hP.1.1, fun h => ⟨rfl, Or.inl rfl, by decide, by decide, rq0 ⟨⟨rfl, Or.inr ⟨?_, ?_⟩, rfl⟩, Nat.le_of_ble_eq_true rfl, Nat.le_of_ble_eq_true rfl⟩⟩, fun h1 => ⟨fun h => ⟨rfl, Or.inl rfl, by decide, by decide, rq0 ⟨⟨rfl, Or.inr ⟨?_, np_hi (by decide) h⟩, rfl⟩, Nat.le_of_ble_eq_true rfl, Nat.le_of_ble_eq_true rfl⟩⟩, fun h2 => ⟨rfl, Or.inr rfl, by decide, by decide, rq1 ⟨fun h3 => ⟨rfl, pa_i r1 ?_⟩, fun h3 => pa_i r1 ⟨(g 0).1, rfl, pa_i (g 2).1 ⟨_, _, _, _, (g 2).2.2.2, by decide, by decide, rfl, trivial, ⟨_, rfl, rfl, n, hn, rfl, Or.inl ⟨h3, ?_⟩⟩, Nat.le_of_ble_eq_true rfl, Nat.le_of_ble_eq_true rfl⟩⟩⟩⟩⟩⟩
    · rintro rfl; exact absurd h (by decide)
    · exact np_lo (by decide) (Int32.lt_of_lt_of_le h (by decide))
    · rintro rfl; exact absurd h (by decide)
    · have h4 : ¬ x < 0 := fun w => h3 (m1_of h1 w)
      obtain ⟨j, hj, rfl⟩ := rng (m := 256) (by decide) h4 h2
      refine ⟨j, rfl, A 4, _, ⟨g.agt, hj⟩, by decide, by decide, rfl, trivial, ⟨_, rfl, rfl, n, hn, rfl, Or.inr ⟨j, hj, rfl, ?_⟩⟩, Nat.le_of_ble_eq_true rfl, Nat.le_of_ble_eq_true rfl⟩
      show nI ((agE (Q.G n) j).map (X n).ad).length = _
      rw [List.length_map]
    · rw [List.length_map, List.length_range]
  · exact fun _ _ _ _ _ h => by cases h
theorem u_wev (l : Launch) (hlt : l.stackTraces = false) : UsX l yX11_events (Cond.code yX11_events cX11_events 4 (some .int)) (some .int) 8 130 12 T_wev := by
  intro Rc Rs av S cs sl K Kx h
  unfold T_wev at h
  split at h
  · rename_i t_o p x
    obtain ⟨t, rfl, h_1⟩ := pa_of h
    obtain ⟨F, X, kz, Q, hp, hc, hs, hk, hx0⟩ := h_1
    refine ⟨(sp_wev t p x F X kz Q), c_wev l hlt t p x F X kz Q, fun _ _ h9 => ⟨_, _, h9.1, h9.2.choose_spec.1.1.1⟩, ⟨rfl, hp⟩, hc, hs, fun v9 S' h8 => by
      obtain ⟨v8, h7, h8⟩ := h8
      cases h7
      exact hk _ _ h8, fun _ _ q => by
      rcases q with ⟨rfl, q⟩
      · obtain ⟨q, rfl⟩ := q
        exact hx0 q⟩
  · exact h.elim
def T_whd : TR := fun Rc Rs av S cs sl K Kx => match av with
  | [.inr (.inr t_o), .inl p, .inl x] => pa t_o fun t => (∃ (F : Nat → Nat × Nat) (X : Nat → GX) (kz : Nat → Nat) (Q : Ab), (WT S F t X kz Q) ∧ cs + 2 ≤ Rc ∧ sl + 12 ≤ Rs ∧ ((∀ (v : Int64) (S' : MM), (S' = S ∧ ∃ n H j, n < 4 ∧ p = nI n ∧ HdS (Q.G n) H ∧ j < H.length ∧ x = nI j ∧ v = lN ((Q.G n).key (H.getD j 0))) → K (some (.inr (.inl v))) S' (cs + 2) (sl + 12)) ∧ ((np 4 p) → Kx 1 S (cs + 2) (sl + 12)) ∧ ((∃ n H, n < 4 ∧ p = nI n ∧ HdS (Q.G n) H ∧ np H.length x) → Kx 2 S (cs + 2) (sl + 12))))
  | _ => False
def sp_whd (t : Nat) (p : Int32) (x : Int32) (F : Nat → Nat × Nat) (X : Nat → GX) (kz : Nat → Nat) (Q : Ab) : Sp := (fun av S => av = [.inr (.inr (some t)), .inl p, .inl x] ∧ (WT S F t X kz Q), fun _ S => 2, fun _ S => 12, fun _ S rv S' => ∃ v, rv = (some (.inr (.inl v))) ∧ (S' = S ∧ ∃ n H j, n < 4 ∧ p = nI n ∧ HdS (Q.G n) H ∧ j < H.length ∧ x = nI j ∧ v = lN ((Q.G n).key (H.getD j 0))), fun _ S E S' => (E = 1 ∧ (np 4 p) ∧ S' = S) ∨ (E = 2 ∧ (∃ n H, n < 4 ∧ p = nI n ∧ HdS (Q.G n) H ∧ np H.length x) ∧ S' = S))
def tX11_head : CD := [(0, .aload_n 0), (1, .iload_n 1), (2, .invokevirtual 108), (5, .getfield 112), (8, .astore_n 3), (9, .iload_n 2), (10, .ifCond .lt 14), (13, .iload_n 2), (14, .aload_n 3), (15, .getfield 191), (18, .invokevirtual 184), (21, .if_icmp .lt 11), (24, .new 147), (27, .dup), (28, .invokespecial 149), (31, .athrow), (32, .aload_n 3), (33, .getfield 191), (36, .iload_n 2), (37, .invokevirtual 194), (40, .checkcast 60), (43, .invokevirtual 176), (46, .lreturn)]
set_option maxRecDepth 100000 in
theorem kX11_head : chk cX11_head tX11_head = true := by decide +kernel
theorem vX11_head_108 : ∀ w ∈ ([.methodLink RX11 108 yX11_peerOf, .instanceMethod yX11_peerOf, .selects yX11_peerOf.cls yX11_peerOf yX11_peerOf, .initialized yX11_peerOf.cls, .code yX11_peerOf cX11_peerOf 2 (some (.object "WeaveText$Peer"))] : List Cond), w ∈ lw_good := List.forall_mem_cons.mpr ⟨mgd 827 (by decide +kernel) (by decide +kernel), List.forall_mem_cons.mpr ⟨mgd 829 (by decide +kernel) (by decide +kernel), List.forall_mem_cons.mpr ⟨mgd 1 (by decide +kernel) (by decide +kernel), List.forall_mem_cons.mpr ⟨mgd 121 (by decide +kernel) (by decide +kernel), List.forall_mem_cons.mpr ⟨mgd 830 (by decide +kernel) (by decide +kernel), fun _ h => absurd h List.not_mem_nil⟩⟩⟩⟩⟩
theorem vX11_head_184 : ∀ w ∈ ([.methodLink RX11 184 yJx4a65c_size_8abf5, .instanceMethod yJx4a65c_size_8abf5, .selects yJx4a65c_size_8abf5.cls yJx4a65c_size_8abf5 yJx4a65c_size_8abf5, .initialized yJx4a65c_size_8abf5.cls, .code yJx4a65c_size_8abf5 cJx4a65c_size_8abf5 1 (some .int)] : List Cond), w ∈ lw_good := List.forall_mem_cons.mpr ⟨mgd 1205 (by decide +kernel) (by decide +kernel), List.forall_mem_cons.mpr ⟨mgd 673 (by decide +kernel) (by decide +kernel), List.forall_mem_cons.mpr ⟨mgd 674 (by decide +kernel) (by decide +kernel), List.forall_mem_cons.mpr ⟨mgd 130 (by decide +kernel) (by decide +kernel), List.forall_mem_cons.mpr ⟨mgd 675 (by decide +kernel) (by decide +kernel), fun _ h => absurd h List.not_mem_nil⟩⟩⟩⟩⟩
theorem vX11_head_194 : ∀ w ∈ ([.methodLink RX11 194 yJx4a65c_get_915e3, .instanceMethod yJx4a65c_get_915e3, .selects yJx4a65c_get_915e3.cls yJx4a65c_get_915e3 yJx4a65c_get_915e3, .initialized yJx4a65c_get_915e3.cls, .code yJx4a65c_get_915e3 cJx4a65c_get_915e3 2 (some (.object "java/lang/Object"))] : List Cond), w ∈ lw_good := List.forall_mem_cons.mpr ⟨mgd 1214 (by decide +kernel) (by decide +kernel), List.forall_mem_cons.mpr ⟨mgd 677 (by decide +kernel) (by decide +kernel), List.forall_mem_cons.mpr ⟨mgd 678 (by decide +kernel) (by decide +kernel), List.forall_mem_cons.mpr ⟨mgd 130 (by decide +kernel) (by decide +kernel), List.forall_mem_cons.mpr ⟨mgd 679 (by decide +kernel) (by decide +kernel), fun _ h => absurd h List.not_mem_nil⟩⟩⟩⟩⟩
theorem vX11_head_176 : ∀ w ∈ ([.methodLink RX11 176 yX4_id, .instanceMethod yX4_id, .selects yX4_id.cls yX4_id yX4_id, .initialized yX4_id.cls, .code yX4_id cX4_id 1 (some .long)] : List Cond), w ∈ lw_good := List.forall_mem_cons.mpr ⟨mgd 1197 (by decide +kernel) (by decide +kernel), List.forall_mem_cons.mpr ⟨mgd 911 (by decide +kernel) (by decide +kernel), List.forall_mem_cons.mpr ⟨mgd 912 (by decide +kernel) (by decide +kernel), List.forall_mem_cons.mpr ⟨mgd 126 (by decide +kernel) (by decide +kernel), List.forall_mem_cons.mpr ⟨mgd 913 (by decide +kernel) (by decide +kernel), fun _ h => absurd h List.not_mem_nil⟩⟩⟩⟩⟩
set_option maxRecDepth 100000 in
set_option maxHeartbeats 2000000 in
theorem c_whd (l : Launch) (hlt : l.stackTraces = false) : ∀ (t : Nat) (p : Int32) (x : Int32) (F : Nat → Nat × Nat) (X : Nat → GX) (kz : Nat → Nat) (Q : Ab), CtX l yX11_head (Cond.code yX11_head cX11_head 4 (some .long)) (some .long) 8 130 (sp_whd t p x F X kz Q) := by
  intro t p x F X kz Q
  refine CtX.of hlt (fX11, nX11, aX11, iX11, lX11, [(108, 0, 2, 3, T_wpo), (184, 0, 1, 1, T_alsz), (194, 0, 2, 3, T_alget), (176, 0, 1, 2, T_eid)], qX11, gX11, thX11) false tX11_head (fun _ _ _ => none) (by decide) (by decide) kX11_head ⟨_, _, rfl⟩ fX11_ok nX11_ok aX11_ok iX11_ok lX11_ok (fun p e R s m args below meth c Q D cy z r A C hR1 hR2 => List.forall_mem_cons.mpr ⟨cOK_use (fun _ _ _ _ _ _ _ _ h => let ⟨sp, h1, h2, h3⟩ := u_wpo l hlt _ _ _ _ _ _ _ _ h; ⟨sp, cOKx_V C h1 vX11_head_108 ⟨by decide, by decide, by decide +kernel⟩ ⟨by rw [hR1]; decide, by rw [hR2]; decide⟩ (k := 12) (T := TX11) (N := 15) rfl (by decide) h2, h3⟩), List.forall_mem_cons.mpr ⟨cOK_use (fun _ _ _ _ _ _ _ _ h => let ⟨sp, h1, h2, h3⟩ := u_alsz l _ _ _ _ _ _ _ _ h; ⟨sp, cOK_V C h1 vX11_head_184 ⟨by decide, by decide, by decide +kernel⟩ ⟨by rw [hR1]; decide, by rw [hR2]; decide⟩ (k := 0) (T := TJx4a65c) (N := 3) rfl (by decide) h2, h3⟩), List.forall_mem_cons.mpr ⟨cOK_use (fun _ _ _ _ _ _ _ _ h => let ⟨sp, h1, h2, h3⟩ := u_alget l _ _ _ _ _ _ _ _ h; ⟨sp, cOK_V C h1 vX11_head_194 ⟨by decide, by decide, by decide +kernel⟩ ⟨by rw [hR1]; decide, by rw [hR2]; decide⟩ (k := 0) (T := TJx4a65c) (N := 3) rfl (by decide) h2, h3⟩), List.forall_mem_cons.mpr ⟨cOK_use (fun _ _ _ _ _ _ _ _ h => let ⟨sp, h1, h2, h3⟩ := u_eid l _ _ _ _ _ _ _ _ h; ⟨sp, cOK_V C h1 vX11_head_176 ⟨by decide, by decide, by decide +kernel⟩ ⟨by rw [hR1]; decide, by rw [hR2]; decide⟩ (k := 5) (T := TX4) (N := 16) rfl (by decide) h2, h3⟩), fun _ h => absurd h List.not_mem_nil⟩⟩⟩⟩) qX11_ok gX11_ok (fun q hq => ⟨thX11_ok q hq, by decide, by decide⟩) ?_ ?_
  · rintro _ S ⟨rfl, hp⟩
    refine ⟨Nat.le_of_ble_eq_true rfl, 300, ?_⟩
    show (0 = 0 ∧ (∃ (F_1 : Nat → Nat × Nat) (z_2 : Nat → Nat), (SfA S F_1 t z_2) ∧ 0 + 1 ≤ 2 ∧ 0 + 6 ≤ 12 ∧ ((∀ (x_4 : Option Nat) (S_3 : MM), (S_3 = S ∧ ∃ n, n < 4 ∧ p = nI n ∧ x_4 = some (z_2 (30 + n))) → (pa x_4 fun a_5 => isO S_3 11 a_5 ∧ ((x < 0 → (mthr (sp_whd t p x F X kz Q) [.inr (.inr (some t)), .inl p, .inl x] S 2 S_3 (0 + 1 + 1) (0 + 6 + 6))) ∧ (¬ x < 0 → (pa (mR S_3 1101 a_5) fun a_6 => isO S_3 6 a_6 ∧ (0 = 0 ∧ ((pa (mR S_3 604 a_6) fun a_7 => (∃ (d_8 c_9 kk_10 : Nat) (L_11 : List Nat), (AL S_3 a_7 d_8 c_9 kk_10 L_11) ∧ 0 + 1 ≤ 2 ∧ 0 + 6 ≤ 12 ∧ (((x < (nI L_11.length) → (pa (mR S_3 1101 a_5) fun a_13 => isO S_3 6 a_13 ∧ (0 = 0 ∧ ((pa (mR S_3 604 a_13) fun a_14 => (∃ (i_15 : Nat), x = nI i_15 ∧ (∃ (d_16 c_17 kk_18 : Nat) (L_19 : List Nat), (AL S_3 a_14 d_16 c_17 kk_18 L_19 ∧ i_15 < L_19.length) ∧ 0 + 1 ≤ 2 ∧ 0 + 6 ≤ 12 ∧ (((∀ w_21, (L_19[i_15]?) = some w_21 → isO S_3 5 w_21) ∧ (0 = 0 ∧ ((pa (L_19[i_15]?) fun a_22 => (∃ (g_23 : Nat), (isO S_3 5 a_22 ∧ mR S_3 500 a_22 = some g_23 ∧ isO S_3 1 g_23) ∧ 0 + 1 ≤ 2 ∧ 0 + 6 ≤ 12 ∧ ((([] : List MV) = [] ∧ mret (some .long) (sp_whd t p x F X kz Q) [.inr (.inr (some t)), .inl p, .inl x] S (some (.inr (.inl (evId S_3 a_22 g_23)))) S_3 (0 + 1) (0 + 6)))))))))))))))) ∧ (¬ x < (nI L_11.length) → (mthr (sp_whd t p x F X kz Q) [.inr (.inr (some t)), .inl p, .inl x] S 2 S_3 (0 + 1 + 1) (0 + 6 + 6)))))))))))))) ∧ ((np 4 p) → mthr (sp_whd t p x F X kz Q) [.inr (.inr (some t)), .inl p, .inl x] S 1 S (0 + 1) (0 + 6)))))
    obtain ⟨z, hz⟩ := hp
    refine ⟨rfl, F, z, hz.1.1, by decide, by decide, fun v S3 h => ?_, fun h => ⟨Or.inl ⟨rfl, h, rfl⟩, Nat.le_of_ble_eq_true rfl, Nat.le_of_ble_eq_true rfl⟩⟩
    obtain ⟨rfl, n, hn, rfl, rfl⟩ := h
    obtain ⟨A, H, W, r, a, d, ea, kn, kr, cu, hP⟩ := hz.2.1 n hn
    have g := hP.gi
    have r1 : mR S3 1101 (z (30 + n)) = some (A 0) := hP.1.2.2.2.1
    have hd : HdS (Q.G n) H := g 20
    have hl := (g 5).2.2.2.1
    have hl1 : H.length ≤ 100000 := by
      have a1 := hl.2.2.2.1
      have a2 := hl.2.2.2.2.1
      rw [List.length_map] at a1; omega
    refine ⟨hP.1.1, fun h => ⟨Or.inr ⟨rfl, ⟨n, H, hn, rfl, hd, np_lo (by omega) h⟩, rfl⟩, Nat.le_of_ble_eq_true rfl, Nat.le_of_ble_eq_true rfl⟩, fun h1 => pa_i r1 ⟨(g 0).1, rfl, pa_i (g 5).1 ⟨_, _, _, _, hl, by decide, by decide, ?_⟩⟩⟩
    rw [List.length_map]
    refine ⟨fun h => ?_, fun h => ⟨Or.inr ⟨rfl, ⟨n, H, hn, rfl, hd, np_hi (by omega) (Int32.not_lt.1 h)⟩, rfl⟩, Nat.le_of_ble_eq_true rfl, Nat.le_of_ble_eq_true rfl⟩⟩
    obtain ⟨j, hj, rfl⟩ := rng (m := H.length) (by omega) h1 (fun w => absurd h (Int32.not_lt.2 w))
    have hk : H.getD j 0 < (Q.G n).n := ((hd.1 _).1 (by
      rw [List.getD_eq_getElem?_getD, List.getElem?_eq_getElem hj]; exact List.getElem_mem hj)).1
    have ev := g.ev
    have e := ev.2.1 _ hk
    have e9 : (H.map (X n).ad)[j]? = some ((X n).ad (H.getD j 0)) := by
      rw [List.getElem?_map, List.getElem?_eq_getElem hj, List.getD_eq_getElem?_getD, List.getElem?_eq_getElem hj]; rfl
    refine pa_i r1 ⟨(g 0).1, rfl, pa_i (g 5).1 ⟨j, rfl, _, _, _, _, ⟨hl, by rw [List.length_map]; exact hj⟩, by decide, by decide, ?_⟩⟩
    rw [e9]
    refine ⟨(fun w hw => by cases hw; exact e.1), rfl, (X n).aa ((Q.G n).ev (H.getD j 0)).sl, ⟨e.1, e.2.1, (ev.2.2.1 _ (ev.1.sl1 _ hk)).1⟩, by decide, by decide, rfl, trivial, ⟨_, rfl, rfl, n, H, j, hn, rfl, hd, hj, rfl, ev.id hk⟩, Nat.le_of_ble_eq_true rfl, Nat.le_of_ble_eq_true rfl⟩
  · exact fun _ _ _ _ _ h => by cases h
theorem u_whd (l : Launch) (hlt : l.stackTraces = false) : UsX l yX11_head (Cond.code yX11_head cX11_head 4 (some .long)) (some .long) 8 130 12 T_whd := by
  intro Rc Rs av S cs sl K Kx h
  unfold T_whd at h
  split at h
  · rename_i t_o p x
    obtain ⟨t, rfl, h_1⟩ := pa_of h
    obtain ⟨F, X, kz, Q, hp, hc, hs, hk, hx0, hx1⟩ := h_1
    refine ⟨(sp_whd t p x F X kz Q), c_whd l hlt t p x F X kz Q, fun _ _ h9 => ⟨_, _, h9.1, h9.2.choose_spec.1.1.1⟩, ⟨rfl, hp⟩, hc, hs, fun v9 S' h8 => by
      obtain ⟨v8, h7, h8⟩ := h8
      cases h7
      exact hk _ _ h8, fun _ _ q => by
      rcases q with ⟨rfl, q⟩ | ⟨rfl, q⟩
      · obtain ⟨q, rfl⟩ := q
        exact hx0 q
      · obtain ⟨q, rfl⟩ := q
        exact hx1 q⟩
  · exact h.elim
def T_wcr : TR := fun Rc Rs av S cs sl K Kx => match av with
  | [.inr (.inr t_o), .inl p] => pa t_o fun t => (∃ (F : Nat → Nat × Nat) (X : Nat → GX) (kz : Nat → Nat) (Q : Ab), (WT S F t X kz Q) ∧ cs + 1 ≤ Rc ∧ sl + 6 ≤ Rs ∧ ((∀ (v : Int32) (S' : MM), (∃ n, n < 4 ∧ p = nI n ∧ v = nI (crN (Q.G n) (Q.G n).n) ∧ wtQ S S' F t X kz Q) → K (some (.inl v)) S' (cs + 1) (sl + 6)) ∧ ((np 4 p) → Kx 1 S (cs + 1) (sl + 6))))
  | _ => False
def sp_wcr (t : Nat) (p : Int32) (F : Nat → Nat × Nat) (X : Nat → GX) (kz : Nat → Nat) (Q : Ab) : Sp := (fun av S => av = [.inr (.inr (some t)), .inl p] ∧ (WT S F t X kz Q), fun _ S => 1, fun _ S => 6, fun _ S rv S' => ∃ v, rv = (some (.inl v)) ∧ (∃ n, n < 4 ∧ p = nI n ∧ v = nI (crN (Q.G n) (Q.G n).n) ∧ wtQ S S' F t X kz Q), fun _ S E S' => (E = 1 ∧ (np 4 p) ∧ S' = S))
def tX11_critical : CD := [(0, .aload_n 0), (1, .iload_n 1), (2, .invokevirtual 108), (5, .getfield 112), (8, .invokevirtual 205), (11, .ireturn)]
set_option maxRecDepth 100000 in
theorem kX11_critical : chk cX11_critical tX11_critical = true := by decide +kernel
theorem vX11_critical_108 : ∀ w ∈ ([.methodLink RX11 108 yX11_peerOf, .instanceMethod yX11_peerOf, .selects yX11_peerOf.cls yX11_peerOf yX11_peerOf, .initialized yX11_peerOf.cls, .code yX11_peerOf cX11_peerOf 2 (some (.object "WeaveText$Peer"))] : List Cond), w ∈ lw_good := List.forall_mem_cons.mpr ⟨mgd 827 (by decide +kernel) (by decide +kernel), List.forall_mem_cons.mpr ⟨mgd 829 (by decide +kernel) (by decide +kernel), List.forall_mem_cons.mpr ⟨mgd 1 (by decide +kernel) (by decide +kernel), List.forall_mem_cons.mpr ⟨mgd 121 (by decide +kernel) (by decide +kernel), List.forall_mem_cons.mpr ⟨mgd 830 (by decide +kernel) (by decide +kernel), fun _ h => absurd h List.not_mem_nil⟩⟩⟩⟩⟩
theorem vX11_critical_205 : ∀ w ∈ ([.methodLink RX11 205 yX5_countCritical, .instanceMethod yX5_countCritical, .selects yX5_countCritical.cls yX5_countCritical yX5_countCritical, .initialized yX5_countCritical.cls, .code yX5_countCritical cX5_countCritical 7 (some .int)] : List Cond), w ∈ lw_good := List.forall_mem_cons.mpr ⟨mgd 1235 (by decide +kernel) (by decide +kernel), List.forall_mem_cons.mpr ⟨mgd 1236 (by decide +kernel) (by decide +kernel), List.forall_mem_cons.mpr ⟨mgd 1237 (by decide +kernel) (by decide +kernel), List.forall_mem_cons.mpr ⟨mgd 125 (by decide +kernel) (by decide +kernel), List.forall_mem_cons.mpr ⟨mgd 1238 (by decide +kernel) (by decide +kernel), fun _ h => absurd h List.not_mem_nil⟩⟩⟩⟩⟩
set_option maxRecDepth 100000 in
set_option maxHeartbeats 2000000 in
theorem c_wcr (l : Launch) (hlt : l.stackTraces = false) : ∀ (t : Nat) (p : Int32) (F : Nat → Nat × Nat) (X : Nat → GX) (kz : Nat → Nat) (Q : Ab), CtX l yX11_critical (Cond.code yX11_critical cX11_critical 2 (some .int)) (some .int) 8 130 (sp_wcr t p F X kz Q) := by
  intro t p F X kz Q
  refine CtX.of hlt (fX11, nX11, aX11, iX11, lX11, [(108, 0, 2, 3, T_wpo), (205, 0, 1, 1, T_gcc)], qX11, gX11, []) false tX11_critical (fun _ _ _ => none) (by decide) (by decide) kX11_critical ⟨_, _, rfl⟩ fX11_ok nX11_ok aX11_ok iX11_ok lX11_ok (fun p e R s m args below meth c Q D cy z r A C hR1 hR2 => List.forall_mem_cons.mpr ⟨cOK_use (fun _ _ _ _ _ _ _ _ h => let ⟨sp, h1, h2, h3⟩ := u_wpo l hlt _ _ _ _ _ _ _ _ h; ⟨sp, cOKx_V C h1 vX11_critical_108 ⟨by decide, by decide, by decide +kernel⟩ ⟨by rw [hR1]; decide, by rw [hR2]; decide⟩ (k := 12) (T := TX11) (N := 15) rfl (by decide) h2, h3⟩), List.forall_mem_cons.mpr ⟨cOK_use (fun _ _ _ _ _ _ _ _ h => let ⟨sp, h1, h2, h3⟩ := u_gcc l _ _ _ _ _ _ _ _ h; ⟨sp, cOK_V C h1 vX11_critical_205 ⟨by decide, by decide, by decide +kernel⟩ ⟨by rw [hR1]; decide, by rw [hR2]; decide⟩ (k := 6) (T := TX5) (N := 12) rfl (by decide) h2, h3⟩), fun _ h => absurd h List.not_mem_nil⟩⟩) qX11_ok gX11_ok (fun _ h => absurd h List.not_mem_nil) ?_ ?_
  · rintro _ S ⟨rfl, hp⟩
    refine ⟨Nat.le_of_ble_eq_true rfl, 300, ?_⟩
    show (0 = 0 ∧ (∃ (F_1 : Nat → Nat × Nat) (z_2 : Nat → Nat), (SfA S F_1 t z_2) ∧ 0 + 1 ≤ 1 ∧ 0 + 6 ≤ 6 ∧ ((∀ (x_4 : Option Nat) (S_3 : MM), (S_3 = S ∧ ∃ n, n < 4 ∧ p = nI n ∧ x_4 = some (z_2 (30 + n))) → (pa x_4 fun a_5 => isO S_3 11 a_5 ∧ (0 = 0 ∧ ((pa (mR S_3 1101 a_5) fun a_6 => (∃ (tk_7 d_8 c_9 le_10 : Nat) (X_11 : GX) (G_12 : Gr), (isO S_3 6 a_6 ∧ mR S_3 601 a_6 = some tk_7 ∧ AL S_3 tk_7 d_8 c_9 5 ((List.range G_12.n).map X_11.ad) ∧ EvT S_3 X_11 G_12 ∧ mR S_3 608 a_6 = some le_10 ∧ isO S_3 17 le_10 ∧ mN S_3 le_10 = 16 ∧ mI S_3 603 a_6 = nI G_12.m ∧ (∀ j, j < G_12.n → X_11.bf j ≠ le_10)) ∧ 0 + 1 ≤ 1 ∧ 0 + 6 ≤ 6 ∧ (∀ (S_13 : MM), (∃ fl, S_13 = rI S_3 le_10 fl) → (([] : List MV) = [] ∧ mret (some .int) (sp_wcr t p F X kz Q) [.inr (.inr (some t)), .inl p] S (some (.inl (nI (crN G_12 G_12.n)))) S_13 (0 + 1) (0 + 6))))))))) ∧ ((np 4 p) → mthr (sp_wcr t p F X kz Q) [.inr (.inr (some t)), .inl p] S 1 S (0 + 1) (0 + 6)))))
    obtain ⟨z, hz⟩ := hp
    refine ⟨rfl, F, z, hz.1.1, by decide, by decide, fun v S3 h => ?_, fun h => ⟨⟨rfl, h, rfl⟩, Nat.le_of_ble_eq_true rfl, Nat.le_of_ble_eq_true rfl⟩⟩
    obtain ⟨rfl, n, hn, rfl, rfl⟩ := h
    obtain ⟨A, H, W, r, a, d, ea, kn, kr, cu, hP⟩ := hz.2.1 n hn
    have g := hP.gi
    have r1 : mR S3 1101 (z (30 + n)) = some (A 0) := hP.1.2.2.2.1
    refine ⟨hP.1.1, rfl, pa_i r1 ⟨A 2, A 3, _, A 10, X n, Q.G n, ⟨(g 0).1, (g 2).1, (g 2).2.2.2, g.ev, (g 9).1, (g 9).2.2.1, (g 9).2.2.2, g 4, fun j hj e => ?_⟩, by decide, by decide, fun S4 h4 => ?_⟩⟩
    · have f1 := (g 11 j hj).2.2
      have f2 : F (A 10) = (n + 1, 10) := (g 9).2.1
      rw [e, f2] at f1; injection f1 with _ f1; exact absurd f1 (by decide)
    · obtain ⟨fl, rfl⟩ := h4
      have f2 : F (A 10) = (n + 1, 10) := (g 9).2.1
      have k4 : Keep (fun b => (F b).1 = n + 1) S3 (rI S3 (A 10) fl) := Keep.rI (P := fun b => (F b).1 = n + 1) Keep.rf (by rw [f2])
      exact ⟨rfl, trivial, ⟨_, rfl, n, hn, rfl, rfl, F, ⟨z, hz.touch hn hP g.rank10 rfl k4⟩, fun _ _ => rfl, k4.mono (fun b _ e => by show cO (F b).1; rw [e]; exact cO_g hn)⟩, Nat.le_of_ble_eq_true rfl, Nat.le_of_ble_eq_true rfl⟩
  · exact fun _ _ _ _ _ h => by cases h
theorem u_wcr (l : Launch) (hlt : l.stackTraces = false) : UsX l yX11_critical (Cond.code yX11_critical cX11_critical 2 (some .int)) (some .int) 8 130 12 T_wcr := by
  intro Rc Rs av S cs sl K Kx h
  unfold T_wcr at h
  split at h
  · rename_i t_o p
    obtain ⟨t, rfl, h_1⟩ := pa_of h
    obtain ⟨F, X, kz, Q, hp, hc, hs, hk, hx0⟩ := h_1
    refine ⟨(sp_wcr t p F X kz Q), c_wcr l hlt t p F X kz Q, fun _ _ h9 => ⟨_, _, h9.1, h9.2.choose_spec.1.1.1⟩, ⟨rfl, hp⟩, hc, hs, fun v9 S' h8 => by
      obtain ⟨v8, h7, h8⟩ := h8
      cases h7
      exact hk _ _ h8, fun _ _ q => by
      rcases q with ⟨rfl, q⟩
      · obtain ⟨q, rfl⟩ := q
        exact hx0 q⟩
  · exact h.elim
def T_wli : TR := fun Rc Rs av S cs sl K Kx => match av with
  | [.inr (.inr t_o), .inl p, .inl x] => pa t_o fun t => (∃ (F : Nat → Nat × Nat) (X : Nat → GX) (kz : Nat → Nat) (Q : Ab), (WT S F t X kz Q) ∧ cs + 2 ≤ Rc ∧ sl + 12 ≤ Rs ∧ ((∀ (v : Int32) (S' : MM), (S' = S ∧ ∃ n, n < 4 ∧ p = nI n ∧ ((x = -1 ∧ v = nI (1 + lnC (txtG (Q.G n) (Q.T n)))) ∨ (x ≠ -1 ∧ v = lnF x (txtG (Q.G n) (Q.T n)) 0 0 ∧ v ≠ -1))) → K (some (.inl v)) S' (cs + 2) (sl + 12)) ∧ ((np 4 p) → Kx 1 S (cs + 2) (sl + 12)) ∧ ((∃ n, n < 4 ∧ p = nI n ∧ x ≠ -1 ∧ lnF x (txtG (Q.G n) (Q.T n)) 0 0 = -1) → Kx 2 S (cs + 2) (sl + 12))))
  | _ => False
def sp_wli (t : Nat) (p : Int32) (x : Int32) (F : Nat → Nat × Nat) (X : Nat → GX) (kz : Nat → Nat) (Q : Ab) : Sp := (fun av S => av = [.inr (.inr (some t)), .inl p, .inl x] ∧ (WT S F t X kz Q), fun _ S => 2, fun _ S => 12, fun _ S rv S' => ∃ v, rv = (some (.inl v)) ∧ (S' = S ∧ ∃ n, n < 4 ∧ p = nI n ∧ ((x = -1 ∧ v = nI (1 + lnC (txtG (Q.G n) (Q.T n)))) ∨ (x ≠ -1 ∧ v = lnF x (txtG (Q.G n) (Q.T n)) 0 0 ∧ v ≠ -1))), fun _ S E S' => (E = 1 ∧ (np 4 p) ∧ S' = S) ∨ (E = 2 ∧ (∃ n, n < 4 ∧ p = nI n ∧ x ≠ -1 ∧ lnF x (txtG (Q.G n) (Q.T n)) 0 0 = -1) ∧ S' = S))
def tX11_line : CD := [(0, .aload_n 0), (1, .iload_n 1), (2, .invokevirtual 108), (5, .getfield 112), (8, .astore_n 3), (9, .iload_n 2), (10, .iconst (-1)), (11, .if_icmp .ne 8), (14, .aload_n 3), (15, .invokevirtual 165), (18, .ireturn), (19, .aload_n 3), (20, .iload_n 2), (21, .invokevirtual 168), (24, .istore 4), (26, .iload 4), (28, .iconst (-1)), (29, .if_icmp .ne 11), (32, .new 147), (35, .dup), (36, .invokespecial 149), (39, .athrow), (40, .iload 4), (42, .ireturn)]
set_option maxRecDepth 100000 in
theorem kX11_line : chk cX11_line tX11_line = true := by decide +kernel
theorem vX11_line_108 : ∀ w ∈ ([.methodLink RX11 108 yX11_peerOf, .instanceMethod yX11_peerOf, .selects yX11_peerOf.cls yX11_peerOf yX11_peerOf, .initialized yX11_peerOf.cls, .code yX11_peerOf cX11_peerOf 2 (some (.object "WeaveText$Peer"))] : List Cond), w ∈ lw_good := List.forall_mem_cons.mpr ⟨mgd 827 (by decide +kernel) (by decide +kernel), List.forall_mem_cons.mpr ⟨mgd 829 (by decide +kernel) (by decide +kernel), List.forall_mem_cons.mpr ⟨mgd 1 (by decide +kernel) (by decide +kernel), List.forall_mem_cons.mpr ⟨mgd 121 (by decide +kernel) (by decide +kernel), List.forall_mem_cons.mpr ⟨mgd 830 (by decide +kernel) (by decide +kernel), fun _ h => absurd h List.not_mem_nil⟩⟩⟩⟩⟩
theorem vX11_line_165 : ∀ w ∈ ([.methodLink RX11 165 yX5_countLines, .instanceMethod yX5_countLines, .selects yX5_countLines.cls yX5_countLines yX5_countLines, .initialized yX5_countLines.cls, .code yX5_countLines cX5_countLines 3 (some .int)] : List Cond), w ∈ lw_good := List.forall_mem_cons.mpr ⟨mgd 1166 (by decide +kernel) (by decide +kernel), List.forall_mem_cons.mpr ⟨mgd 1167 (by decide +kernel) (by decide +kernel), List.forall_mem_cons.mpr ⟨mgd 1168 (by decide +kernel) (by decide +kernel), List.forall_mem_cons.mpr ⟨mgd 125 (by decide +kernel) (by decide +kernel), List.forall_mem_cons.mpr ⟨mgd 1169 (by decide +kernel) (by decide +kernel), fun _ h => absurd h List.not_mem_nil⟩⟩⟩⟩⟩
theorem vX11_line_168 : ∀ w ∈ ([.methodLink RX11 168 yX5_lineStart, .instanceMethod yX5_lineStart, .selects yX5_lineStart.cls yX5_lineStart yX5_lineStart, .initialized yX5_lineStart.cls, .code yX5_lineStart cX5_lineStart 5 (some .int)] : List Cond), w ∈ lw_good := List.forall_mem_cons.mpr ⟨mgd 1170 (by decide +kernel) (by decide +kernel), List.forall_mem_cons.mpr ⟨mgd 1171 (by decide +kernel) (by decide +kernel), List.forall_mem_cons.mpr ⟨mgd 1172 (by decide +kernel) (by decide +kernel), List.forall_mem_cons.mpr ⟨mgd 125 (by decide +kernel) (by decide +kernel), List.forall_mem_cons.mpr ⟨mgd 1173 (by decide +kernel) (by decide +kernel), fun _ h => absurd h List.not_mem_nil⟩⟩⟩⟩⟩
set_option maxRecDepth 100000 in
set_option maxHeartbeats 2000000 in
theorem c_wli (l : Launch) (hlt : l.stackTraces = false) : ∀ (t : Nat) (p : Int32) (x : Int32) (F : Nat → Nat × Nat) (X : Nat → GX) (kz : Nat → Nat) (Q : Ab), CtX l yX11_line (Cond.code yX11_line cX11_line 5 (some .int)) (some .int) 8 130 (sp_wli t p x F X kz Q) := by
  intro t p x F X kz Q
  refine CtX.of hlt (fX11, nX11, aX11, iX11, lX11, [(108, 0, 2, 3, T_wpo), (165, 0, 1, 1, T_gcl), (168, 0, 2, 1, T_gls)], qX11, gX11, thX11) false tX11_line (fun _ _ _ => none) (by decide) (by decide) kX11_line ⟨_, _, rfl⟩ fX11_ok nX11_ok aX11_ok iX11_ok lX11_ok (fun p e R s m args below meth c Q D cy z r A C hR1 hR2 => List.forall_mem_cons.mpr ⟨cOK_use (fun _ _ _ _ _ _ _ _ h => let ⟨sp, h1, h2, h3⟩ := u_wpo l hlt _ _ _ _ _ _ _ _ h; ⟨sp, cOKx_V C h1 vX11_line_108 ⟨by decide, by decide, by decide +kernel⟩ ⟨by rw [hR1]; decide, by rw [hR2]; decide⟩ (k := 12) (T := TX11) (N := 15) rfl (by decide) h2, h3⟩), List.forall_mem_cons.mpr ⟨cOK_use (fun _ _ _ _ _ _ _ _ h => let ⟨sp, h1, h2, h3⟩ := u_gcl l _ _ _ _ _ _ _ _ h; ⟨sp, cOK_V C h1 vX11_line_165 ⟨by decide, by decide, by decide +kernel⟩ ⟨by rw [hR1]; decide, by rw [hR2]; decide⟩ (k := 6) (T := TX5) (N := 12) rfl (by decide) h2, h3⟩), List.forall_mem_cons.mpr ⟨cOK_use (fun _ _ _ _ _ _ _ _ h => let ⟨sp, h1, h2, h3⟩ := u_gls l _ _ _ _ _ _ _ _ h; ⟨sp, cOK_V C h1 vX11_line_168 ⟨by decide, by decide, by decide +kernel⟩ ⟨by rw [hR1]; decide, by rw [hR2]; decide⟩ (k := 6) (T := TX5) (N := 12) rfl (by decide) h2, h3⟩), fun _ h => absurd h List.not_mem_nil⟩⟩⟩) qX11_ok gX11_ok (fun q hq => ⟨thX11_ok q hq, by decide, by decide⟩) ?_ ?_
  · rintro _ S ⟨rfl, hp⟩
    refine ⟨Nat.le_of_ble_eq_true rfl, 300, ?_⟩
    show (0 = 0 ∧ (∃ (F_1 : Nat → Nat × Nat) (z_2 : Nat → Nat), (SfA S F_1 t z_2) ∧ 0 + 1 ≤ 2 ∧ 0 + 6 ≤ 12 ∧ ((∀ (x_4 : Option Nat) (S_3 : MM), (S_3 = S ∧ ∃ n, n < 4 ∧ p = nI n ∧ x_4 = some (z_2 (30 + n))) → (pa x_4 fun a_5 => isO S_3 11 a_5 ∧ ((¬ x = (-1 : Int32) → (0 = 0 ∧ ((pa (mR S_3 1101 a_5) fun a_6 => (∃ (rt_7 : Nat) (R_8 : List Nat), (GCh S_3 a_6 rt_7 R_8) ∧ 0 + 1 ≤ 2 ∧ 0 + 6 ≤ 12 ∧ (((¬ (lnF x (txt S_3 R_8) 0 0) = (-1 : Int32) → (([] : List MV) = [] ∧ mret (some .int) (sp_wli t p x F X kz Q) [.inr (.inr (some t)), .inl p, .inl x] S (some (.inl (lnF x (txt S_3 R_8) 0 0))) S_3 (0 + 1) (0 + 6))) ∧ ((lnF x (txt S_3 R_8) 0 0) = (-1 : Int32) → (mthr (sp_wli t p x F X kz Q) [.inr (.inr (some t)), .inl p, .inl x] S 2 S_3 (0 + 1 + 1) (0 + 6 + 6)))))))))) ∧ (x = (-1 : Int32) → (0 = 0 ∧ ((pa (mR S_3 1101 a_5) fun a_10 => (∃ (rt_11 : Nat) (R_12 : List Nat), (GCh S_3 a_10 rt_11 R_12) ∧ 0 + 1 ≤ 2 ∧ 0 + 6 ≤ 12 ∧ ((([] : List MV) = [] ∧ mret (some .int) (sp_wli t p x F X kz Q) [.inr (.inr (some t)), .inl p, .inl x] S (some (.inl (nI (1 + lnC (txt S_3 R_12))))) S_3 (0 + 1) (0 + 6))))))))))) ∧ ((np 4 p) → mthr (sp_wli t p x F X kz Q) [.inr (.inr (some t)), .inl p, .inl x] S 1 S (0 + 1) (0 + 6)))))
    obtain ⟨z, hz⟩ := hp
    refine ⟨rfl, F, z, hz.1.1, by decide, by decide, fun v S3 h => ?_, fun h => ⟨Or.inl ⟨rfl, h, rfl⟩, Nat.le_of_ble_eq_true rfl, Nat.le_of_ble_eq_true rfl⟩⟩
    obtain ⟨rfl, n, hn, rfl, rfl⟩ := h
    obtain ⟨A, H, W, r, a, d, ea, kn, kr, cu, hP⟩ := hz.2.1 n hn
    have g := hP.gi
    have r1 : mR S3 1101 (z (30 + n)) = some (A 0) := hP.1.2.2.2.1
    have tx := txt_xa g
    refine ⟨hP.1.1, fun h1 => ⟨rfl, pa_i r1 ⟨_, _, g.gch, by decide, by decide, ?_⟩⟩, fun h1 => ⟨rfl, pa_i r1 ⟨_, _, g.gch, by decide, by decide, rfl, trivial, ⟨_, rfl, rfl, n, hn, rfl, Or.inl ⟨h1, ?_⟩⟩, Nat.le_of_ble_eq_true rfl, Nat.le_of_ble_eq_true rfl⟩⟩⟩
    · rw [tx]
      exact ⟨fun h2 => ⟨rfl, trivial, ⟨_, rfl, rfl, n, hn, rfl, Or.inr ⟨h1, rfl, h2⟩⟩, Nat.le_of_ble_eq_true rfl, Nat.le_of_ble_eq_true rfl⟩, fun h2 => ⟨Or.inr ⟨rfl, ⟨n, hn, rfl, h1, h2⟩, rfl⟩, Nat.le_of_ble_eq_true rfl, Nat.le_of_ble_eq_true rfl⟩⟩
    · rw [tx]
  · exact fun _ _ _ _ _ h => by cases h
theorem u_wli (l : Launch) (hlt : l.stackTraces = false) : UsX l yX11_line (Cond.code yX11_line cX11_line 5 (some .int)) (some .int) 8 130 12 T_wli := by
  intro Rc Rs av S cs sl K Kx h
  unfold T_wli at h
  split at h
  · rename_i t_o p x
    obtain ⟨t, rfl, h_1⟩ := pa_of h
    obtain ⟨F, X, kz, Q, hp, hc, hs, hk, hx0, hx1⟩ := h_1
    refine ⟨(sp_wli t p x F X kz Q), c_wli l hlt t p x F X kz Q, fun _ _ h9 => ⟨_, _, h9.1, h9.2.choose_spec.1.1.1⟩, ⟨rfl, hp⟩, hc, hs, fun v9 S' h8 => by
      obtain ⟨v8, h7, h8⟩ := h8
      cases h7
      exact hk _ _ h8, fun _ _ q => by
      rcases q with ⟨rfl, q⟩ | ⟨rfl, q⟩
      · obtain ⟨q, rfl⟩ := q
        exact hx0 q
      · obtain ⟨q, rfl⟩ := q
        exact hx1 q⟩
  · exact h.elim
