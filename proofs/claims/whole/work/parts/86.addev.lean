/-! ===== PatchWriter.addEvent ===== -/
def gsB (G : Gr) (l z kd e : Nat) : Bool := decide ((G.ev e).pr.length = 1 ∧ (G.ev e).pr.getD 0 0 = l ∧ (G.ev e).sl = (G.ev l).sl ∧ ((G.ev e).ch = none ↔ (G.ev l).ch = none) ∧ (((G.ev e).ch ≠ none ∧ (G.ev e).ix = (G.ev l).ix + 1) ∨ ((G.ev e).ch = none ∧ ((G.ev e).ix = (G.ev l).ix ∧ kd = 1 ∨ (G.ev e).ix + 1 = (G.ev l).ix ∧ (z = 1 ∨ kd = 2)))))
theorem gsB_on {G : Gr} {l z kd e : Nat} : gsB G l z kd e = true ↔ gsOn G l z kd e := decide_eq_true_iff
def gsC (G : Gr) (cu : Cur) (y : Nat) : Bool := match cu with
  | none => false
  | some (_, l, z, kd) => gsB G l z kd y
def aeW (G : Gr) (V : Nat → List Int32) (M : List Nat) (cu : Cur) (sb : Option Nat) (ex : Int32) (y : Nat) : Nat → List Int32 := if gsC G cu y = true then V else csV G V M cu sb ex
def aeV (G : Gr) (V : Nat → List Int32) (M : List Nat) (cu : Cur) (sb : Option Nat) (ex : Int32) (y : Nat) : Nat → List Int32 := match (G.ev y).ch with
  | none => aeW G V M cu sb ex y
  | some c => updI (aeW G V M cu sb ex y) 5 (aeW G V M cu sb ex y 5 ++ utfV (nI c))
def aeM (G : Gr) (M : List Nat) (cu : Cur) (sb : Option Nat) (y : Nat) : List Nat := if gsC G cu y = true then M else csM G M cu sb
def aeB (G : Gr) (cu : Cur) (sb : Option Nat) (y : Nat) : Option Nat := if gsC G cu y = true then sb else csB cu sb
def aeE (G : Gr) (cu : Cur) (ex : Int32) (y : Nat) : Int32 := if gsC G cu y = true then ex else csE G cu ex
/-- first event, size before, kind of the span to which an event comes -/
def aeK (G : Gr) (cu : Cur) (y : Nat) : Nat × Nat × Nat := match cu with
  | none => (y, 0, if (G.ev y).ch = none then 1 else 0)
  | some (f, l, z, kd) => if gsB G l z kd y = true then (f, z, if (G.ev y).ch = none ∧ (G.ev y).ix < (G.ev l).ix then 2 else kd) else (y, 0, if (G.ev y).ch = none then 1 else 0)
def aeC (G : Gr) (cu : Cur) (y : Nat) : Cur := some ((aeK G cu y).1, y, (aeK G cu y).2.1 + 1, (aeK G cu y).2.2)
def aeQ (S S' : MM) (F : Nat → Nat × Nat) (j w pk pl me : Nat) (a : Nat → Nat) (V : Nat → List Int32) (cap : Nat → Nat) (M : List Nat) (X : GX) (G : Gr) (cu : Cur) (sb : Option Nat) (ex : Int32) (y : Nat) : Prop := ∃ F' d', PW S' F' j w pk pl me a d' (aeV G V M cu sb ex y) cap (aeM G M cu sb y) ∧ (∀ b, b ∈ mL S → F' b = F b) ∧ Keep (fun b => (F b).1 = j) S S' ∧ WS S' w X G (aeC G cu y) (aeB G cu sb y) (aeE G cu ex y)
def aeR (S : MM) (F : Nat → Nat × Nat) (j w pk pl me : Nat) (a d : Nat → Nat) (V : Nat → List Int32) (cap : Nat → Nat) (M : List Nat) (i : Nat) (A : Nat → Nat) (X : GX) (G : Gr) (T : Tr) (H : List Nat) (W : Nat → Nat) (cu : Cur) (sb : Option Nat) (ex : Int32) (y e : Nat) : Prop := PWG S F j w pk pl me a d V cap M i A X G T H W ∧ WS S w X G cu sb ex ∧ y < G.n ∧ e = X.ad y ∧ ∀ q, cu = some q → q.2.2.1 < 8192
def I_ae (w e : Nat) (F : Nat → Nat × Nat) (j pk pl me : Nat) (a : Nat → Nat) (V : Nat → List Int32) (cap : Nat → Nat) (M : List Nat) (X : GX) (G : Gr) (cu : Cur) (sb : Option Nat) (ex : Int32) (y : Nat) (S : MM) (t : Nat) : KT := fun lo st S1 cs sl => ∃ F1 d1, t = 1 ∧ lo = [(0, .inr (.inr (some w))), (1, .inr (.inr (some e)))] ∧ st = [] ∧ PW S1 F1 j w pk pl me a d1 (aeW G V M cu sb ex y) cap (aeM G M cu sb y) ∧ (∀ b, b ∈ mL S → F1 b = F b) ∧ Keep (fun b => (F b).1 = j) S S1 ∧ (aeK G cu y).1 < G.n ∧ mR S1 1009 w = some (X.ad (aeK G cu y).1) ∧ mI S1 1011 w = nI (aeK G cu y).2.1 ∧ mI S1 1012 w = nI (aeK G cu y).2.2 ∧ (aeK G cu y).2.1 < 8192 ∧ (aeK G cu y).2.2 < 3 ∧ mR S1 1013 w = (aeB G cu sb y).map X.ad ∧ (∀ q, aeB G cu sb y = some q → q < G.n) ∧ mI S1 1014 w = aeE G cu ex y ∧ cs + wcC V cap = wcC (aeW G V M cu sb ex y) cap ∧ sl + wcZ V cap = wcZ (aeW G V M cu sb ex y) cap
theorem aeV_ge {G : Gr} {V : Nat → List Int32} {M : List Nat} {cu : Cur} {sb : Option Nat} {ex : Int32} {y : Nat} {cap : Nat → Nat} : wcC (aeW G V M cu sb ex y) cap ≤ wcC (aeV G V M cu sb ex y) cap ∧ wcZ (aeW G V M cu sb ex y) cap ≤ wcZ (aeV G V M cu sb ex y) cap := by
  unfold aeV
  cases (G.ev y).ch with
  | none => exact ⟨Nat.le_refl _, Nat.le_refl _⟩
  | some c => exact wcC_mono (fun k => updI_ge k)
def I_ae0 (w e : Nat) (G : Gr) (cu : Cur) (y : Nat) (S : MM) (t : Nat) : KT := fun lo st S1 cs sl => gsC G cu y = false ∧ t = 2 ∧ lo = [(0, .inr (.inr (some w))), (1, .inr (.inr (some e)))] ∧ st = [] ∧ S = S1 ∧ cs = 0 ∧ sl = 0
def T_wae : TR := fun Rc Rs av S cs sl K _Kx => match av with
  | [.inr (.inr w_o), .inr (.inr e_o)] => pa w_o fun w => (pa e_o fun e => (∃ (F : Nat → Nat × Nat) (j pk pl me : Nat) (a d : Nat → Nat) (V : Nat → List Int32) (cap : Nat → Nat) (M : List Nat) (i : Nat) (A : Nat → Nat) (X : GX) (G : Gr) (T : Tr) (H : List Nat) (W : Nat → Nat) (cu : Cur) (sb : Option Nat) (ex : Int32) (y : Nat), (aeR S F j w pk pl me a d V cap M i A X G T H W cu sb ex y e) ∧ cs + (wcC (aeV G V M cu sb ex y) cap - wcC V cap) ≤ Rc ∧ sl + (wcZ (aeV G V M cu sb ex y) cap - wcZ V cap) ≤ Rs ∧ (∀ (S' : MM), (aeQ S S' F j w pk pl me a V cap M X G cu sb ex y) → K none S' (cs + (wcC (aeV G V M cu sb ex y) cap - wcC V cap)) (sl + (wcZ (aeV G V M cu sb ex y) cap - wcZ V cap)))))
  | _ => False
def sp_wae (w : Nat) (e : Nat) (F : Nat → Nat × Nat) (j pk pl me : Nat) (a d : Nat → Nat) (V : Nat → List Int32) (cap : Nat → Nat) (M : List Nat) (i : Nat) (A : Nat → Nat) (X : GX) (G : Gr) (T : Tr) (H : List Nat) (W : Nat → Nat) (cu : Cur) (sb : Option Nat) (ex : Int32) (y : Nat) : Sp := (fun av S => av = [.inr (.inr (some w)), .inr (.inr (some e))] ∧ (aeR S F j w pk pl me a d V cap M i A X G T H W cu sb ex y e), fun _ S => wcC (aeV G V M cu sb ex y) cap - wcC V cap, fun _ S => wcZ (aeV G V M cu sb ex y) cap - wcZ V cap, fun _ S rv S' => rv = none ∧ (aeQ S S' F j w pk pl me a V cap M X G cu sb ex y), fun _ _ _ _ => False)
def tX9_addEvent : CD := [(0, .aload_n 0), (1, .getfield 41), (4, .ifnull 11), (7, .aload_n 0), (8, .aload_n 1), (9, .invokevirtual 132), (12, .ifCond .ne 36), (15, .aload_n 0), (16, .invokevirtual 98), (19, .aload_n 0), (20, .aload_n 1), (21, .putfield 41), (24, .aload_n 0), (25, .iconst 0), (26, .putfield 48), (29, .aload_n 0), (30, .aload_n 1), (31, .invokevirtual 136), (34, .ifCond .eq 7), (37, .iconst 0), (38, .goto 4), (41, .iconst 1), (42, .putfield 51), (45, .goto 29), (48, .aload_n 1), (49, .invokevirtual 136), (52, .ifCond .ne 22), (55, .aload_n 1), (56, .getfield 140), (59, .aload_n 0), (60, .getfield 45), (63, .getfield 140), (66, .if_icmp .ge 8), (69, .aload_n 0), (70, .iconst 2), (71, .putfield 51), (74, .aload_n 0), (75, .aload_n 1), (76, .putfield 45), (79, .aload_n 0), (80, .dup), (81, .getfield 48), (84, .iconst 1), (85, .iadd), (86, .putfield 48), (89, .aload_n 1), (90, .invokevirtual 136), (93, .ifCond .eq 17), (96, .aload_n 0), (97, .getfield 60), (100, .getfield 123), (103, .aload_n 1), (104, .getfield 143), (107, .invokevirtual 146), (110, .return_)]
set_option maxRecDepth 100000 in
theorem kX9_addEvent : chk cX9_addEvent tX9_addEvent = true := by decide +kernel
theorem vX9_addEvent_132 : ∀ w ∈ ([.methodLink RX9 132 yX9_goesOn, .instanceMethod yX9_goesOn, .selects yX9_goesOn.cls yX9_goesOn yX9_goesOn, .initialized yX9_goesOn.cls, .code yX9_goesOn cX9_goesOn 3 (some .boolean)] : List Cond), w ∈ lw_good := List.forall_mem_cons.mpr ⟨mgd 1383 (by decide +kernel) (by decide +kernel), List.forall_mem_cons.mpr ⟨mgd 1385 (by decide +kernel) (by decide +kernel), List.forall_mem_cons.mpr ⟨mgd 27 (by decide +kernel) (by decide +kernel), List.forall_mem_cons.mpr ⟨mgd 133 (by decide +kernel) (by decide +kernel), List.forall_mem_cons.mpr ⟨mgd 1386 (by decide +kernel) (by decide +kernel), fun _ h => absurd h List.not_mem_nil⟩⟩⟩⟩⟩
theorem vX9_addEvent_98 : ∀ w ∈ ([.methodLink RX9 98 yX9_closeSpan, .instanceMethod yX9_closeSpan, .selects yX9_closeSpan.cls yX9_closeSpan yX9_closeSpan, .initialized yX9_closeSpan.cls, .code yX9_closeSpan cX9_closeSpan 2 none] : List Cond), w ∈ lw_good := List.forall_mem_cons.mpr ⟨mgd 1388 (by decide +kernel) (by decide +kernel), List.forall_mem_cons.mpr ⟨mgd 1390 (by decide +kernel) (by decide +kernel), List.forall_mem_cons.mpr ⟨mgd 28 (by decide +kernel) (by decide +kernel), List.forall_mem_cons.mpr ⟨mgd 133 (by decide +kernel) (by decide +kernel), List.forall_mem_cons.mpr ⟨mgd 1391 (by decide +kernel) (by decide +kernel), fun _ h => absurd h List.not_mem_nil⟩⟩⟩⟩⟩
theorem vX9_addEvent_136 : ∀ w ∈ ([.methodLink RX9 136 yX4_inserts, .instanceMethod yX4_inserts, .selects yX4_inserts.cls yX4_inserts yX4_inserts, .initialized yX4_inserts.cls, .code yX4_inserts cX4_inserts 1 (some .boolean)] : List Cond), w ∈ lw_good := List.forall_mem_cons.mpr ⟨mgd 1387 (by decide +kernel) (by decide +kernel), List.forall_mem_cons.mpr ⟨mgd 691 (by decide +kernel) (by decide +kernel), List.forall_mem_cons.mpr ⟨mgd 692 (by decide +kernel) (by decide +kernel), List.forall_mem_cons.mpr ⟨mgd 126 (by decide +kernel) (by decide +kernel), List.forall_mem_cons.mpr ⟨mgd 693 (by decide +kernel) (by decide +kernel), fun _ h => absurd h List.not_mem_nil⟩⟩⟩⟩⟩
theorem vX9_addEvent_146 : ∀ w ∈ ([.methodLink RX9 146 yX1_addSymbol, .instanceMethod yX1_addSymbol, .selects yX1_addSymbol.cls yX1_addSymbol yX1_addSymbol, .initialized yX1_addSymbol.cls, .code yX1_addSymbol cX1_addSymbol 4 none] : List Cond), w ∈ lw_good := List.forall_mem_cons.mpr ⟨mgd 1401 (by decide +kernel) (by decide +kernel), List.forall_mem_cons.mpr ⟨mgd 1402 (by decide +kernel) (by decide +kernel), List.forall_mem_cons.mpr ⟨mgd 1403 (by decide +kernel) (by decide +kernel), List.forall_mem_cons.mpr ⟨mgd 122 (by decide +kernel) (by decide +kernel), List.forall_mem_cons.mpr ⟨mgd 1404 (by decide +kernel) (by decide +kernel), fun _ h => absurd h List.not_mem_nil⟩⟩⟩⟩⟩
set_option maxRecDepth 100000 in
set_option maxHeartbeats 2000000 in
theorem c_wae (l : Launch) : ∀ (w : Nat) (e : Nat) (F : Nat → Nat × Nat) (j pk pl me : Nat) (a d : Nat → Nat) (V : Nat → List Int32) (cap : Nat → Nat) (M : List Nat) (i : Nat) (A : Nat → Nat) (X : GX) (G : Gr) (T : Tr) (H : List Nat) (W : Nat → Nat) (cu : Cur) (sb : Option Nat) (ex : Int32) (y : Nat), Ct l yX9_addEvent cX9_addEvent 2 none 6 141 (sp_wae w e F j pk pl me a d V cap M i A X G T H W cu sb ex y) := by
  intro w e F j pk pl me a d V cap M i A X G T H W cu sb ex y
  refine Ct.of (fX9, nX9, aX9, iX9, lX9, [(132, 0, 2, 1, T_wgo), (98, 0, 1, 0, T_wcs), (136, 0, 1, 1, T_ins), (146, 0, 2, 0, T_bsym)], qX9, gX9, []) false tX9_addEvent (fun _ S => look [(15, ([0,1], I_ae0 w e G cu y S)), (74, ([0,1], I_ae w e F j pk pl me a V cap M X G cu sb ex y S))]) (by decide) (by decide) kX9_addEvent ⟨_, _, rfl⟩ fX9_ok nX9_ok aX9_ok iX9_ok lX9_ok (fun p e R s m args below meth c Q D cy z r A C hR1 hR2 => List.forall_mem_cons.mpr ⟨cOK_use (fun _ _ _ _ _ _ _ _ h => let ⟨sp, h1, h2, h3⟩ := u_wgo l _ _ _ _ _ _ _ _ h; ⟨sp, cOK_V C h1 vX9_addEvent_132 ⟨by decide, by decide, by decide +kernel⟩ ⟨by rw [hR1]; decide, by rw [hR2]; decide⟩ (k := 10) (T := TX9) (N := 15) rfl (by decide) h2, h3⟩), List.forall_mem_cons.mpr ⟨cOK_use (fun _ _ _ _ _ _ _ _ h => let ⟨sp, h1, h2, h3⟩ := u_wcs l _ _ _ _ _ _ _ _ h; ⟨sp, cOK_V C h1 vX9_addEvent_98 ⟨by decide, by decide, by decide +kernel⟩ ⟨by rw [hR1]; decide, by rw [hR2]; decide⟩ (k := 10) (T := TX9) (N := 15) rfl (by decide) h2, h3⟩), List.forall_mem_cons.mpr ⟨cOK_use (fun _ _ _ _ _ _ _ _ h => let ⟨sp, h1, h2, h3⟩ := u_ins l _ _ _ _ _ _ _ _ h; ⟨sp, cOK_V C h1 vX9_addEvent_136 ⟨by decide, by decide, by decide +kernel⟩ ⟨by rw [hR1]; decide, by rw [hR2]; decide⟩ (k := 5) (T := TX4) (N := 16) rfl (by decide) h2, h3⟩), List.forall_mem_cons.mpr ⟨cOK_use (fun _ _ _ _ _ _ _ _ h => let ⟨sp, h1, h2, h3⟩ := u_bsym l _ _ _ _ _ _ _ _ h; ⟨sp, cOK_V C h1 vX9_addEvent_146 ⟨by decide, by decide, by decide +kernel⟩ ⟨by rw [hR1]; decide, by rw [hR2]; decide⟩ (k := 2) (T := TX1) (N := 3) rfl (by decide) h2, h3⟩), fun _ h => absurd h List.not_mem_nil⟩⟩⟩⟩) qX9_ok gX9_ok rfl ?_ ?_
  · rintro _ S ⟨rfl, hp⟩
    refine ⟨Nat.le_of_ble_eq_true rfl, 300, ?_⟩
    show (isO S 10 w ∧ (((mR S 1009 w) = none → (∃ k1, I_ae0 w e G cu y S k1 [(0, .inr (.inr (some w))), (1, .inr (.inr (some e)))] [] S 0 0)) ∧ (∀ w_1, (mR S 1009 w) = some w_1 → (0 = 0 ∧ (∃ (F_2 : Nat → Nat × Nat) (j_3 pk_4 pl_5 me_6 : Nat) (a_7 d_8 : Nat → Nat) (V_9 : Nat → List Int32) (cap_10 : Nat → Nat) (M_11 : List Nat) (i_12 : Nat) (A_13 : Nat → Nat) (X_14 : GX) (G_15 : Gr) (T_16 : Tr) (H_17 : List Nat) (W_18 : Nat → Nat) (f_19 la_20 z_21 kd_22 : Nat) (sb_23 : Option Nat) (ex_24 : Int32) (y_25 : Nat), (PWG S F_2 j_3 w pk_4 pl_5 me_6 a_7 d_8 V_9 cap_10 M_11 i_12 A_13 X_14 G_15 T_16 H_17 W_18 ∧ WS S w X_14 G_15 (some (f_19, la_20, z_21, kd_22)) sb_23 ex_24 ∧ y_25 < G_15.n ∧ e = X_14.ad y_25) ∧ 0 ≤ wcC (aeV G V M cu sb ex y) cap - wcC V cap ∧ 0 ≤ wcZ (aeV G V M cu sb ex y) cap - wcZ V cap ∧ (((¬ (tf (gsOn G_15 la_20 z_21 kd_22 y_25)) = 0 → (0 = 0 ∧ ((isO S 5 e) ∧ 0 ≤ wcC (aeV G V M cu sb ex y) cap - wcC V cap ∧ 0 ≤ wcZ (aeV G V M cu sb ex y) cap - wcZ V cap ∧ (((¬ (if mI S 505 e = -1 then 0 else 1) = 0 → (∃ k1, I_ae w e F j pk pl me a V cap M X G cu sb ex y S k1 [(0, .inr (.inr (some w))), (1, .inr (.inr (some e)))] [] S 0 0)) ∧ ((if mI S 505 e = -1 then 0 else 1) = 0 → (isO S 5 e ∧ (isO S 10 w ∧ (pa (mR S 1010 w) fun a_28 => isO S 5 a_28 ∧ (((mI S 506 a_28) ≤ (mI S 506 e) → (∃ k1, I_ae w e F j pk pl me a V cap M X G cu sb ex y S k1 [(0, .inr (.inr (some w))), (1, .inr (.inr (some e)))] [] S 0 0)) ∧ (¬ (mI S 506 a_28) ≤ (mI S 506 e) → (True ∧ (isO S 10 w ∧ (∃ k1, I_ae w e F j pk pl me a V cap M X G cu sb ex y S k1 [(0, .inr (.inr (some w))), (1, .inr (.inr (some e)))] [] (sI S 1012 w (2 : Int32)) 0 0)))))))))))))) ∧ ((tf (gsOn G_15 la_20 z_21 kd_22 y_25)) = 0 → (∃ k1, I_ae0 w e G cu y S k1 [(0, .inr (.inr (some w))), (1, .inr (.inr (some e)))] [] S 0 0)))))))))
    obtain ⟨hPG, hS, hy, rfl, hz⟩ := hp
    have hPW := hPG.1
    have hG := hPG.2.1
    have ow : isO S 10 w := hPW.2.2.2.2.1.1
    obtain ⟨v1, v2, v3, v4, v5, v6, v7, v8, v9, v10, v11, v12, v13, v14, -⟩ := hG.ev.2.1 y hy
    have cy : chI (G.ev y).ch = -1 ↔ (G.ev y).ch = none := chI_m1 (hG.gt.2.1 _ hy).1
    refine ⟨ow, fun hn => ?_, fun w1 hw1 => ?_⟩
    · have hcu : cu = none := by
        cases cu with
        | none => rfl
        | some q =>
          obtain ⟨f, l, z, kd⟩ := q
          have := hS.1.2.2.1
          rw [hn] at this; cases this
      exact ⟨2, by rw [hcu]; rfl, rfl, rfl, rfl, rfl, rfl, rfl⟩
    · cases cu with
      | none => rw [show mR S 1009 w = none from hS.1] at hw1; cases hw1
      | some q =>
        obtain ⟨f, la, z, kd⟩ := q
        obtain ⟨⟨hf, hl, e9, e10, e11, e12, hz8, hkd⟩, e13, hsb, e14⟩ := id hS
        have hz9 : z < 8192 := hz _ rfl
        refine ⟨rfl, F, j, pk, pl, me, a, d, V, cap, M, i, A, X, G, T, H, W, f, la, z, kd, sb, ex, y, ⟨hPG, hS, hy, rfl⟩, Nat.zero_le _, Nat.zero_le _, fun tn => ?_, fun t0 => ⟨2, ?_, rfl, rfl, rfl, rfl, rfl, rfl⟩⟩
        rotate_left
        · show gsB G la z kd y = false
          cases hb : gsB G la z kd y with
          | false => rfl
          | true => rw [tf_t (gsB_on.1 hb)] at t0; exact absurd t0 (by decide)
        have hg : gsB G la z kd y = true := by
          cases hb : gsB G la z kd y with
          | true => rfl
          | false => exact absurd (tf_f (fun q => by rw [gsB_on.2 q] at hb; cases hb)) tn
        have hgc : gsC G (some (f, la, z, kd)) y = true := hg
        have eK : aeK G (some (f, la, z, kd)) y = (f, z, if (G.ev y).ch = none ∧ (G.ev y).ix < (G.ev la).ix then 2 else kd) := if_pos hg
        have eW : aeW G V M (some (f, la, z, kd)) sb ex y = V := if_pos hgc
        have eM : aeM G M (some (f, la, z, kd)) sb y = M := if_pos hgc
        have eB : aeB G (some (f, la, z, kd)) sb y = sb := if_pos hgc
        have eE : aeE G (some (f, la, z, kd)) ex y = ex := if_pos hgc
        have il := hG.gt.2.2.2.2.2 la hl
        have iy := hG.gt.2.2.2.2.2 y hy
        have fin : (if (G.ev y).ch = none ∧ (G.ev y).ix < (G.ev la).ix then 2 else kd) = kd → ∃ k1, I_ae w (X.ad y) F j pk pl me a V cap M X G (some (f, la, z, kd)) sb ex y S k1 [(0, .inr (.inr (some w))), (1, .inr (.inr (some (X.ad y))))] [] S 0 0 := fun hk => by
          refine ⟨1, F, d, rfl, rfl, rfl, by rw [eW, eM]; exact hPW, fun _ _ => rfl, Keep.rf, ?_⟩
          rw [eK, hk, eB, eE, eW]
          exact ⟨hf, e9, e11, e12, hz9, hkd, e13, hsb, e14, Nat.zero_add _, Nat.zero_add _⟩
        refine ⟨rfl, v1, Nat.zero_le _, Nat.zero_le _, ?_⟩
        rw [v13]
        refine ⟨fun isI => fin ?_, fun isD => ⟨v1, ow, pa_i e10 ⟨(hG.ev.2.1 la hl).1, ?_⟩⟩⟩
        · exact if_neg (fun q => isI (by rw [if_pos (cy.2 q.1)]))
        · have hd : (G.ev y).ch = none := by
            by_cases a1 : chI (G.ev y).ch = -1
            · exact cy.1 a1
            · rw [if_neg a1] at isD; exact absurd isD (by decide)
          rw [v14, (hG.ev.2.1 la hl).2.2.2.2.2.2.2.2.2.2.2.2.2.1]
          refine if_le (a := (G.ev la).ix) (b := (G.ev y).ix) (by omega) (by omega) (fun q => fin (if_neg (fun r => by omega))) (fun q => ⟨trivial, ow, ?_⟩)
          have hk : (if (G.ev y).ch = none ∧ (G.ev y).ix < (G.ev la).ix then 2 else kd) = 2 := if_pos ⟨hd, q⟩
          obtain ⟨r1, k1⟩ := hPW.fi (i9 := 1012) (v := 2) (by decide)
          have nI9 : ∀ n, n ≠ 1012 → mI (sI S 1012 w 2) n w = mI S n w := fun n hn => by rw [mI_sI, if_neg (fun q => hn q.1)]
          refine ⟨1, F, d, rfl, rfl, rfl, by rw [eW, eM]; exact r1, fun _ _ => rfl, k1, ?_⟩
          rw [eK, hk, eB, eE, eW]
          refine ⟨hf, e9, (nI9 1011 (by decide)).trans e11, ?_, hz9, (by decide : 2 < 3), e13, hsb, (nI9 1014 (by decide)).trans e14, Nat.zero_add _, Nat.zero_add _⟩
          rw [mI_sI, if_pos ⟨rfl, rfl⟩]; rfl
  · intro av S hpre pc I hI k lo st S1 cs sl h
    obtain ⟨rfl, hp⟩ := hpre
    have hm := look_in hI
    simp only [List.mem_cons, List.not_mem_nil, or_false] at hm
    rcases hm with hm | hm
    · cases hm
      obtain ⟨hg, rfl, rfl, rfl, hS9, rfl, rfl⟩ := h
      subst hS9
      refine ⟨300, ?_⟩
      show (0 = 0 ∧ (∃ (F_1 : Nat → Nat × Nat) (j_2 pk_3 pl_4 me_5 : Nat) (a_6 d_7 : Nat → Nat) (V_8 : Nat → List Int32) (cap_9 : Nat → Nat) (M_10 : List Nat) (i_11 : Nat) (A_12 : Nat → Nat) (X_13 : GX) (G_14 : Gr) (T_15 : Tr) (H_16 : List Nat) (W_17 : Nat → Nat) (cu_18 : Cur) (sb_19 : Option Nat) (ex_20 : Int32), (PWG S F_1 j_2 w pk_3 pl_4 me_5 a_6 d_7 V_8 cap_9 M_10 i_11 A_12 X_13 G_14 T_15 H_16 W_17 ∧ WS S w X_13 G_14 cu_18 sb_19 ex_20) ∧ 0 + (wcC (csV G_14 V_8 M_10 cu_18 sb_19 ex_20) cap_9 - wcC V_8 cap_9) ≤ wcC (aeV G V M cu sb ex y) cap - wcC V cap ∧ 0 + (wcZ (csV G_14 V_8 M_10 cu_18 sb_19 ex_20) cap_9 - wcZ V_8 cap_9) ≤ wcZ (aeV G V M cu sb ex y) cap - wcZ V cap ∧ (∀ (S_21 : MM), (csQ S S_21 F_1 j_2 w pk_3 pl_4 me_5 a_6 V_8 cap_9 M_10 X_13 G_14 cu_18 sb_19 ex_20) → (True ∧ (isO S_21 10 w ∧ (True ∧ (isO (sR S_21 1009 w (some e)) 10 w ∧ (0 = 0 ∧ ((isO (sI (sR S_21 1009 w (some e)) 1011 w (0 : Int32)) 5 e) ∧ 0 + (wcC (csV G_14 V_8 M_10 cu_18 sb_19 ex_20) cap_9 - wcC V_8 cap_9) ≤ wcC (aeV G V M cu sb ex y) cap - wcC V cap ∧ 0 + (wcZ (csV G_14 V_8 M_10 cu_18 sb_19 ex_20) cap_9 - wcZ V_8 cap_9) ≤ wcZ (aeV G V M cu sb ex y) cap - wcZ V cap ∧ ((((if mI (sI (sR S_21 1009 w (some e)) 1011 w (0 : Int32)) 505 e = -1 then 0 else 1) = 0 → (True ∧ (isO (sI (sR S_21 1009 w (some e)) 1011 w (0 : Int32)) 10 w ∧ (∃ k1, k1 < 2 ∧ I_ae w e F j pk pl me a V cap M X G cu sb ex y S k1 [(0, .inr (.inr (some w))), (1, .inr (.inr (some e)))] [] (sI (sI (sR S_21 1009 w (some e)) 1011 w (0 : Int32)) 1012 w (1 : Int32)) (0 + (wcC (csV G_14 V_8 M_10 cu_18 sb_19 ex_20) cap_9 - wcC V_8 cap_9)) (0 + (wcZ (csV G_14 V_8 M_10 cu_18 sb_19 ex_20) cap_9 - wcZ V_8 cap_9)))))) ∧ (¬ (if mI (sI (sR S_21 1009 w (some e)) 1011 w (0 : Int32)) 505 e = -1 then 0 else 1) = 0 → (True ∧ (isO (sI (sR S_21 1009 w (some e)) 1011 w (0 : Int32)) 10 w ∧ (∃ k1, k1 < 2 ∧ I_ae w e F j pk pl me a V cap M X G cu sb ex y S k1 [(0, .inr (.inr (some w))), (1, .inr (.inr (some e)))] [] (sI (sI (sR S_21 1009 w (some e)) 1011 w (0 : Int32)) 1012 w (0 : Int32)) (0 + (wcC (csV G_14 V_8 M_10 cu_18 sb_19 ex_20) cap_9 - wcC V_8 cap_9)) (0 + (wcZ (csV G_14 V_8 M_10 cu_18 sb_19 ex_20) cap_9 - wcZ V_8 cap_9)))))))))))))))))
      obtain ⟨hPG, hS, hy, rfl, hz⟩ := hp
      have hng : ¬ gsC G cu y = true := by rw [hg]; decide
      have eW : aeW G V M cu sb ex y = csV G V M cu sb ex := if_neg hng
      have eM : aeM G M cu sb y = csM G M cu sb := if_neg hng
      have eB : aeB G cu sb y = csB cu sb := if_neg hng
      have eE : aeE G cu ex y = csE G cu ex := if_neg hng
      have eK : aeK G cu y = (y, 0, if (G.ev y).ch = none then 1 else 0) := by
        cases cu with
        | none => rfl
        | some q =>
          obtain ⟨f, la, z, kd⟩ := q
          exact if_neg (fun q => by have hg : gsB G la z kd y = false := hg; rw [hg] at q; cases q)
      have lv := aeV_ge (G := G) (V := V) (M := M) (cu := cu) (sb := sb) (ex := ex) (y := y) (cap := cap)
      rw [eW] at lv
      have l0 : wcC V cap ≤ wcC (csV G V M cu sb ex) cap ∧ wcZ V cap ≤ wcZ (csV G V M cu sb ex) cap := by
        refine wcC_mono (fun k => ?_)
        cases cu with
        | none => exact Nat.le_refl _
        | some q =>
          obtain ⟨f, la, z, kd⟩ := q
          exact Nat.le_trans (Nat.le_trans (updI_ge (V := V) (k := 1) k) (updI_ge k)) (updI_ge k)
      refine ⟨rfl, F, j, pk, pl, me, a, d, V, cap, M, i, A, X, G, T, H, W, cu, sb, ex, ⟨hPG, hS⟩, by omega, by omega, fun S21 hS21 => ?_⟩
      obtain ⟨F1, d1, p1, p2, p3, r9, r13, hb, r14⟩ := hS21
      have ow : isO S21 10 w := p1.2.2.2.2.1.1
      have hG1 := hPG.gi p3 p2
      obtain ⟨v1, v2, v3, v4, v5, v6, v7, v8, v9, v10, v11, v12, v13, v14, -⟩ := hG1.ev.2.1 y hy
      have cy : chI (G.ev y).ch = -1 ↔ (G.ev y).ch = none := chI_m1 (hG1.gt.2.1 _ hy).1
      obtain ⟨a1, b1⟩ := p1.fr (i9 := 1009) (v := some (X.ad y)) (by decide)
      obtain ⟨a2, b2⟩ := a1.fi (i9 := 1011) (v := 0) (by decide)
      have k2 : Keep (fun b => (F b).1 = j) S (sI (sR S21 1009 w (some (X.ad y))) 1011 w 0) := p3.trN (b1.tr b2) (fun b hb9 q => by rw [← p2 b hb9]; exact q)
      have o2 : isO (sI (sR S21 1009 w (some (X.ad y))) 1011 w 0) 5 (X.ad y) := isO_sI (isO_sR v1)
      have ow2 : isO (sI (sR S21 1009 w (some (X.ad y))) 1011 w 0) 10 w := isO_sI (isO_sR ow)
      have c5 : mI (sI (sR S21 1009 w (some (X.ad y))) 1011 w 0) 505 (X.ad y) = chI (G.ev y).ch := by rw [mI_sI, if_neg (fun q => absurd q.1 (by decide)), mI_sR]; exact v13
      have s9 : mR (sI (sR S21 1009 w (some (X.ad y))) 1011 w 0) 1009 w = some (X.ad y) := by rw [mR_sI, mR_sR, if_pos ⟨rfl, rfl⟩]
      have s11 : mI (sI (sR S21 1009 w (some (X.ad y))) 1011 w 0) 1011 w = nI 0 := by rw [mI_sI, if_pos ⟨rfl, rfl⟩]; rfl
      have s13 : mR (sI (sR S21 1009 w (some (X.ad y))) 1011 w 0) 1013 w = (csB cu sb).map X.ad := by rw [mR_sI, mR_sR, if_neg (fun q => absurd q.1 (by decide))]; exact r13
      have s14 : mI (sI (sR S21 1009 w (some (X.ad y))) 1011 w 0) 1014 w = csE G cu ex := by rw [mI_sI, if_neg (fun q => absurd q.1 (by decide)), mI_sR]; exact r14
      refine ⟨trivial, ow, trivial, isO_sR ow, rfl, o2, by omega, by omega, ?_⟩
      rw [c5]
      generalize sI (sR S21 1009 w (some (X.ad y))) 1011 w 0 = S3 at *
      have fin : ∀ (v : Int32), v = nI (if (G.ev y).ch = none then 1 else 0) → ∃ k1, k1 < 2 ∧ I_ae w (X.ad y) F j pk pl me a V cap M X G cu sb ex y S k1 [(0, .inr (.inr (some w))), (1, .inr (.inr (some (X.ad y))))] [] (sI S3 1012 w v) (0 + (wcC (csV G V M cu sb ex) cap - wcC V cap)) (0 + (wcZ (csV G V M cu sb ex) cap - wcZ V cap)) := fun v hv => by
        obtain ⟨a3, b3⟩ := a2.fi (i9 := 1012) (v := v) (by decide)
        have nI9 : ∀ n, n ≠ 1012 → mI (sI S3 1012 w v) n w = mI S3 n w := fun n hn => by rw [mI_sI, if_neg (fun q => hn q.1)]
        refine ⟨1, by decide, F1, d1, rfl, rfl, rfl, by rw [eW, eM]; exact a3, p2, k2.trN b3 (fun b hb9 q => by rw [← p2 b hb9]; exact q), ?_⟩
        rw [eK, eB, eE, eW]
        refine ⟨hy, s9, (nI9 1011 (by decide)).trans s11, ?_, (by decide : 0 < 8192), ?_, s13, hb, (nI9 1014 (by decide)).trans s14, by omega, by omega⟩
        · rw [mI_sI, if_pos ⟨rfl, rfl⟩, hv]
        · show (if (G.ev y).ch = none then 1 else 0) < 3
          split <;> decide
      refine ⟨fun isD => ⟨trivial, ow2, fin _ ?_⟩, fun isI => ⟨trivial, ow2, fin _ ?_⟩⟩
      · have hd : (G.ev y).ch = none := by
          by_cases a1 : chI (G.ev y).ch = -1
          · exact cy.1 a1
          · rw [if_neg a1] at isD; exact absurd isD (by decide)
        rw [if_pos hd]; rfl
      · rw [if_neg (fun q => isI (by rw [if_pos (cy.2 q)]))]; rfl
    · cases hm
      obtain ⟨F1, d1, rfl, rfl, rfl, p1, p2, p3, g1, g2, g3, g4, g5, g6, g7, g8, g9, hcs, hsl⟩ := h
      refine ⟨300, ?_⟩
      show (True ∧ (isO S1 10 w ∧ (isO (sR S1 1010 w (some e)) 10 w ∧ (True ∧ (isO (sR S1 1010 w (some e)) 10 w ∧ (0 = 0 ∧ ((isO (sI (sR S1 1010 w (some e)) 1011 w ((mI (sR S1 1010 w (some e)) 1011 w) + (1 : Int32))) 5 e) ∧ cs ≤ wcC (aeV G V M cu sb ex y) cap - wcC V cap ∧ sl ≤ wcZ (aeV G V M cu sb ex y) cap - wcZ V cap ∧ ((((if mI (sI (sR S1 1010 w (some e)) 1011 w ((mI (sR S1 1010 w (some e)) 1011 w) + (1 : Int32))) 505 e = -1 then 0 else 1) = 0 → (([] : List MV) = [] ∧ mret none (sp_wae w e F j pk pl me a d V cap M i A X G T H W cu sb ex y) [.inr (.inr (some w)), .inr (.inr (some e))] S none (sI (sR S1 1010 w (some e)) 1011 w ((mI (sR S1 1010 w (some e)) 1011 w) + (1 : Int32))) cs sl)) ∧ (¬ (if mI (sI (sR S1 1010 w (some e)) 1011 w ((mI (sR S1 1010 w (some e)) 1011 w) + (1 : Int32))) 505 e = -1 then 0 else 1) = 0 → (isO (sI (sR S1 1010 w (some e)) 1011 w ((mI (sR S1 1010 w (some e)) 1011 w) + (1 : Int32))) 10 w ∧ (pa (mR (sI (sR S1 1010 w (some e)) 1011 w ((mI (sR S1 1010 w (some e)) 1011 w) + (1 : Int32))) 1005 w) fun a_2 => isO (sI (sR S1 1010 w (some e)) 1011 w ((mI (sR S1 1010 w (some e)) 1011 w) + (1 : Int32))) 8 a_2 ∧ (isO (sI (sR S1 1010 w (some e)) 1011 w ((mI (sR S1 1010 w (some e)) 1011 w) + (1 : Int32))) 5 e ∧ (0 = 0 ∧ ((pa (mR (sI (sR S1 1010 w (some e)) 1011 w ((mI (sR S1 1010 w (some e)) 1011 w) + (1 : Int32))) 800 a_2) fun a_3 => (∃ (d_4 : Nat) (B_5 : List Nat), (By (sI (sR S1 1010 w (some e)) 1011 w ((mI (sR S1 1010 w (some e)) 1011 w) + (1 : Int32))) a_3 d_4 B_5) ∧ cs + (addNC (utfV (mI (sI (sR S1 1010 w (some e)) 1011 w ((mI (sR S1 1010 w (some e)) 1011 w) + (1 : Int32))) 505 e)).length (mN (sI (sR S1 1010 w (some e)) 1011 w ((mI (sR S1 1010 w (some e)) 1011 w) + (1 : Int32))) d_4) B_5.length) ≤ wcC (aeV G V M cu sb ex y) cap - wcC V cap ∧ sl + (addNS (utfV (mI (sI (sR S1 1010 w (some e)) 1011 w ((mI (sR S1 1010 w (some e)) 1011 w) + (1 : Int32))) 505 e)).length (mN (sI (sR S1 1010 w (some e)) 1011 w ((mI (sR S1 1010 w (some e)) 1011 w) + (1 : Int32))) d_4) B_5.length) ≤ wcZ (aeV G V M cu sb ex y) cap - wcZ V cap ∧ (∀ (S_6 : MM), (∃ d', App (sI (sR S1 1010 w (some e)) 1011 w ((mI (sR S1 1010 w (some e)) 1011 w) + (1 : Int32))) S_6 a_3 d_4 d' B_5 (utfV (mI (sI (sR S1 1010 w (some e)) 1011 w ((mI (sR S1 1010 w (some e)) 1011 w) + (1 : Int32))) 505 e))) → (([] : List MV) = [] ∧ mret none (sp_wae w e F j pk pl me a d V cap M i A X G T H W cu sb ex y) [.inr (.inr (some w)), .inr (.inr (some e))] S none S_6 (cs + (addNC (utfV (mI (sI (sR S1 1010 w (some e)) 1011 w ((mI (sR S1 1010 w (some e)) 1011 w) + (1 : Int32))) 505 e)).length (mN (sI (sR S1 1010 w (some e)) 1011 w ((mI (sR S1 1010 w (some e)) 1011 w) + (1 : Int32))) d_4) B_5.length)) (sl + (addNS (utfV (mI (sI (sR S1 1010 w (some e)) 1011 w ((mI (sR S1 1010 w (some e)) 1011 w) + (1 : Int32))) 505 e)).length (mN (sI (sR S1 1010 w (some e)) 1011 w ((mI (sR S1 1010 w (some e)) 1011 w) + (1 : Int32))) d_4) B_5.length)))))))))))))))))))))
      obtain ⟨hPG, hS, hy, rfl, hz⟩ := hp
      have lv := aeV_ge (G := G) (V := V) (M := M) (cu := cu) (sb := sb) (ex := ex) (y := y) (cap := cap)
      have ow : isO S1 10 w := p1.2.2.2.2.1.1
      have hG1 := hPG.gi p3 p2
      obtain ⟨v1, v2, v3, v4, v5, v6, v7, v8, v9, v10, v11, v12, v13, v14, -⟩ := hG1.ev.2.1 y hy
      have cy : chI (G.ev y).ch = -1 ↔ (G.ev y).ch = none := chI_m1 (hG1.gt.2.1 _ hy).1
      rw [show mI (sR S1 1010 w (some (X.ad y))) 1011 w = nI (aeK G cu y).2.1 from g3, nI_1]
      obtain ⟨a1, b1⟩ := p1.fr (i9 := 1010) (v := some (X.ad y)) (by decide)
      obtain ⟨a2, b2⟩ := a1.fi (i9 := 1011) (v := nI ((aeK G cu y).2.1 + 1)) (by decide)
      have k2 : Keep (fun b => (F b).1 = j) S (sI (sR S1 1010 w (some (X.ad y))) 1011 w (nI ((aeK G cu y).2.1 + 1))) := p3.trN (b1.tr b2) (fun b hb9 q => by rw [← p2 b hb9]; exact q)
      have o2 : isO (sI (sR S1 1010 w (some (X.ad y))) 1011 w (nI ((aeK G cu y).2.1 + 1))) 5 (X.ad y) := isO_sI (isO_sR v1)
      have c5 : mI (sI (sR S1 1010 w (some (X.ad y))) 1011 w (nI ((aeK G cu y).2.1 + 1))) 505 (X.ad y) = chI (G.ev y).ch := by rw [mI_sI, if_neg (fun q => absurd q.1 (by decide)), mI_sR]; exact v13
      have rr : ∀ n, n ≠ 1010 → mR (sI (sR S1 1010 w (some (X.ad y))) 1011 w (nI ((aeK G cu y).2.1 + 1))) n w = mR S1 n w := fun n hn => by rw [mR_sI, mR_sR, if_neg (fun q => hn q.1)]
      have ri : ∀ n, n ≠ 1011 → mI (sI (sR S1 1010 w (some (X.ad y))) 1011 w (nI ((aeK G cu y).2.1 + 1))) n w = mI S1 n w := fun n hn => by rw [mI_sI, if_neg (fun q => hn q.1), mI_sR]
      have s10 : mR (sI (sR S1 1010 w (some (X.ad y))) 1011 w (nI ((aeK G cu y).2.1 + 1))) 1010 w = some (X.ad y) := by rw [mR_sI, mR_sR, if_pos ⟨rfl, rfl⟩]
      have s11 : mI (sI (sR S1 1010 w (some (X.ad y))) 1011 w (nI ((aeK G cu y).2.1 + 1))) 1011 w = nI ((aeK G cu y).2.1 + 1) := by rw [mI_sI, if_pos ⟨rfl, rfl⟩]
      refine ⟨trivial, ow, isO_sR ow, trivial, isO_sR ow, rfl, o2, by omega, by omega, ?_⟩
      rw [c5]
      generalize sI (sR S1 1010 w (some (X.ad y))) 1011 w (nI ((aeK G cu y).2.1 + 1)) = S2 at *
      have ws2 : ∀ {S' : MM}, (∀ q, q ≠ 1008 → mI S' q w = mI S2 q w) → (∀ q, mR S' q w = mR S2 q w) → WS S' w X G (aeC G cu y) (aeB G cu sb y) (aeE G cu ex y) := fun hi hr =>
        ⟨⟨g1, hy, (hr 1009).trans ((rr 1009 (by decide)).trans g2), (hr 1010).trans s10, (hi 1011 (by decide)).trans s11, (hi 1012 (by decide)).trans ((ri 1012 (by decide)).trans g4), by omega, g6⟩, (hr 1013).trans ((rr 1013 (by decide)).trans g7), g8, (hi 1014 (by decide)).trans ((ri 1014 (by decide)).trans g9)⟩
      refine ⟨fun isD => ?_, fun isI => ?_⟩
      · have hd : (G.ev y).ch = none := by
          by_cases a1 : chI (G.ev y).ch = -1
          · exact cy.1 a1
          · rw [if_neg a1] at isD; exact absurd isD (by decide)
        have eV : aeV G V M cu sb ex y = aeW G V M cu sb ex y := by unfold aeV; rw [hd]
        refine ⟨rfl, trivial, ⟨rfl, F1, d1, by rw [eV]; exact a2, p2, k2, ws2 (fun _ _ => rfl) (fun _ => rfl)⟩, ?_, ?_⟩
        · show cs ≤ wcC (aeV G V M cu sb ex y) cap - wcC V cap
          omega
        · show sl ≤ wcZ (aeV G V M cu sb ex y) cap - wcZ V cap
          omega
      · have hi : (G.ev y).ch ≠ none := fun q => isI (by rw [if_pos (cy.2 q)])
        obtain ⟨c, hc⟩ := Option.ne_none_iff_exists'.1 hi
        have eV : aeV G V M cu sb ex y = updI (aeW G V M cu sb ex y) 5 (aeW G V M cu sb ex y 5 ++ utfV (chI (G.ev y).ch)) := by unfold aeV; rw [hc]; rfl
        obtain ⟨c1, z1⟩ := WC.cost a2.2.2.2.2.2.2.2.2.2.1 (k := 5) (by decide) (utfV (chI (G.ev y).ch))
        rw [← eV] at c1 z1
        refine ⟨a2.2.2.2.2.1.1, pa_i a2.2.2.2.2.2.2.1 ⟨a2.2.2.2.2.2.2.2.1, o2, rfl, pa_i a2.2.2.2.2.2.2.2.2.1 ⟨d1 5, _, (a2.2.2.2.2.2.2.2.2.2.1 5 (by decide)).1, by omega, by omega, fun S6 hS6 => ?_⟩⟩⟩
        obtain ⟨d', ha⟩ := hS6
        have q6 := wpQ.of (S := S2) (F := F1) a2 (fun _ _ => rfl) Keep.rf (fun _ _ => rfl) (fun _ => rfl) (k := 5) (by decide) ha
        rw [← eV] at q6
        obtain ⟨F6, d6, x1, x2, x3, x4, x5⟩ := q6
        refine ⟨rfl, trivial, ⟨rfl, F6, d6, x1, fun b hb => (x2 b (k2.1 b hb).1).trans (p2 b hb), k2.trN x3 (fun b hb q => by rw [← p2 b hb]; exact q), ws2 x4 x5⟩, ?_, ?_⟩
        · show _ ≤ wcC (aeV G V M cu sb ex y) cap - wcC V cap
          omega
        · show _ ≤ wcZ (aeV G V M cu sb ex y) cap - wcZ V cap
          omega
theorem u_wae (l : Launch) : Us l yX9_addEvent cX9_addEvent 2 none 6 141 10 T_wae := by
  intro Rc Rs av S cs sl K Kx h
  unfold T_wae at h
  split at h
  · rename_i w_o e_o
    obtain ⟨w, rfl, h_1⟩ := pa_of h
    obtain ⟨e, rfl, h_2⟩ := pa_of h_1
    obtain ⟨F, j, pk, pl, me, a, d, V, cap, M, i, A, X, G, T, H, W, cu, sb, ex, y, hp, hc, hs, hk⟩ := h_2
    refine ⟨(sp_wae w e F j pk pl me a d V cap M i A X G T H W cu sb ex y), c_wae l w e F j pk pl me a d V cap M i A X G T H W cu sb ex y, fun _ _ h9 => ⟨_, _, h9.1, h9.2.1.1.2.2.2.2.1.1⟩, ⟨rfl, hp⟩, hc, hs, fun S' h8 => by
      obtain ⟨-, h8⟩ := h8
      exact hk _ h8, fun _ _ q => q.elim⟩
  · exact h.elim
