/-! ===== PatchWriter.goesOn ===== -/
theorem sub_iff {x y c : Int32} : x - y = c ↔ x = c + y := by
  constructor
  · intro h
    rw [← h, Int32.sub_add_cancel]
  · intro h
    rw [h, Int32.add_sub_cancel]
theorem sub_1 {a b : Nat} (ha : a < 1000000) (hb : b < 1000000) : nI a - nI b = 1 ↔ a = b + 1 := by
  rw [sub_iff, show (1 : Int32) + nI b = nI (1 + b) from nI_add 1 b, nI_eq (by omega) (by omega)]
  omega
theorem sub_0 {a b : Nat} (ha : a < 1000000) (hb : b < 1000000) : nI a - nI b = 0 ↔ a = b := by
  rw [sub_iff, Int32.zero_add, nI_eq (by omega) (by omega)]
theorem sub_m {a b : Nat} (ha : a < 1000000) (hb : b < 1000000) : nI a - nI b = -1 ↔ a + 1 = b := by
  rw [sub_iff]
  have e1 : nI a = -1 + nI b ↔ nI a + 1 = nI b := by
    constructor
    · intro h
      rw [h, Int32.add_comm, ← Int32.add_assoc, show (1 : Int32) + -1 = 0 from by decide, Int32.zero_add]
    · intro h
      rw [← h, Int32.add_comm, Int32.add_assoc, show (1 : Int32) + -1 = 0 from by decide, Int32.add_zero]
  rw [e1, nI_1, nI_eq (by omega) (by omega)]
/-- whether an event goes on with the open span -/
def gsOn (G : Gr) (l z kd e : Nat) : Prop := (G.ev e).pr.length = 1 ∧ (G.ev e).pr.getD 0 0 = l ∧ (G.ev e).sl = (G.ev l).sl ∧ ((G.ev e).ch = none ↔ (G.ev l).ch = none) ∧ (((G.ev e).ch ≠ none ∧ (G.ev e).ix = (G.ev l).ix + 1) ∨ ((G.ev e).ch = none ∧ ((G.ev e).ix = (G.ev l).ix ∧ kd = 1 ∨ (G.ev e).ix + 1 = (G.ev l).ix ∧ (z = 1 ∨ kd = 2))))
def T_wgo : TR := fun Rc Rs av S cs sl K _Kx => match av with
  | [.inr (.inr w_o), .inr (.inr e_o)] => pa w_o fun w => (pa e_o fun e => (∃ (F : Nat → Nat × Nat) (j pk pl me : Nat) (a d : Nat → Nat) (V : Nat → List Int32) (cap : Nat → Nat) (M : List Nat) (i : Nat) (A : Nat → Nat) (X : GX) (G : Gr) (T : Tr) (H : List Nat) (W : Nat → Nat) (f la z kd : Nat) (sb : Option Nat) (ex : Int32) (y : Nat), (PWG S F j w pk pl me a d V cap M i A X G T H W ∧ WS S w X G (some (f, la, z, kd)) sb ex ∧ y < G.n ∧ e = X.ad y) ∧ cs ≤ Rc ∧ sl ≤ Rs ∧ (K (some (.inl (tf (gsOn G la z kd y)))) S cs sl)))
  | _ => False
def sp_wgo (w : Nat) (e : Nat) (F : Nat → Nat × Nat) (j pk pl me : Nat) (a d : Nat → Nat) (V : Nat → List Int32) (cap : Nat → Nat) (M : List Nat) (i : Nat) (A : Nat → Nat) (X : GX) (G : Gr) (T : Tr) (H : List Nat) (W : Nat → Nat) (f la z kd : Nat) (sb : Option Nat) (ex : Int32) (y : Nat) : Sp := (fun av S => av = [.inr (.inr (some w)), .inr (.inr (some e))] ∧ (PWG S F j w pk pl me a d V cap M i A X G T H W ∧ WS S w X G (some (f, la, z, kd)) sb ex ∧ y < G.n ∧ e = X.ad y), fun _ S => 0, fun _ S => 0, fun _ S rv S' => rv = (some (.inl (tf (gsOn G la z kd y)))) ∧ S' = S, fun _ _ _ _ => False)
def tX9_goesOn : CD := [(0, .aload_n 1), (1, .getfield 149), (4, .arraylength), (5, .iconst 1), (6, .if_icmp .ne 30), (9, .aload_n 1), (10, .getfield 149), (13, .iconst 0), (14, .aaload), (15, .aload_n 0), (16, .getfield 45), (19, .if_acmp .ne 17), (22, .aload_n 1), (23, .getfield 152), (26, .aload_n 0), (27, .getfield 45), (30, .getfield 152), (33, .if_acmp .eq 5), (36, .iconst 0), (37, .ireturn), (38, .aload_n 1), (39, .invokevirtual 136), (42, .aload_n 0), (43, .getfield 45), (46, .invokevirtual 136), (49, .if_icmp .eq 5), (52, .iconst 0), (53, .ireturn), (54, .aload_n 1), (55, .getfield 140), (58, .aload_n 0), (59, .getfield 45), (62, .getfield 140), (65, .isub), (66, .istore_n 2), (67, .aload_n 1), (68, .invokevirtual 136), (71, .ifCond .eq 14), (74, .iload_n 2), (75, .iconst 1), (76, .if_icmp .ne 7), (79, .iconst 1), (80, .goto 4), (83, .iconst 0), (84, .ireturn), (85, .iload_n 2), (86, .ifCond .ne 11), (89, .aload_n 0), (90, .getfield 51), (93, .iconst 1), (94, .if_icmp .eq 24), (97, .iload_n 2), (98, .iconst (-1)), (99, .if_icmp .ne 23), (102, .aload_n 0), (103, .getfield 48), (106, .iconst 1), (107, .if_icmp .eq 11), (110, .aload_n 0), (111, .getfield 51), (114, .iconst 2), (115, .if_icmp .ne 7), (118, .iconst 1), (119, .goto 4), (122, .iconst 0), (123, .ireturn)]
set_option maxRecDepth 100000 in
theorem kX9_goesOn : chk cX9_goesOn tX9_goesOn = true := by decide +kernel
theorem vX9_goesOn_136 : ∀ w ∈ ([.methodLink RX9 136 yX4_inserts, .instanceMethod yX4_inserts, .selects yX4_inserts.cls yX4_inserts yX4_inserts, .initialized yX4_inserts.cls, .code yX4_inserts cX4_inserts 1 (some .boolean)] : List Cond), w ∈ lw_good := List.forall_mem_cons.mpr ⟨mgd 1387 (by decide +kernel) (by decide +kernel), List.forall_mem_cons.mpr ⟨mgd 691 (by decide +kernel) (by decide +kernel), List.forall_mem_cons.mpr ⟨mgd 692 (by decide +kernel) (by decide +kernel), List.forall_mem_cons.mpr ⟨mgd 126 (by decide +kernel) (by decide +kernel), List.forall_mem_cons.mpr ⟨mgd 693 (by decide +kernel) (by decide +kernel), fun _ h => absurd h List.not_mem_nil⟩⟩⟩⟩⟩
set_option maxRecDepth 100000 in
set_option maxHeartbeats 2000000 in
theorem c_wgo (l : Launch) : ∀ (w : Nat) (e : Nat) (F : Nat → Nat × Nat) (j pk pl me : Nat) (a d : Nat → Nat) (V : Nat → List Int32) (cap : Nat → Nat) (M : List Nat) (i : Nat) (A : Nat → Nat) (X : GX) (G : Gr) (T : Tr) (H : List Nat) (W : Nat → Nat) (f la z kd : Nat) (sb : Option Nat) (ex : Int32) (y : Nat), Ct l yX9_goesOn cX9_goesOn 3 (some .boolean) 1 20 (sp_wgo w e F j pk pl me a d V cap M i A X G T H W f la z kd sb ex y) := by
  intro w e F j pk pl me a d V cap M i A X G T H W f la z kd sb ex y
  refine Ct.of (fX9, nX9, aX9, iX9, lX9, [(136, 0, 1, 1, T_ins)], qX9, gX9, []) false tX9_goesOn (fun _ _ _ => none) (by decide) (by decide) kX9_goesOn ⟨_, _, rfl⟩ fX9_ok nX9_ok aX9_ok iX9_ok lX9_ok (fun p e R s m args below meth c Q D cy z r A C hR1 hR2 => List.forall_mem_cons.mpr ⟨cOK_use (fun _ _ _ _ _ _ _ _ h => let ⟨sp, h1, h2, h3⟩ := u_ins l _ _ _ _ _ _ _ _ h; ⟨sp, cOK_V C h1 vX9_goesOn_136 ⟨by decide, by decide, by decide +kernel⟩ ⟨by rw [hR1]; decide, by rw [hR2]; decide⟩ (k := 5) (T := TX4) (N := 16) rfl (by decide) h2, h3⟩), fun _ h => absurd h List.not_mem_nil⟩) qX9_ok gX9_ok rfl ?_ ?_
  · rintro _ S ⟨rfl, hp⟩
    refine ⟨Nat.le_of_ble_eq_true rfl, 300, ?_⟩
    show (isO S 5 e ∧ (pa (mR S 503 e) fun a_1 => ∃ v_2 : Int32, (a_1 ∈ mL S ∧ ¬ mK S a_1 < 16 ∧ mK S a_1 < 29 ∧ v_2 = Int32.ofNat (mN S a_1) ∨ a_1 = mZ S ∧ v_2 = 0) ∧ ((¬ v_2 = (1 : Int32) → (([] : List MV) = [] ∧ mret (some .boolean) (sp_wgo w e F j pk pl me a d V cap M i A X G T H W f la z kd sb ex y) [.inr (.inr (some w)), .inr (.inr (some e))] S (some (.inl (0 : Int32))) S 0 0)) ∧ (v_2 = (1 : Int32) → (isO S 5 e ∧ (pa (mR S 503 e) fun a_3 => a_3 ∈ mL S ∧ ¬ mK S a_3 < 21 ∧ mK S a_3 < 29 ∧ inR S a_3 (0 : Int32) ∧ (isO S 10 w ∧ ((¬ (eR S a_3 (0 : Int32).toNatClampNeg) = (mR S 1010 w) → (([] : List MV) = [] ∧ mret (some .boolean) (sp_wgo w e F j pk pl me a d V cap M i A X G T H W f la z kd sb ex y) [.inr (.inr (some w)), .inr (.inr (some e))] S (some (.inl (0 : Int32))) S 0 0)) ∧ ((eR S a_3 (0 : Int32).toNatClampNeg) = (mR S 1010 w) → (isO S 5 e ∧ (isO S 10 w ∧ (pa (mR S 1010 w) fun a_4 => isO S 5 a_4 ∧ (((mR S 500 e) = (mR S 500 a_4) → (0 = 0 ∧ ((isO S 5 e) ∧ 0 ≤ 0 ∧ 0 ≤ 0 ∧ ((isO S 10 w ∧ (0 = 0 ∧ ((pa (mR S 1010 w) fun a_6 => ((isO S 5 a_6) ∧ 0 ≤ 0 ∧ 0 ≤ 0 ∧ ((((if mI S 505 e = -1 then 0 else 1) = (if mI S 505 a_6 = -1 then 0 else 1) → (isO S 5 e ∧ (isO S 10 w ∧ (pa (mR S 1010 w) fun a_8 => isO S 5 a_8 ∧ (0 = 0 ∧ ((isO S 5 e) ∧ 0 ≤ 0 ∧ 0 ≤ 0 ∧ ((((if mI S 505 e = -1 then 0 else 1) = 0 → ((¬ ((mI S 506 e) - (mI S 506 a_8)) = 0 → ((¬ ((mI S 506 e) - (mI S 506 a_8)) = (-1 : Int32) → (([] : List MV) = [] ∧ mret (some .boolean) (sp_wgo w e F j pk pl me a d V cap M i A X G T H W f la z kd sb ex y) [.inr (.inr (some w)), .inr (.inr (some e))] S (some (.inl (0 : Int32))) S 0 0)) ∧ (((mI S 506 e) - (mI S 506 a_8)) = (-1 : Int32) → (isO S 10 w ∧ (((mI S 1011 w) = (1 : Int32) → (([] : List MV) = [] ∧ mret (some .boolean) (sp_wgo w e F j pk pl me a d V cap M i A X G T H W f la z kd sb ex y) [.inr (.inr (some w)), .inr (.inr (some e))] S (some (.inl (1 : Int32))) S 0 0)) ∧ (¬ (mI S 1011 w) = (1 : Int32) → (isO S 10 w ∧ ((¬ (mI S 1012 w) = (2 : Int32) → (([] : List MV) = [] ∧ mret (some .boolean) (sp_wgo w e F j pk pl me a d V cap M i A X G T H W f la z kd sb ex y) [.inr (.inr (some w)), .inr (.inr (some e))] S (some (.inl (0 : Int32))) S 0 0)) ∧ ((mI S 1012 w) = (2 : Int32) → (([] : List MV) = [] ∧ mret (some .boolean) (sp_wgo w e F j pk pl me a d V cap M i A X G T H W f la z kd sb ex y) [.inr (.inr (some w)), .inr (.inr (some e))] S (some (.inl (1 : Int32))) S 0 0)))))))))) ∧ (((mI S 506 e) - (mI S 506 a_8)) = 0 → (isO S 10 w ∧ (((mI S 1012 w) = (1 : Int32) → (([] : List MV) = [] ∧ mret (some .boolean) (sp_wgo w e F j pk pl me a d V cap M i A X G T H W f la z kd sb ex y) [.inr (.inr (some w)), .inr (.inr (some e))] S (some (.inl (1 : Int32))) S 0 0)) ∧ (¬ (mI S 1012 w) = (1 : Int32) → ((¬ ((mI S 506 e) - (mI S 506 a_8)) = (-1 : Int32) → (([] : List MV) = [] ∧ mret (some .boolean) (sp_wgo w e F j pk pl me a d V cap M i A X G T H W f la z kd sb ex y) [.inr (.inr (some w)), .inr (.inr (some e))] S (some (.inl (0 : Int32))) S 0 0)) ∧ (((mI S 506 e) - (mI S 506 a_8)) = (-1 : Int32) → (isO S 10 w ∧ (((mI S 1011 w) = (1 : Int32) → (([] : List MV) = [] ∧ mret (some .boolean) (sp_wgo w e F j pk pl me a d V cap M i A X G T H W f la z kd sb ex y) [.inr (.inr (some w)), .inr (.inr (some e))] S (some (.inl (1 : Int32))) S 0 0)) ∧ (¬ (mI S 1011 w) = (1 : Int32) → (isO S 10 w ∧ ((¬ (mI S 1012 w) = (2 : Int32) → (([] : List MV) = [] ∧ mret (some .boolean) (sp_wgo w e F j pk pl me a d V cap M i A X G T H W f la z kd sb ex y) [.inr (.inr (some w)), .inr (.inr (some e))] S (some (.inl (0 : Int32))) S 0 0)) ∧ ((mI S 1012 w) = (2 : Int32) → (([] : List MV) = [] ∧ mret (some .boolean) (sp_wgo w e F j pk pl me a d V cap M i A X G T H W f la z kd sb ex y) [.inr (.inr (some w)), .inr (.inr (some e))] S (some (.inl (1 : Int32))) S 0 0))))))))))))))) ∧ (¬ (if mI S 505 e = -1 then 0 else 1) = 0 → ((¬ ((mI S 506 e) - (mI S 506 a_8)) = (1 : Int32) → (([] : List MV) = [] ∧ mret (some .boolean) (sp_wgo w e F j pk pl me a d V cap M i A X G T H W f la z kd sb ex y) [.inr (.inr (some w)), .inr (.inr (some e))] S (some (.inl (0 : Int32))) S 0 0)) ∧ (((mI S 506 e) - (mI S 506 a_8)) = (1 : Int32) → (([] : List MV) = [] ∧ mret (some .boolean) (sp_wgo w e F j pk pl me a d V cap M i A X G T H W f la z kd sb ex y) [.inr (.inr (some w)), .inr (.inr (some e))] S (some (.inl (1 : Int32))) S 0 0)))))))))))) ∧ (¬ (if mI S 505 e = -1 then 0 else 1) = (if mI S 505 a_6 = -1 then 0 else 1) → (([] : List MV) = [] ∧ mret (some .boolean) (sp_wgo w e F j pk pl me a d V cap M i A X G T H W f la z kd sb ex y) [.inr (.inr (some w)), .inr (.inr (some e))] S (some (.inl (0 : Int32))) S 0 0))))))))))))) ∧ (¬ (mR S 500 e) = (mR S 500 a_4) → (([] : List MV) = [] ∧ mret (some .boolean) (sp_wgo w e F j pk pl me a d V cap M i A X G T H W f la z kd sb ex y) [.inr (.inr (some w)), .inr (.inr (some e))] S (some (.inl (0 : Int32))) S 0 0)))))))))))))))
    obtain ⟨hPG, ⟨⟨hf, hl, e9, e10, e11, e12, hz, hkd⟩, e13, hsb, e14⟩, hy, rfl⟩ := hp
    have hG := hPG.2.1
    have ow : isO S 10 w := hPG.1.2.2.2.2.1.1
    obtain ⟨v1, v2, v3, v4, v5, v6, v7, v8, v9, v10, v11, v12, v13, v14, -⟩ := hG.ev.2.1 y hy
    obtain ⟨u1, u2, u3, u4, u5, u6, u7, u8, u9, u10, u11, u12, u13, u14, -⟩ := hG.ev.2.1 la hl
    have cy : chI (G.ev y).ch = -1 ↔ (G.ev y).ch = none := chI_m1 (hG.gt.2.1 _ hy).1
    have cl : chI (G.ev la).ch = -1 ↔ (G.ev la).ch = none := chI_m1 (hG.gt.2.1 _ hl).1
    have iy := hG.gt.2.2.2.2.2 y hy
    have il := hG.gt.2.2.2.2.2 la hl
    have hlen := hG.ok.prl hy
    have k1 : ¬ mK S (X.pw y) < 16 := by rw [v6.2]; decide
    have k2 : mK S (X.pw y) < 29 := by rw [v6.2]; decide
    have k3 : ¬ mK S (X.pw y) < 21 := by rw [v6.2]; decide
    refine ⟨v1, pa_i v5 ⟨nI (G.ev y).pr.length, Or.inl ⟨v6.1, k1, k2, by rw [v7]; rfl⟩, if_ne (a := (G.ev y).pr.length) (b := 1) (by omega) (by decide) (fun z0 => ⟨rfl, Or.inl rfl, ⟨by rw [tf_f (fun q => z0 q.1)], rfl⟩, Nat.le_refl _, Nat.le_refl _⟩) (fun z1 => ⟨v1, pa_i v5 ⟨v6.1, k3, k2, ?_, ow, ?_⟩⟩)⟩⟩
    · show vp_in (nI 0) (mN S (X.pw y))
      rw [v7, z1]; exact vp_in_nI (by decide) (by decide)
    · rw [show (0 : Int32).toNatClampNeg = 0 from by decide, v8 0 (by omega), e10]
      have hm : (G.ev y).pr.getD 0 0 ∈ (G.ev y).pr := by rw [getD_el (by omega)]; exact List.getElem_mem _
      have hp1 := hG.ok.pr1 y hy _ hm
      refine ⟨fun ne => ⟨rfl, Or.inl rfl, ⟨by rw [tf_f (fun q => ne (by rw [q.2.1]))], rfl⟩, Nat.le_refl _, Nat.le_refl _⟩, fun eq => ⟨v1, ow, u1, ?_⟩⟩
      have hpl : (G.ev y).pr.getD 0 0 = la := hG.ev.2.2.2 _ _ (by omega) hl (Option.some.inj eq)
      rw [v2, u2]
      refine ⟨fun ag => ?_, fun ag => ⟨rfl, Or.inl rfl, ⟨by rw [tf_f (fun q => ag (by rw [q.2.2.1]))], rfl⟩, Nat.le_refl _, Nat.le_refl _⟩⟩
      have hsl : (G.ev y).sl = (G.ev la).sl := Decidable.byContradiction (fun q => f_ne (hG 12 _ (hG.ok.sl1 _ hy)).1 (hG 12 _ (hG.ok.sl1 _ hl)).1 (by omega) (Option.some.inj ag))
      refine ⟨rfl, v1, Nat.le_refl _, Nat.le_refl _, ow, rfl, u1, Nat.le_refl _, Nat.le_refl _, ?_⟩
      rw [v13, u13, v14, e11, e12]
      have nsq : gsOn G la z kd y → (if chI (G.ev y).ch = -1 then (0 : Int32) else 1) = (if chI (G.ev la).ch = -1 then (0 : Int32) else 1) := fun q => by
        by_cases a1 : chI (G.ev y).ch = -1
        · rw [if_pos a1, if_pos (cl.2 (q.2.2.2.1.1 (cy.1 a1)))]
        · rw [if_neg a1, if_neg (fun a2 => a1 (cy.2 (q.2.2.2.1.2 (cl.1 a2))))]
      refine ⟨fun sm => ⟨v1, ow, u1, rfl, v1, Nat.le_refl _, Nat.le_refl _, ?_⟩, fun ns => ⟨rfl, Or.inl rfl, ⟨by rw [tf_f (fun q => ns (nsq q))], rfl⟩, Nat.le_refl _, Nat.le_refl _⟩⟩
      · rw [u14]
        have hio : (G.ev y).ch = none ↔ (G.ev la).ch = none := by
          by_cases a1 : chI (G.ev y).ch = -1 <;> by_cases a2 : chI (G.ev la).ch = -1
          · exact ⟨fun _ => cl.1 a2, fun _ => cy.1 a1⟩
          · rw [if_pos a1, if_neg a2] at sm; exact absurd sm (by decide)
          · rw [if_neg a1, if_pos a2] at sm; exact absurd sm (by decide)
          · exact ⟨fun q => absurd (cy.2 q) a1, fun q => absurd (cl.2 q) a2⟩
        refine ⟨fun isD => ?_, fun isI => ?_⟩
        · have hd : (G.ev y).ch = none := by
            by_cases a1 : chI (G.ev y).ch = -1
            · exact cy.1 a1
            · rw [if_neg a1] at isD; exact absurd isD (by decide)
          have s0 := sub_0 (a := (G.ev y).ix) (b := (G.ev la).ix) (by omega) (by omega)
          have sm1 := sub_m (a := (G.ev y).ix) (b := (G.ev la).ix) (by omega) (by omega)
          have gs : gsOn G la z kd y ↔ ((G.ev y).ix = (G.ev la).ix ∧ kd = 1 ∨ (G.ev y).ix + 1 = (G.ev la).ix ∧ (z = 1 ∨ kd = 2)) :=
            ⟨fun q => q.2.2.2.2.elim (fun r => absurd hd r.1) (fun r => r.2), fun q => ⟨z1, hpl, hsl, hio, Or.inr ⟨hd, q⟩⟩⟩
          have nz1 : nI z = 1 ↔ z = 1 := nI_eq (a := z) (b := 1) (by omega) (by decide)
          have nk1 : nI kd = 1 ↔ kd = 1 := nI_eq (a := kd) (b := 1) (by omega) (by decide)
          have nk2 : nI kd = 2 ↔ kd = 2 := nI_eq (a := kd) (b := 2) (by omega) (by decide)
          rw [s0, sm1, nz1, nk1, nk2]
          refine ⟨fun a0 => ⟨fun am => ⟨rfl, Or.inl rfl, ⟨by rw [tf_f (fun q => (gs.1 q).elim (fun r => a0 r.1) (fun r => am r.1))], rfl⟩, Nat.le_refl _, Nat.le_refl _⟩, fun am => ⟨ow, fun q1 => ⟨rfl, Or.inr rfl, ⟨by rw [tf_t (gs.2 (Or.inr ⟨am, Or.inl q1⟩))], rfl⟩, Nat.le_refl _, Nat.le_refl _⟩, fun q1 => ⟨ow, fun q2 => ⟨rfl, Or.inl rfl, ⟨by rw [tf_f (fun q => (gs.1 q).elim (fun r => a0 r.1) (fun r => r.2.elim q1 q2))], rfl⟩, Nat.le_refl _, Nat.le_refl _⟩, fun q2 => ⟨rfl, Or.inr rfl, ⟨by rw [tf_t (gs.2 (Or.inr ⟨am, Or.inr q2⟩))], rfl⟩, Nat.le_refl _, Nat.le_refl _⟩⟩⟩⟩, fun a0 => ⟨ow, fun q1 => ⟨rfl, Or.inr rfl, ⟨by rw [tf_t (gs.2 (Or.inl ⟨a0, q1⟩))], rfl⟩, Nat.le_refl _, Nat.le_refl _⟩, fun q1 => ⟨fun am => ⟨rfl, Or.inl rfl, ⟨by rw [tf_f (fun q => (gs.1 q).elim (fun r => q1 r.2) (fun r => am r.1))], rfl⟩, Nat.le_refl _, Nat.le_refl _⟩, fun am => absurd am (by omega)⟩⟩⟩
        · have hi : (G.ev y).ch ≠ none := fun q => isI (by rw [if_pos (cy.2 q)])
          have s1 := sub_1 (a := (G.ev y).ix) (b := (G.ev la).ix) (by omega) (by omega)
          rw [s1]
          refine ⟨fun a1 => ⟨rfl, Or.inl rfl, ⟨by rw [tf_f (fun q => q.2.2.2.2.elim (fun r => a1 r.2) (fun r => hi r.1))], rfl⟩, Nat.le_refl _, Nat.le_refl _⟩, fun a1 => ⟨rfl, Or.inr rfl, ⟨by rw [tf_t (show gsOn G la z kd y from ⟨z1, hpl, hsl, hio, Or.inl ⟨hi, a1⟩⟩)], rfl⟩, Nat.le_refl _, Nat.le_refl _⟩⟩
  · exact fun _ _ _ _ _ h => by cases h
theorem u_wgo (l : Launch) : Us l yX9_goesOn cX9_goesOn 3 (some .boolean) 1 20 10 T_wgo := by
  intro Rc Rs av S cs sl K Kx h
  unfold T_wgo at h
  split at h
  · rename_i w_o e_o
    obtain ⟨w, rfl, h_1⟩ := pa_of h
    obtain ⟨e, rfl, h_2⟩ := pa_of h_1
    obtain ⟨F, j, pk, pl, me, a, d, V, cap, M, i, A, X, G, T, H, W, f, la, z, kd, sb, ex, y, hp, hc, hs, hk⟩ := h_2
    refine ⟨(sp_wgo w e F j pk pl me a d V cap M i A X G T H W f la z kd sb ex y), c_wgo l w e F j pk pl me a d V cap M i A X G T H W f la z kd sb ex y, fun _ _ h9 => ⟨_, _, h9.1, h9.2.1.1.2.2.2.2.1.1⟩, ⟨rfl, hp⟩, hc, hs, fun v9 S' h8 => by
      obtain ⟨h7, h8⟩ := h8
      cases h7
      subst h8
      exact hk, fun _ _ q => q.elim⟩
  · exact h.elim
