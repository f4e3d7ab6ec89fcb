/-! ===== deliver ===== -/
/-- a patch that reads sound, its agents and its events -/
def rdM (B L : List Nat) (E : List Ev3) : Prop := ∃ x y sy AA, Cols B x y ∧ rdA B (x 0) (y 0) = some L ∧ (upk B (y 4) (x 4)).1 = true ∧ syms (rawT (upk B (y 4) (x 4))) = some sy ∧ rdAll B L (y 1) (y 2) (y 3) (x 1) (x 2) (x 3) sy.length = some AA ∧ E = evAll AA sy
/-- what is wrong with a patch -/
def insF (B : List Nat) (f : Nat) : Prop := (f = 2 ∧ ∀ x y, Cols B x y → rdA B (x 0) (y 0) = none) ∨ (f = 3 ∧ ∃ x y L, Cols B x y ∧ rdA B (x 0) (y 0) = some L ∧ ((upk B (y 4) (x 4)).1 = false ∨ syms (rawT (upk B (y 4) (x 4))) = none)) ∨ (f = 4 ∧ ∃ x y L sy, Cols B x y ∧ rdA B (x 0) (y 0) = some L ∧ (upk B (y 4) (x 4)).1 = true ∧ syms (rawT (upk B (y 4) (x 4))) = some sy ∧ rdAll B L (y 1) (y 2) (y 3) (x 1) (x 2) (x 3) sy.length = none)
def lrF (B : List Nat) : Nat := match lrn B with
  | none => 2
  | some _ => 0
/-- what a delivery makes of an object: c events came -/
def dlv (Q : Ab) (n : Nat) (B : List Nat) (c : Nat) (Q1 : Ab) : Prop := (¬ framed B ∧ c = 0 ∧ Q1 = Q.sFt 1) ∨ (framed B ∧ bAt B 1 = 2 ∧ c = 0 ∧ Q1 = (Q.sKn n (lrnK (Q.Kn n) B)).sFt (lrF B)) ∨ (framed B ∧ bAt B 1 ≠ 2 ∧ ∃ f, insF B f ∧ c = 0 ∧ Q1 = Q.sFt f) ∨ (framed B ∧ bAt B 1 ≠ 2 ∧ ∃ L E G' T' f, rdM B L E ∧ brR L E (Q.G n) (Q.T n) none G' T' f ∧ f < 8 ∧ (Q.G n).n ≤ G'.n ∧ c = G'.n - (Q.G n).n ∧ Q1 = (Q.sPe n G' T' (Q.E n)).sFt f)
noncomputable def nc_dU (B : List Nat) : Nat := nc_if (framed B ∧ bAt B 1 ≠ 2) (insU B) 0
def jOK (j : Nat) : Prop := j = 21 ∨ j = 22 ∨ (50 ≤ j ∧ j ≤ 57)
section DLV
variable {S S' : MM} {F F' : Nat → Nat × Nat} {t : Nat} {z : Nat → Nat} {X : Nat → GX} {K : Nat → Nat} {Q : Ab}
/-- the writer with other raw bytes -/
theorem PW0.raw {w pk pl me : Nat} {a d : Nat → Nat} {V : Nat → List Int32} {cap : Nat → Nat} (h : PW0 S F 23 w pk pl me a d V cap) (hk : Keep (inW F 24 (a 5) (d 5)) S S') {dr' : Nat} {vs : List Int32} {c5 : Nat} (hC : Col S' F' 23 5 (a 5) dr' vs c5) (hf : ∀ b, b ∈ mL S → F' b = F b) (hFO : FO S' F') : PW0 S' F' 23 w pk pl me a (updN d 5 dr') (updI V 5 vs) (updN cap 5 c5) := by
  obtain ⟨f1, f2, f3, f4, ⟨m1, m2, m3, m4, m5, m6, m7, m8⟩, h1, h2, h3, h4, h5, h6, h7, h8⟩ := h
  have c5' := h5 5 (by decide)
  have q : ∀ {b r}, F b = (23, r) → r ≠ 50 → r ≠ 51 → ¬ inW F 24 (a 5) (d 5) b := fun {b r} e r1 r2 w => by
    rcases w with w | w | w
    · rw [e] at w; have w : 23 = 24 := w; exact absurd w (by decide)
    · rw [w, c5'.2.1] at e; injection e with _ e; exact r1 e.symm
    · rw [w, c5'.2.2.1] at e; injection e with _ e; exact r2 e.symm
  have kw := (hk.2.1 w m1.1 (q f1 (by decide) (by decide))).2.1
  refine ⟨(hf w m1.1).trans f1, (hf pl m3.1).trans f2, (hf me m6.1).trans f3, (hf pk h3.1).trans f4, ⟨hk.isO m1, (kw _).trans m2, hk.isO m3, (hk.1 pl m3.1).2.2.trans m4, (kw _).trans m5, hk.isO m6, (hk.1 me m6.1).2.2.trans m7, m8⟩, fun k hk9 => (kw _).trans (h1 k hk9), (kw _).trans h2, hk.isO h3, ((hk.2.1 pk h3.1 (q f4 (by decide) (by decide))).2.1 _).trans h4, fun k hk9 => ?_, hFO, h7, h8.keep hk (q f4 (by decide) (by decide)) hf⟩
  by_cases e : k = 5
  · subst e
    rw [updN_eq, updI_s, updN_eq]; exact hC
  · rw [updN_ne e, updI_o e, updN_ne e]
    have ck := h5 k hk9
    exact ck.keep hk (q ck.2.1 (by omega) (by omega)) (q ck.2.2.1 (by omega) (by omega)) hf
theorem RD.ext {r pk : Nat} {cu : Nat → Nat} {ids fnd : Nat} (h : RD S F 24 r pk cu ids fnd) (hf : ∀ b, (F b).1 = 24 → F' b = F b) : RD S F' 24 r pk cu ids fnd := by
  obtain ⟨h1, h2, h3, h4, h5, h6, h7, h8, h9, h10, h11, h12, h13⟩ := h
  exact ⟨h1, (hf r (by rw [h2])).trans h2, h3, fun k hk => ⟨(h4 k hk).1, (h4 k hk).2.1, (hf _ (by rw [(h4 k hk).2.2])).trans (h4 k hk).2.2⟩, h5, h6, h7, (hf ids (by rw [h8])).trans h8, h9, h10, h11, (hf fnd (by rw [h12])).trans h12, h13⟩
/-- inspecting leaves the object as it was, but for the raw bytes -/
theorem WTz.insp (h : WTz S F t z X K Q) {pl me : Nat} {a d : Nat → Nat} {V : Nat → List Int32} {cap : Nat → Nat} (hW : PW0 S F 23 (z 4) (z 6) pl me a d V cap) (hn : ∀ k, k < 6 → mN S (d k) = K (40 + k)) (ho : mN S (a 7) = K 50) {cu : Nat → Nat} {ids fnd : Nat} {B : List Nat} {v : Int32} (hq : inQ S S' F 24 (z 5) (z 6) cu ids fnd B (a 5) (d 5) v) : ∃ F' dr', WTz S' F' t z X (upF K 45 (capN (insU B) (K 45) 0)) Q ∧ RD S' F' 24 (z 5) (z 6) cu ids fnd ∧ (∀ b, b ∈ mL S → F' b = F b) ∧ Keep (fun b => (F b).1 = 24 ∨ (F b).1 = 23) S S' ∧ ((v = 2 ∧ insF B 2) ∨ ∃ x y L, inA S' (z 5) ids B L x y ∧ inB B L x y v ∧ By S' (a 5) dr' (rawT (upk B (y 4) (x 4))) ∧ F' (a 5) = (23, 50) ∧ F' dr' = (23, 51) ∧ mR S' 800 (z 6) = some (a 5) ∧ isO S' 8 (z 6)) := by
  obtain ⟨hR, hq⟩ := hq
  have c5 := hW.2.2.2.2.2.2.2.2.2.1 5 (by decide)
  have e45 : ∀ l, l ≠ 45 → upF K 45 (capN (insU B) (K 45) 0) l = K l := fun l hl => upF_o hl
  rcases hq with ⟨e2, hk, hc⟩ | ⟨x, y, L, dr', hk, hA, hRaw, hB⟩
  · have fo : FO S' F := fun b hb => (hk.1 b (h.fo b hb)).1
    have iu : insU B = 0 := by
      unfold insU
      exact ift_f (fun ⟨x, y, w1, w2⟩ => w2 (hc x y w1))
    have ek : upF K 45 (capN (insU B) (K 45) 0) = K := by
      funext l
      by_cases c : l = 45
      · rw [c, upF_s, iu]; rfl
      · rw [upF_o c]
    rw [ek]
    have hk2 : Keep (fun b => (fun o => o = 24) (F b).1) S S' := hk
    refine ⟨F, 0, h.mv (O := fun o => o = 24) hk2 (fun _ _ => rfl) fo (h.1.kp (O := fun o => o = 24) hk2 (by decide) (fun _ _ => rfl) (fun p hp => ⟨Nat.le_refl _, fun _ _ => rfl⟩) rfl rfl rfl rfl rfl rfl rfl rfl) (fun p hp => Or.inr ⟨(fun w => by replace w : p + 1 = 24 := w; omega), (fun w => by replace w : p + 11 = 24 := w; omega), (fun w => by replace w : p + 31 = 24 := w; omega), rfl, rfl, rfl, rfl, rfl, rfl⟩) (Or.inr ⟨by decide, rfl, rfl⟩) (Or.inr ⟨by decide, rfl⟩) (fun k hk9 => Or.inr ⟨(fun w => by replace w : 50 + k = 24 := w; omega), rfl, rfl⟩) (Or.inr ⟨by decide, fun _ _ _ => rfl⟩) (Or.inl ⟨cu, ids, fnd, hR⟩) (Or.inr ⟨by decide, rfl, rfl⟩), hR, fun _ _ => rfl, hk.mono (fun b _ e => Or.inl e), Or.inl ⟨e2, Or.inl ⟨rfl, hc⟩⟩⟩
  · obtain ⟨r1, r2, r3, r4⟩ := hRaw
    have iu := insU_eq hA.1 hA.2.1
    rw [hn 5 (by decide)] at r4
    have kO : Keep (fun b => (F b).1 = 24 ∨ (F b).1 = 23) S S' := hk.mono (fun b _ w => by
      rcases w with w | w | w
      · exact Or.inl w
      · rw [w, c5.2.1]; exact Or.inr rfl
      · rw [w, c5.2.2.1]; exact Or.inr rfl)
    obtain ⟨F', g1, g2, g3, g4, g5⟩ : ∃ F' : Nat → Nat × Nat, F' (a 5) = (23, 50) ∧ F' dr' = (23, 51) ∧ (∀ b, b ∈ mL S → F' b = F b) ∧ (∀ b, (F b).1 = 24 → F' b = F b) ∧ FO S' F' := by
      rcases r2 with e | e
      · subst e
        exact ⟨F, c5.2.1, c5.2.2.1, fun _ _ => rfl, fun _ _ => rfl, fun b hb => (hk.1 b (h.fo b hb)).1⟩
      · refine ⟨(fun b => if b = dr' then (23, 51) else F b), ?_, if_pos rfl, F_new e, fun b hb => ?_, FO_new h.fo (fun b hb => (hk.1 b hb).1) r1.2.2.1.1⟩
        · exact (F_new e _ c5.1.1.1).trans c5.2.1
        · exact if_neg (fun (w : b = dr') => e (h.fo dr' (by rw [← w]; intro q; rw [q] at hb; exact absurd hb (by decide))))
    have hCol : Col S' F' 23 5 (a 5) dr' ((upk B (y 4) (x 4)).2.1.map nI) (K 45) := ⟨r1, g1, g2, by rw [List.length_map]; exact r3, by rw [List.length_map]; exact r4⟩
    have hW' := hW.raw hk hCol g3 g5
    have hwk : Wk S' F' (z 4) (z 6) (upF K 45 (capN (insU B) (K 45) 0)) := ⟨pl, me, a, _, _, _, hW', fun k hk9 => by
      by_cases e : k = 5
      · subst e; rw [updN_eq, upF_s, iu]; exact r4
      · rw [updN_ne e, upF_o (by omega), ← hn k hk9]
        exact (hk.1 _ (hW.2.2.2.2.2.2.2.2.2.1 k hk9).1.2.2.1.1).2.2, by
      rw [upF_o (by omega), ← ho]
      exact (hk.1 _ hW.2.2.2.2.2.2.2.2.2.2.2.2.1.2.2.2.2.2.2.1.1).2.2⟩
    have hR' := hR.ext g4
    exact ⟨F', dr', h.mv (O := fun o => o = 24 ∨ o = 23) kO g3 g5 (h.1.kp (O := fun o => o = 24 ∨ o = 23) kO (by decide) g3 (fun p hp => ⟨Nat.le_refl _, fun _ _ => rfl⟩) rfl rfl rfl rfl rfl rfl rfl (e45 10 (by decide))) (fun p hp => Or.inr ⟨(fun w => by replace w : p + 1 = 24 ∨ p + 1 = 23 := w; omega), (fun w => by replace w : p + 11 = 24 ∨ p + 11 = 23 := w; omega), (fun w => by replace w : p + 31 = 24 ∨ p + 31 = 23 := w; omega), rfl, rfl, rfl, rfl, rfl, e45 _ (by omega)⟩) (Or.inr ⟨by decide, rfl, e45 0 (by decide)⟩) (Or.inr ⟨by decide, e45 1 (by decide)⟩) (fun k hk9 => Or.inr ⟨(fun w => by replace w : 50 + k = 24 ∨ 50 + k = 23 := w; omega), rfl, e45 _ (by omega)⟩) (Or.inl hwk) (Or.inl ⟨cu, ids, fnd, hR'⟩) (Or.inr ⟨by decide, rfl, e45 12 (by decide)⟩), hR', g3, kO, Or.inr ⟨x, y, L, hA, hB, r1, g1, g2, hW'.2.2.2.2.2.2.2.2.1, hW'.2.2.2.2.2.2.2.1⟩⟩
end DLV
def dvP (S : MM) (F : Nat → Nat × Nat) (t : Nat) (z : Nat → Nat) (X : Nat → GX) (kz : Nat → Nat) (Q : Ab) (n j b m d : Nat) (B : List Nat) (nn kC kZ : Nat) : Prop := WTz S F t z X kz Q ∧ n < 4 ∧ b = z (30 + n) ∧ Bt S F j m d B nn ∧ jOK j ∧ (framed B → bAt B 1 ≠ 2 → ∀ L E, rdM B L E → brK L E (Q.G n) (Q.T n) none kC kZ)
def dvQ (S S' : MM) (F : Nat → Nat × Nat) (t : Nat) (z : Nat → Nat) (kz : Nat → Nat) (Q : Ab) (n j : Nat) (B : List Nat) (v : Int32) : Prop := ∃ c F' X1 Q1, v = nI c ∧ c ≤ 8192 ∧ dlv Q n B c Q1 ∧ WTz S' F' t z X1 (upF kz 45 (capN (nc_dU B) (kz 45) 0)) Q1 ∧ (∀ b, b ∈ mL S → F' b = F b) ∧ Keep (fun b => cO (F b).1 ∧ (F b).1 ≠ j) S S'
theorem StpE.n1 {G G' : Gr} {T T' : Tr} {a : Nat} {P : List Nat} {oc : Option Nat} {ix s : Nat} (h : StpE G T a P oc ix s G' T') : G'.n = G.n + 1 := by
  obtain ⟨e, e1, e2, e3, e4, e5, e6, e7, rfl, -⟩ := h
  rw [Gr.push_n, (eGr_n G s a).1]
theorem beS.le {G : Gr} {T : Tr} {L : List Nat} {la : Option Nat} {s : SpT} {k : Nat} {oc : Option Nat} {G' : Gr} {T' : Tr} {la' : Option Nat} {f : Nat} (h : beS G T L la s k oc G' T' la' f) : G.n ≤ G'.n := by
  rcases h with ⟨e, -, rfl, -⟩ | ⟨-, ⟨-, -, rfl, -⟩ | ⟨Q, -, ⟨-, -, rfl, -⟩ | ⟨-, -, ⟨-, rfl, -⟩ | ⟨-, h, -⟩⟩⟩⟩
  · exact Nat.le_refl _
  · exact Nat.le_refl _
  · exact Nat.le_refl _
  · exact Nat.le_refl _
  · rw [h.n1]; exact Nat.le_succ _
theorem brR.le {L : List Nat} : ∀ {E : List Ev3} {G : Gr} {T : Tr} {la : Option Nat} {G' : Gr} {T' : Tr} {f : Nat}, brR L E G T la G' T' f → G.n ≤ G'.n
  | [], _, _, _, _, _, _, h => by rw [h.1]; exact Nat.le_refl _
  | x :: E, _, _, _, _, _, _, h => by
    obtain ⟨G1, T1, la1, f1, h1, h2⟩ := h
    rcases h2 with ⟨-, -, rfl, -⟩ | ⟨-, h2⟩
    · exact h1.le
    · exact Nat.le_trans h1.le (brR.le h2)
theorem lZ_toInt {v : Int64} : v = lZ v.toInt := by unfold lZ; exact (Int64.ofInt_toInt v).symm
def I_dv (t b m : Nat) (F : Nat → Nat × Nat) (z : Nat → Nat) (X : Nat → GX) (kz : Nat → Nat) (Q : Ab) (B : List Nat) (S : MM) (k : Nat) : KT := fun lo st S1 cs sl => ∃ f F1 cu ids fnd rq dr, k = 0 ∧ framed B ∧ bAt B 1 ≠ 2 ∧ f < 8 ∧ WTz S1 F1 t z X (upF kz 45 (capN (insU B) (kz 45) 0)) (Q.sFt f) ∧ RD S1 F1 24 (z 5) (z 6) cu ids fnd ∧ (∀ b, b ∈ mL S → F1 b = F b) ∧ Keep (fun b => (F b).1 = 24 ∨ (F b).1 = 23 ∨ (F b).1 = 20) S S1 ∧ ((f = 2 ∧ insF B 2) ∨ ∃ x y L, inA S1 (z 5) ids B L x y ∧ inB B L x y (nI f) ∧ By S1 rq dr (rawT (upk B (y 4) (x 4))) ∧ F1 rq = (23, 50) ∧ F1 dr = (23, 51) ∧ mR S1 800 (z 6) = some rq ∧ isO S1 8 (z 6)) ∧ lo = [(0, .inr (.inr (some t))), (1, .inr (.inr (some b))), (2, .inr (.inr (some m)))] ∧ st = [] ∧ cs = addNC (insU B) (kz 45) 0 ∧ sl = addNS (insU B) (kz 45) 0
def T_wdv : TR := fun Rc Rs av S cs sl K _Kx => match av with
  | [.inr (.inr t_o), .inr (.inr b_o), .inr (.inr m_o)] => pa t_o fun t => (pa b_o fun b => (pa m_o fun m => (∃ (F : Nat → Nat × Nat) (z : Nat → Nat) (X : Nat → GX) (kz : Nat → Nat) (Q : Ab) (n j d : Nat) (B : List Nat) (nn kC kZ : Nat), (dvP S F t z X kz Q n j b m d B nn kC kZ) ∧ cs + (addNC (nc_dU B) (kz 45) 0 + kC) ≤ Rc ∧ sl + (addNS (nc_dU B) (kz 45) 0 + kZ) ≤ Rs ∧ (∀ (v : Int32) (S' : MM), (dvQ S S' F t z kz Q n j B v) → K (some (.inl v)) S' (cs + (addNC (nc_dU B) (kz 45) 0 + kC)) (sl + (addNS (nc_dU B) (kz 45) 0 + kZ))))))
  | _ => False
noncomputable def sp_wdv (t : Nat) (b : Nat) (m : Nat) (F : Nat → Nat × Nat) (z : Nat → Nat) (X : Nat → GX) (kz : Nat → Nat) (Q : Ab) (n j d : Nat) (B : List Nat) (nn kC kZ : Nat) : Sp := (fun av S => av = [.inr (.inr (some t)), .inr (.inr (some b)), .inr (.inr (some m))] ∧ (dvP S F t z X kz Q n j b m d B nn kC kZ), fun _ S => addNC (nc_dU B) (kz 45) 0 + kC, fun _ S => addNS (nc_dU B) (kz 45) 0 + kZ, fun _ S rv S' => ∃ v, rv = (some (.inl v)) ∧ (dvQ S S' F t z kz Q n j B v), fun _ _ _ _ => False)
def tX11_deliver : CD := [(0, .aload_n 2), (1, .invokevirtual 288), (4, .ifCond .ne 10), (7, .aload_n 0), (8, .iconst 1), (9, .putfield 29), (12, .iconst 0), (13, .ireturn), (14, .aload_n 2), (15, .iconst 1), (16, .invokevirtual 271), (19, .iconst 2), (20, .if_icmp .ne 22), (23, .aload_n 0), (24, .aload_n 1), (25, .aload_n 2), (26, .invokevirtual 292), (29, .ifCond .eq 7), (32, .iconst 0), (33, .goto 4), (36, .iconst 2), (37, .putfield 29), (40, .iconst 0), (41, .ireturn), (42, .aload_n 0), (43, .aload_n 0), (44, .getfield 84), (47, .aload_n 2), (48, .invokevirtual 296), (51, .putfield 29), (54, .aload_n 0), (55, .getfield 29), (58, .ifCond .eq 5), (61, .iconst 0), (62, .ireturn), (63, .aload_n 1), (64, .getfield 112), (67, .getfield 180), (70, .invokevirtual 184), (73, .istore_n 3), (74, .aload_n 0), (75, .aload_n 0), (76, .getfield 84), (79, .aload_n 2), (80, .aload_n 1), (81, .getfield 112), (84, .invokevirtual 300), (87, .putfield 29), (90, .aload_n 1), (91, .getfield 112), (94, .getfield 180), (97, .invokevirtual 184), (100, .iload_n 3), (101, .isub), (102, .ireturn)]
set_option maxRecDepth 100000 in
theorem kX11_deliver : chk cX11_deliver tX11_deliver = true := by decide +kernel
theorem vX11_deliver_288 : ∀ w ∈ ([.methodLink RX11 288 yX1_isFramed, .instanceMethod yX1_isFramed, .selects yX1_isFramed.cls yX1_isFramed yX1_isFramed, .initialized yX1_isFramed.cls, .code yX1_isFramed cX1_isFramed 3 (some .boolean)] : List Cond), w ∈ lw_good := List.forall_mem_cons.mpr ⟨mgd 1464 (by decide +kernel) (by decide +kernel), List.forall_mem_cons.mpr ⟨mgd 1465 (by decide +kernel) (by decide +kernel), List.forall_mem_cons.mpr ⟨mgd 1466 (by decide +kernel) (by decide +kernel), List.forall_mem_cons.mpr ⟨mgd 122 (by decide +kernel) (by decide +kernel), List.forall_mem_cons.mpr ⟨mgd 1467 (by decide +kernel) (by decide +kernel), fun _ h => absurd h List.not_mem_nil⟩⟩⟩⟩⟩
theorem vX11_deliver_271 : ∀ w ∈ ([.methodLink RX11 271 yX1_get, .instanceMethod yX1_get, .selects yX1_get.cls yX1_get yX1_get, .initialized yX1_get.cls, .code yX1_get cX1_get 2 (some .int)] : List Cond), w ∈ lw_good := List.forall_mem_cons.mpr ⟨mgd 1468 (by decide +kernel) (by decide +kernel), List.forall_mem_cons.mpr ⟨mgd 840 (by decide +kernel) (by decide +kernel), List.forall_mem_cons.mpr ⟨mgd 841 (by decide +kernel) (by decide +kernel), List.forall_mem_cons.mpr ⟨mgd 122 (by decide +kernel) (by decide +kernel), List.forall_mem_cons.mpr ⟨mgd 842 (by decide +kernel) (by decide +kernel), fun _ h => absurd h List.not_mem_nil⟩⟩⟩⟩⟩
theorem vX11_deliver_292 : ∀ w ∈ ([.methodLink RX11 292 yX10_learn, .instanceMethod yX10_learn, .selects yX10_learn.cls yX10_learn yX10_learn, .initialized yX10_learn.cls, .code yX10_learn cX10_learn 7 (some .boolean)] : List Cond), w ∈ lw_good := List.forall_mem_cons.mpr ⟨mgd 1469 (by decide +kernel) (by decide +kernel), List.forall_mem_cons.mpr ⟨mgd 1470 (by decide +kernel) (by decide +kernel), List.forall_mem_cons.mpr ⟨mgd 1471 (by decide +kernel) (by decide +kernel), List.forall_mem_cons.mpr ⟨mgd 124 (by decide +kernel) (by decide +kernel), List.forall_mem_cons.mpr ⟨mgd 1472 (by decide +kernel) (by decide +kernel), fun _ h => absurd h List.not_mem_nil⟩⟩⟩⟩⟩
theorem vX11_deliver_296 : ∀ w ∈ ([.methodLink RX11 296 yX8_inspect, .instanceMethod yX8_inspect, .selects yX8_inspect.cls yX8_inspect yX8_inspect, .initialized yX8_inspect.cls, .code yX8_inspect cX8_inspect 3 (some .int)] : List Cond), w ∈ lw_good := List.forall_mem_cons.mpr ⟨mgd 1492 (by decide +kernel) (by decide +kernel), List.forall_mem_cons.mpr ⟨mgd 1493 (by decide +kernel) (by decide +kernel), List.forall_mem_cons.mpr ⟨mgd 1494 (by decide +kernel) (by decide +kernel), List.forall_mem_cons.mpr ⟨mgd 134 (by decide +kernel) (by decide +kernel), List.forall_mem_cons.mpr ⟨mgd 1495 (by decide +kernel) (by decide +kernel), fun _ h => absurd h List.not_mem_nil⟩⟩⟩⟩⟩
theorem vX11_deliver_184 : ∀ w ∈ ([.methodLink RX11 184 yJx4a65c_size_8abf5, .instanceMethod yJx4a65c_size_8abf5, .selects yJx4a65c_size_8abf5.cls yJx4a65c_size_8abf5 yJx4a65c_size_8abf5, .initialized yJx4a65c_size_8abf5.cls, .code yJx4a65c_size_8abf5 cJx4a65c_size_8abf5 1 (some .int)] : List Cond), w ∈ lw_good := List.forall_mem_cons.mpr ⟨mgd 1205 (by decide +kernel) (by decide +kernel), List.forall_mem_cons.mpr ⟨mgd 673 (by decide +kernel) (by decide +kernel), List.forall_mem_cons.mpr ⟨mgd 674 (by decide +kernel) (by decide +kernel), List.forall_mem_cons.mpr ⟨mgd 130 (by decide +kernel) (by decide +kernel), List.forall_mem_cons.mpr ⟨mgd 675 (by decide +kernel) (by decide +kernel), fun _ h => absurd h List.not_mem_nil⟩⟩⟩⟩⟩
theorem vX11_deliver_300 : ∀ w ∈ ([.methodLink RX11 300 yX8_bring, .instanceMethod yX8_bring, .selects yX8_bring.cls yX8_bring yX8_bring, .initialized yX8_bring.cls, .code yX8_bring cX8_bring 6 (some .int)] : List Cond), w ∈ lw_good := List.forall_mem_cons.mpr ⟨mgd 1547 (by decide +kernel) (by decide +kernel), List.forall_mem_cons.mpr ⟨mgd 1548 (by decide +kernel) (by decide +kernel), List.forall_mem_cons.mpr ⟨mgd 1549 (by decide +kernel) (by decide +kernel), List.forall_mem_cons.mpr ⟨mgd 134 (by decide +kernel) (by decide +kernel), List.forall_mem_cons.mpr ⟨mgd 1550 (by decide +kernel) (by decide +kernel), fun _ h => absurd h List.not_mem_nil⟩⟩⟩⟩⟩
set_option maxRecDepth 100000 in
set_option maxHeartbeats 2000000 in
theorem c_wdv (l : Launch) : ∀ (t : Nat) (b : Nat) (m : Nat) (F : Nat → Nat × Nat) (z : Nat → Nat) (X : Nat → GX) (kz : Nat → Nat) (Q : Ab) (n j d : Nat) (B : List Nat) (nn kC kZ : Nat), Ct l yX11_deliver cX11_deliver 4 (some .int) 10 248 (sp_wdv t b m F z X kz Q n j d B nn kC kZ) := by
  intro t b m F z X kz Q n j d B nn kC kZ
  refine Ct.of (fX11, nX11, aX11, iX11, lX11, [(288, 0, 1, 1, T_frm), (271, 0, 2, 1, T_bget), (292, 0, 2, 1, T_pln), (296, 0, 2, 1, T_rinsp), (184, 0, 1, 1, T_alsz), (300, 0, 3, 1, T_rbr)], qX11, gX11, []) false tX11_deliver (fun _ S => look [(54, ([0,1,2], I_dv t b m F z X kz Q B S))]) (by decide) (by decide) kX11_deliver ⟨_, _, rfl⟩ fX11_ok nX11_ok aX11_ok iX11_ok lX11_ok (fun p e R s m args below meth c Q D cy z r A C hR1 hR2 => List.forall_mem_cons.mpr ⟨cOK_use (fun _ _ _ _ _ _ _ _ h => let ⟨sp, h1, h2, h3⟩ := u_frm l _ _ _ _ _ _ _ _ h; ⟨sp, cOK_V C h1 vX11_deliver_288 ⟨by decide, by decide, by decide +kernel⟩ ⟨by rw [hR1]; decide, by rw [hR2]; decide⟩ (k := 2) (T := TX1) (N := 3) rfl (by decide) h2, h3⟩), List.forall_mem_cons.mpr ⟨cOK_use (fun _ _ _ _ _ _ _ _ h => let ⟨sp, h1, h2, h3⟩ := u_bget l _ _ _ _ _ _ _ _ h; ⟨sp, cOK_V C h1 vX11_deliver_271 ⟨by decide, by decide, by decide +kernel⟩ ⟨by rw [hR1]; decide, by rw [hR2]; decide⟩ (k := 2) (T := TX1) (N := 3) rfl (by decide) h2, h3⟩), List.forall_mem_cons.mpr ⟨cOK_use (fun _ _ _ _ _ _ _ _ h => let ⟨sp, h1, h2, h3⟩ := u_pln l _ _ _ _ _ _ _ _ h; ⟨sp, cOK_V C h1 vX11_deliver_292 ⟨by decide, by decide, by decide +kernel⟩ ⟨by rw [hR1]; decide, by rw [hR2]; decide⟩ (k := 11) (T := TX10) (N := 6) rfl (by decide) h2, h3⟩), List.forall_mem_cons.mpr ⟨cOK_use (fun _ _ _ _ _ _ _ _ h => let ⟨sp, h1, h2, h3⟩ := u_rinsp l _ _ _ _ _ _ _ _ h; ⟨sp, cOK_V C h1 vX11_deliver_296 ⟨by decide, by decide, by decide +kernel⟩ ⟨by rw [hR1]; decide, by rw [hR2]; decide⟩ (k := 9) (T := TX8) (N := 20) rfl (by decide) h2, h3⟩), List.forall_mem_cons.mpr ⟨cOK_use (fun _ _ _ _ _ _ _ _ h => let ⟨sp, h1, h2, h3⟩ := u_alsz l _ _ _ _ _ _ _ _ h; ⟨sp, cOK_V C h1 vX11_deliver_184 ⟨by decide, by decide, by decide +kernel⟩ ⟨by rw [hR1]; decide, by rw [hR2]; decide⟩ (k := 0) (T := TJx4a65c) (N := 3) rfl (by decide) h2, h3⟩), List.forall_mem_cons.mpr ⟨cOK_use (fun _ _ _ _ _ _ _ _ h => let ⟨sp, h1, h2, h3⟩ := u_rbr l _ _ _ _ _ _ _ _ h; ⟨sp, cOK_V C h1 vX11_deliver_300 ⟨by decide, by decide, by decide +kernel⟩ ⟨by rw [hR1]; decide, by rw [hR2]; decide⟩ (k := 9) (T := TX8) (N := 20) rfl (by decide) h2, h3⟩), fun _ h => absurd h List.not_mem_nil⟩⟩⟩⟩⟩⟩) qX11_ok gX11_ok rfl ?_ ?_
  · rintro _ S ⟨rfl, hp⟩
    refine ⟨Nat.le_of_ble_eq_true rfl, 300, ?_⟩
    show (0 = 0 ∧ (∃ (d_1 : Nat) (B_2 : List Nat), (By S m d_1 B_2) ∧ 0 ≤ addNC (nc_dU B) (kz 45) 0 + kC ∧ 0 ≤ addNS (nc_dU B) (kz 45) 0 + kZ ∧ (((¬ (tf (framed B_2)) = 0 → (0 = 0 ∧ (∃ (d_4 : Nat) (B_5 : List Nat), (By S m d_4 B_5) ∧ 0 ≤ addNC (nc_dU B) (kz 45) 0 + kC ∧ 0 ≤ addNS (nc_dU B) (kz 45) 0 + kZ ∧ (((¬ (bAt B_5 (1 : Int32)) = (2 : Int32) → (isO S 12 t ∧ (0 = 0 ∧ ((pa (mR S 1205 t) fun a_7 => (∃ (F_8 : Nat → Nat × Nat) (j_9 pk_10 : Nat) (cu_11 : Nat → Nat) (ids_12 fnd_13 d_14 : Nat) (B_15 : List Nat) (rw_16 dr_17 : Nat) (R_18 : List Nat) (e_19 : Int), (RD S F_8 j_9 a_7 pk_10 cu_11 ids_12 fnd_13 ∧ By S m d_14 B_15 ∧ 7 ≤ B_15.length ∧ B_15.length ≤ 32768 ∧ (F_8 m).1 ≠ j_9 ∧ (F_8 d_14).1 ≠ j_9 ∧ isO S 8 pk_10 ∧ (F_8 pk_10).1 ≠ j_9 ∧ mR S 800 pk_10 = some rw_16 ∧ By S rw_16 dr_17 R_18 ∧ (F_8 rw_16).1 ≠ j_9 ∧ (F_8 dr_17).1 ≠ j_9 ∧ m ≠ rw_16 ∧ d_14 ≠ dr_17 ∧ mJ S 919 a_7 = lZ e_19) ∧ 0 + (addNC (insU B_15) (mN S dr_17) 0) ≤ addNC (nc_dU B) (kz 45) 0 + kC ∧ 0 + (addNS (insU B_15) (mN S dr_17) 0) ≤ addNS (nc_dU B) (kz 45) 0 + kZ ∧ (∀ (x_21 : Int32) (S_20 : MM), (inQ S S_20 F_8 j_9 a_7 pk_10 cu_11 ids_12 fnd_13 B_15 rw_16 dr_17 x_21) → (True ∧ (isO S_20 12 t ∧ (∃ k1, I_dv t b m F z X kz Q B S k1 [(0, .inr (.inr (some t))), (1, .inr (.inr (some b))), (2, .inr (.inr (some m)))] [] (sI S_20 1206 t x_21) (0 + (addNC (insU B_15) (mN S dr_17) 0)) (0 + (addNS (insU B_15) (mN S dr_17) 0)))))))))))) ∧ ((bAt B_5 (1 : Int32)) = (2 : Int32) → (0 = 0 ∧ (∃ (cu_22 d_23 kn_24 : Nat) (kr_25 : Nat → Nat) (Kn_26 : Nat → Nat → Nat) (B_27 : List Nat), (lrnP S b m cu_22 d_23 kn_24 kr_25 Kn_26 B_27) ∧ 0 ≤ addNC (nc_dU B) (kz 45) 0 + kC ∧ 0 ≤ addNS (nc_dU B) (kz 45) 0 + kZ ∧ (∀ (S_28 : MM), (lrnQ S S_28 b cu_22 kn_24 kr_25 Kn_26 B_27) → (((tf (lrn B_27 ≠ none)) = 0 → (True ∧ (isO S_28 12 t ∧ (([] : List MV) = [] ∧ mret (some .int) (sp_wdv t b m F z X kz Q n j d B nn kC kZ) [.inr (.inr (some t)), .inr (.inr (some b)), .inr (.inr (some m))] S (some (.inl (0 : Int32))) (sI S_28 1206 t (2 : Int32)) 0 0)))) ∧ (¬ (tf (lrn B_27 ≠ none)) = 0 → (True ∧ (isO S_28 12 t ∧ (([] : List MV) = [] ∧ mret (some .int) (sp_wdv t b m F z X kz Q n j d B nn kC kZ) [.inr (.inr (some t)), .inr (.inr (some b)), .inr (.inr (some m))] S (some (.inl (0 : Int32))) (sI S_28 1206 t (0 : Int32)) 0 0)))))))))))))) ∧ ((tf (framed B_2)) = 0 → (True ∧ (isO S 12 t ∧ (([] : List MV) = [] ∧ mret (some .int) (sp_wdv t b m F z X kz Q n j d B nn kC kZ) [.inr (.inr (some t)), .inr (.inr (some b)), .inr (.inr (some m))] S (some (.inl (0 : Int32))) (sI S 1206 t (1 : Int32)) 0 0))))))))
    obtain ⟨hz, hn, rfl, hB, hj, hbk⟩ := hp
    obtain ⟨A, H, W, r, a', d9, ea, kn, kr, cu, hP⟩ := hz.2.1 n hn
    have ht := hz.1.1.1
    have ek : ∀ u, nc_dU B = u → u = 0 → upF kz 45 (capN (nc_dU B) (kz 45) 0) = kz := fun u h1 h2 => by
      funext l
      by_cases c : l = 45
      · rw [c, upF_s, h1, h2]; rfl
      · rw [upF_o c]
    have k20 : ∀ {S9 : MM}, Keep (fun b => (F b).1 = 20) S S9 → Keep (fun b => cO (F b).1 ∧ (F b).1 ≠ j) S S9 := fun h => h.mono (fun b _ e => by
      show cO (F b).1 ∧ (F b).1 ≠ j
      rw [e]; exact ⟨⟨by decide, by decide⟩, by rcases hj with w | w | w <;> omega⟩)
    refine ⟨rfl, d, B, hB.1, Nat.zero_le _, Nat.zero_le _, fun q1 => ?_, fun q1 => ?_⟩
    · have hfr : framed B := Classical.byContradiction (fun w => q1 (tf_f w))
      refine ⟨rfl, d, B, hB.1, Nat.zero_le _, Nat.zero_le _, fun q2 => ?_, fun q2 => ?_⟩
      · obtain ⟨pl, me, a, dd, V, cap, hW, hWn, hWo⟩ := hz.2.2.2.2.2.1
        obtain ⟨cu5, ids, fnd, hR⟩ := hz.2.2.2.2.2.2.1
        have c5 := hW.2.2.2.2.2.2.2.2.2.1 5 (by decide)
        have r5 : mR S 1205 t = some (z 5) := hz.1.1.2.2.1 5 (by decide) (by decide) (by decide) (by decide)
        have nf : ∀ {b u v}, F b = (u, v) → u ≠ 24 → (F b).1 ≠ 24 := fun {b u v} e hu w => hu (by rw [e] at w; exact w)
        have j24 : j ≠ 24 ∧ j ≠ 23 ∧ j ≠ 20 := by rcases hj with w | w | w <;> omega
        have eu : nc_dU B = insU B := nc_t ⟨hfr, q2⟩
        have e45 : mN S (dd 5) = kz 45 := hWn 5 (by decide)
        have ne : ∀ {x y u v}, F x = (j, u) → F y = (23, v) → x ≠ y := fun {x y u v} e1 e2 w => by rw [w, e2] at e1; injection e1 with e1; exact j24.2.1 e1.symm
        refine ⟨ht, rfl, pa_i r5 ⟨F, 24, z 6, cu5, ids, fnd, d, B, a 5, dd 5, _, (mJ S 919 (z 5)).toInt, ⟨hR, hB.1, hfr.1, hB.1.len, nf hB.2.1 j24.1, nf hB.2.2.1 j24.1, hW.2.2.2.2.2.2.2.1, nf hW.2.2.2.1 (by decide), hW.2.2.2.2.2.2.2.2.1, c5.1, nf c5.2.1 (by decide), nf c5.2.2.1 (by decide), ne hB.2.1 c5.2.1, ne hB.2.2.1 c5.2.2.1, lZ_toInt⟩, ?_, ?_, fun v S4 h4 => ?_⟩⟩
        · rw [eu, e45]; omega
        · rw [eu, e45]; omega
        · obtain ⟨F4, dr4, w1, w2, w3, w5, w6⟩ := hz.insp hW hWn hWo h4
          rw [e45, Nat.zero_add, Nat.zero_add]
          obtain ⟨f, hf8, ef⟩ : ∃ f, f < 8 ∧ v = nI f := by
            rcases w6 with ⟨e, -⟩ | ⟨x, y, L, -, hB9, -⟩
            · exact ⟨2, by decide, e⟩
            · rcases hB9 with ⟨e, -⟩ | ⟨sy, -, -, ⟨e, -⟩ | ⟨e, -⟩⟩
              · exact ⟨3, by decide, e⟩
              · exact ⟨4, by decide, e⟩
              · exact ⟨0, by decide, e⟩
          rw [ef] at w6 ⊢
          obtain ⟨y1, y2⟩ := w1.fault hf8
          have tz : t ≠ z 5 := fun w => by have := w1.1.1.2.1; rw [w, w2.2.1] at this; injection this with q; exact absurd q (by decide)
          have kt : Keep (fun b => b = t) S4 (sI S4 1206 t (nI f)) := Keep.sI (P := fun b => b = t) Keep.rf rfl
          have n20 : ∀ {b u v}, F4 b = (u, v) → u ≠ 20 → b ≠ t := fun {b u v} e hu w => by rw [w, w1.1.1.2.1] at e; injection e with e; exact hu e.symm
          refine ⟨trivial, w1.1.1.1, 0, f, F4, cu5, ids, fnd, a 5, dr4, rfl, hfr, q2, hf8, y1, w2.kp y2 (fun b e w => by rw [e] at w; exact absurd w (by decide)) (fun _ _ => rfl), w3, ?_, ?_, rfl, rfl, rfl, rfl⟩
          · refine (w5.mono (fun b _ w => w.imp id Or.inl)).trN y2 (fun b hb e => Or.inr (Or.inr ?_))
            rw [← w3 b hb]; exact e
          · rcases w6 with ⟨e, e2⟩ | ⟨x, y, L, ⟨i1, i2, i3, i4, i5, i6⟩, i7, i8, i9, i10, i11, i12⟩
            · refine Or.inl ⟨(nI_eq (by omega) (by decide)).1 (e.trans (show (2 : Int32) = nI 2 from rfl)), e2⟩
            · refine Or.inr ⟨x, y, L, ⟨i1, i2, i3, i4, ?_, i6⟩, i7, i8.keep kt (n20 i9 (by decide)) (n20 i10 (by decide)), i9, i10, i11, isO_sI i12⟩
              rw [mI_sI, if_neg (fun w => absurd w.1 (by decide))]; exact i5
      · have eu : nc_dU B = 0 := nc_f (fun w => w.2 q2)
        have h2 : B.getD 2 0 < 4 := by
          have b2 := hfr.2.2.1
          rw [show bAt B 2 = nI (B.getD 2 0) from rfl] at b2
          exact (nI_ltI (b := 4) (by
            have := getD_lt hB.1.bytesLt (p := 2)
            omega) (by decide)).1 b2
        have krd : ∀ o o', o < 4 → o' < 4 → kr o = kr o' → o = o' := fun o o' h1 h2 e => by
          have f1 := hP.2.2.2.2.2.2.2.1 o h1
          rw [e, hP.2.2.2.2.2.2.2.1 o' h2] at f1
          injection f1 with _ f1; omega
        refine ⟨rfl, cu, d, kn, kr, Q.Kn n, B, ⟨hP.1.1, hP.2.2.2.2.1, hP.2.2.2.2.2.1, hB.1, hfr.1, h2, hP.2.2.2.1, krd⟩, Nat.zero_le _, Nat.zero_le _, fun S4 h4 => ?_⟩
        obtain ⟨g1, g2⟩ := h4
        have kO : Keep (fun b => (F b).1 = n + 31) S S4 := g1.mono (fun b _ w => by
          rcases w with w | w <;> rw [w]
          · rw [hP.2.2.2.2.2.2.2.2]
          · rw [hP.2.2.2.2.2.2.2.1 _ h2])
        have fo4 : FO S4 F := fun b hb => (kO.1 b (hz.fo b hb)).1
        have nf : ∀ {b u v}, F b = (u, v) → u ≠ n + 31 → ¬ (F b).1 = n + 31 := fun {b u v} e hu w => hu (by rw [e] at w; exact w)
        have kb := kO.2.1 _ hP.1.1.1 (nf hP.1.2.1 (by omega))
        have hP4 : Pe S4 F n (z (30 + n)) A (X n) (Q.G n) (Q.T n) H W r a' d9 (kz (30 + n)) (Q.E n) ea kn kr (lrnK (Q.Kn n) B) cu := by
          obtain ⟨⟨w1, w2, w3, w4, w5, w6, w7, w8, w9, w10, w11, w12, w13⟩, h2, h3, h4, h5, h6, h7, h8, h9⟩ := hP
          exact ⟨⟨kO.isO w1, w2, (kb.1 _).trans w3, (kb.2.1 _).trans w4, (kb.2.1 _).trans w5, kO.isO w6, (kO.1 r w6.1).2.2.trans w7, w8, w9.keep kO (fun b e w => by rw [e] at w; omega) hz.fo (by omega) (fun _ _ => rfl), fo4, w11, w12, w13⟩, (kb.2.1 _).trans h2, h3.keep kO (nf h3.2.1 (by omega)) (fun e => nf (h3.2.2.1 e) (by omega)) (fun l hl => nf (h3.2.2.2 l hl).2.1 (by omega)) (fun _ _ => rfl), g2, (kb.2.1 _).trans h5, kO.isO h6, h7, h8, h9⟩
        have w4 := hz.known (K' := kz) hn ⟨A, H, W, r, a', d9, ea, kn, kr, cu, hP4⟩ (fun _ _ => rfl) kO (fun _ _ => rfl) fo4
        have fin : ∀ f, f < 8 → f = lrF B → mret (some .int) (sp_wdv t (z (30 + n)) m F z X kz Q n j d B nn kC kZ) [.inr (.inr (some t)), .inr (.inr (some (z (30 + n)))), .inr (.inr (some m))] S (some (.inl 0)) (sI S4 1206 t (nI f)) 0 0 := fun f hf ef => by
          obtain ⟨y1, y2⟩ := w4.fault hf
          refine ⟨trivial, ⟨_, rfl, 0, F, X, (Q.sKn n (lrnK (Q.Kn n) B)).sFt f, rfl, by decide, Or.inr (Or.inl ⟨hfr, q2, rfl, by rw [ef]⟩), by rw [ek 0 eu rfl]; exact y1, fun _ _ => rfl, ?_⟩, Nat.zero_le _, Nat.zero_le _⟩
          refine Keep.tr (kO.mono (fun b _ e => ?_)) (y2.mono (fun b _ e => ?_))
          · show cO (F b).1 ∧ (F b).1 ≠ j
            rw [e]; exact ⟨⟨by omega, by omega⟩, by rcases hj with w | w | w <;> omega⟩
          · show cO (F b).1 ∧ (F b).1 ≠ j
            rw [e]; exact ⟨⟨by decide, by decide⟩, by rcases hj with w | w | w <;> omega⟩
        have o4 := w4.1.1.1
        refine ⟨fun e => ⟨trivial, o4, rfl, fin 2 (by decide) ?_⟩, fun e => ⟨trivial, o4, rfl, fin 0 (by decide) ?_⟩⟩
        · unfold lrF
          cases e9 : lrn B with
          | none => rfl
          | some l => rw [tf_t (show lrn B ≠ none by rw [e9]; intro w; cases w)] at e; exact absurd e (by decide)
        · unfold lrF
          cases e9 : lrn B with
          | none => exact absurd (tf_f (show ¬ lrn B ≠ none from fun w => w e9)) e
          | some l => rfl
    · have nfr : ¬ framed B := fun w => by rw [tf_t w] at q1; exact absurd q1 (by decide)
      have eu : nc_dU B = 0 := nc_f (fun w => nfr w.1)
      obtain ⟨y1, y2⟩ := hz.fault (f := 1) (by decide)
      exact ⟨trivial, ht, rfl, trivial, ⟨_, rfl, 0, F, X, _, rfl, by decide, Or.inl ⟨nfr, rfl, rfl⟩, by rw [ek 0 eu rfl]; exact y1, fun _ _ => rfl, k20 y2⟩, Nat.zero_le _, Nat.zero_le _⟩
  · intro av S hpre pc I hI k lo st S1 cs sl h
    obtain ⟨rfl, hp⟩ := hpre
    have hm := look_in hI
    rw [List.mem_singleton] at hm
    cases hm
    obtain ⟨f, F1, cu, ids, fnd, rq, dr, rfl, hfr, hkd, hf8, hz, hR, hf1, hk1, hc, rfl, rfl, rfl, rfl⟩ := h
    refine ⟨300, ?_⟩
    show (isO S1 12 t ∧ (((mI S1 1206 t) = 0 → (isO S1 11 b ∧ (pa (mR S1 1101 b) fun a_1 => isO S1 6 a_1 ∧ (0 = 0 ∧ ((pa (mR S1 601 a_1) fun a_2 => (∃ (d_3 c_4 kk_5 : Nat) (L_6 : List Nat), (AL S1 a_2 d_3 c_4 kk_5 L_6) ∧ addNC (insU B) (kz 45) 0 ≤ addNC (nc_dU B) (kz 45) 0 + kC ∧ addNS (insU B) (kz 45) 0 ≤ addNS (nc_dU B) (kz 45) 0 + kZ ∧ ((isO S1 12 t ∧ (isO S1 11 b ∧ (0 = 0 ∧ ((pa (mR S1 1205 t) fun a_8 => ((pa (mR S1 1101 b) fun a_9 => (∃ (F_10 : Nat → Nat × Nat) (j_11 pk_12 : Nat) (cu_13 : Nat → Nat) (ids_14 fnd_15 i_16 : Nat) (A_17 : Nat → Nat) (X_18 : GX) (G_19 : Gr) (T_20 : Tr) (H_21 : List Nat) (W_22 : Nat → Nat) (d_23 : Nat) (B_24 L_25 : List Nat) (x_26 y_27 : Nat → Nat) (rw_28 dr_29 : Nat) (TX_30 : List Nat) (sy_31 : List Int32) (AA_32 : List SpT) (kC_33 kZ_34 : Nat), (a_9 = A_17 0 ∧ RD S1 F_10 j_11 a_8 pk_12 cu_13 ids_14 fnd_15 ∧ GI S1 F_10 i_16 A_17 X_18 G_19 T_20 H_21 W_22 ∧ FO S1 F_10 ∧ i_16 ≠ 0 ∧ i_16 ≠ j_11 ∧ By S1 m d_23 B_24 ∧ 7 ≤ B_24.length ∧ B_24.length ≤ 32768 ∧ Cols B_24 x_26 y_27 ∧ mI S1 909 a_8 = nI L_25.length ∧ L_25.length ≤ 256 ∧ (∀ a ∈ L_25, a < 256) ∧ (∀ k, k < L_25.length → eI S1 ids_14 k = nI (L_25.getD k 0)) ∧ isO S1 8 pk_12 ∧ mR S1 800 pk_12 = some rw_28 ∧ By S1 rw_28 dr_29 TX_30 ∧ brO F_10 i_16 j_11 pk_12 rw_28 dr_29 m d_23 ∧ syms TX_30 = some sy_31 ∧ rdAll B_24 L_25 (y_27 1) (y_27 2) (y_27 3) (x_26 1) (x_26 2) (x_26 3) sy_31.length = some AA_32 ∧ brK L_25 (evAll AA_32 sy_31) G_19 T_20 none kC_33 kZ_34) ∧ addNC (insU B) (kz 45) 0 + kC_33 ≤ addNC (nc_dU B) (kz 45) 0 + kC ∧ addNS (insU B) (kz 45) 0 + kZ_34 ≤ addNS (nc_dU B) (kz 45) 0 + kZ ∧ (∀ (x_36 : Int32) (S_35 : MM), (brQ S1 S_35 F_10 A_17 X_18 G_19 T_20 j_11 a_8 pk_12 cu_13 ids_14 fnd_15 i_16 L_25 (evAll AA_32 sy_31) x_36) → (True ∧ (isO S_35 12 t ∧ (isO (sI S_35 1206 t x_36) 11 b ∧ (pa (mR (sI S_35 1206 t x_36) 1101 b) fun a_37 => isO (sI S_35 1206 t x_36) 6 a_37 ∧ (0 = 0 ∧ ((pa (mR (sI S_35 1206 t x_36) 601 a_37) fun a_38 => (∃ (d_39 c_40 kk_41 : Nat) (L_42 : List Nat), (AL (sI S_35 1206 t x_36) a_38 d_39 c_40 kk_41 L_42) ∧ addNC (insU B) (kz 45) 0 + kC_33 ≤ addNC (nc_dU B) (kz 45) 0 + kC ∧ addNS (insU B) (kz 45) 0 + kZ_34 ≤ addNS (nc_dU B) (kz 45) 0 + kZ ∧ ((([] : List MV) = [] ∧ mret (some .int) (sp_wdv t b m F z X kz Q n j d B nn kC kZ) [.inr (.inr (some t)), .inr (.inr (some b)), .inr (.inr (some m))] S (some (.inl ((nI L_42.length) - (nI L_6.length)))) (sI S_35 1206 t x_36) (addNC (insU B) (kz 45) 0 + kC_33) (addNS (insU B) (kz 45) 0 + kZ_34)))))))))))))))))))))))))))) ∧ (¬ (mI S1 1206 t) = 0 → (([] : List MV) = [] ∧ mret (some .int) (sp_wdv t b m F z X kz Q n j d B nn kC kZ) [.inr (.inr (some t)), .inr (.inr (some b)), .inr (.inr (some m))] S (some (.inl (0 : Int32))) S1 (addNC (insU B) (kz 45) 0) (addNS (insU B) (kz 45) 0)))))
    obtain ⟨hz0, hn, hbz, hB, hj, hbk⟩ := hp
    subst hbz
    have eu : nc_dU B = insU B := nc_t ⟨hfr, hkd⟩
    have j24 : j ≠ 24 ∧ j ≠ 23 ∧ j ≠ 20 ∧ 15 ≤ j := by rcases hj with w | w | w <;> omega
    have m6 : mI S1 1206 t = nI f := hz.1.2.1.1
    have ht := hz.1.1.1
    have kc : Keep (fun b => cO (F b).1 ∧ (F b).1 ≠ j) S S1 := hk1.mono (fun b _ w => by
      show cO (F b).1 ∧ (F b).1 ≠ j
      rcases w with w | w | w <;> rw [w]
      · exact ⟨⟨by decide, by decide⟩, fun e => j24.1 e.symm⟩
      · exact ⟨⟨by decide, by decide⟩, fun e => j24.2.1 e.symm⟩
      · exact ⟨⟨by decide, by decide⟩, fun e => j24.2.2.1 e.symm⟩)
    rw [m6]
    refine ⟨ht, fun f0 => ?_, fun f0 => ⟨rfl, trivial, ⟨_, rfl, 0, F1, X, Q.sFt f, rfl, by decide, Or.inr (Or.inr (Or.inl ⟨hfr, hkd, f, ?_, rfl, rfl⟩)), by rw [eu]; exact hz, hf1, kc⟩, ?_, ?_⟩⟩
    · have f0 : f = 0 := (nI_eq (by omega) (by decide)).1 f0
      subst f0
      obtain ⟨x, y, L, ⟨i1, i2, i3, i4, i5, i6⟩, i7, i8, i9, i10, i11, i12⟩ := hc.resolve_left (fun w => absurd w.1 (by decide))
      obtain ⟨sy, s1, s2, AA, s3⟩ : ∃ sy, (upk B (y 4) (x 4)).1 = true ∧ syms (rawT (upk B (y 4) (x 4))) = some sy ∧ ∃ A, rdAll B L (y 1) (y 2) (y 3) (x 1) (x 2) (x 3) sy.length = some A := by
        rcases i7 with ⟨e, -⟩ | ⟨sy, e1, e2, ⟨e, -⟩ | ⟨-, e3⟩⟩
        · exact absurd e (by decide)
        · exact absurd e (by decide)
        · exact ⟨sy, e1, e2, e3⟩
      have hrd : rdM B L (evAll AA sy) := ⟨x, y, sy, AA, i1, i2, s1, s2, s3, rfl⟩
      obtain ⟨A, H, W, r, a', d9, ea, kn, kr, cu9, hP⟩ := hz.2.1 n hn
      have hP : Pe S1 F1 n (z (30 + n)) A (X n) (Q.G n) (Q.T n) H W r a' d9 (upF kz 45 (capN (insU B) (kz 45) 0) (30 + n)) (Q.E n) ea kn kr (Q.Kn n) cu9 := hP
      have g := hP.gi
      have r1 : mR S1 1101 (z (30 + n)) = some (A 0) := hP.1.2.2.2.1
      have r5 : mR S1 1205 t = some (z 5) := hz.1.1.2.2.1 5 (by decide) (by decide) (by decide) (by decide)
      have hB1 : Bt S1 F1 j m d B nn := hB.keep hk1 (fun b e w => by rcases w with w | w | w <;> (rw [e] at w; omega)) hf1
      have pk4 : F1 (z 6) = (23, 4) := (hz.2.2.2.2.2.1).choose_spec.choose_spec.choose_spec.choose_spec.choose_spec.choose_spec.1.2.2.2.1
      have hO : brO F1 (n + 1) 24 (z 6) rq dr m d := fun b w => by
        have q : ∀ {u v : Nat}, F1 b = (u, v) → u ≠ 24 → u ≠ n + 1 → (F1 b).1 ≠ 24 ∧ (F1 b).1 ≠ n + 1 := fun {u v} e h1 h2 => by rw [e]; exact ⟨h1, h2⟩
        rcases w with w | w | w | w | w <;> subst w
        · exact q pk4 (by decide) (by omega)
        · exact q i9 (by decide) (by omega)
        · exact q i10 (by decide) (by omega)
        · exact q hB1.2.1 j24.1 (by omega)
        · exact q hB1.2.2.1 j24.1 (by omega)
      have el : ((List.range (Q.G n).n).map (X n).ad).length = (Q.G n).n := by rw [List.length_map, List.length_range]
      refine ⟨hP.1.1, pa_i r1 ⟨(g 0).1, rfl, pa_i (g 2).1 ⟨_, _, _, _, (g 2).2.2.2, by rw [eu]; omega, by rw [eu]; omega, ht, hP.1.1, rfl, pa_i r5 (pa_i r1 ⟨F1, 24, z 6, cu, ids, fnd, n + 1, A, X n, Q.G n, Q.T n, H, W, d, B, L, x, y, rq, dr, rawT (upk B (y 4) (x 4)), sy, AA, kC, kZ, ⟨rfl, hR, g, hz.fo, by omega, by omega, hB1.1, hfr.1, hB1.1.len, i1, i5, i3, i4, i6, i12, i11, i8, hO, s2, s3, hbk hfr hkd L _ hrd⟩, by rw [eu]; omega, by rw [eu]; omega, fun v S3 h3 => ?_⟩)⟩⟩⟩
      obtain ⟨F3, A3, X3, G3, T3, H3, W3, f3, rfl, hf3, b1, b2, b3, b4, b5, b6, b7, b8⟩ := h3
      have a0 : A3 0 = A 0 := b7 0 (by decide) (by decide) (by decide) (by decide)
      have nf : ∀ {b u v}, F1 b = (u, v) → u ≠ n + 1 → u ≠ 24 → ¬ ((F1 b).1 = n + 1 ∨ (F1 b).1 = 24) := fun {b u v} e h1 h2 w => by rw [e] at w; exact w.elim h1 h2
      have hP3 := hP.mv2 b2 a0 b6 (fun b v e => nf e (by omega) (by omega)) (fun b v e => nf e (by omega) (by omega)) b5 b3
      have hle := b1.le
      have wz : WTz S3 F3 t z (upF X n X3) (upF kz 45 (capN (insU B) (kz 45) 0)) ((Q.sFt 0).sPe n G3 T3 (Q.E n)) := hz.mv (O := fun o => o = n + 1 ∨ o = 24) b6 b5 b3 (hz.1.kp (O := fun o => o = n + 1 ∨ o = 24) b6 (fun w => by replace w : 20 = n + 1 ∨ 20 = 24 := w; omega) b5 (fun q hq => by
        by_cases e : q = n
        · subst e
          rw [show ((Q.sFt 0).sPe q G3 T3 (Q.E q)).G q = G3 from upF_s, upF_s]; exact ⟨hle, b8⟩
        · rw [show ((Q.sFt 0).sPe n G3 T3 (Q.E n)).G q = (Q.sFt 0).G q from upF_o e, upF_o e]; exact ⟨Nat.le_refl _, fun _ _ => rfl⟩) rfl rfl rfl rfl rfl rfl rfl rfl) (fun q hq => by
        by_cases e : q = n
        · subst e
          refine Or.inl ?_
          rw [upF_s, show ((Q.sFt 0).sPe q G3 T3 (Q.E q)).G q = G3 from upF_s, show ((Q.sFt 0).sPe q G3 T3 (Q.E q)).T q = T3 from upF_s, show ((Q.sFt 0).sPe q G3 T3 (Q.E q)).E q = Q.E q from upF_s]
          exact ⟨A3, H3, W3, r, a', d9, ea, kn, kr, cu9, hP3⟩
        · exact Or.inr ⟨(fun w => by replace w : q + 1 = n + 1 ∨ q + 1 = 24 := w; omega), (fun w => by replace w : q + 11 = n + 1 ∨ q + 11 = 24 := w; omega), (fun w => by replace w : q + 31 = n + 1 ∨ q + 31 = 24 := w; omega), upF_o e, upF_o e, upF_o e, upF_o e, rfl, rfl⟩) (Or.inr ⟨(fun w => by replace w : 21 = n + 1 ∨ 21 = 24 := w; omega), rfl, rfl⟩) (Or.inr ⟨(fun w => by replace w : 22 = n + 1 ∨ 22 = 24 := w; omega), rfl⟩) (fun k hk9 => Or.inr ⟨(fun w => by replace w : 50 + k = n + 1 ∨ 50 + k = 24 := w; omega), rfl, rfl⟩) (Or.inr ⟨(fun w => by replace w : 23 = n + 1 ∨ 23 = 24 := w; omega), fun _ _ _ => rfl⟩) (Or.inl ⟨cu, ids, fnd, b4⟩) (Or.inr ⟨(fun w => by replace w : 25 = n + 1 ∨ 25 = 24 := w; omega), rfl, rfl⟩)
      obtain ⟨y1, y2⟩ := wz.fault hf3
      have kt : Keep (fun b => b = t) S3 (sI S3 1206 t (nI f3)) := Keep.sI (P := fun b => b = t) Keep.rf rfl
      have ft3 := wz.1.1.2.1
      have n20 : ∀ {b u v}, F3 b = (u, v) → u ≠ 20 → b ≠ t := fun {b u v} e hu w => by rw [w, ft3] at e; injection e with e; exact hu e.symm
      have g3 : GI (sI S3 1206 t (nI f3)) F3 (n + 1) A3 X3 G3 T3 H3 W3 := b2.keep kt (fun b e w => by rw [w, ft3] at e; have e : 20 = n + 1 := e; omega) b3 (by omega) (fun _ _ => rfl)
      have r13 : mR (sI S3 1206 t (nI f3)) 1101 (z (30 + n)) = some (A3 0) := hP3.1.2.2.2.1
      have el3 : ((List.range G3.n).map X3.ad).length = G3.n := by rw [List.length_map, List.length_range]
      have gn3 := b2.ok.hn
      refine ⟨trivial, wz.1.1.1, isO_sI hP3.1.1, pa_i r13 ⟨(g3 0).1, rfl, pa_i (g3 2).1 ⟨_, _, _, _, (g3 2).2.2.2, by rw [eu]; omega, by rw [eu]; omega, rfl, ?_⟩⟩⟩
      rw [el3, el, pk_sub hle]
      refine ⟨trivial, ⟨_, rfl, G3.n - (Q.G n).n, F3, _, (Q.sPe n G3 T3 (Q.E n)).sFt f3, rfl, by omega, Or.inr (Or.inr (Or.inr ⟨hfr, hkd, L, evAll AA sy, G3, T3, f3, hrd, b1, hf3, hle, rfl, rfl⟩)), by rw [eu]; exact y1, fun b hb => (b5 b (hk1.1 b hb).1).trans (hf1 b hb), ?_⟩, ?_, ?_⟩
      · refine (kc.trN b6 (fun b hb w => ?_)).trN y2 (fun b hb w => ?_)
        · show cO (F b).1 ∧ (F b).1 ≠ j
          rw [← hf1 b hb]
          rcases w with w | w <;> rw [w]
          · exact ⟨⟨by omega, by omega⟩, by omega⟩
          · exact ⟨⟨by decide, by decide⟩, fun e => j24.1 e.symm⟩
        · show cO (F b).1 ∧ (F b).1 ≠ j
          rw [← hf1 b hb, ← b5 b (hk1.1 b hb).1, w]
          exact ⟨⟨by decide, by decide⟩, fun e => j24.2.2.1 e.symm⟩
      · show _ ≤ addNC (nc_dU B) (kz 45) 0 + kC
        rw [eu]; exact Nat.le_refl _
      · show _ ≤ addNS (nc_dU B) (kz 45) 0 + kZ
        rw [eu]; exact Nat.le_refl _
    · rcases hc with ⟨e1, e2⟩ | ⟨x, y, L, ⟨i1, i2, -⟩, i7, -⟩
      · rw [e1]; exact e2
      · rcases i7 with ⟨e, e2⟩ | ⟨sy, e1, e2, ⟨e, e3⟩ | ⟨e, -⟩⟩
        · exact Or.inr (Or.inl ⟨(nI_eq (by omega) (by decide)).1 (e.trans (show (3 : Int32) = nI 3 from rfl)), x, y, L, i1, i2, e2⟩)
        · exact Or.inr (Or.inr ⟨(nI_eq (by omega) (by decide)).1 (e.trans (show (4 : Int32) = nI 4 from rfl)), x, y, L, sy, i1, i2, e1, e2, e3⟩)
        · exact absurd e f0
    · show _ ≤ addNC (nc_dU B) (kz 45) 0 + kC
      rw [eu]; omega
    · show _ ≤ addNS (nc_dU B) (kz 45) 0 + kZ
      rw [eu]; omega
theorem u_wdv (l : Launch) : Us l yX11_deliver cX11_deliver 4 (some .int) 10 248 12 T_wdv := by
  intro Rc Rs av S cs sl K Kx h
  unfold T_wdv at h
  split at h
  · rename_i t_o b_o m_o
    obtain ⟨t, rfl, h_1⟩ := pa_of h
    obtain ⟨b, rfl, h_2⟩ := pa_of h_1
    obtain ⟨m, rfl, h_3⟩ := pa_of h_2
    obtain ⟨F, z, X, kz, Q, n, j, d, B, nn, kC, kZ, hp, hc, hs, hk⟩ := h_3
    refine ⟨(sp_wdv t b m F z X kz Q n j d B nn kC kZ), c_wdv l t b m F z X kz Q n j d B nn kC kZ, fun _ _ h9 => ⟨_, _, h9.1, h9.2.1.1.1.1⟩, ⟨rfl, hp⟩, hc, hs, fun v9 S' h8 => by
      obtain ⟨v8, h7, h8⟩ := h8
      cases h7
      exact hk _ _ h8, fun _ _ q => q.elim⟩
  · exact h.elim
