/-! ===== CALLS OVER BYTES ===== -/
section BTQ
variable {S S' : MM} {F : Nat → Nat × Nat} {j o d d' n : Nat} {B : List Nat} {vs : List Int32}
theorem App.own (h : Bt S F j o d B n) (hF : FO S F) (hj : j ≠ 0) (ha : App S S' o d d' B vs) : ∃ F', Bt S' F' j o d' (bPuts B vs) (capN vs.length n B.length) ∧ (∀ b, b ∈ mL S → F' b = F b) ∧ FO S' F' ∧ Keep (fun b => (F b).1 = j) S S' := by
  obtain ⟨h1, h2, h3, h4⟩ := h
  obtain ⟨a1, a2, a3, a4, a5⟩ := ha
  have kj : Keep (fun b => (F b).1 = j) S S' := a2.mono (fun b _ w => by rcases w with w | w <;> rw [w] <;> first | rw [h2] | rw [h3])
  rw [h4] at a5
  rcases a3 with e | e
  · subst e
    exact ⟨F, ⟨a1, h2, h3, a5⟩, fun _ _ => rfl, fun b hb => (kj.1 b (hF b hb)).1, kj⟩
  · refine ⟨fun b => if b = d' then (j, 2) else F b, ⟨a1, ?_, if_pos rfl, a5⟩, F_new e, FO_new hF (fun b hb => (kj.1 b hb).1) a1.2.2.1.1, kj⟩
    exact (F_new e o h1.1.1).trans h2
theorem Bt.clear (h : Bt S F j o d B n) : Bt (clr S o) F j o d [] n ∧ Keep (fun b => (F b).1 = j) S (clr S o) := ⟨⟨h.1.clear, h.2.1, h.2.2.1, h.2.2.2⟩, Keep.sI (P := fun b => (F b).1 = j) (Keep.sI (P := fun b => (F b).1 = j) Keep.rf (by rw [h.2.1])) (by rw [h.2.1])⟩
theorem App.ownC (h : Bt S F j o d B n) (hF : FO S F) (hj : j ≠ 0) (ha : App (clr S o) S' o d d' [] vs) : ∃ F', Bt S' F' j o d' (bPuts [] vs) (capN vs.length n 0) ∧ (∀ b, b ∈ mL S → F' b = F b) ∧ FO S' F' ∧ Keep (fun b => (F b).1 = j) S S' := by
  obtain ⟨c1, c2⟩ := h.clear
  obtain ⟨F', a1, a2, a3, a4⟩ := App.own c1 (fun b hb => (c2.1 b (hF b hb)).1) hj ha
  exact ⟨F', a1, fun b hb => a2 b (c2.1 b hb).1, a3, c2.tr a4⟩
end BTQ
section BTW
variable {S S' : MM} {F : Nat → Nat × Nat} {t : Nat} {z : Nat → Nat} {X : Nat → GX} {K : Nat → Nat} {Q : Ab}
theorem WTz.clrT (h : WTz S F t z X K Q) : WTz (clr S (z 0)) F t z X K (Q.sTp []) ∧ Keep (fun b => (F b).1 = 21) S (clr S (z 0)) := by
  obtain ⟨d, hd⟩ := h.2.2.1
  obtain ⟨c1, c2⟩ := hd.clear
  exact ⟨h.tape ⟨d, c1⟩ (fun _ _ => rfl) c2 (fun _ _ => rfl) (fun b hb => (c2.1 b (h.fo b hb)).1), c2⟩
end BTW
theorem cnts_neg {B : List Nat} (hB : B.length ≤ 32768) : cntS (syms B) 0 < 0 ↔ syms B = none := by
  cases e : syms B with
  | none => exact ⟨fun _ => rfl, fun _ => by show (-1 : Int32) < 0; decide⟩
  | some l =>
    refine ⟨fun h => ?_, fun h => by cases h⟩
    have hl := symsF_len (B := B) e
    exact absurd h (nI_pos (by show 0 + l.length < 2 ^ 31; omega))
def I_fi (t : Nat) (p x : Int32) (F : Nat → Nat × Nat) (X : Nat → GX) (kz : Nat → Nat) (Q : Ab) (S : MM) (k : Nat) : KT := fun lo st S1 cs sl => ∃ c n z g, k = 1 ∧ WTz S F t z X kz Q ∧ n < 4 ∧ p = nI n ∧ mR S 1101 (z (30 + n)) = some g ∧ ((c = 1 ∧ ∃ i, i ≤ visN (Q.G n) (Q.T n) ∧ x = nI i) ∨ (c = 0 ∧ np (visN (Q.G n) (Q.T n) + 1) x)) ∧ lo = [(0, .inr (.inr (some t))), (2, .inl x), (3, .inr (.inr (some g)))] ∧ st = [.inl c] ∧ S = S1 ∧ cs = 1 ∧ sl = 6
def I_fi2 (t : Nat) (p x : Int32) (F : Nat → Nat × Nat) (X : Nat → GX) (kz : Nat → Nat) (Q : Ab) (S : MM) (k : Nat) : KT := fun lo st S1 cs sl => ∃ v b n i z, k = 0 ∧ WTz S F t z X kz Q ∧ n < 4 ∧ p = nI n ∧ i ≤ visN (Q.G n) (Q.T n) ∧ x = nI i ∧ ((b = 1 ∧ ∃ sy, syms Q.tp = some sy ∧ v = findT Q.tp i (txtG (Q.G n) (Q.T n))) ∨ (b = 0 ∧ syms Q.tp = none)) ∧ lo = [(0, .inr (.inr (some t))), (4, .inl b)] ∧ st = [.inl v] ∧ S = S1 ∧ cs = 2 ∧ sl = 12
def T_wfi : TR := fun Rc Rs av S cs sl K Kx => match av with
  | [.inr (.inr t_o), .inl p, .inl x] => pa t_o fun t => (∃ (F : Nat → Nat × Nat) (X : Nat → GX) (kz : Nat → Nat) (Q : Ab), (WT S F t X kz Q) ∧ cs + 3 ≤ Rc ∧ sl + 18 ≤ Rs ∧ ((∀ (v : Int32) (S' : MM), (∃ n i sy, n < 4 ∧ p = nI n ∧ i ≤ visN (Q.G n) (Q.T n) ∧ x = nI i ∧ syms Q.tp = some sy ∧ v = findT Q.tp i (txtG (Q.G n) (Q.T n)) ∧ wtQ S S' F t X kz (Q.sTp [])) → K (some (.inl v)) S' (cs + 3) (sl + 18)) ∧ ((np 4 p ∨ ∃ n, n < 4 ∧ p = nI n ∧ np (visN (Q.G n) (Q.T n) + 1) x) → Kx 1 S (cs + 3) (sl + 18)) ∧ (∀ (S' : MM), (∃ n i, n < 4 ∧ p = nI n ∧ i ≤ visN (Q.G n) (Q.T n) ∧ x = nI i ∧ syms Q.tp = none ∧ wtQ S S' F t X kz (Q.sTp [])) → Kx 3 S' (cs + 3) (sl + 18))))
  | _ => False
def sp_wfi (t : Nat) (p : Int32) (x : Int32) (F : Nat → Nat × Nat) (X : Nat → GX) (kz : Nat → Nat) (Q : Ab) : Sp := (fun av S => av = [.inr (.inr (some t)), .inl p, .inl x] ∧ (WT S F t X kz Q), fun _ S => 3, fun _ S => 18, fun _ S rv S' => ∃ v, rv = (some (.inl v)) ∧ (∃ n i sy, n < 4 ∧ p = nI n ∧ i ≤ visN (Q.G n) (Q.T n) ∧ x = nI i ∧ syms Q.tp = some sy ∧ v = findT Q.tp i (txtG (Q.G n) (Q.T n)) ∧ wtQ S S' F t X kz (Q.sTp [])), fun _ S E S' => (E = 1 ∧ (np 4 p ∨ ∃ n, n < 4 ∧ p = nI n ∧ np (visN (Q.G n) (Q.T n) + 1) x) ∧ S' = S) ∨ (E = 3 ∧ (∃ n i, n < 4 ∧ p = nI n ∧ i ≤ visN (Q.G n) (Q.T n) ∧ x = nI i ∧ syms Q.tp = none ∧ wtQ S S' F t X kz (Q.sTp []))))
def tX11_find : CD := [(0, .aload_n 0), (1, .iload_n 1), (2, .invokevirtual 108), (5, .getfield 112), (8, .astore_n 3), (9, .iload_n 2), (10, .ifCond .lt 15), (13, .iload_n 2), (14, .aload_n 3), (15, .getfield 116), (18, .if_icmp .gt 7), (21, .iconst 1), (22, .goto 4), (25, .iconst 0), (26, .invokestatic 104), (29, .aload_n 0), (30, .getfield 10), (33, .invokevirtual 121), (36, .ifCond .lt 7), (39, .iconst 1), (40, .goto 4), (43, .iconst 0), (44, .istore 4), (46, .iload 4), (48, .ifCond .eq 15), (51, .aload_n 3), (52, .aload_n 0), (53, .getfield 10), (56, .iload_n 2), (57, .invokevirtual 172), (60, .goto 4), (63, .iconst (-1)), (64, .istore 5), (66, .aload_n 0), (67, .getfield 10), (70, .invokevirtual 133), (73, .iload 4), (75, .ifCond .ne 11), (78, .new 136), (81, .dup), (82, .invokespecial 138), (85, .athrow), (86, .iload 5), (88, .ireturn)]
set_option maxRecDepth 100000 in
theorem kX11_find : chk cX11_find tX11_find = true := by decide +kernel
theorem vX11_find_108 : ∀ w ∈ ([.methodLink RX11 108 yX11_peerOf, .instanceMethod yX11_peerOf, .selects yX11_peerOf.cls yX11_peerOf yX11_peerOf, .initialized yX11_peerOf.cls, .code yX11_peerOf cX11_peerOf 2 (some (.object "WeaveText$Peer"))] : List Cond), w ∈ lw_good := List.forall_mem_cons.mpr ⟨mgd 827 (by decide +kernel) (by decide +kernel), List.forall_mem_cons.mpr ⟨mgd 829 (by decide +kernel) (by decide +kernel), List.forall_mem_cons.mpr ⟨mgd 1 (by decide +kernel) (by decide +kernel), List.forall_mem_cons.mpr ⟨mgd 121 (by decide +kernel) (by decide +kernel), List.forall_mem_cons.mpr ⟨mgd 830 (by decide +kernel) (by decide +kernel), fun _ h => absurd h List.not_mem_nil⟩⟩⟩⟩⟩
theorem vX11_find_104 : ∀ w ∈ ([.methodLink RX11 104 yX11_require, .static yX11_require, .initialized yX11_require.cls, .code yX11_require cX11_require 1 none] : List Cond), w ∈ lw_good := List.forall_mem_cons.mpr ⟨mgd 801 (by decide +kernel) (by decide +kernel), List.forall_mem_cons.mpr ⟨mgd 802 (by decide +kernel) (by decide +kernel), List.forall_mem_cons.mpr ⟨mgd 121 (by decide +kernel) (by decide +kernel), List.forall_mem_cons.mpr ⟨mgd 803 (by decide +kernel) (by decide +kernel), fun _ h => absurd h List.not_mem_nil⟩⟩⟩⟩
theorem vX11_find_121 : ∀ w ∈ ([.methodLink RX11 121 yX1_countSymbols, .instanceMethod yX1_countSymbols, .selects yX1_countSymbols.cls yX1_countSymbols yX1_countSymbols, .initialized yX1_countSymbols.cls, .code yX1_countSymbols cX1_countSymbols 4 (some .int)] : List Cond), w ∈ lw_good := List.forall_mem_cons.mpr ⟨mgd 831 (by decide +kernel) (by decide +kernel), List.forall_mem_cons.mpr ⟨mgd 832 (by decide +kernel) (by decide +kernel), List.forall_mem_cons.mpr ⟨mgd 833 (by decide +kernel) (by decide +kernel), List.forall_mem_cons.mpr ⟨mgd 122 (by decide +kernel) (by decide +kernel), List.forall_mem_cons.mpr ⟨mgd 834 (by decide +kernel) (by decide +kernel), fun _ h => absurd h List.not_mem_nil⟩⟩⟩⟩⟩
theorem vX11_find_172 : ∀ w ∈ ([.methodLink RX11 172 yX5_search, .instanceMethod yX5_search, .selects yX5_search.cls yX5_search yX5_search, .initialized yX5_search.cls, .code yX5_search cX5_search 5 (some .int)] : List Cond), w ∈ lw_good := List.forall_mem_cons.mpr ⟨mgd 1181 (by decide +kernel) (by decide +kernel), List.forall_mem_cons.mpr ⟨mgd 1182 (by decide +kernel) (by decide +kernel), List.forall_mem_cons.mpr ⟨mgd 1183 (by decide +kernel) (by decide +kernel), List.forall_mem_cons.mpr ⟨mgd 125 (by decide +kernel) (by decide +kernel), List.forall_mem_cons.mpr ⟨mgd 1184 (by decide +kernel) (by decide +kernel), fun _ h => absurd h List.not_mem_nil⟩⟩⟩⟩⟩
theorem vX11_find_133 : ∀ w ∈ ([.methodLink RX11 133 yX1_clear, .instanceMethod yX1_clear, .selects yX1_clear.cls yX1_clear yX1_clear, .initialized yX1_clear.cls, .code yX1_clear cX1_clear 1 none] : List Cond), w ∈ lw_good := List.forall_mem_cons.mpr ⟨mgd 1052 (by decide +kernel) (by decide +kernel), List.forall_mem_cons.mpr ⟨mgd 1053 (by decide +kernel) (by decide +kernel), List.forall_mem_cons.mpr ⟨mgd 1054 (by decide +kernel) (by decide +kernel), List.forall_mem_cons.mpr ⟨mgd 122 (by decide +kernel) (by decide +kernel), List.forall_mem_cons.mpr ⟨mgd 1055 (by decide +kernel) (by decide +kernel), fun _ h => absurd h List.not_mem_nil⟩⟩⟩⟩⟩
set_option maxRecDepth 100000 in
set_option maxHeartbeats 2000000 in
theorem c_wfi (l : Launch) (hlt : l.stackTraces = false) : ∀ (t : Nat) (p : Int32) (x : Int32) (F : Nat → Nat × Nat) (X : Nat → GX) (kz : Nat → Nat) (Q : Ab), CtX l yX11_find (Cond.code yX11_find cX11_find 6 (some .int)) (some .int) 8 130 (sp_wfi t p x F X kz Q) := by
  intro t p x F X kz Q
  refine CtX.of hlt (fX11, nX11, aX11, iX11, lX11, [(108, 0, 2, 3, T_wpo), (104, 2, 1, 0, T_wrq), (121, 0, 1, 1, T_cnts), (172, 0, 3, 1, T_gsr), (133, 0, 1, 0, T_bclr)], qX11, gX11, thX11) false tX11_find (fun _ S => look [(26, ([0,2,3], I_fi t p x F X kz Q S)), (64, ([0,4], I_fi2 t p x F X kz Q S))]) (by decide) (by decide) kX11_find ⟨_, _, rfl⟩ fX11_ok nX11_ok aX11_ok iX11_ok lX11_ok (fun p e R s m args below meth c Q D cy z r A C hR1 hR2 => List.forall_mem_cons.mpr ⟨cOK_use (fun _ _ _ _ _ _ _ _ h => let ⟨sp, h1, h2, h3⟩ := u_wpo l hlt _ _ _ _ _ _ _ _ h; ⟨sp, cOKx_V C h1 vX11_find_108 ⟨by decide, by decide, by decide +kernel⟩ ⟨by rw [hR1]; decide, by rw [hR2]; decide⟩ (k := 12) (T := TX11) (N := 15) rfl (by decide) h2, h3⟩), List.forall_mem_cons.mpr ⟨cOK_use (fun _ _ _ _ _ _ _ _ h => let ⟨sp, h1, _, h3⟩ := u_wrq l hlt _ _ _ _ _ _ _ _ h; ⟨sp, cOKx_S C h1 vX11_find_104 ⟨by decide, by decide, by decide +kernel⟩ ⟨by rw [hR1]; decide, by rw [hR2]; decide⟩, h3⟩), List.forall_mem_cons.mpr ⟨cOK_use (fun _ _ _ _ _ _ _ _ h => let ⟨sp, h1, h2, h3⟩ := u_cnts l _ _ _ _ _ _ _ _ h; ⟨sp, cOK_V C h1 vX11_find_121 ⟨by decide, by decide, by decide +kernel⟩ ⟨by rw [hR1]; decide, by rw [hR2]; decide⟩ (k := 2) (T := TX1) (N := 3) rfl (by decide) h2, h3⟩), List.forall_mem_cons.mpr ⟨cOK_use (fun _ _ _ _ _ _ _ _ h => let ⟨sp, h1, h2, h3⟩ := u_gsr l _ _ _ _ _ _ _ _ h; ⟨sp, cOK_V C h1 vX11_find_172 ⟨by decide, by decide, by decide +kernel⟩ ⟨by rw [hR1]; decide, by rw [hR2]; decide⟩ (k := 6) (T := TX5) (N := 12) rfl (by decide) h2, h3⟩), List.forall_mem_cons.mpr ⟨cOK_use (fun _ _ _ _ _ _ _ _ h => let ⟨sp, h1, h2, h3⟩ := u_bclr l _ _ _ _ _ _ _ _ h; ⟨sp, cOK_V C h1 vX11_find_133 ⟨by decide, by decide, by decide +kernel⟩ ⟨by rw [hR1]; decide, by rw [hR2]; decide⟩ (k := 2) (T := TX1) (N := 3) rfl (by decide) h2, h3⟩), fun _ h => absurd h List.not_mem_nil⟩⟩⟩⟩⟩) qX11_ok gX11_ok (fun q hq => ⟨thX11_ok q hq, by decide, by decide⟩) ?_ ?_
  · rintro _ S ⟨rfl, hp⟩
    refine ⟨Nat.le_of_ble_eq_true rfl, 300, ?_⟩
    show (0 = 0 ∧ (∃ (F_1 : Nat → Nat × Nat) (z_2 : Nat → Nat), (SfA S F_1 t z_2) ∧ 0 + 1 ≤ 3 ∧ 0 + 6 ≤ 18 ∧ ((∀ (x_4 : Option Nat) (S_3 : MM), (S_3 = S ∧ ∃ n, n < 4 ∧ p = nI n ∧ x_4 = some (z_2 (30 + n))) → (pa x_4 fun a_5 => isO S_3 11 a_5 ∧ ((x < 0 → (∃ k1, I_fi t p x F X kz Q S k1 [(0, .inr (.inr (some t))), (2, .inl x), (3, .inr (.inr (mR S_3 1101 a_5)))] [.inl (0 : Int32)] S_3 (0 + 1) (0 + 6))) ∧ (¬ x < 0 → (pa (mR S_3 1101 a_5) fun a_6 => isO S_3 6 a_6 ∧ (((mI S_3 605 a_6) < x → (∃ k1, I_fi t p x F X kz Q S k1 [(0, .inr (.inr (some t))), (2, .inl x), (3, .inr (.inr (mR S_3 1101 a_5)))] [.inl (0 : Int32)] S_3 (0 + 1) (0 + 6))) ∧ (¬ (mI S_3 605 a_6) < x → (∃ k1, I_fi t p x F X kz Q S k1 [(0, .inr (.inr (some t))), (2, .inl x), (3, .inr (.inr (mR S_3 1101 a_5)))] [.inl (1 : Int32)] S_3 (0 + 1) (0 + 6))))))))) ∧ ((np 4 p) → mthr (sp_wfi t p x F X kz Q) [.inr (.inr (some t)), .inl p, .inl x] S 1 S (0 + 1) (0 + 6)))))
    obtain ⟨z, hz⟩ := hp
    refine ⟨rfl, F, z, hz.1.1, by decide, by decide, fun v S3 h => ?_, fun h => ⟨Or.inl ⟨rfl, Or.inl h, rfl⟩, Nat.le_of_ble_eq_true rfl, Nat.le_of_ble_eq_true rfl⟩⟩
    obtain ⟨rfl, n, hn, rfl, rfl⟩ := h
    obtain ⟨A, H, W, r, a', d, ea, kn, kr, cu, hP⟩ := hz.2.1 n hn
    have g := hP.gi
    have r1 : mR S3 1101 (z (30 + n)) = some (A 0) := hP.1.2.2.2.1
    have m5 : mI S3 605 (A 0) = nI (visN (Q.G n) (Q.T n)) := g 6
    have vl := g.vl
    refine pa_i rfl ?_
    rw [r1]
    have bad : np (visN (Q.G n) (Q.T n) + 1) x → ∃ k1, I_fi t (nI n) x F X kz Q S3 k1 [(0, .inr (.inr (some t))), (2, .inl x), (3, .inr (.inr (some (A 0))))] [.inl 0] S3 (0 + 1) (0 + 6) := fun q => ⟨1, 0, n, z, A 0, rfl, hz, hn, rfl, r1, Or.inr ⟨rfl, q⟩, rfl, rfl, rfl, rfl, rfl⟩
    refine ⟨hP.1.1, fun q => bad (np_lo (by omega) q), fun q3 => ⟨(g 0).1, ?_⟩⟩
    rw [m5]
    obtain ⟨j, hj, rfl⟩ := nI_of q3
    refine ⟨fun q => bad (fun j2 hj2 e => ?_), fun q => ⟨1, 1, n, z, A 0, rfl, hz, hn, rfl, r1, Or.inl ⟨rfl, j, ?_, rfl⟩, rfl, rfl, rfl, rfl, rfl⟩⟩
    · have := (nI_ltI (by omega) hj).1 q
      have := (nI_eq hj (by omega)).1 e
      omega
    · exact Nat.le_of_not_lt (fun w => q ((nI_ltI (by omega) hj).2 w))
  · intro av S hpre pc I hI k lo st S1 cs sl h
    obtain ⟨rfl, hp⟩ := hpre
    have hm := look_in hI
    simp only [List.mem_cons, List.not_mem_nil, or_false] at hm
    rcases hm with hm | hm
    · cases hm
      obtain ⟨c, n, z, g, rfl, hz, hn, hpn, r1, hc, rfl, rfl, rfl, rfl, rfl⟩ := h
      refine ⟨300, ?_⟩
      show (2 = 2 ∧ ((c = 0 ∨ c = 1) ∧ 1 + 1 ≤ 3 ∧ 6 + 6 ≤ 18 ∧ ((∀ (S_1 : MM), (S_1 = S ∧ c = 1) → (isO S_1 12 t ∧ (0 = 0 ∧ ((pa (mR S_1 1200 t) fun a_2 => (∃ (d_3 : Nat) (B_4 : List Nat), (By S_1 a_2 d_3 B_4) ∧ 1 + 1 ≤ 3 ∧ 6 + 6 ≤ 18 ∧ ((((cntS (syms B_4) 0) < 0 → (((0 : Int32) = 0 → (∃ k1, k1 < 1 ∧ I_fi2 t p x F X kz Q S k1 [(0, .inr (.inr (some t))), (4, .inl (0 : Int32))] [.inl (-1 : Int32)] S_1 (1 + 1) (6 + 6))) ∧ (¬ (0 : Int32) = 0 → (isO S_1 12 t ∧ (0 = 0 ∧ ((pa (mR S_1 1200 t) fun a_6 => (∃ (f_7 : Nat), x = nI f_7 ∧ (∃ (rt_8 d_9 : Nat) (B_10 R_11 : List Nat), (GCh S_1 g rt_8 R_11 ∧ By S_1 a_6 d_9 B_10 ∧ f_7 < 2147483648 ∧ R_11.length < 2147483648) ∧ 1 + 1 ≤ 3 ∧ 6 + 6 ≤ 18 ∧ ((∃ k1, k1 < 1 ∧ I_fi2 t p x F X kz Q S k1 [(0, .inr (.inr (some t))), (4, .inl (0 : Int32))] [.inl (findT B_10 f_7 (txt S_1 R_11))] S_1 (1 + 1) (6 + 6)))))))))))) ∧ (¬ (cntS (syms B_4) 0) < 0 → (((1 : Int32) = 0 → (∃ k1, k1 < 1 ∧ I_fi2 t p x F X kz Q S k1 [(0, .inr (.inr (some t))), (4, .inl (1 : Int32))] [.inl (-1 : Int32)] S_1 (1 + 1) (6 + 6))) ∧ (¬ (1 : Int32) = 0 → (isO S_1 12 t ∧ (0 = 0 ∧ ((pa (mR S_1 1200 t) fun a_13 => (∃ (f_14 : Nat), x = nI f_14 ∧ (∃ (rt_15 d_16 : Nat) (B_17 R_18 : List Nat), (GCh S_1 g rt_15 R_18 ∧ By S_1 a_13 d_16 B_17 ∧ f_14 < 2147483648 ∧ R_18.length < 2147483648) ∧ 1 + 1 ≤ 3 ∧ 6 + 6 ≤ 18 ∧ ((∃ k1, k1 < 1 ∧ I_fi2 t p x F X kz Q S k1 [(0, .inr (.inr (some t))), (4, .inl (1 : Int32))] [.inl (findT B_17 f_14 (txt S_1 R_18))] S_1 (1 + 1) (6 + 6)))))))))))))))))))) ∧ ((c = 0) → mthr (sp_wfi t p x F X kz Q) [.inr (.inr (some t)), .inl p, .inl x] S 1 S (1 + 1) (6 + 6)))))
      refine ⟨rfl, hc.elim (fun q => Or.inr q.1) (fun q => Or.inl q.1), by decide, by decide, fun S3 h3 => ?_, fun h0 => ⟨Or.inl ⟨rfl, Or.inr ⟨n, hn, hpn, hc.elim (fun q => absurd (q.1.symm.trans h0) (by decide)) (fun q => q.2)⟩, rfl⟩, Nat.le_of_ble_eq_true rfl, Nat.le_of_ble_eq_true rfl⟩⟩
      obtain ⟨rfl, rfl⟩ := h3
      obtain ⟨i, hi, exi⟩ : ∃ i, i ≤ visN (Q.G n) (Q.T n) ∧ x = nI i := hc.elim (fun q => q.2) (fun q => absurd q.1 (by decide))
      obtain ⟨A, H, W, r, a', d, ea, kn, kr, cu, hP⟩ := hz.2.1 n hn
      have gi := hP.gi
      have e0 : g = A 0 := Option.some.inj (r1.symm.trans hP.1.2.2.2.1)
      subst e0
      have r0 : mR S3 1200 t = some (z 0) := hz.1.1.2.2.1 0 (by decide) (by decide) (by decide) (by decide)
      obtain ⟨dt, ht⟩ := hz.2.2.1
      have vl := gi.vl
      have bad : ∀ v, syms Q.tp = none → I_fi2 t p x F X kz Q S3 0 [(0, .inr (.inr (some t))), (4, .inl 0)] [.inl v] S3 (1 + 1) (6 + 6) := fun v e => ⟨v, 0, n, i, z, rfl, hz, hn, hpn, hi, exi, Or.inr ⟨rfl, e⟩, rfl, rfl, rfl, rfl, rfl⟩
      have good : ∀ sy, syms Q.tp = some sy → I_fi2 t p x F X kz Q S3 0 [(0, .inr (.inr (some t))), (4, .inl 1)] [.inl (findT Q.tp i (txtG (Q.G n) (Q.T n)))] S3 (1 + 1) (6 + 6) := fun sy e => ⟨_, 1, n, i, z, rfl, hz, hn, hpn, hi, exi, Or.inl ⟨rfl, sy, e, rfl⟩, rfl, rfl, rfl, rfl, rfl⟩
      have hR : (((Q.T n).od.map (xa A (X n))).length) < 2147483648 := by
        rw [List.length_map]
        have := gi.odl
        have := gi.ok.hn
        omega
      refine ⟨hz.1.1.1, rfl, pa_i r0 ⟨dt, Q.tp, ht.1, by decide, by decide, fun q => ?_, fun q => ?_⟩⟩
      · exact ⟨fun _ => ⟨0, by decide, bad _ ((cnts_neg ht.1.len).1 q)⟩, fun w => absurd rfl w⟩
      · refine ⟨fun w => absurd w (by decide), fun _ => ⟨hz.1.1.1, rfl, pa_i r0 ⟨i, exi, A 1, dt, Q.tp, _, ⟨gi.gch, ht.1, by omega, hR⟩, by decide, by decide, 0, by decide, ?_⟩⟩⟩
        rw [txt_xa gi]
        cases e : syms Q.tp with
        | none => exact absurd ((cnts_neg ht.1.len).2 e) q
        | some sy => exact good sy e
    · cases hm
      obtain ⟨v, b, n, i, z, rfl, hz, hn, hpn, hi, exi, hc, rfl, rfl, rfl, rfl, rfl⟩ := h
      refine ⟨300, ?_⟩
      show (isO S 12 t ∧ (0 = 0 ∧ ((pa (mR S 1200 t) fun a_1 => ((isO S 2 a_1) ∧ 2 ≤ 3 ∧ 12 ≤ 18 ∧ (((¬ b = 0 → (([] : List MV) = [] ∧ mret (some .int) (sp_wfi t p x F X kz Q) [.inr (.inr (some t)), .inl p, .inl x] S (some (.inl v)) (clr S a_1) 2 12)) ∧ (b = 0 → (mthr (sp_wfi t p x F X kz Q) [.inr (.inr (some t)), .inl p, .inl x] S 3 (clr S a_1) (2 + 1) (12 + 6))))))))))
      have r0 : mR S 1200 t = some (z 0) := hz.1.1.2.2.1 0 (by decide) (by decide) (by decide) (by decide)
      obtain ⟨dt, ht⟩ := hz.2.2.1
      obtain ⟨c1, c2⟩ := hz.clrT
      have wq : wtQ S (clr S (z 0)) F t X kz (Q.sTp []) := ⟨F, ⟨z, c1⟩, fun _ _ => rfl, c2.mono (fun b _ e => by show cO (F b).1; rw [e]; exact ⟨by decide, by decide⟩)⟩
      refine ⟨hz.1.1.1, rfl, pa_i r0 ⟨ht.1.1, by decide, by decide, fun hb => ⟨rfl, trivial, ?_, Nat.le_of_ble_eq_true rfl, Nat.le_of_ble_eq_true rfl⟩, fun hb => ⟨Or.inr ⟨rfl, ?_⟩, Nat.le_of_ble_eq_true rfl, Nat.le_of_ble_eq_true rfl⟩⟩⟩
      · obtain ⟨-, sy, e1, e2⟩ := hc.resolve_right (fun q => hb q.1)
        exact ⟨_, rfl, n, i, sy, hn, hpn, hi, exi, e1, e2, wq⟩
      · obtain ⟨-, e1⟩ := hc.resolve_left (fun q => absurd (q.1.symm.trans hb) (by decide))
        exact ⟨n, i, hn, hpn, hi, exi, e1, wq⟩
theorem u_wfi (l : Launch) (hlt : l.stackTraces = false) : UsX l yX11_find (Cond.code yX11_find cX11_find 6 (some .int)) (some .int) 8 130 12 T_wfi := by
  intro Rc Rs av S cs sl K Kx h
  unfold T_wfi at h
  split at h
  · rename_i t_o p x
    obtain ⟨t, rfl, h_1⟩ := pa_of h
    obtain ⟨F, X, kz, Q, hp, hc, hs, hk, hx0, hx1⟩ := h_1
    refine ⟨(sp_wfi t p x F X kz Q), c_wfi l hlt t p x F X kz Q, fun _ _ h9 => ⟨_, _, h9.1, h9.2.choose_spec.1.1.1⟩, ⟨rfl, hp⟩, hc, hs, fun v9 S' h8 => by
      obtain ⟨v8, h7, h8⟩ := h8
      cases h7
      exact hk _ _ h8, fun _ _ q => by
      rcases q with ⟨rfl, q⟩ | ⟨rfl, q⟩
      · obtain ⟨q, rfl⟩ := q
        exact hx0 q
      · exact hx1 _ q⟩
  · exact h.elim
def I_oc (t : Nat) (s x : Int32) (F : Nat → Nat × Nat) (X : Nat → GX) (kz : Nat → Nat) (Q : Ab) (S : MM) (k : Nat) : KT := fun lo st S1 cs sl => ∃ c i z, k = 0 ∧ WTz S F t z X kz Q ∧ i < 8 ∧ s = nI i ∧ Q.sl i ≠ [] ∧ ¬ x < -1 ∧ ((c = 1 ∧ x < nI (Q.sl i).length) ∨ (c = 0 ∧ nI (Q.sl i).length ≤ x)) ∧ lo = [(2, .inl x), (3, .inr (.inr (some (z (20 + i)))))] ∧ st = [.inl c] ∧ S = S1 ∧ cs = 2 ∧ sl = 12
def T_woc : TR := fun Rc Rs av S cs sl K Kx => match av with
  | [.inr (.inr t_o), .inl s, .inl x] => pa t_o fun t => (∃ (F : Nat → Nat × Nat) (X : Nat → GX) (kz : Nat → Nat) (Q : Ab), (WT S F t X kz Q) ∧ cs + 4 ≤ Rc ∧ sl + 24 ≤ Rs ∧ ((∀ (v : Int32) (S' : MM), (S' = S ∧ ∃ i, i < 8 ∧ s = nI i ∧ Q.sl i ≠ [] ∧ ((x = -1 ∧ v = nI (Q.sl i).length) ∨ ∃ j, j < (Q.sl i).length ∧ x = nI j ∧ v = nI ((Q.sl i).getD j 0))) → K (some (.inl v)) S' (cs + 4) (sl + 24)) ∧ ((x < -1 ∨ np 8 s ∨ ∃ i, i < 8 ∧ s = nI i ∧ Q.sl i ≠ [] ∧ nI (Q.sl i).length ≤ x) → Kx 1 S (cs + 4) (sl + 24)) ∧ ((¬ x < -1 ∧ ∃ i, i < 8 ∧ s = nI i ∧ Q.sl i = []) → Kx 2 S (cs + 4) (sl + 24))))
  | _ => False
def sp_woc (t : Nat) (s : Int32) (x : Int32) (F : Nat → Nat × Nat) (X : Nat → GX) (kz : Nat → Nat) (Q : Ab) : Sp := (fun av S => av = [.inr (.inr (some t)), .inl s, .inl x] ∧ (WT S F t X kz Q), fun _ S => 4, fun _ S => 24, fun _ S rv S' => ∃ v, rv = (some (.inl v)) ∧ (S' = S ∧ ∃ i, i < 8 ∧ s = nI i ∧ Q.sl i ≠ [] ∧ ((x = -1 ∧ v = nI (Q.sl i).length) ∨ ∃ j, j < (Q.sl i).length ∧ x = nI j ∧ v = nI ((Q.sl i).getD j 0))), fun _ S E S' => (E = 1 ∧ (x < -1 ∨ np 8 s ∨ ∃ i, i < 8 ∧ s = nI i ∧ Q.sl i ≠ [] ∧ nI (Q.sl i).length ≤ x) ∧ S' = S) ∨ (E = 2 ∧ (¬ x < -1 ∧ ∃ i, i < 8 ∧ s = nI i ∧ Q.sl i = []) ∧ S' = S))
def tX11_octet : CD := [(0, .iload_n 2), (1, .iconst (-1)), (2, .if_icmp .lt 7), (5, .iconst 1), (6, .goto 4), (9, .iconst 0), (10, .invokestatic 104), (13, .aload_n 0), (14, .iload_n 1), (15, .invokevirtual 242), (18, .astore_n 3), (19, .aload_n 3), (20, .getfield 94), (23, .ifCond .ne 11), (26, .new 147), (29, .dup), (30, .invokespecial 149), (33, .athrow), (34, .iload_n 2), (35, .aload_n 3), (36, .getfield 94), (39, .if_icmp .ge 7), (42, .iconst 1), (43, .goto 4), (46, .iconst 0), (47, .invokestatic 104), (50, .iload_n 2), (51, .iconst (-1)), (52, .if_icmp .ne 10), (55, .aload_n 3), (56, .getfield 94), (59, .goto 8), (62, .aload_n 3), (63, .iload_n 2), (64, .invokevirtual 271), (67, .ireturn)]
set_option maxRecDepth 100000 in
theorem kX11_octet : chk cX11_octet tX11_octet = true := by decide +kernel
theorem vX11_octet_104 : ∀ w ∈ ([.methodLink RX11 104 yX11_require, .static yX11_require, .initialized yX11_require.cls, .code yX11_require cX11_require 1 none] : List Cond), w ∈ lw_good := List.forall_mem_cons.mpr ⟨mgd 801 (by decide +kernel) (by decide +kernel), List.forall_mem_cons.mpr ⟨mgd 802 (by decide +kernel) (by decide +kernel), List.forall_mem_cons.mpr ⟨mgd 121 (by decide +kernel) (by decide +kernel), List.forall_mem_cons.mpr ⟨mgd 803 (by decide +kernel) (by decide +kernel), fun _ h => absurd h List.not_mem_nil⟩⟩⟩⟩
theorem vX11_octet_242 : ∀ w ∈ ([.methodLink RX11 242 yX11_slotOf, .instanceMethod yX11_slotOf, .selects yX11_slotOf.cls yX11_slotOf yX11_slotOf, .initialized yX11_slotOf.cls, .code yX11_slotOf cX11_slotOf 2 (some (.object "WeaveText$Bytes"))] : List Cond), w ∈ lw_good := List.forall_mem_cons.mpr ⟨mgd 1327 (by decide +kernel) (by decide +kernel), List.forall_mem_cons.mpr ⟨mgd 1329 (by decide +kernel) (by decide +kernel), List.forall_mem_cons.mpr ⟨mgd 23 (by decide +kernel) (by decide +kernel), List.forall_mem_cons.mpr ⟨mgd 121 (by decide +kernel) (by decide +kernel), List.forall_mem_cons.mpr ⟨mgd 1330 (by decide +kernel) (by decide +kernel), fun _ h => absurd h List.not_mem_nil⟩⟩⟩⟩⟩
theorem vX11_octet_271 : ∀ w ∈ ([.methodLink RX11 271 yX1_get, .instanceMethod yX1_get, .selects yX1_get.cls yX1_get yX1_get, .initialized yX1_get.cls, .code yX1_get cX1_get 2 (some .int)] : List Cond), w ∈ lw_good := List.forall_mem_cons.mpr ⟨mgd 1468 (by decide +kernel) (by decide +kernel), List.forall_mem_cons.mpr ⟨mgd 840 (by decide +kernel) (by decide +kernel), List.forall_mem_cons.mpr ⟨mgd 841 (by decide +kernel) (by decide +kernel), List.forall_mem_cons.mpr ⟨mgd 122 (by decide +kernel) (by decide +kernel), List.forall_mem_cons.mpr ⟨mgd 842 (by decide +kernel) (by decide +kernel), fun _ h => absurd h List.not_mem_nil⟩⟩⟩⟩⟩
set_option maxRecDepth 100000 in
set_option maxHeartbeats 2000000 in
theorem c_woc (l : Launch) (hlt : l.stackTraces = false) : ∀ (t : Nat) (s : Int32) (x : Int32) (F : Nat → Nat × Nat) (X : Nat → GX) (kz : Nat → Nat) (Q : Ab), CtX l yX11_octet (Cond.code yX11_octet cX11_octet 4 (some .int)) (some .int) 8 130 (sp_woc t s x F X kz Q) := by
  intro t s x F X kz Q
  refine CtX.of hlt (fX11, nX11, aX11, iX11, lX11, [(104, 2, 1, 0, T_wrq), (242, 0, 2, 3, T_wso9), (271, 0, 2, 1, T_bget)], qX11, gX11, thX11) false tX11_octet (fun _ S => look [(47, ([2,3], I_oc t s x F X kz Q S))]) (by decide) (by decide) kX11_octet ⟨_, _, rfl⟩ fX11_ok nX11_ok aX11_ok iX11_ok lX11_ok (fun p e R s m args below meth c Q D cy z r A C hR1 hR2 => List.forall_mem_cons.mpr ⟨cOK_use (fun _ _ _ _ _ _ _ _ h => let ⟨sp, h1, _, h3⟩ := u_wrq l hlt _ _ _ _ _ _ _ _ h; ⟨sp, cOKx_S C h1 vX11_octet_104 ⟨by decide, by decide, by decide +kernel⟩ ⟨by rw [hR1]; decide, by rw [hR2]; decide⟩, h3⟩), List.forall_mem_cons.mpr ⟨cOK_use (fun _ _ _ _ _ _ _ _ h => let ⟨sp, h1, h2, h3⟩ := u_wso9 l hlt _ _ _ _ _ _ _ _ h; ⟨sp, cOKx_V C h1 vX11_octet_242 ⟨by decide, by decide, by decide +kernel⟩ ⟨by rw [hR1]; decide, by rw [hR2]; decide⟩ (k := 12) (T := TX11) (N := 15) rfl (by decide) h2, h3⟩), List.forall_mem_cons.mpr ⟨cOK_use (fun _ _ _ _ _ _ _ _ h => let ⟨sp, h1, h2, h3⟩ := u_bget l _ _ _ _ _ _ _ _ h; ⟨sp, cOK_V C h1 vX11_octet_271 ⟨by decide, by decide, by decide +kernel⟩ ⟨by rw [hR1]; decide, by rw [hR2]; decide⟩ (k := 2) (T := TX1) (N := 3) rfl (by decide) h2, h3⟩), fun _ h => absurd h List.not_mem_nil⟩⟩⟩) qX11_ok gX11_ok (fun q hq => ⟨thX11_ok q hq, by decide, by decide⟩) ?_ ?_
  · rintro _ S ⟨rfl, hp⟩
    refine ⟨Nat.le_of_ble_eq_true rfl, 300, ?_⟩
    show ((x < (-1 : Int32) → (2 = 2 ∧ (((0 : Int32) = 0 ∨ (0 : Int32) = 1) ∧ 0 + 1 ≤ 4 ∧ 0 + 6 ≤ 24 ∧ ((∀ (S_1 : MM), (S_1 = S ∧ (0 : Int32) = 1) → (0 = 0 ∧ (∃ (F_2 : Nat → Nat × Nat) (z_3 : Nat → Nat), (SfA S_1 F_2 t z_3) ∧ 0 + 1 + 1 ≤ 4 ∧ 0 + 6 + 6 ≤ 24 ∧ ((∀ (x_5 : Option Nat) (S_4 : MM), (S_4 = S_1 ∧ ∃ n, n < 8 ∧ s = nI n ∧ x_5 = some (z_3 (20 + n))) → (pa x_5 fun a_6 => isO S_4 2 a_6 ∧ ((¬ (mI S_4 201 a_6) = 0 → (pa x_5 fun a_7 => isO S_4 2 a_7 ∧ (((mI S_4 201 a_7) ≤ x → (∃ k1, I_oc t s x F X kz Q S k1 [(2, .inl x), (3, .inr (.inr x_5))] [.inl (0 : Int32)] S_4 (0 + 1 + 1) (0 + 6 + 6))) ∧ (¬ (mI S_4 201 a_7) ≤ x → (∃ k1, I_oc t s x F X kz Q S k1 [(2, .inl x), (3, .inr (.inr x_5))] [.inl (1 : Int32)] S_4 (0 + 1 + 1) (0 + 6 + 6)))))) ∧ ((mI S_4 201 a_6) = 0 → (mthr (sp_woc t s x F X kz Q) [.inr (.inr (some t)), .inl s, .inl x] S 2 S_4 (0 + 1 + 1 + 1) (0 + 6 + 6 + 6)))))) ∧ ((np 8 s) → mthr (sp_woc t s x F X kz Q) [.inr (.inr (some t)), .inl s, .inl x] S 1 S_1 (0 + 1 + 1) (0 + 6 + 6)))))) ∧ (((0 : Int32) = 0) → mthr (sp_woc t s x F X kz Q) [.inr (.inr (some t)), .inl s, .inl x] S 1 S (0 + 1) (0 + 6)))))) ∧ (¬ x < (-1 : Int32) → (2 = 2 ∧ (((1 : Int32) = 0 ∨ (1 : Int32) = 1) ∧ 0 + 1 ≤ 4 ∧ 0 + 6 ≤ 24 ∧ ((∀ (S_10 : MM), (S_10 = S ∧ (1 : Int32) = 1) → (0 = 0 ∧ (∃ (F_11 : Nat → Nat × Nat) (z_12 : Nat → Nat), (SfA S_10 F_11 t z_12) ∧ 0 + 1 + 1 ≤ 4 ∧ 0 + 6 + 6 ≤ 24 ∧ ((∀ (x_14 : Option Nat) (S_13 : MM), (S_13 = S_10 ∧ ∃ n, n < 8 ∧ s = nI n ∧ x_14 = some (z_12 (20 + n))) → (pa x_14 fun a_15 => isO S_13 2 a_15 ∧ ((¬ (mI S_13 201 a_15) = 0 → (pa x_14 fun a_16 => isO S_13 2 a_16 ∧ (((mI S_13 201 a_16) ≤ x → (∃ k1, I_oc t s x F X kz Q S k1 [(2, .inl x), (3, .inr (.inr x_14))] [.inl (0 : Int32)] S_13 (0 + 1 + 1) (0 + 6 + 6))) ∧ (¬ (mI S_13 201 a_16) ≤ x → (∃ k1, I_oc t s x F X kz Q S k1 [(2, .inl x), (3, .inr (.inr x_14))] [.inl (1 : Int32)] S_13 (0 + 1 + 1) (0 + 6 + 6)))))) ∧ ((mI S_13 201 a_15) = 0 → (mthr (sp_woc t s x F X kz Q) [.inr (.inr (some t)), .inl s, .inl x] S 2 S_13 (0 + 1 + 1 + 1) (0 + 6 + 6 + 6)))))) ∧ ((np 8 s) → mthr (sp_woc t s x F X kz Q) [.inr (.inr (some t)), .inl s, .inl x] S 1 S_10 (0 + 1 + 1) (0 + 6 + 6)))))) ∧ (((1 : Int32) = 0) → mthr (sp_woc t s x F X kz Q) [.inr (.inr (some t)), .inl s, .inl x] S 1 S (0 + 1) (0 + 6)))))))
    obtain ⟨z, hz⟩ := hp
    refine ⟨fun h => ⟨rfl, Or.inl rfl, by decide, by decide, rq0 ⟨Or.inl ⟨rfl, Or.inl h, rfl⟩, Nat.le_of_ble_eq_true rfl, Nat.le_of_ble_eq_true rfl⟩⟩, fun q1 => ⟨rfl, Or.inr rfl, by decide, by decide, rq1 ⟨rfl, F, z, hz.1.1, by decide, by decide, fun v S3 h => ?_, fun h => ⟨Or.inl ⟨rfl, Or.inr (Or.inl h), rfl⟩, Nat.le_of_ble_eq_true rfl, Nat.le_of_ble_eq_true rfl⟩⟩⟩⟩
    obtain ⟨rfl, i, hi, rfl, rfl⟩ := h
    obtain ⟨d, hd⟩ := hz.2.2.2.2.1 i hi
    have m1 : mI S3 201 (z (20 + i)) = nI (Q.sl i).length := hd.1.2.2.2.1
    have hl := hd.1.len
    refine pa_i rfl ⟨hd.1.1, ?_⟩
    rw [m1]
    refine ⟨fun h => ?_, fun h => ⟨Or.inr ⟨rfl, ⟨q1, i, hi, rfl, ?_⟩, rfl⟩, Nat.le_of_ble_eq_true rfl, Nat.le_of_ble_eq_true rfl⟩⟩
    · have hne : Q.sl i ≠ [] := fun e => h (by rw [e]; rfl)
      refine ⟨hd.1.1, ?_⟩
      rw [m1]
      exact ⟨fun q => ⟨0, 0, i, z, rfl, hz, hi, rfl, hne, q1, Or.inr ⟨rfl, q⟩, rfl, rfl, rfl, rfl, rfl⟩, fun q => ⟨0, 1, i, z, rfl, hz, hi, rfl, hne, q1, Or.inl ⟨rfl, Int32.not_le.1 q⟩, rfl, rfl, rfl, rfl, rfl⟩⟩
    · have := (nI_eq (a := (Q.sl i).length) (b := 0) (by omega) (by decide)).1 h
      exact List.eq_nil_of_length_eq_zero this
  · intro av S hpre pc I hI k lo st S1 cs sl h
    obtain ⟨rfl, hp⟩ := hpre
    have hm := look_in hI
    rw [List.mem_singleton] at hm
    cases hm
    obtain ⟨c, i, z, rfl, hz, hi, hsi, hne, q1, hc, rfl, rfl, rfl, rfl, rfl⟩ := h
    refine ⟨300, ?_⟩
    show (2 = 2 ∧ ((c = 0 ∨ c = 1) ∧ 2 + 1 ≤ 4 ∧ 12 + 6 ≤ 24 ∧ ((∀ (S_1 : MM), (S_1 = S ∧ c = 1) → ((¬ x = (-1 : Int32) → (0 = 0 ∧ (∃ (d_2 : Nat) (B_3 : List Nat), (By S_1 (z (20 + i)) d_2 B_3) ∧ 2 + 1 ≤ 4 ∧ 12 + 6 ≤ 24 ∧ ((([] : List MV) = [] ∧ mret (some .int) (sp_woc t s x F X kz Q) [.inr (.inr (some t)), .inl s, .inl x] S (some (.inl (bAt B_3 x))) S_1 (2 + 1) (12 + 6)))))) ∧ (x = (-1 : Int32) → (isO S_1 2 (z (20 + i)) ∧ (([] : List MV) = [] ∧ mret (some .int) (sp_woc t s x F X kz Q) [.inr (.inr (some t)), .inl s, .inl x] S (some (.inl (mI S_1 201 (z (20 + i))))) S_1 (2 + 1) (12 + 6)))))) ∧ ((c = 0) → mthr (sp_woc t s x F X kz Q) [.inr (.inr (some t)), .inl s, .inl x] S 1 S (2 + 1) (12 + 6)))))
    obtain ⟨d, hd⟩ := hz.2.2.2.2.1 i hi
    have m1 : mI S 201 (z (20 + i)) = nI (Q.sl i).length := hd.1.2.2.2.1
    have hl := hd.1.len
    refine ⟨rfl, hc.elim (fun q => Or.inr q.1) (fun q => Or.inl q.1), by decide, by decide, fun S3 h3 => ?_, fun h0 => ⟨Or.inl ⟨rfl, Or.inr (Or.inr ⟨i, hi, hsi, hne, hc.elim (fun q => absurd (q.1.symm.trans h0) (by decide)) (fun q => q.2)⟩), rfl⟩, Nat.le_of_ble_eq_true rfl, Nat.le_of_ble_eq_true rfl⟩⟩
    obtain ⟨rfl, rfl⟩ := h3
    have hx : x < nI (Q.sl i).length := hc.elim (fun q => q.2) (fun q => absurd q.1 (by decide))
    refine ⟨fun nx => ⟨rfl, d, Q.sl i, hd.1, by decide, by decide, rfl, trivial, ⟨_, rfl, rfl, i, hi, hsi, hne, Or.inr ?_⟩, Nat.le_of_ble_eq_true rfl, Nat.le_of_ble_eq_true rfl⟩, fun ex => ⟨hd.1.1, rfl, trivial, ⟨_, rfl, rfl, i, hi, hsi, hne, Or.inl ⟨ex, m1⟩⟩, Nat.le_of_ble_eq_true rfl, Nat.le_of_ble_eq_true rfl⟩⟩
    have x0 : ¬ x < 0 := fun w => nx (m1_of q1 w)
    obtain ⟨j, hj, rfl⟩ := rng (m := (Q.sl i).length) (by omega) x0 (fun w => absurd hx (Int32.not_lt.2 w))
    exact ⟨j, hj, rfl, by rw [bAt, if_neg x0, nI_clamp (by omega)]⟩
theorem u_woc (l : Launch) (hlt : l.stackTraces = false) : UsX l yX11_octet (Cond.code yX11_octet cX11_octet 4 (some .int)) (some .int) 8 130 12 T_woc := by
  intro Rc Rs av S cs sl K Kx h
  unfold T_woc at h
  split at h
  · rename_i t_o s x
    obtain ⟨t, rfl, h_1⟩ := pa_of h
    obtain ⟨F, X, kz, Q, hp, hc, hs, hk, hx0, hx1⟩ := h_1
    refine ⟨(sp_woc t s x F X kz Q), c_woc l hlt t s x F X kz Q, fun _ _ h9 => ⟨_, _, h9.1, h9.2.choose_spec.1.1.1⟩, ⟨rfl, hp⟩, hc, hs, fun v9 S' h8 => by
      obtain ⟨v8, h7, h8⟩ := h8
      cases h7
      exact hk _ _ h8, fun _ _ q => by
      rcases q with ⟨rfl, q⟩ | ⟨rfl, q⟩
      · obtain ⟨q, rfl⟩ := q
        exact hx0 q
      · obtain ⟨q, rfl⟩ := q
        exact hx1 q⟩
  · exact h.elim
theorem By.set {S : MM} {a d j w : Nat} {B : List Nat} (h : By S a d B) (hj : j < B.length) (hw : w < 256) : By (rI S d (upd (eI S d) j ((nI w).toInt8.toInt32.toInt8.toInt32))) a d (B.set j w) := by
  obtain ⟨h1, h2, h3, h4, h5, h6, h7, h8, h9⟩ := h
  have el : (B.set j w).length = B.length := List.length_set
  refine ⟨h1, h2, h3, by rw [el]; exact h4, by rw [el]; exact h5, h6, fun i => ?_, fun b hb => ?_, fun i hi => ?_⟩
  · rw [eI_rI, if_pos rfl]
    exact sb_fitU h7 (pk_fb _) i
  · rcases List.mem_or_eq_of_mem_set hb with q | q
    · exact h8 b q
    · rw [q]; exact hw
  · rw [el] at hi
    rw [eI_rI, if_pos rfl, List.getD_eq_getElem?_getD, List.getElem?_set]
    by_cases e : j = i
    · subst e
      rw [if_pos rfl, if_pos hj]
      show (if j = j then _ else _) &&& 255 = nI w
      rw [if_pos rfl, b8_st, b8_nI hw]
    · rw [if_neg e]
      show (if i = j then _ else _) &&& 255 = _
      rw [if_neg (fun q => e q.symm), h9 i hi, List.getD_eq_getElem?_getD]
/-- the flag that tells of what is foreign -/
theorem Sf.flag {S : MM} {F : Nat → Nat × Nat} {t : Nat} {z : Nat → Nat} {X : Nat → GX} {K : Nat → Nat} {Q : Ab} (h : Sf S F t z X K Q) {f : Nat} (hf : f < 2) : Sf (sI S 1207 t (nI f)) F t z X K (Q.sFo f) := by
  obtain ⟨f1, f2, f3, f8, f9, f10, f13, f14⟩ := h.ne
  obtain ⟨h1, ⟨b1, b2, b3, b4, b5, b6, b7⟩, h3, h4⟩ := h
  have hk : Keep (fun b => b = t) S (sI S 1207 t (nI f)) := Keep.sI (P := fun b => b = t) Keep.rf rfl
  have m : ∀ c, c ≠ 1207 → mI (sI S 1207 t (nI f)) c t = mI S c t := fun c hc => by rw [mI_sI, if_neg (fun w => hc w.1)]
  exact ⟨⟨isO_sI h1.1, h1.2⟩, ⟨(m 1206 (by decide)).trans b1, b2, mI_sIs, hf, b5, b6, b7⟩, ⟨(m 1211 (by decide)).trans h3.1, h3.2⟩, h4⟩
theorem Sf.fault {S : MM} {F : Nat → Nat × Nat} {t : Nat} {z : Nat → Nat} {X : Nat → GX} {K : Nat → Nat} {Q : Ab} (h : Sf S F t z X K Q) {f : Nat} (hf : f < 8) : Sf (sI S 1206 t (nI f)) F t z X K (Q.sFt f) := by
  obtain ⟨h1, ⟨b1, b2, b3, b4, b5, b6, b7⟩, h3, h4⟩ := h
  have m : ∀ c, c ≠ 1206 → mI (sI S 1206 t (nI f)) c t = mI S c t := fun c hc => by rw [mI_sI, if_neg (fun w => hc w.1)]
  exact ⟨⟨isO_sI h1.1, h1.2⟩, ⟨mI_sIs, hf, (m 1207 (by decide)).trans b3, b4, b5, b6, b7⟩, ⟨(m 1211 (by decide)).trans h3.1, h3.2⟩, h4⟩
theorem WTz.flag {S : MM} {F : Nat → Nat × Nat} {t : Nat} {z : Nat → Nat} {X : Nat → GX} {K : Nat → Nat} {Q : Ab} (h : WTz S F t z X K Q) {f : Nat} (hf : f < 2) : WTz (sI S 1207 t (nI f)) F t z X K (Q.sFo f) ∧ Keep (fun b => (F b).1 = 20) S (sI S 1207 t (nI f)) := by
  have k : Keep (fun b => (F b).1 = 20) S (sI S 1207 t (nI f)) := Keep.sI (P := fun b => (F b).1 = 20) Keep.rf (by rw [h.1.1.2.1])
  exact ⟨h.self (h.1.flag hf) (fun _ _ => rfl) rfl rfl rfl rfl rfl rfl rfl k (fun _ _ => rfl) h.fo, k⟩
theorem WTz.fault {S : MM} {F : Nat → Nat × Nat} {t : Nat} {z : Nat → Nat} {X : Nat → GX} {K : Nat → Nat} {Q : Ab} (h : WTz S F t z X K Q) {f : Nat} (hf : f < 8) : WTz (sI S 1206 t (nI f)) F t z X K (Q.sFt f) ∧ Keep (fun b => (F b).1 = 20) S (sI S 1206 t (nI f)) := by
  have k : Keep (fun b => (F b).1 = 20) S (sI S 1206 t (nI f)) := Keep.sI (P := fun b => (F b).1 = 20) Keep.rf (by rw [h.1.1.2.1])
  exact ⟨h.self (h.1.fault hf) (fun _ _ => rfl) rfl rfl rfl rfl rfl rfl rfl k (fun _ _ => rfl) h.fo, k⟩
def I_a1 (t : Nat) (s x w : Int32) (S : MM) (k : Nat) : KT := fun lo st S1 cs sl => ∃ c, k = 1 ∧ ((c = 1 ∧ ∃ v, v < 256 ∧ w = nI v) ∨ (c = 0 ∧ np 256 w)) ∧ lo = [(0, .inr (.inr (some t))), (1, .inl s), (2, .inl x), (3, .inl w)] ∧ st = [.inl c] ∧ S = S1 ∧ cs = 0 ∧ sl = 0
def I_a2 (t : Nat) (s x w : Int32) (F : Nat → Nat × Nat) (X : Nat → GX) (kz : Nat → Nat) (Q : Ab) (S : MM) (k : Nat) : KT := fun lo st S1 cs sl => ∃ c v i z, k = 0 ∧ WTz S F t z X kz Q ∧ v < 256 ∧ w = nI v ∧ i < 8 ∧ s = nI i ∧ Q.sl i ≠ [] ∧ ((c = 1 ∧ ∃ j, j < (Q.sl i).length ∧ x = nI j) ∨ (c = 0 ∧ np (Q.sl i).length x)) ∧ lo = [(0, .inr (.inr (some t))), (2, .inl x), (3, .inl w), (4, .inr (.inr (some (z (20 + i)))))] ∧ st = [.inl c] ∧ S = S1 ∧ cs = 2 ∧ sl = 12
def T_wal : TR := fun Rc Rs av S cs sl K Kx => match av with
  | [.inr (.inr t_o), .inl s, .inl x, .inl w] => pa t_o fun t => (∃ (F : Nat → Nat × Nat) (X : Nat → GX) (kz : Nat → Nat) (Q : Ab), (WT S F t X kz Q) ∧ cs + 4 ≤ Rc ∧ sl + 24 ≤ Rs ∧ ((∀ (v : Int32) (S' : MM), (∃ i j b, i < 8 ∧ s = nI i ∧ j < (Q.sl i).length ∧ x = nI j ∧ b < 256 ∧ w = nI b ∧ v = nI ((Q.sl i).getD j 0) ∧ wtQ S S' F t X kz ((Q.sSl (upF Q.sl i ((Q.sl i).set j b))).sFo (if Q.fo = 1 ∨ (Q.sl i).getD j 0 ≠ b then 1 else 0))) → K (some (.inl v)) S' (cs + 4) (sl + 24)) ∧ ((np 256 w ∨ np 8 s ∨ ∃ i, i < 8 ∧ s = nI i ∧ Q.sl i ≠ [] ∧ np (Q.sl i).length x) → Kx 1 S (cs + 4) (sl + 24)) ∧ ((¬ np 256 w ∧ ∃ i, i < 8 ∧ s = nI i ∧ Q.sl i = []) → Kx 2 S (cs + 4) (sl + 24))))
  | _ => False
def sp_wal (t : Nat) (s : Int32) (x : Int32) (w : Int32) (F : Nat → Nat × Nat) (X : Nat → GX) (kz : Nat → Nat) (Q : Ab) : Sp := (fun av S => av = [.inr (.inr (some t)), .inl s, .inl x, .inl w] ∧ (WT S F t X kz Q), fun _ S => 4, fun _ S => 24, fun _ S rv S' => ∃ v, rv = (some (.inl v)) ∧ (∃ i j b, i < 8 ∧ s = nI i ∧ j < (Q.sl i).length ∧ x = nI j ∧ b < 256 ∧ w = nI b ∧ v = nI ((Q.sl i).getD j 0) ∧ wtQ S S' F t X kz ((Q.sSl (upF Q.sl i ((Q.sl i).set j b))).sFo (if Q.fo = 1 ∨ (Q.sl i).getD j 0 ≠ b then 1 else 0))), fun _ S E S' => (E = 1 ∧ (np 256 w ∨ np 8 s ∨ ∃ i, i < 8 ∧ s = nI i ∧ Q.sl i ≠ [] ∧ np (Q.sl i).length x) ∧ S' = S) ∨ (E = 2 ∧ (¬ np 256 w ∧ ∃ i, i < 8 ∧ s = nI i ∧ Q.sl i = []) ∧ S' = S))
def tX11_alter : CD := [(0, .iload_n 3), (1, .ifCond .lt 14), (4, .iload_n 3), (5, .sipush 256), (8, .if_icmp .ge 7), (11, .iconst 1), (12, .goto 4), (15, .iconst 0), (16, .invokestatic 104), (19, .aload_n 0), (20, .iload_n 1), (21, .invokevirtual 242), (24, .astore 4), (26, .aload 4), (28, .getfield 94), (31, .ifCond .ne 11), (34, .new 147), (37, .dup), (38, .invokespecial 149), (41, .athrow), (42, .iload_n 2), (43, .ifCond .lt 16), (46, .iload_n 2), (47, .aload 4), (49, .getfield 94), (52, .if_icmp .ge 7), (55, .iconst 1), (56, .goto 4), (59, .iconst 0), (60, .invokestatic 104), (63, .aload 4), (65, .iload_n 2), (66, .invokevirtual 271), (69, .istore 5), (71, .aload 4), (73, .getfield 273), (76, .iload_n 2), (77, .iload_n 3), (78, .i2b), (79, .bastore), (80, .aload_n 0), (81, .aload_n 0), (82, .getfield 33), (85, .ifCond .ne 9), (88, .iload 5), (90, .iload_n 3), (91, .if_icmp .eq 7), (94, .iconst 1), (95, .goto 4), (98, .iconst 0), (99, .putfield 33), (102, .iload 5), (104, .ireturn)]
set_option maxRecDepth 100000 in
theorem kX11_alter : chk cX11_alter tX11_alter = true := by decide +kernel
theorem vX11_alter_104 : ∀ w ∈ ([.methodLink RX11 104 yX11_require, .static yX11_require, .initialized yX11_require.cls, .code yX11_require cX11_require 1 none] : List Cond), w ∈ lw_good := List.forall_mem_cons.mpr ⟨mgd 801 (by decide +kernel) (by decide +kernel), List.forall_mem_cons.mpr ⟨mgd 802 (by decide +kernel) (by decide +kernel), List.forall_mem_cons.mpr ⟨mgd 121 (by decide +kernel) (by decide +kernel), List.forall_mem_cons.mpr ⟨mgd 803 (by decide +kernel) (by decide +kernel), fun _ h => absurd h List.not_mem_nil⟩⟩⟩⟩
theorem vX11_alter_242 : ∀ w ∈ ([.methodLink RX11 242 yX11_slotOf, .instanceMethod yX11_slotOf, .selects yX11_slotOf.cls yX11_slotOf yX11_slotOf, .initialized yX11_slotOf.cls, .code yX11_slotOf cX11_slotOf 2 (some (.object "WeaveText$Bytes"))] : List Cond), w ∈ lw_good := List.forall_mem_cons.mpr ⟨mgd 1327 (by decide +kernel) (by decide +kernel), List.forall_mem_cons.mpr ⟨mgd 1329 (by decide +kernel) (by decide +kernel), List.forall_mem_cons.mpr ⟨mgd 23 (by decide +kernel) (by decide +kernel), List.forall_mem_cons.mpr ⟨mgd 121 (by decide +kernel) (by decide +kernel), List.forall_mem_cons.mpr ⟨mgd 1330 (by decide +kernel) (by decide +kernel), fun _ h => absurd h List.not_mem_nil⟩⟩⟩⟩⟩
theorem vX11_alter_271 : ∀ w ∈ ([.methodLink RX11 271 yX1_get, .instanceMethod yX1_get, .selects yX1_get.cls yX1_get yX1_get, .initialized yX1_get.cls, .code yX1_get cX1_get 2 (some .int)] : List Cond), w ∈ lw_good := List.forall_mem_cons.mpr ⟨mgd 1468 (by decide +kernel) (by decide +kernel), List.forall_mem_cons.mpr ⟨mgd 840 (by decide +kernel) (by decide +kernel), List.forall_mem_cons.mpr ⟨mgd 841 (by decide +kernel) (by decide +kernel), List.forall_mem_cons.mpr ⟨mgd 122 (by decide +kernel) (by decide +kernel), List.forall_mem_cons.mpr ⟨mgd 842 (by decide +kernel) (by decide +kernel), fun _ h => absurd h List.not_mem_nil⟩⟩⟩⟩⟩
set_option maxRecDepth 100000 in
set_option maxHeartbeats 2000000 in
theorem c_wal (l : Launch) (hlt : l.stackTraces = false) : ∀ (t : Nat) (s : Int32) (x : Int32) (w : Int32) (F : Nat → Nat × Nat) (X : Nat → GX) (kz : Nat → Nat) (Q : Ab), CtX l yX11_alter (Cond.code yX11_alter cX11_alter 6 (some .int)) (some .int) 8 130 (sp_wal t s x w F X kz Q) := by
  intro t s x w F X kz Q
  refine CtX.of hlt (fX11, nX11, aX11, iX11, lX11, [(104, 2, 1, 0, T_wrq), (242, 0, 2, 3, T_wso9), (271, 0, 2, 1, T_bget)], qX11, gX11, thX11) false tX11_alter (fun _ S => look [(16, ([0,1,2,3], I_a1 t s x w S)), (60, ([0,2,3,4], I_a2 t s x w F X kz Q S))]) (by decide) (by decide) kX11_alter ⟨_, _, rfl⟩ fX11_ok nX11_ok aX11_ok iX11_ok lX11_ok (fun p e R s m args below meth c Q D cy z r A C hR1 hR2 => List.forall_mem_cons.mpr ⟨cOK_use (fun _ _ _ _ _ _ _ _ h => let ⟨sp, h1, _, h3⟩ := u_wrq l hlt _ _ _ _ _ _ _ _ h; ⟨sp, cOKx_S C h1 vX11_alter_104 ⟨by decide, by decide, by decide +kernel⟩ ⟨by rw [hR1]; decide, by rw [hR2]; decide⟩, h3⟩), List.forall_mem_cons.mpr ⟨cOK_use (fun _ _ _ _ _ _ _ _ h => let ⟨sp, h1, h2, h3⟩ := u_wso9 l hlt _ _ _ _ _ _ _ _ h; ⟨sp, cOKx_V C h1 vX11_alter_242 ⟨by decide, by decide, by decide +kernel⟩ ⟨by rw [hR1]; decide, by rw [hR2]; decide⟩ (k := 12) (T := TX11) (N := 15) rfl (by decide) h2, h3⟩), List.forall_mem_cons.mpr ⟨cOK_use (fun _ _ _ _ _ _ _ _ h => let ⟨sp, h1, h2, h3⟩ := u_bget l _ _ _ _ _ _ _ _ h; ⟨sp, cOK_V C h1 vX11_alter_271 ⟨by decide, by decide, by decide +kernel⟩ ⟨by rw [hR1]; decide, by rw [hR2]; decide⟩ (k := 2) (T := TX1) (N := 3) rfl (by decide) h2, h3⟩), fun _ h => absurd h List.not_mem_nil⟩⟩⟩) qX11_ok gX11_ok (fun q hq => ⟨thX11_ok q hq, by decide, by decide⟩) ?_ ?_
  · rintro _ S ⟨rfl, hp⟩
    refine ⟨Nat.le_of_ble_eq_true rfl, 300, ?_⟩
    show ((w < 0 → (∃ k1, I_a1 t s x w S k1 [(0, .inr (.inr (some t))), (1, .inl s), (2, .inl x), (3, .inl w)] [.inl (0 : Int32)] S 0 0)) ∧ (¬ w < 0 → (((256 : Int32) ≤ w → (∃ k1, I_a1 t s x w S k1 [(0, .inr (.inr (some t))), (1, .inl s), (2, .inl x), (3, .inl w)] [.inl (0 : Int32)] S 0 0)) ∧ (¬ (256 : Int32) ≤ w → (∃ k1, I_a1 t s x w S k1 [(0, .inr (.inr (some t))), (1, .inl s), (2, .inl x), (3, .inl w)] [.inl (1 : Int32)] S 0 0)))))
    exact ⟨fun h => ⟨1, 0, rfl, Or.inr ⟨rfl, np_lo (by decide) h⟩, rfl, rfl, rfl, rfl, rfl⟩, fun h1 => ⟨fun h => ⟨1, 0, rfl, Or.inr ⟨rfl, np_hi (by decide) h⟩, rfl, rfl, rfl, rfl, rfl⟩, fun h2 => ⟨1, 1, rfl, Or.inl ⟨rfl, rng (m := 256) (by decide) h1 h2⟩, rfl, rfl, rfl, rfl, rfl⟩⟩⟩
  · intro av S hpre pc I hI k lo st S1 cs sl h
    obtain ⟨rfl, hp⟩ := hpre
    have hm := look_in hI
    simp only [List.mem_cons, List.not_mem_nil, or_false] at hm
    rcases hm with hm | hm
    · cases hm
      obtain ⟨c, rfl, hc, rfl, rfl, rfl, rfl, rfl⟩ := h
      refine ⟨300, ?_⟩
      show (2 = 2 ∧ ((c = 0 ∨ c = 1) ∧ 0 + 1 ≤ 4 ∧ 0 + 6 ≤ 24 ∧ ((∀ (S_1 : MM), (S_1 = S ∧ c = 1) → (0 = 0 ∧ (∃ (F_2 : Nat → Nat × Nat) (z_3 : Nat → Nat), (SfA S_1 F_2 t z_3) ∧ 0 + 1 + 1 ≤ 4 ∧ 0 + 6 + 6 ≤ 24 ∧ ((∀ (x_5 : Option Nat) (S_4 : MM), (S_4 = S_1 ∧ ∃ n, n < 8 ∧ s = nI n ∧ x_5 = some (z_3 (20 + n))) → (pa x_5 fun a_6 => isO S_4 2 a_6 ∧ ((¬ (mI S_4 201 a_6) = 0 → ((x < 0 → (∃ k1, k1 < 1 ∧ I_a2 t s x w F X kz Q S k1 [(0, .inr (.inr (some t))), (2, .inl x), (3, .inl w), (4, .inr (.inr x_5))] [.inl (0 : Int32)] S_4 (0 + 1 + 1) (0 + 6 + 6))) ∧ (¬ x < 0 → (pa x_5 fun a_7 => isO S_4 2 a_7 ∧ (((mI S_4 201 a_7) ≤ x → (∃ k1, k1 < 1 ∧ I_a2 t s x w F X kz Q S k1 [(0, .inr (.inr (some t))), (2, .inl x), (3, .inl w), (4, .inr (.inr x_5))] [.inl (0 : Int32)] S_4 (0 + 1 + 1) (0 + 6 + 6))) ∧ (¬ (mI S_4 201 a_7) ≤ x → (∃ k1, k1 < 1 ∧ I_a2 t s x w F X kz Q S k1 [(0, .inr (.inr (some t))), (2, .inl x), (3, .inl w), (4, .inr (.inr x_5))] [.inl (1 : Int32)] S_4 (0 + 1 + 1) (0 + 6 + 6)))))))) ∧ ((mI S_4 201 a_6) = 0 → (mthr (sp_wal t s x w F X kz Q) [.inr (.inr (some t)), .inl s, .inl x, .inl w] S 2 S_4 (0 + 1 + 1 + 1) (0 + 6 + 6 + 6)))))) ∧ ((np 8 s) → mthr (sp_wal t s x w F X kz Q) [.inr (.inr (some t)), .inl s, .inl x, .inl w] S 1 S_1 (0 + 1 + 1) (0 + 6 + 6)))))) ∧ ((c = 0) → mthr (sp_wal t s x w F X kz Q) [.inr (.inr (some t)), .inl s, .inl x, .inl w] S 1 S (0 + 1) (0 + 6)))))
      obtain ⟨z, hz⟩ := hp
      refine ⟨rfl, hc.elim (fun q => Or.inr q.1) (fun q => Or.inl q.1), by decide, by decide, fun S3 h3 => ?_, fun h0 => ⟨Or.inl ⟨rfl, Or.inl (hc.elim (fun q => absurd (q.1.symm.trans h0) (by decide)) (fun q => q.2)), rfl⟩, Nat.le_of_ble_eq_true rfl, Nat.le_of_ble_eq_true rfl⟩⟩
      obtain ⟨rfl, rfl⟩ := h3
      obtain ⟨v, hv, ew⟩ : ∃ v, v < 256 ∧ w = nI v := hc.elim (fun q => q.2) (fun q => absurd q.1 (by decide))
      have nw : ¬ np 256 w := fun q => q v hv ew
      refine ⟨rfl, F, z, hz.1.1, by decide, by decide, fun v9 S4 h => ?_, fun h => ⟨Or.inl ⟨rfl, Or.inr (Or.inl h), rfl⟩, Nat.le_of_ble_eq_true rfl, Nat.le_of_ble_eq_true rfl⟩⟩
      obtain ⟨rfl, i, hi, hsi, rfl⟩ := h
      obtain ⟨d, hd⟩ := hz.2.2.2.2.1 i hi
      have m1 : mI S4 201 (z (20 + i)) = nI (Q.sl i).length := hd.1.2.2.2.1
      have hl := hd.1.len
      refine pa_i rfl ⟨hd.1.1, ?_⟩
      rw [m1]
      refine ⟨fun h => ?_, fun h => ⟨Or.inr ⟨rfl, ⟨nw, i, hi, hsi, ?_⟩, rfl⟩, Nat.le_of_ble_eq_true rfl, Nat.le_of_ble_eq_true rfl⟩⟩
      · have hne : Q.sl i ≠ [] := fun e => h (by rw [e]; rfl)
        have bad : np (Q.sl i).length x → I_a2 t s x w F X kz Q S4 0 [(0, .inr (.inr (some t))), (2, .inl x), (3, .inl w), (4, .inr (.inr (some (z (20 + i)))))] [.inl 0] S4 (0 + 1 + 1) (0 + 6 + 6) := fun q => ⟨0, v, i, z, rfl, hz, hv, ew, hi, hsi, hne, Or.inr ⟨rfl, q⟩, rfl, rfl, rfl, rfl, rfl⟩
        refine ⟨fun q => ⟨0, by decide, bad (np_lo (by omega) q)⟩, fun q1 => ⟨hd.1.1, ?_⟩⟩
        rw [m1]
        exact ⟨fun q => ⟨0, by decide, bad (np_hi (by omega) q)⟩, fun q2 => ⟨0, by decide, 1, v, i, z, rfl, hz, hv, ew, hi, hsi, hne, Or.inl ⟨rfl, rng (by omega) q1 q2⟩, rfl, rfl, rfl, rfl, rfl⟩⟩
      · have := (nI_eq (a := (Q.sl i).length) (b := 0) (by omega) (by decide)).1 h
        exact List.eq_nil_of_length_eq_zero this
    · cases hm
      obtain ⟨c, v, i, z, rfl, hz, hv, ew, hi, hsi, hne, hc, rfl, rfl, rfl, rfl, rfl⟩ := h
      refine ⟨300, ?_⟩
      show (2 = 2 ∧ ((c = 0 ∨ c = 1) ∧ 2 + 1 ≤ 4 ∧ 12 + 6 ≤ 24 ∧ ((∀ (S_1 : MM), (S_1 = S ∧ c = 1) → (0 = 0 ∧ (∃ (d_2 : Nat) (B_3 : List Nat), (By S_1 (z (20 + i)) d_2 B_3) ∧ 2 + 1 ≤ 4 ∧ 12 + 6 ≤ 24 ∧ ((isO S_1 2 (z (20 + i)) ∧ (pa (mR S_1 200 (z (20 + i))) fun a_5 => ((isO S_1 16 a_5 ∧ inR S_1 a_5 x ∧ (isO (rI S_1 a_5 (upd (eI S_1 a_5) x.toNatClampNeg w.toInt8.toInt32.toInt8.toInt32)) 12 t ∧ ((¬ (mI (rI S_1 a_5 (upd (eI S_1 a_5) x.toNatClampNeg w.toInt8.toInt32.toInt8.toInt32)) 1207 t) = 0 → (True ∧ (isO (rI S_1 a_5 (upd (eI S_1 a_5) x.toNatClampNeg w.toInt8.toInt32.toInt8.toInt32)) 12 t ∧ ((1 : Int32) = 0 ∨ (1 : Int32) = 1) ∧ (([] : List MV) = [] ∧ mret (some .int) (sp_wal t s x w F X kz Q) [.inr (.inr (some t)), .inl s, .inl x, .inl w] S (some (.inl (bAt B_3 x))) (sI (rI S_1 a_5 (upd (eI S_1 a_5) x.toNatClampNeg w.toInt8.toInt32.toInt8.toInt32)) 1207 t (1 : Int32)) (2 + 1) (12 + 6))))) ∧ ((mI (rI S_1 a_5 (upd (eI S_1 a_5) x.toNatClampNeg w.toInt8.toInt32.toInt8.toInt32)) 1207 t) = 0 → (((bAt B_3 x) = w → (True ∧ (isO (rI S_1 a_5 (upd (eI S_1 a_5) x.toNatClampNeg w.toInt8.toInt32.toInt8.toInt32)) 12 t ∧ ((0 : Int32) = 0 ∨ (0 : Int32) = 1) ∧ (([] : List MV) = [] ∧ mret (some .int) (sp_wal t s x w F X kz Q) [.inr (.inr (some t)), .inl s, .inl x, .inl w] S (some (.inl (bAt B_3 x))) (sI (rI S_1 a_5 (upd (eI S_1 a_5) x.toNatClampNeg w.toInt8.toInt32.toInt8.toInt32)) 1207 t (0 : Int32)) (2 + 1) (12 + 6))))) ∧ (¬ (bAt B_3 x) = w → (True ∧ (isO (rI S_1 a_5 (upd (eI S_1 a_5) x.toNatClampNeg w.toInt8.toInt32.toInt8.toInt32)) 12 t ∧ ((1 : Int32) = 0 ∨ (1 : Int32) = 1) ∧ (([] : List MV) = [] ∧ mret (some .int) (sp_wal t s x w F X kz Q) [.inr (.inr (some t)), .inl s, .inl x, .inl w] S (some (.inl (bAt B_3 x))) (sI (rI S_1 a_5 (upd (eI S_1 a_5) x.toNatClampNeg w.toInt8.toInt32.toInt8.toInt32)) 1207 t (1 : Int32)) (2 + 1) (12 + 6)))))))))) ∨ (isO S_1 20 a_5 ∧ inR S_1 a_5 x ∧ (isO (rI S_1 a_5 (upd (eI S_1 a_5) x.toNatClampNeg (vp_nar .boolean w.toInt8.toInt32))) 12 t ∧ ((¬ (mI (rI S_1 a_5 (upd (eI S_1 a_5) x.toNatClampNeg (vp_nar .boolean w.toInt8.toInt32))) 1207 t) = 0 → (True ∧ (isO (rI S_1 a_5 (upd (eI S_1 a_5) x.toNatClampNeg (vp_nar .boolean w.toInt8.toInt32))) 12 t ∧ ((1 : Int32) = 0 ∨ (1 : Int32) = 1) ∧ (([] : List MV) = [] ∧ mret (some .int) (sp_wal t s x w F X kz Q) [.inr (.inr (some t)), .inl s, .inl x, .inl w] S (some (.inl (bAt B_3 x))) (sI (rI S_1 a_5 (upd (eI S_1 a_5) x.toNatClampNeg (vp_nar .boolean w.toInt8.toInt32))) 1207 t (1 : Int32)) (2 + 1) (12 + 6))))) ∧ ((mI (rI S_1 a_5 (upd (eI S_1 a_5) x.toNatClampNeg (vp_nar .boolean w.toInt8.toInt32))) 1207 t) = 0 → (((bAt B_3 x) = w → (True ∧ (isO (rI S_1 a_5 (upd (eI S_1 a_5) x.toNatClampNeg (vp_nar .boolean w.toInt8.toInt32))) 12 t ∧ ((0 : Int32) = 0 ∨ (0 : Int32) = 1) ∧ (([] : List MV) = [] ∧ mret (some .int) (sp_wal t s x w F X kz Q) [.inr (.inr (some t)), .inl s, .inl x, .inl w] S (some (.inl (bAt B_3 x))) (sI (rI S_1 a_5 (upd (eI S_1 a_5) x.toNatClampNeg (vp_nar .boolean w.toInt8.toInt32))) 1207 t (0 : Int32)) (2 + 1) (12 + 6))))) ∧ (¬ (bAt B_3 x) = w → (True ∧ (isO (rI S_1 a_5 (upd (eI S_1 a_5) x.toNatClampNeg (vp_nar .boolean w.toInt8.toInt32))) 12 t ∧ ((1 : Int32) = 0 ∨ (1 : Int32) = 1) ∧ (([] : List MV) = [] ∧ mret (some .int) (sp_wal t s x w F X kz Q) [.inr (.inr (some t)), .inl s, .inl x, .inl w] S (some (.inl (bAt B_3 x))) (sI (rI S_1 a_5 (upd (eI S_1 a_5) x.toNatClampNeg (vp_nar .boolean w.toInt8.toInt32))) 1207 t (1 : Int32)) (2 + 1) (12 + 6))))))))))))))))) ∧ ((c = 0) → mthr (sp_wal t s x w F X kz Q) [.inr (.inr (some t)), .inl s, .inl x, .inl w] S 1 S (2 + 1) (12 + 6)))))
      obtain ⟨d, hd⟩ := hz.2.2.2.2.1 i hi
      have hl := hd.1.len
      refine ⟨rfl, hc.elim (fun q => Or.inr q.1) (fun q => Or.inl q.1), by decide, by decide, fun S3 h3 => ?_, fun h0 => ⟨Or.inl ⟨rfl, Or.inr (Or.inr ⟨i, hi, hsi, hne, hc.elim (fun q => absurd (q.1.symm.trans h0) (by decide)) (fun q => q.2)⟩), rfl⟩, Nat.le_of_ble_eq_true rfl, Nat.le_of_ble_eq_true rfl⟩⟩
      obtain ⟨rfl, rfl⟩ := h3
      obtain ⟨j, hj, exj⟩ : ∃ j, j < (Q.sl i).length ∧ x = nI j := hc.elim (fun q => q.2) (fun q => absurd q.1 (by decide))
      have old : bAt (Q.sl i) x = nI ((Q.sl i).getD j 0) := by rw [exj, bAt, if_neg (nI_pos (by omega)), nI_clamp (by omega)]
      have cx : x.toNatClampNeg = j := by rw [exj]; exact nI_clamp (by omega)
      have cap := hd.1.2.2.2.2.1
      have capM := hd.1.cap.2
      have b256 : (Q.sl i).getD j 0 < 256 := hd.1.bytesLt _ (by rw [List.getD_eq_getElem?_getD, List.getElem?_eq_getElem hj]; exact List.getElem_mem hj)
      refine ⟨rfl, d, Q.sl i, hd.1, by decide, by decide, hd.1.1, pa_i hd.1.2.1 (Or.inl ⟨hd.1.2.2.1, by rw [exj]; exact inRn rfl (by omega) (by omega), hz.1.1.1, ?_⟩)⟩
      rw [cx, ew, old]
      have hB := hd.1.set hj hv
      have kd : Keep (fun b => (F b).1 = 50 + i) S3 (rI S3 d (upd (eI S3 d) j ((nI v).toInt8.toInt32.toInt8.toInt32))) := Keep.rI (P := fun b => (F b).1 = 50 + i) Keep.rf (by rw [hd.2.2.1])
      have w1 := hz.slot (K' := kz) hi ⟨d, hB, hd.2.1, hd.2.2.1, hd.2.2.2⟩ (fun _ _ => rfl) kd (fun _ _ => rfl) hz.fo
      generalize rI S3 d (upd (eI S3 d) j ((nI v).toInt8.toInt32.toInt8.toInt32)) = S9 at hB kd w1 ⊢
      have fin : ∀ f, f < 2 → f = (if Q.fo = 1 ∨ (Q.sl i).getD j 0 ≠ v then 1 else 0) → mret (some .int) (sp_wal t s x w F X kz Q) [.inr (.inr (some t)), .inl s, .inl x, .inl w] S3 (some (.inl (nI ((Q.sl i).getD j 0)))) (sI S9 1207 t (nI f)) (2 + 1) (12 + 6) := fun f hf ef => by
        obtain ⟨w2, k2⟩ := w1.flag hf
        refine ⟨trivial, ⟨_, rfl, i, j, v, hi, hsi, hj, exj, hv, ew, rfl, F, ⟨z, by rw [← ef]; exact w2⟩, fun _ _ => rfl, ?_⟩, Nat.le_of_ble_eq_true rfl, Nat.le_of_ble_eq_true rfl⟩
        exact (kd.mono (fun b _ e => by show cO (F b).1; rw [e]; exact ⟨by omega, by omega⟩)).tr (k2.mono (fun b _ e => by show cO (F b).1; rw [e]; exact ⟨by decide, by decide⟩))
      have m7 : mI S9 1207 t = nI Q.fo := w1.1.2.1.2.2.1
      have fo2 : Q.fo < 2 := w1.1.2.1.2.2.2.1
      have o9 : isO S9 12 t := w1.1.1.1
      rw [m7]
      refine ⟨fun q => ⟨trivial, o9, Or.inr rfl, rfl, ?_⟩, fun q => ⟨fun e => ⟨trivial, o9, Or.inl rfl, rfl, ?_⟩, fun ne => ⟨trivial, o9, Or.inr rfl, rfl, ?_⟩⟩⟩
      · rw [← ew]
        have q0 : Q.fo ≠ 0 := fun e => q (by rw [e]; rfl)
        have q1 : Q.fo = 1 := by omega
        exact fin 1 (by decide) (by rw [if_pos (Or.inl q1)])
      · rw [← ew]
        have q0 : Q.fo = 0 := (nI_eq (by omega) (by decide)).1 q
        have e2 := (nI_eq (by omega) (by omega)).1 e
        exact fin 0 (by decide) (by rw [if_neg (fun w => w.elim (fun w => by omega) (fun w => w e2))])
      · rw [← ew]
        exact fin 1 (by decide) (by rw [if_pos (Or.inr (fun e => ne (by rw [e])))])
theorem u_wal (l : Launch) (hlt : l.stackTraces = false) : UsX l yX11_alter (Cond.code yX11_alter cX11_alter 6 (some .int)) (some .int) 8 130 12 T_wal := by
  intro Rc Rs av S cs sl K Kx h
  unfold T_wal at h
  split at h
  · rename_i t_o s x w
    obtain ⟨t, rfl, h_1⟩ := pa_of h
    obtain ⟨F, X, kz, Q, hp, hc, hs, hk, hx0, hx1⟩ := h_1
    refine ⟨(sp_wal t s x w F X kz Q), c_wal l hlt t s x w F X kz Q, fun _ _ h9 => ⟨_, _, h9.1, h9.2.choose_spec.1.1.1⟩, ⟨rfl, hp⟩, hc, hs, fun v9 S' h8 => by
      obtain ⟨v8, h7, h8⟩ := h8
      cases h7
      exact hk _ _ h8, fun _ _ q => by
      rcases q with ⟨rfl, q⟩ | ⟨rfl, q⟩
      · obtain ⟨q, rfl⟩ := q
        exact hx0 q
      · obtain ⟨q, rfl⟩ := q
        exact hx1 q⟩
  · exact h.elim
/-! feed, announce -/
def wordB (w : Int32) : List Int32 := [ush w 24, ush w 16, ush w 8, w]
def feedB (a b c d e : Int32) : List Int32 := wordB a ++ wordB b ++ wordB c ++ wordB d ++ wordB e
theorem addNC_le {n m cap len : Nat} (h : n ≤ m) : addNC n cap len ≤ addNC m cap len := by
  obtain ⟨k, rfl⟩ := Nat.le.dest h
  rw [addNC_add]; exact Nat.le_add_right _ _
theorem addNS_le {n m cap len : Nat} (h : n ≤ m) : addNS n cap len ≤ addNS m cap len := by
  obtain ⟨k, rfl⟩ := Nat.le.dest h
  rw [addNS_add]; exact Nat.le_add_right _ _
theorem fd_st {S S1 : MM} {F : Nat → Nat × Nat} {t : Nat} {z : Nat → Nat} {X : Nat → GX} {kz : Nat → Nat} {Q : Ab} {dd d1 : Nat} {ws : List Int32} (hz : WTz S F t z X kz Q) (hB : Bt S F 21 (z 0) dd Q.tp (kz 0)) (hl : Q.tp.length + 20 ≤ 32768) (hA : App S S1 (z 0) dd d1 Q.tp ws) : isO S1 12 t ∧ mR S1 1200 t = some (z 0) ∧ By S1 (z 0) d1 (bPuts Q.tp ws) ∧ (∀ m, addNC ws.length (kz 0) Q.tp.length + addNC m (mN S1 d1) (bPuts Q.tp ws).length = addNC (ws.length + m) (kz 0) Q.tp.length) ∧ ∀ m, addNS ws.length (kz 0) Q.tp.length + addNS m (mN S1 d1) (bPuts Q.tp ws).length = addNS (ws.length + m) (kz 0) Q.tp.length := by
  have k := hA.2.1
  have nt : ¬ (t = z 0 ∨ t = dd) := fun w => by
    have f1 := hz.1.1.2.1
    rcases w with w | w <;> rw [w] at f1
    · rw [hB.2.1] at f1; injection f1 with f1; exact absurd f1 (by decide)
    · rw [hB.2.2.1] at f1; injection f1 with f1; exact absurd f1 (by decide)
  have c := fun m => hA.costN hB.1.len m
  rw [hB.2.2.2] at c
  exact ⟨k.isO hz.1.1.1, ((k.2.1 t hz.1.1.1.1 nt).2.1 _).trans (hz.1.1.2.2.1 0 (by decide) (by decide) (by decide) (by decide)), hA.1, fun m => (c m).1, fun m => (c m).2⟩
def I_fd (t n : Nat) (ws : List Int32) (args : List (Nat × MV)) (F : Nat → Nat × Nat) (X : Nat → GX) (kz : Nat → Nat) (Q : Ab) (S : MM) (k : Nat) : KT := fun lo st S1 cs sl => ∃ z d d1, k = n ∧ WTz S F t z X kz Q ∧ Bt S F 21 (z 0) d Q.tp (kz 0) ∧ Q.tp.length + 20 ≤ 32768 ∧ App S S1 (z 0) d d1 Q.tp ws ∧ lo = args ∧ st = [] ∧ cs = addNC ws.length (kz 0) Q.tp.length ∧ sl = addNS ws.length (kz 0) Q.tp.length
def T_wfd : TR := fun Rc Rs av S cs sl K Kx => match av with
  | [.inr (.inr t_o), .inl a, .inl b, .inl c, .inl d, .inl e] => pa t_o fun t => (∃ (F : Nat → Nat × Nat) (X : Nat → GX) (kz : Nat → Nat) (Q : Ab), (WT S F t X kz Q) ∧ cs + (addNC 20 (kz 0) Q.tp.length + 1) ≤ Rc ∧ sl + (addNS 20 (kz 0) Q.tp.length + 6) ≤ Rs ∧ ((∀ (S' : MM), (Q.tp.length + 20 ≤ 32768 ∧ wtQ S S' F t X (upF kz 0 (capN 20 (kz 0) Q.tp.length)) (Q.sTp (bPuts Q.tp (feedB a b c d e)))) → K none S' (cs + (addNC 20 (kz 0) Q.tp.length + 1)) (sl + (addNS 20 (kz 0) Q.tp.length + 6))) ∧ ((32768 < Q.tp.length + 20) → Kx 0 S (cs + (addNC 20 (kz 0) Q.tp.length + 1)) (sl + (addNS 20 (kz 0) Q.tp.length + 6)))))
  | _ => False
def sp_wfd (t : Nat) (a : Int32) (b : Int32) (c : Int32) (d : Int32) (e : Int32) (F : Nat → Nat × Nat) (X : Nat → GX) (kz : Nat → Nat) (Q : Ab) : Sp := (fun av S => av = [.inr (.inr (some t)), .inl a, .inl b, .inl c, .inl d, .inl e] ∧ (WT S F t X kz Q), fun _ S => addNC 20 (kz 0) Q.tp.length + 1, fun _ S => addNS 20 (kz 0) Q.tp.length + 6, fun _ S rv S' => rv = none ∧ (Q.tp.length + 20 ≤ 32768 ∧ wtQ S S' F t X (upF kz 0 (capN 20 (kz 0) Q.tp.length)) (Q.sTp (bPuts Q.tp (feedB a b c d e)))), fun _ S E S' => (E = 0 ∧ (32768 < Q.tp.length + 20) ∧ S' = S))
def tX11_feed : CD := [(0, .aload_n 0), (1, .getfield 10), (4, .getfield 94), (7, .bipush 20), (9, .iadd), (10, .ldc 97), (12, .if_icmp .le 11), (15, .new 98), (18, .dup), (19, .invokespecial 100), (22, .athrow), (23, .aload_n 0), (24, .getfield 10), (27, .iload_n 1), (28, .invokevirtual 101), (31, .aload_n 0), (32, .getfield 10), (35, .iload_n 2), (36, .invokevirtual 101), (39, .aload_n 0), (40, .getfield 10), (43, .iload_n 3), (44, .invokevirtual 101), (47, .aload_n 0), (48, .getfield 10), (51, .iload 4), (53, .invokevirtual 101), (56, .aload_n 0), (57, .getfield 10), (60, .iload 5), (62, .invokevirtual 101), (65, .return_)]
set_option maxRecDepth 100000 in
theorem kX11_feed : chk cX11_feed tX11_feed = true := by decide +kernel
theorem vX11_feed_101 : ∀ w ∈ ([.methodLink RX11 101 yX1_addWord, .instanceMethod yX1_addWord, .selects yX1_addWord.cls yX1_addWord yX1_addWord, .initialized yX1_addWord.cls, .code yX1_addWord cX1_addWord 2 none] : List Cond), w ∈ lw_good := List.forall_mem_cons.mpr ⟨mgd 767 (by decide +kernel) (by decide +kernel), List.forall_mem_cons.mpr ⟨mgd 768 (by decide +kernel) (by decide +kernel), List.forall_mem_cons.mpr ⟨mgd 769 (by decide +kernel) (by decide +kernel), List.forall_mem_cons.mpr ⟨mgd 122 (by decide +kernel) (by decide +kernel), List.forall_mem_cons.mpr ⟨mgd 770 (by decide +kernel) (by decide +kernel), fun _ h => absurd h List.not_mem_nil⟩⟩⟩⟩⟩
set_option maxRecDepth 100000 in
set_option maxHeartbeats 2000000 in
theorem c_wfd (l : Launch) (hlt : l.stackTraces = false) : ∀ (t : Nat) (a : Int32) (b : Int32) (c : Int32) (d : Int32) (e : Int32) (F : Nat → Nat × Nat) (X : Nat → GX) (kz : Nat → Nat) (Q : Ab), CtX l yX11_feed (Cond.code yX11_feed cX11_feed 6 none) none 6 96 (sp_wfd t a b c d e F X kz Q) := by
  intro t a b c d e F X kz Q
  refine CtX.of hlt (fX11, nX11, aX11, iX11, lX11, [(101, 0, 2, 0, T_bword)], qX11, gX11, thX11) false tX11_feed (fun _ S => look [(31, ([0,2,3,4,5], I_fd t 4 (wordB a) [(0, .inr (.inr (some t))), (2, .inl b), (3, .inl c), (4, .inl d), (5, .inl e)] F X kz Q S)), (39, ([0,3,4,5], I_fd t 3 (wordB a ++ wordB b) [(0, .inr (.inr (some t))), (3, .inl c), (4, .inl d), (5, .inl e)] F X kz Q S)), (47, ([0,4,5], I_fd t 2 (wordB a ++ wordB b ++ wordB c) [(0, .inr (.inr (some t))), (4, .inl d), (5, .inl e)] F X kz Q S)), (56, ([0,5], I_fd t 1 (wordB a ++ wordB b ++ wordB c ++ wordB d) [(0, .inr (.inr (some t))), (5, .inl e)] F X kz Q S))]) (by decide) (by decide) kX11_feed ⟨_, _, rfl⟩ fX11_ok nX11_ok aX11_ok iX11_ok lX11_ok (fun p e R s m args below meth c Q D cy z r A C hR1 hR2 => List.forall_mem_cons.mpr ⟨cOK_use (fun _ _ _ _ _ _ _ _ h => let ⟨sp, h1, h2, h3⟩ := u_bword l _ _ _ _ _ _ _ _ h; ⟨sp, cOK_V C h1 vX11_feed_101 ⟨by decide, by decide, by decide +kernel⟩ ⟨by rw [hR1]; decide, by rw [hR2]; decide⟩ (k := 2) (T := TX1) (N := 3) rfl (by decide) h2, h3⟩), fun _ h => absurd h List.not_mem_nil⟩) qX11_ok gX11_ok (fun q hq => ⟨thX11_ok q hq, by decide, by decide⟩) ?_ ?_
  · rintro _ S ⟨rfl, hp⟩
    refine ⟨Nat.le_of_ble_eq_true rfl, 300, ?_⟩
    show (isO S 12 t ∧ (pa (mR S 1200 t) fun a_1 => isO S 2 a_1 ∧ ((((mI S 201 a_1) + (20 : Int32)) ≤ (32768 : Int32) → (isO S 12 t ∧ (0 = 0 ∧ ((pa (mR S 1200 t) fun a_2 => (∃ (d_3 : Nat) (B_4 : List Nat), (By S a_2 d_3 B_4) ∧ 0 + (addNC 4 (mN S d_3) B_4.length) ≤ addNC 20 (kz 0) Q.tp.length + 1 ∧ 0 + (addNS 4 (mN S d_3) B_4.length) ≤ addNS 20 (kz 0) Q.tp.length + 6 ∧ (∀ (S_5 : MM), (∃ d', App S S_5 a_2 d_3 d' B_4 [ush a 24, ush a 16, ush a 8, a]) → (∃ k1, I_fd t 4 (wordB a) [(0, .inr (.inr (some t))), (2, .inl b), (3, .inl c), (4, .inl d), (5, .inl e)] F X kz Q S k1 [(0, .inr (.inr (some t))), (2, .inl b), (3, .inl c), (4, .inl d), (5, .inl e)] [] S_5 (0 + (addNC 4 (mN S d_3) B_4.length)) (0 + (addNS 4 (mN S d_3) B_4.length)))))))))) ∧ (¬ ((mI S 201 a_1) + (20 : Int32)) ≤ (32768 : Int32) → (mthr (sp_wfd t a b c d e F X kz Q) [.inr (.inr (some t)), .inl a, .inl b, .inl c, .inl d, .inl e] S 0 S (0 + 1) (0 + 6))))))
    obtain ⟨z, hz⟩ := hp
    obtain ⟨dd, hB⟩ := hz.2.2.1
    have r0 : mR S 1200 t = some (z 0) := hz.1.1.2.2.1 0 (by decide) (by decide) (by decide) (by decide)
    have m1 : mI S 201 (z 0) = nI Q.tp.length := hB.1.2.2.2.1
    have hl := hB.1.len
    have e20 : nI Q.tp.length + 20 = nI (Q.tp.length + 20) := nI_add _ 20
    refine ⟨hz.1.1.1, pa_i r0 ⟨hB.1.1, ?_⟩⟩
    rw [m1, e20]
    refine if_le (a := Q.tp.length + 20) (b := 32768) (by omega) (by decide) (fun h => ⟨hz.1.1.1, rfl, pa_i r0 ⟨dd, Q.tp, hB.1, ?_, ?_, fun S4 h4 => ?_⟩⟩) (fun h => ⟨⟨rfl, h, rfl⟩, ?_, ?_⟩)
    · rw [Nat.zero_add, hB.2.2.2]; exact Nat.le_succ_of_le (addNC_le (by decide))
    · rw [Nat.zero_add, hB.2.2.2]; exact Nat.le_trans (addNS_le (by decide)) (Nat.le_add_right _ 6)
    · obtain ⟨d4, h4⟩ := h4
      exact ⟨4, z, dd, d4, rfl, hz, hB, h, h4, rfl, rfl, by rw [Nat.zero_add, hB.2.2.2]; rfl, by rw [Nat.zero_add, hB.2.2.2]; rfl⟩
    · show 0 + 1 ≤ addNC 20 (kz 0) Q.tp.length + 1; omega
    · show 0 + 6 ≤ addNS 20 (kz 0) Q.tp.length + 6; omega
  · intro av S hpre pc I hI k lo st S1 cs sl h
    obtain ⟨rfl, hp⟩ := hpre
    have hm := look_in hI
    simp only [List.mem_cons, List.not_mem_nil, or_false] at hm
    rcases hm with hm | hm | hm | hm
    · cases hm
      obtain ⟨z, dd, d1, rfl, hz, hB, hl, hA, rfl, rfl, rfl, rfl⟩ := h
      refine ⟨300, ?_⟩
      show (isO S1 12 t ∧ (0 = 0 ∧ ((pa (mR S1 1200 t) fun a_1 => (∃ (d_2 : Nat) (B_3 : List Nat), (By S1 a_1 d_2 B_3) ∧ addNC (wordB a).length (kz 0) Q.tp.length + (addNC 4 (mN S1 d_2) B_3.length) ≤ addNC 20 (kz 0) Q.tp.length + 1 ∧ addNS (wordB a).length (kz 0) Q.tp.length + (addNS 4 (mN S1 d_2) B_3.length) ≤ addNS 20 (kz 0) Q.tp.length + 6 ∧ (∀ (S_4 : MM), (∃ d', App S1 S_4 a_1 d_2 d' B_3 [ush b 24, ush b 16, ush b 8, b]) → (∃ k1, k1 < 4 ∧ I_fd t 3 (wordB a ++ wordB b) [(0, .inr (.inr (some t))), (3, .inl c), (4, .inl d), (5, .inl e)] F X kz Q S k1 [(0, .inr (.inr (some t))), (3, .inl c), (4, .inl d), (5, .inl e)] [] S_4 (addNC (wordB a).length (kz 0) Q.tp.length + (addNC 4 (mN S1 d_2) B_3.length)) (addNS (wordB a).length (kz 0) Q.tp.length + (addNS 4 (mN S1 d_2) B_3.length)))))))))
      obtain ⟨o1, r1, b1, c1, c2⟩ := fd_st hz hB hl hA
      refine ⟨o1, rfl, pa_i r1 ⟨d1, _, b1, ?_, ?_, fun S4 h4 => ?_⟩⟩
      · rw [c1 4]; exact Nat.le_succ_of_le (addNC_le (by show _ ≤ 20; simp [wordB]))
      · rw [c2 4]; exact Nat.le_trans (addNS_le (by show _ ≤ 20; simp [wordB])) (Nat.le_add_right _ 6)
      · obtain ⟨d4, h4⟩ := h4
        have hA4 := hA.app hB.1.len h4
        exact ⟨3, by decide, z, dd, d4, rfl, hz, hB, hl, hA4, rfl, rfl, by rw [c1 4, List.length_append]; rfl, by rw [c2 4, List.length_append]; rfl⟩
    · cases hm
      obtain ⟨z, dd, d1, rfl, hz, hB, hl, hA, rfl, rfl, rfl, rfl⟩ := h
      refine ⟨300, ?_⟩
      show (isO S1 12 t ∧ (0 = 0 ∧ ((pa (mR S1 1200 t) fun a_1 => (∃ (d_2 : Nat) (B_3 : List Nat), (By S1 a_1 d_2 B_3) ∧ addNC (wordB a ++ wordB b).length (kz 0) Q.tp.length + (addNC 4 (mN S1 d_2) B_3.length) ≤ addNC 20 (kz 0) Q.tp.length + 1 ∧ addNS (wordB a ++ wordB b).length (kz 0) Q.tp.length + (addNS 4 (mN S1 d_2) B_3.length) ≤ addNS 20 (kz 0) Q.tp.length + 6 ∧ (∀ (S_4 : MM), (∃ d', App S1 S_4 a_1 d_2 d' B_3 [ush c 24, ush c 16, ush c 8, c]) → (∃ k1, k1 < 3 ∧ I_fd t 2 (wordB a ++ wordB b ++ wordB c) [(0, .inr (.inr (some t))), (4, .inl d), (5, .inl e)] F X kz Q S k1 [(0, .inr (.inr (some t))), (4, .inl d), (5, .inl e)] [] S_4 (addNC (wordB a ++ wordB b).length (kz 0) Q.tp.length + (addNC 4 (mN S1 d_2) B_3.length)) (addNS (wordB a ++ wordB b).length (kz 0) Q.tp.length + (addNS 4 (mN S1 d_2) B_3.length)))))))))
      obtain ⟨o1, r1, b1, c1, c2⟩ := fd_st hz hB hl hA
      refine ⟨o1, rfl, pa_i r1 ⟨d1, _, b1, ?_, ?_, fun S4 h4 => ?_⟩⟩
      · rw [c1 4]; exact Nat.le_succ_of_le (addNC_le (by show _ ≤ 20; simp [wordB]))
      · rw [c2 4]; exact Nat.le_trans (addNS_le (by show _ ≤ 20; simp [wordB])) (Nat.le_add_right _ 6)
      · obtain ⟨d4, h4⟩ := h4
        have hA4 := hA.app hB.1.len h4
        exact ⟨2, by decide, z, dd, d4, rfl, hz, hB, hl, hA4, rfl, rfl, by rw [c1 4, List.length_append]; rfl, by rw [c2 4, List.length_append]; rfl⟩
    · cases hm
      obtain ⟨z, dd, d1, rfl, hz, hB, hl, hA, rfl, rfl, rfl, rfl⟩ := h
      refine ⟨300, ?_⟩
      show (isO S1 12 t ∧ (0 = 0 ∧ ((pa (mR S1 1200 t) fun a_1 => (∃ (d_2 : Nat) (B_3 : List Nat), (By S1 a_1 d_2 B_3) ∧ addNC (wordB a ++ wordB b ++ wordB c).length (kz 0) Q.tp.length + (addNC 4 (mN S1 d_2) B_3.length) ≤ addNC 20 (kz 0) Q.tp.length + 1 ∧ addNS (wordB a ++ wordB b ++ wordB c).length (kz 0) Q.tp.length + (addNS 4 (mN S1 d_2) B_3.length) ≤ addNS 20 (kz 0) Q.tp.length + 6 ∧ (∀ (S_4 : MM), (∃ d', App S1 S_4 a_1 d_2 d' B_3 [ush d 24, ush d 16, ush d 8, d]) → (∃ k1, k1 < 2 ∧ I_fd t 1 (wordB a ++ wordB b ++ wordB c ++ wordB d) [(0, .inr (.inr (some t))), (5, .inl e)] F X kz Q S k1 [(0, .inr (.inr (some t))), (5, .inl e)] [] S_4 (addNC (wordB a ++ wordB b ++ wordB c).length (kz 0) Q.tp.length + (addNC 4 (mN S1 d_2) B_3.length)) (addNS (wordB a ++ wordB b ++ wordB c).length (kz 0) Q.tp.length + (addNS 4 (mN S1 d_2) B_3.length)))))))))
      obtain ⟨o1, r1, b1, c1, c2⟩ := fd_st hz hB hl hA
      refine ⟨o1, rfl, pa_i r1 ⟨d1, _, b1, ?_, ?_, fun S4 h4 => ?_⟩⟩
      · rw [c1 4]; exact Nat.le_succ_of_le (addNC_le (by show _ ≤ 20; simp [wordB]))
      · rw [c2 4]; exact Nat.le_trans (addNS_le (by show _ ≤ 20; simp [wordB])) (Nat.le_add_right _ 6)
      · obtain ⟨d4, h4⟩ := h4
        have hA4 := hA.app hB.1.len h4
        exact ⟨1, by decide, z, dd, d4, rfl, hz, hB, hl, hA4, rfl, rfl, by rw [c1 4, List.length_append]; rfl, by rw [c2 4, List.length_append]; rfl⟩
    · cases hm
      obtain ⟨z, dd, d1, rfl, hz, hB, hl, hA, rfl, rfl, rfl, rfl⟩ := h
      refine ⟨300, ?_⟩
      show (isO S1 12 t ∧ (0 = 0 ∧ ((pa (mR S1 1200 t) fun a_1 => (∃ (d_2 : Nat) (B_3 : List Nat), (By S1 a_1 d_2 B_3) ∧ addNC (wordB a ++ wordB b ++ wordB c ++ wordB d).length (kz 0) Q.tp.length + (addNC 4 (mN S1 d_2) B_3.length) ≤ addNC 20 (kz 0) Q.tp.length + 1 ∧ addNS (wordB a ++ wordB b ++ wordB c ++ wordB d).length (kz 0) Q.tp.length + (addNS 4 (mN S1 d_2) B_3.length) ≤ addNS 20 (kz 0) Q.tp.length + 6 ∧ (∀ (S_4 : MM), (∃ d', App S1 S_4 a_1 d_2 d' B_3 [ush e 24, ush e 16, ush e 8, e]) → (([] : List MV) = [] ∧ mret none (sp_wfd t a b c d e F X kz Q) [.inr (.inr (some t)), .inl a, .inl b, .inl c, .inl d, .inl e] S none S_4 (addNC (wordB a ++ wordB b ++ wordB c ++ wordB d).length (kz 0) Q.tp.length + (addNC 4 (mN S1 d_2) B_3.length)) (addNS (wordB a ++ wordB b ++ wordB c ++ wordB d).length (kz 0) Q.tp.length + (addNS 4 (mN S1 d_2) B_3.length)))))))))
      obtain ⟨o1, r1, b1, c1, c2⟩ := fd_st hz hB hl hA
      refine ⟨o1, rfl, pa_i r1 ⟨d1, _, b1, ?_, ?_, fun S4 h4 => ?_⟩⟩
      · rw [c1 4]; exact Nat.le_succ_of_le (addNC_le (by show _ ≤ 20; simp [wordB]))
      · rw [c2 4]; exact Nat.le_trans (addNS_le (by show _ ≤ 20; simp [wordB])) (Nat.le_add_right _ 6)
      · obtain ⟨d4, h4⟩ := h4
        have hA4 := hA.app hB.1.len h4
        obtain ⟨F', g1, g2, g3, g4⟩ := App.own hB hz.fo (by decide) hA4
        refine ⟨rfl, trivial, ⟨rfl, hl, F', ⟨z, hz.tape ⟨d4, ?_⟩ (fun k hk => upF_o hk) g4 g2 g3⟩, g2, g4.mono (fun b _ e => by show cO (F b).1; rw [e]; exact ⟨by decide, by decide⟩)⟩, ?_, ?_⟩
        · rw [upF_s]; exact g1
        · rw [c1 4]; show _ ≤ addNC 20 (kz 0) Q.tp.length + 1; exact Nat.le_succ _
        · rw [c2 4]; show _ ≤ addNS 20 (kz 0) Q.tp.length + 6; exact Nat.le_add_right _ 6
theorem u_wfd (l : Launch) (hlt : l.stackTraces = false) : UsX l yX11_feed (Cond.code yX11_feed cX11_feed 6 none) none 6 96 12 T_wfd := by
  intro Rc Rs av S cs sl K Kx h
  unfold T_wfd at h
  split at h
  · rename_i t_o a b c d e
    obtain ⟨t, rfl, h_1⟩ := pa_of h
    obtain ⟨F, X, kz, Q, hp, hc, hs, hk, hx0⟩ := h_1
    refine ⟨(sp_wfd t a b c d e F X kz Q), c_wfd l hlt t a b c d e F X kz Q, fun _ _ h9 => ⟨_, _, h9.1, h9.2.choose_spec.1.1.1⟩, ⟨rfl, hp⟩, hc, hs, fun S' h8 => by
      obtain ⟨-, h8⟩ := h8
      exact hk _ h8, fun _ _ q => by
      rcases q with ⟨rfl, q⟩
      · obtain ⟨q, rfl⟩ := q
        exact hx0 q⟩
  · exact h.elim
def anC (kz : Nat → Nat) (Q : Ab) (p s : Int32) : Nat := addNC (sumA (Q.G p.toNatClampNeg) p.toNatClampNeg).length (kz (20 + s.toNatClampNeg)) 0
def anZ (kz : Nat → Nat) (Q : Ab) (p s : Int32) : Nat := addNS (sumA (Q.G p.toNatClampNeg) p.toNatClampNeg).length (kz (20 + s.toNatClampNeg)) 0
def T_wac : TR := fun Rc Rs av S cs sl K Kx => match av with
  | [.inr (.inr t_o), .inl p, .inl s] => pa t_o fun t => (∃ (F : Nat → Nat × Nat) (X : Nat → GX) (kz : Nat → Nat) (Q : Ab), (WT S F t X kz Q) ∧ cs + (anC kz Q p s + 2) ≤ Rc ∧ sl + (anZ kz Q p s + 12) ≤ Rs ∧ ((∀ (v : Int32) (S' : MM), (∃ n i, n < 4 ∧ p = nI n ∧ i < 8 ∧ s = nI i ∧ v = nI (bPuts [] (sumA (Q.G n) n)).length ∧ wtQ S S' F t X (upF kz (20 + i) (capN (sumA (Q.G n) n).length (kz (20 + i)) 0)) (Q.sSl (upF Q.sl i (bPuts [] (sumA (Q.G n) n))))) → K (some (.inl v)) S' (cs + (anC kz Q p s + 2)) (sl + (anZ kz Q p s + 12))) ∧ ((np 4 p ∨ np 8 s) → Kx 1 S (cs + (anC kz Q p s + 2)) (sl + (anZ kz Q p s + 12)))))
  | _ => False
def sp_wac (t : Nat) (p : Int32) (s : Int32) (F : Nat → Nat × Nat) (X : Nat → GX) (kz : Nat → Nat) (Q : Ab) : Sp := (fun av S => av = [.inr (.inr (some t)), .inl p, .inl s] ∧ (WT S F t X kz Q), fun _ S => anC kz Q p s + 2, fun _ S => anZ kz Q p s + 12, fun _ S rv S' => ∃ v, rv = (some (.inl v)) ∧ (∃ n i, n < 4 ∧ p = nI n ∧ i < 8 ∧ s = nI i ∧ v = nI (bPuts [] (sumA (Q.G n) n)).length ∧ wtQ S S' F t X (upF kz (20 + i) (capN (sumA (Q.G n) n).length (kz (20 + i)) 0)) (Q.sSl (upF Q.sl i (bPuts [] (sumA (Q.G n) n))))), fun _ S E S' => (E = 1 ∧ (np 4 p ∨ np 8 s) ∧ S' = S))
def tX11_announce : CD := [(0, .aload_n 0), (1, .iload_n 1), (2, .invokevirtual 108), (5, .astore_n 3), (6, .aload_n 0), (7, .iload_n 2), (8, .invokevirtual 242), (11, .astore 4), (13, .aload_n 3), (14, .aload 4), (16, .invokevirtual 246), (19, .aload 4), (21, .getfield 94), (24, .ireturn)]
set_option maxRecDepth 100000 in
theorem kX11_announce : chk cX11_announce tX11_announce = true := by decide +kernel
theorem vX11_announce_108 : ∀ w ∈ ([.methodLink RX11 108 yX11_peerOf, .instanceMethod yX11_peerOf, .selects yX11_peerOf.cls yX11_peerOf yX11_peerOf, .initialized yX11_peerOf.cls, .code yX11_peerOf cX11_peerOf 2 (some (.object "WeaveText$Peer"))] : List Cond), w ∈ lw_good := List.forall_mem_cons.mpr ⟨mgd 827 (by decide +kernel) (by decide +kernel), List.forall_mem_cons.mpr ⟨mgd 829 (by decide +kernel) (by decide +kernel), List.forall_mem_cons.mpr ⟨mgd 1 (by decide +kernel) (by decide +kernel), List.forall_mem_cons.mpr ⟨mgd 121 (by decide +kernel) (by decide +kernel), List.forall_mem_cons.mpr ⟨mgd 830 (by decide +kernel) (by decide +kernel), fun _ h => absurd h List.not_mem_nil⟩⟩⟩⟩⟩
theorem vX11_announce_242 : ∀ w ∈ ([.methodLink RX11 242 yX11_slotOf, .instanceMethod yX11_slotOf, .selects yX11_slotOf.cls yX11_slotOf yX11_slotOf, .initialized yX11_slotOf.cls, .code yX11_slotOf cX11_slotOf 2 (some (.object "WeaveText$Bytes"))] : List Cond), w ∈ lw_good := List.forall_mem_cons.mpr ⟨mgd 1327 (by decide +kernel) (by decide +kernel), List.forall_mem_cons.mpr ⟨mgd 1329 (by decide +kernel) (by decide +kernel), List.forall_mem_cons.mpr ⟨mgd 23 (by decide +kernel) (by decide +kernel), List.forall_mem_cons.mpr ⟨mgd 121 (by decide +kernel) (by decide +kernel), List.forall_mem_cons.mpr ⟨mgd 1330 (by decide +kernel) (by decide +kernel), fun _ h => absurd h List.not_mem_nil⟩⟩⟩⟩⟩
theorem vX11_announce_246 : ∀ w ∈ ([.methodLink RX11 246 yX10_writeSummary, .instanceMethod yX10_writeSummary, .selects yX10_writeSummary.cls yX10_writeSummary yX10_writeSummary, .initialized yX10_writeSummary.cls, .code yX10_writeSummary cX10_writeSummary 4 none] : List Cond), w ∈ lw_good := List.forall_mem_cons.mpr ⟨mgd 1331 (by decide +kernel) (by decide +kernel), List.forall_mem_cons.mpr ⟨mgd 1332 (by decide +kernel) (by decide +kernel), List.forall_mem_cons.mpr ⟨mgd 1333 (by decide +kernel) (by decide +kernel), List.forall_mem_cons.mpr ⟨mgd 124 (by decide +kernel) (by decide +kernel), List.forall_mem_cons.mpr ⟨mgd 1334 (by decide +kernel) (by decide +kernel), fun _ h => absurd h List.not_mem_nil⟩⟩⟩⟩⟩
set_option maxRecDepth 100000 in
set_option maxHeartbeats 2000000 in
theorem c_wac (l : Launch) (hlt : l.stackTraces = false) : ∀ (t : Nat) (p : Int32) (s : Int32) (F : Nat → Nat × Nat) (X : Nat → GX) (kz : Nat → Nat) (Q : Ab), CtX l yX11_announce (Cond.code yX11_announce cX11_announce 5 (some .int)) (some .int) 8 130 (sp_wac t p s F X kz Q) := by
  intro t p s F X kz Q
  refine CtX.of hlt (fX11, nX11, aX11, iX11, lX11, [(108, 0, 2, 3, T_wpo), (242, 0, 2, 3, T_wso9), (246, 0, 2, 0, T_pws)], qX11, gX11, []) false tX11_announce (fun _ _ _ => none) (by decide) (by decide) kX11_announce ⟨_, _, rfl⟩ fX11_ok nX11_ok aX11_ok iX11_ok lX11_ok (fun p e R s m args below meth c Q D cy z r A C hR1 hR2 => List.forall_mem_cons.mpr ⟨cOK_use (fun _ _ _ _ _ _ _ _ h => let ⟨sp, h1, h2, h3⟩ := u_wpo l hlt _ _ _ _ _ _ _ _ h; ⟨sp, cOKx_V C h1 vX11_announce_108 ⟨by decide, by decide, by decide +kernel⟩ ⟨by rw [hR1]; decide, by rw [hR2]; decide⟩ (k := 12) (T := TX11) (N := 15) rfl (by decide) h2, h3⟩), List.forall_mem_cons.mpr ⟨cOK_use (fun _ _ _ _ _ _ _ _ h => let ⟨sp, h1, h2, h3⟩ := u_wso9 l hlt _ _ _ _ _ _ _ _ h; ⟨sp, cOKx_V C h1 vX11_announce_242 ⟨by decide, by decide, by decide +kernel⟩ ⟨by rw [hR1]; decide, by rw [hR2]; decide⟩ (k := 12) (T := TX11) (N := 15) rfl (by decide) h2, h3⟩), List.forall_mem_cons.mpr ⟨cOK_use (fun _ _ _ _ _ _ _ _ h => let ⟨sp, h1, h2, h3⟩ := u_pws l _ _ _ _ _ _ _ _ h; ⟨sp, cOK_V C h1 vX11_announce_246 ⟨by decide, by decide, by decide +kernel⟩ ⟨by rw [hR1]; decide, by rw [hR2]; decide⟩ (k := 11) (T := TX10) (N := 6) rfl (by decide) h2, h3⟩), fun _ h => absurd h List.not_mem_nil⟩⟩⟩) qX11_ok gX11_ok (fun _ h => absurd h List.not_mem_nil) ?_ ?_
  · rintro _ S ⟨rfl, hp⟩
    refine ⟨Nat.le_of_ble_eq_true rfl, 300, ?_⟩
    show (0 = 0 ∧ (∃ (F_1 : Nat → Nat × Nat) (z_2 : Nat → Nat), (SfA S F_1 t z_2) ∧ 0 + 1 ≤ anC kz Q p s + 2 ∧ 0 + 6 ≤ anZ kz Q p s + 12 ∧ ((∀ (x_4 : Option Nat) (S_3 : MM), (S_3 = S ∧ ∃ n, n < 4 ∧ p = nI n ∧ x_4 = some (z_2 (30 + n))) → (0 = 0 ∧ (∃ (F_5 : Nat → Nat × Nat) (z_6 : Nat → Nat), (SfA S_3 F_5 t z_6) ∧ 0 + 1 + 1 ≤ anC kz Q p s + 2 ∧ 0 + 6 + 6 ≤ anZ kz Q p s + 12 ∧ ((∀ (x_8 : Option Nat) (S_7 : MM), (S_7 = S_3 ∧ ∃ n, n < 8 ∧ s = nI n ∧ x_8 = some (z_6 (20 + n))) → (0 = 0 ∧ ((pa x_4 fun a_9 => ((pa x_8 fun a_10 => (∃ (F_11 : Nat → Nat × Nat) (i_12 p_13 : Nat) (A_14 : Nat → Nat) (X_15 : GX) (G_16 : Gr) (T_17 : Tr) (H_18 : List Nat) (W_19 : Nat → Nat) (d_20 : Nat) (B_21 : List Nat), (wsP S_7 F_11 i_12 a_9 a_10 p_13 A_14 X_15 G_16 T_17 H_18 W_19 d_20 B_21) ∧ 0 + 1 + 1 + (addNC (sumA G_16 p_13).length (mN S_7 d_20) 0) ≤ anC kz Q p s + 2 ∧ 0 + 6 + 6 + (addNS (sumA G_16 p_13).length (mN S_7 d_20) 0) ≤ anZ kz Q p s + 12 ∧ (∀ (S_22 : MM), (∃ d', App (clr S_7 a_10) S_22 a_10 d_20 d' [] (sumA G_16 p_13)) → (pa x_8 fun a_23 => isO S_22 2 a_23 ∧ (([] : List MV) = [] ∧ mret (some .int) (sp_wac t p s F X kz Q) [.inr (.inr (some t)), .inl p, .inl s] S (some (.inl (mI S_22 201 a_23))) S_22 (0 + 1 + 1 + (addNC (sumA G_16 p_13).length (mN S_7 d_20) 0)) (0 + 6 + 6 + (addNS (sumA G_16 p_13).length (mN S_7 d_20) 0)))))))))))) ∧ ((np 8 s) → mthr (sp_wac t p s F X kz Q) [.inr (.inr (some t)), .inl p, .inl s] S 1 S_3 (0 + 1 + 1) (0 + 6 + 6)))))) ∧ ((np 4 p) → mthr (sp_wac t p s F X kz Q) [.inr (.inr (some t)), .inl p, .inl s] S 1 S (0 + 1) (0 + 6)))))
    obtain ⟨z, hz⟩ := hp
    refine ⟨rfl, F, z, hz.1.1, by omega, by omega, fun v S3 h => ?_, fun h => ⟨⟨rfl, Or.inl h, rfl⟩, by show _ ≤ anC kz Q p s + 2; omega, by show _ ≤ anZ kz Q p s + 12; omega⟩⟩
    obtain ⟨rfl, n, hn, rfl, rfl⟩ := h
    refine ⟨rfl, F, z, hz.1.1, by omega, by omega, fun v S4 h => ?_, fun h => ⟨⟨rfl, Or.inr h, rfl⟩, by show _ ≤ anC kz Q (nI n) s + 2; omega, by show _ ≤ anZ kz Q (nI n) s + 12; omega⟩⟩
    obtain ⟨rfl, i, hi, rfl, rfl⟩ := h
    obtain ⟨A, H, W, r, a', d, ea, kn, kr, cu, hP⟩ := hz.2.1 n hn
    obtain ⟨dd, hB⟩ := hz.2.2.2.2.1 i hi
    have cn : (nI n).toNatClampNeg = n := nI_clamp (by omega)
    have ci : (nI i).toNatClampNeg = i := nI_clamp (by omega)
    have eC : anC kz Q (nI n) (nI i) = addNC (sumA (Q.G n) n).length (mN S4 dd) 0 := by unfold anC; rw [cn, ci, hB.2.2.2]
    have eZ : anZ kz Q (nI n) (nI i) = addNS (sumA (Q.G n) n).length (mN S4 dd) 0 := by unfold anZ; rw [cn, ci, hB.2.2.2]
    refine ⟨rfl, pa_i rfl (pa_i rfl ⟨F, n + 1, n, A, X n, Q.G n, Q.T n, H, W, dd, Q.sl i, ⟨hP.1.1, hP.1.2.2.1, hP.1.2.2.2.1, hP.gi, hz.fo, by omega, hB.1, ?_, ?_⟩, ?_, ?_, fun S5 h5 => ?_⟩)⟩
    · rw [hB.2.1]; show 50 + i ≠ n + 1; omega
    · rw [hB.2.2.1]; show 50 + i ≠ n + 1; omega
    · rw [eC]; omega
    · rw [eZ]; omega
    · obtain ⟨d5, h5⟩ := h5
      obtain ⟨F', g1, g2, g3, g4⟩ := App.ownC hB hz.fo (by omega) h5
      refine ⟨g1.1.1, rfl, trivial, ⟨_, rfl, n, i, hn, rfl, hi, rfl, g1.1.2.2.2.1, F', ⟨z, hz.slot hi ⟨d5, ?_⟩ (fun k hk => upF_o hk) g4 g2 g3⟩, g2, g4.mono (fun b _ e => by show cO (F b).1; rw [e]; exact ⟨by omega, by omega⟩)⟩, ?_, ?_⟩
      · rw [upF_s]; exact g1
      · show _ ≤ anC kz Q (nI n) (nI i) + 2; rw [eC]; omega
      · show _ ≤ anZ kz Q (nI n) (nI i) + 12; rw [eZ]; omega
  · exact fun _ _ _ _ _ h => by cases h
theorem u_wac (l : Launch) (hlt : l.stackTraces = false) : UsX l yX11_announce (Cond.code yX11_announce cX11_announce 5 (some .int)) (some .int) 8 130 12 T_wac := by
  intro Rc Rs av S cs sl K Kx h
  unfold T_wac at h
  split at h
  · rename_i t_o p s
    obtain ⟨t, rfl, h_1⟩ := pa_of h
    obtain ⟨F, X, kz, Q, hp, hc, hs, hk, hx0⟩ := h_1
    refine ⟨(sp_wac t p s F X kz Q), c_wac l hlt t p s F X kz Q, fun _ _ h9 => ⟨_, _, h9.1, h9.2.choose_spec.1.1.1⟩, ⟨rfl, hp⟩, hc, hs, fun v9 S' h8 => by
      obtain ⟨v8, h7, h8⟩ := h8
      cases h7
      exact hk _ _ h8, fun _ _ q => by
      rcases q with ⟨rfl, q⟩
      · obtain ⟨q, rfl⟩ := q
        exact hx0 q⟩
  · exact h.elim
