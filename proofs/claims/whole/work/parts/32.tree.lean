/-! ===== Graph: the tree and the chain, over the memory ===== -/
def fL (S : MM) : Nat → Option Nat := mR S 508
def fR (S : MM) : Nat → Option Nat := mR S 509
def sB (S : MM) : Nat → Option Nat := mR S 510
def RpS (S : MM) (n : Nat) (p : Option Nat) (A : List Nat) : Prop := Rp (fL S) (fR S) (sB S) n p A ∧ ∀ y ∈ A, isO S 5 y
theorem RpS.no {S : MM} {n : Nat} {A : List Nat} (h : RpS S n none A) : A = [] := Rp.no.1 h.1
theorem RpS.nd {S : MM} {n y : Nat} {A : List Nat} (h : RpS S n (some y) A) : ∃ m B C D, n = m + 1 ∧ RpS S m (fL S y) B ∧ RpS S m (fR S y) C ∧ RpS S m (sB S y) D ∧ A = B ++ y :: (C ++ D) ∧ isO S 5 y := by
  cases n with
  | zero => exact h.1.elim
  | succ m =>
    obtain ⟨⟨B, C, D, h1, h2, h3, rfl⟩, h4⟩ := h
    exact ⟨m, B, C, D, rfl, ⟨h1, fun z hz => h4 z (by simp [hz])⟩, ⟨h2, fun z hz => h4 z (by simp [hz])⟩, ⟨h3, fun z hz => h4 z (by simp [hz])⟩, rfl, h4 y (by simp)⟩
def I_fb (x : Nat) (A : List Nat) (S : MM) (t : Nat) : KT := fun lo st S1 cs sl => ∃ p f B, RpS S t p B ∧ A.headD x = B.headD f ∧ lo = [(2, .inr (.inr p)), (1, .inr (.inr (some f)))] ∧ st = [] ∧ S = S1 ∧ cs = 0 ∧ sl = 0
def T_gfb : TR := fun Rc Rs av S cs sl K _Kx => match av with
  | [.inr (.inr x_o)] => pa x_o fun x => (∃ (n : Nat) (A : List Nat), (isO S 5 x ∧ RpS S n (fL S x) A) ∧ cs ≤ Rc ∧ sl ≤ Rs ∧ (K (some (.inr (.inr (some (A.headD x))))) S cs sl))
  | _ => False
def sp_gfb (x : Nat) (n : Nat) (A : List Nat) : Sp := (fun av S => av = [.inr (.inr (some x))] ∧ (isO S 5 x ∧ RpS S n (fL S x) A), fun _ S => 0, fun _ S => 0, fun _ S rv S' => rv = (some (.inr (.inr (some (A.headD x))))) ∧ S' = S, fun _ _ _ _ => False)
def tX5_firstBelow : CD := [(0, .aload_n 0), (1, .astore_n 1), (2, .aload_n 0), (3, .getfield 200), (6, .astore_n 2), (7, .aload_n 2), (8, .ifnull 13), (11, .aload_n 2), (12, .astore_n 1), (13, .aload_n 2), (14, .getfield 200), (17, .astore_n 2), (18, .goto (-11)), (21, .aload_n 1), (22, .areturn)]
set_option maxRecDepth 100000 in
theorem kX5_firstBelow : chk cX5_firstBelow tX5_firstBelow = true := by decide +kernel

set_option maxRecDepth 100000 in
set_option maxHeartbeats 2000000 in
theorem c_gfb (l : Launch) : ∀ (x : Nat) (n : Nat) (A : List Nat), Ct l yX5_firstBelow cX5_firstBelow 3 (some (.object "WeaveText$Event")) 0 0 (sp_gfb x n A) := by
  intro x n A
  refine Ct.of (fX5, nX5, aX5, iX5, lX5, [], qX5, gX5, []) false tX5_firstBelow (fun _ S => look [(7, ([2,1], I_fb x A S))]) (by decide) (by decide) kX5_firstBelow ⟨_, _, rfl⟩ fX5_ok nX5_ok aX5_ok iX5_ok lX5_ok (fun _ _ _ _ _ _ _ _ _ _ _ _ _ _ _ _ _ _ => no_all) qX5_ok gX5_ok rfl ?_ ?_
  · rintro _ S ⟨rfl, hp⟩
    refine ⟨Nat.le_of_ble_eq_true rfl, 300, ?_⟩
    show (isO S 5 x ∧ (∃ k1, I_fb x A S k1 [(2, .inr (.inr (mR S 508 x))), (1, .inr (.inr (some x)))] [] S 0 0))
    exact ⟨hp.1, n, fL S x, x, A, hp.2, rfl, rfl, rfl, rfl, rfl, rfl⟩
  · intro av S hpre pc I hI k lo st S1 cs sl h
    obtain ⟨rfl, hp⟩ := hpre
    have hm := look_in hI
    rw [List.mem_singleton] at hm
    cases hm
    obtain ⟨p, f, B, hB, hh, rfl, rfl, rfl, rfl, rfl⟩ := h
    refine ⟨300, ?_⟩
    show ((p = none → (([] : List MV) = [] ∧ mret (some (.object "WeaveText$Event")) (sp_gfb x n A) [.inr (.inr (some x))] S (some (.inr (.inr (some f)))) S 0 0)) ∧ (∀ w_1, p = some w_1 → (pa p fun a_2 => isO S 5 a_2 ∧ (∃ k1, k1 < k ∧ I_fb x A S k1 [(2, .inr (.inr (mR S 508 a_2))), (1, .inr (.inr p))] [] S 0 0))))
    refine ⟨fun e => ?_, fun w e => ?_⟩
    · subst e
      rw [hB.no] at hh
      exact ⟨rfl, trivial, ⟨by rw [hh]; rfl, rfl⟩, Nat.le_refl _, Nat.le_refl _⟩
    · subst e
      obtain ⟨m, B1, C1, D1, rfl, r1, r2, r3, rfl, r5⟩ := hB.nd
      refine ⟨r5, m, by omega, fL S w, w, B1, r1, ?_, rfl, rfl, rfl, rfl, rfl⟩
      rw [hh]
      cases B1 <;> rfl
theorem u_gfb (l : Launch) : Us l yX5_firstBelow cX5_firstBelow 3 (some (.object "WeaveText$Event")) 0 0 99 T_gfb := by
  intro Rc Rs av S cs sl K Kx h
  unfold T_gfb at h
  split at h
  · rename_i x_o
    obtain ⟨x, rfl, h_1⟩ := pa_of h
    obtain ⟨n, A, hp, hc, hs, hk⟩ := h_1
    refine ⟨(sp_gfb x n A), c_gfb l x n A, fun _ _ _ => trivial, ⟨rfl, hp⟩, hc, hs, fun v9 S' h8 => by
      obtain ⟨h7, h8⟩ := h8
      cases h7
      subst h8
      exact hk, fun _ _ q => q.elim⟩
  · exact h.elim
def I_lb (x : Nat) (A : List Nat) (S : MM) (t : Nat) : KT := fun lo st S1 cs sl => ∃ p f B, RpS S t p B ∧ A.getLastD x = B.getLastD f ∧ lo = [(2, .inr (.inr p)), (1, .inr (.inr (some f)))] ∧ st = [] ∧ S = S1 ∧ cs = 0 ∧ sl = 0
def T_glb : TR := fun Rc Rs av S cs sl K _Kx => match av with
  | [.inr (.inr x_o)] => pa x_o fun x => (∃ (n : Nat) (A : List Nat), (isO S 5 x ∧ RpS S n (fR S x) A) ∧ cs ≤ Rc ∧ sl ≤ Rs ∧ (K (some (.inr (.inr (some (A.getLastD x))))) S cs sl))
  | _ => False
def sp_glb (x : Nat) (n : Nat) (A : List Nat) : Sp := (fun av S => av = [.inr (.inr (some x))] ∧ (isO S 5 x ∧ RpS S n (fR S x) A), fun _ S => 0, fun _ S => 0, fun _ S rv S' => rv = (some (.inr (.inr (some (A.getLastD x))))) ∧ S' = S, fun _ _ _ _ => False)
def tX5_lastBelow : CD := [(0, .aload_n 0), (1, .astore_n 1), (2, .aload_n 0), (3, .getfield 197), (6, .astore_n 2), (7, .aload_n 2), (8, .ifnull 27), (11, .aload_n 2), (12, .astore_n 1), (13, .aload_n 2), (14, .getfield 214), (17, .ifnonnull 10), (20, .aload_n 2), (21, .getfield 197), (24, .goto 7), (27, .aload_n 2), (28, .getfield 214), (31, .astore_n 2), (32, .goto (-25)), (35, .aload_n 1), (36, .areturn)]
set_option maxRecDepth 100000 in
theorem kX5_lastBelow : chk cX5_lastBelow tX5_lastBelow = true := by decide +kernel

set_option maxRecDepth 100000 in
set_option maxHeartbeats 2000000 in
theorem c_glb (l : Launch) : ∀ (x : Nat) (n : Nat) (A : List Nat), Ct l yX5_lastBelow cX5_lastBelow 3 (some (.object "WeaveText$Event")) 0 0 (sp_glb x n A) := by
  intro x n A
  refine Ct.of (fX5, nX5, aX5, iX5, lX5, [], qX5, gX5, []) false tX5_lastBelow (fun _ S => look [(7, ([2,1], I_lb x A S))]) (by decide) (by decide) kX5_lastBelow ⟨_, _, rfl⟩ fX5_ok nX5_ok aX5_ok iX5_ok lX5_ok (fun _ _ _ _ _ _ _ _ _ _ _ _ _ _ _ _ _ _ => no_all) qX5_ok gX5_ok rfl ?_ ?_
  · rintro _ S ⟨rfl, hp⟩
    refine ⟨Nat.le_of_ble_eq_true rfl, 300, ?_⟩
    show (isO S 5 x ∧ (∃ k1, I_lb x A S k1 [(2, .inr (.inr (mR S 509 x))), (1, .inr (.inr (some x)))] [] S 0 0))
    exact ⟨hp.1, n, fR S x, x, A, hp.2, rfl, rfl, rfl, rfl, rfl, rfl⟩
  · intro av S hpre pc I hI k lo st S1 cs sl h
    obtain ⟨rfl, hp⟩ := hpre
    have hm := look_in hI
    rw [List.mem_singleton] at hm
    cases hm
    obtain ⟨p, f, B, hB, hh, rfl, rfl, rfl, rfl, rfl⟩ := h
    refine ⟨300, ?_⟩
    show ((p = none → (([] : List MV) = [] ∧ mret (some (.object "WeaveText$Event")) (sp_glb x n A) [.inr (.inr (some x))] S (some (.inr (.inr (some f)))) S 0 0)) ∧ (∀ w_1, p = some w_1 → (pa p fun a_2 => isO S 5 a_2 ∧ ((∀ w_3, (mR S 510 a_2) = some w_3 → (pa p fun a_4 => isO S 5 a_4 ∧ (∃ k1, k1 < k ∧ I_lb x A S k1 [(2, .inr (.inr (mR S 510 a_4))), (1, .inr (.inr p))] [] S 0 0))) ∧ ((mR S 510 a_2) = none → (pa p fun a_5 => isO S 5 a_5 ∧ (∃ k1, k1 < k ∧ I_lb x A S k1 [(2, .inr (.inr (mR S 509 a_5))), (1, .inr (.inr p))] [] S 0 0)))))))
    refine ⟨fun e => ?_, fun w e => ?_⟩
    · subst e
      rw [hB.no] at hh
      exact ⟨rfl, trivial, ⟨by rw [hh]; rfl, rfl⟩, Nat.le_refl _, Nat.le_refl _⟩
    · subst e
      obtain ⟨m, B1, C1, D1, rfl, r1, r2, r3, rfl, r5⟩ := hB.nd
      refine ⟨r5, fun v hv => ⟨r5, m, by omega, sB S w, w, D1, r3, ?_, rfl, rfl, rfl, rfl, rfl⟩, fun hv => ⟨r5, m, by omega, fR S w, w, C1, r2, ?_, rfl, rfl, rfl, rfl, rfl⟩⟩
      · have hv : sB S w = some v := hv
        rw [hv] at r3
        obtain ⟨m1, B2, C2, D2, -, -, -, -, e9, -⟩ := r3.nd
        rw [hh, List.getLastD_eq_getLast?, List.getLastD_eq_getLast?, List.getLast?_append, List.getLast?_cons, List.getLast?_append]
        have : ∃ z, D1.getLast? = some z := by
          rw [e9]
          cases h9 : (B2 ++ v :: (C2 ++ D2)).getLast? with
          | none => rw [List.getLast?_eq_none_iff] at h9; simp at h9
          | some z => exact ⟨z, rfl⟩
        obtain ⟨z, hz⟩ := this
        rw [hz]; rfl
      · have hv : sB S w = none := hv
        rw [hv] at r3
        rw [hh, r3.no, List.append_nil, List.getLastD_eq_getLast?, List.getLastD_eq_getLast?, List.getLast?_append, List.getLast?_cons]
        cases C1.getLast? <;> rfl
theorem u_glb (l : Launch) : Us l yX5_lastBelow cX5_lastBelow 3 (some (.object "WeaveText$Event")) 0 0 99 T_glb := by
  intro Rc Rs av S cs sl K Kx h
  unfold T_glb at h
  split at h
  · rename_i x_o
    obtain ⟨x, rfl, h_1⟩ := pa_of h
    obtain ⟨n, A, hp, hc, hs, hk⟩ := h_1
    refine ⟨(sp_glb x n A), c_glb l x n A, fun _ _ _ => trivial, ⟨rfl, hp⟩, hc, hs, fun v9 S' h8 => by
      obtain ⟨h7, h8⟩ := h8
      cases h7
      subst h8
      exact hk, fun _ _ q => q.elim⟩
  · exact h.elim
/-- an event's id -/
def idA (S : MM) (y : Nat) : Int64 := evId S y ((mR S 500 y).getD 0)
/-- an event whose agent is there -/
def hasG (S : MM) (y : Nat) : Prop := isO S 5 y ∧ ∃ g, mR S 500 y = some g ∧ isO S 1 g
def ltA (S : MM) (e y : Nat) : Bool := decide (idA S y < idA S e)
def I_lbf (e : Nat) (p0 : Option Nat) (n : Nat) (S : MM) (t : Nat) : KT := fun lo st S1 cs sl => ∃ p l B, RpS S t p B ∧ (∀ y ∈ B, hasG S y) ∧ lstW (ltA S e) (sB S) n none p0 = lstW (ltA S e) (sB S) t l p ∧ lo = [(3, .inr (.inr p)), (2, .inr (.inr l)), (0, .inr (.inr (some e)))] ∧ st = [] ∧ S = S1 ∧ cs = 0 ∧ sl = 0
def T_glbf : TR := fun Rc Rs av S cs sl K _Kx => match av with
  | [.inr (.inr e_o), .inr (.inr p)] => pa e_o fun e => (∃ (n : Nat) (A : List Nat), (hasG S e ∧ RpS S n p A ∧ (∀ y ∈ A, hasG S y)) ∧ cs ≤ Rc ∧ sl ≤ Rs ∧ (K (some (.inr (.inr (lstW (ltA S e) (sB S) n none p)))) S cs sl))
  | _ => False
def sp_glbf (e : Nat) (p : Option Nat) (n : Nat) (A : List Nat) : Sp := (fun av S => av = [.inr (.inr (some e)), .inr (.inr p)] ∧ (hasG S e ∧ RpS S n p A ∧ (∀ y ∈ A, hasG S y)), fun _ S => 0, fun _ S => 0, fun _ S rv S' => rv = (some (.inr (.inr (lstW (ltA S e) (sB S) n none p)))) ∧ S' = S, fun _ _ _ _ => False)
def tX5_lastBefore : CD := [(0, .aconst_null), (1, .astore_n 2), (2, .aload_n 1), (3, .astore_n 3), (4, .aload_n 3), (5, .ifnull 25), (8, .aload_n 3), (9, .invokevirtual 112), (12, .aload_n 0), (13, .invokevirtual 112), (16, .lcmp), (17, .ifCond .ge 13), (20, .aload_n 3), (21, .astore_n 2), (22, .aload_n 3), (23, .getfield 214), (26, .astore_n 3), (27, .goto (-23)), (30, .aload_n 2), (31, .areturn)]
set_option maxRecDepth 100000 in
theorem kX5_lastBefore : chk cX5_lastBefore tX5_lastBefore = true := by decide +kernel
theorem vX5_lastBefore_112 : ∀ w ∈ ([.methodLink RX5 112 yX4_id, .instanceMethod yX4_id, .selects yX4_id.cls yX4_id yX4_id, .initialized yX4_id.cls, .code yX4_id cX4_id 1 (some .long)] : List Cond), w ∈ lw_good := List.forall_mem_cons.mpr ⟨mgd 910 (by decide +kernel) (by decide +kernel), List.forall_mem_cons.mpr ⟨mgd 911 (by decide +kernel) (by decide +kernel), List.forall_mem_cons.mpr ⟨mgd 912 (by decide +kernel) (by decide +kernel), List.forall_mem_cons.mpr ⟨mgd 126 (by decide +kernel) (by decide +kernel), List.forall_mem_cons.mpr ⟨mgd 913 (by decide +kernel) (by decide +kernel), fun _ h => absurd h List.not_mem_nil⟩⟩⟩⟩⟩
set_option maxRecDepth 100000 in
set_option maxHeartbeats 2000000 in
theorem c_glbf (l : Launch) : ∀ (e : Nat) (p : Option Nat) (n : Nat) (A : List Nat), Ct l yX5_lastBefore cX5_lastBefore 4 (some (.object "WeaveText$Event")) 1 20 (sp_glbf e p n A) := by
  intro e p n A
  refine Ct.of (fX5, nX5, aX5, iX5, lX5, [(112, 0, 1, 2, T_eid)], qX5, gX5, []) false tX5_lastBefore (fun _ S => look [(4, ([3,2,0], I_lbf e p n S))]) (by decide) (by decide) kX5_lastBefore ⟨_, _, rfl⟩ fX5_ok nX5_ok aX5_ok iX5_ok lX5_ok (fun p e R s m args below meth c Q D cy z r A C hR1 hR2 => List.forall_mem_cons.mpr ⟨cOK_use (fun _ _ _ _ _ _ _ _ h => let ⟨sp, h1, h2, h3⟩ := u_eid l _ _ _ _ _ _ _ _ h; ⟨sp, cOK_V C h1 vX5_lastBefore_112 ⟨by decide, by decide, by decide +kernel⟩ ⟨by rw [hR1]; decide, by rw [hR2]; decide⟩ (k := 5) (T := TX4) (N := 16) rfl (by decide) h2, h3⟩), fun _ h => absurd h List.not_mem_nil⟩) qX5_ok gX5_ok rfl ?_ ?_
  · rintro _ S ⟨rfl, hp⟩
    refine ⟨Nat.le_of_ble_eq_true rfl, 300, ?_⟩
    show (∃ k1, I_lbf e p n S k1 [(3, .inr (.inr p)), (2, .inr (.inr none)), (0, .inr (.inr (some e)))] [] S 0 0)
    exact ⟨n, p, none, A, hp.2.1, hp.2.2, rfl, rfl, rfl, rfl, rfl, rfl⟩
  · intro av S hpre pc I hI k lo st S1 cs sl h
    obtain ⟨rfl, hp⟩ := hpre
    have hm := look_in hI
    rw [List.mem_singleton] at hm
    cases hm
    obtain ⟨p1, f, B, hB, hG, hh, rfl, rfl, rfl, rfl, rfl⟩ := h
    refine ⟨300, ?_⟩
    show ((p1 = none → (([] : List MV) = [] ∧ mret (some (.object "WeaveText$Event")) (sp_glbf e p n A) [.inr (.inr (some e)), .inr (.inr p)] S (some (.inr (.inr f))) S 0 0)) ∧ (∀ w_1, p1 = some w_1 → (0 = 0 ∧ ((pa p1 fun a_2 => (∃ (g_3 : Nat), (isO S 5 a_2 ∧ mR S 500 a_2 = some g_3 ∧ isO S 1 g_3) ∧ 0 ≤ 0 ∧ 0 ≤ 0 ∧ ((0 = 0 ∧ (∃ (g_5 : Nat), (isO S 5 e ∧ mR S 500 e = some g_5 ∧ isO S 1 g_5) ∧ 0 ≤ 0 ∧ 0 ≤ 0 ∧ (((0 ≤ (lg_cmp (evId S a_2 g_3) (evId S e g_5)) → (([] : List MV) = [] ∧ mret (some (.object "WeaveText$Event")) (sp_glbf e p n A) [.inr (.inr (some e)), .inr (.inr p)] S (some (.inr (.inr f))) S 0 0)) ∧ (¬ 0 ≤ (lg_cmp (evId S a_2 g_3) (evId S e g_5)) → (pa p1 fun a_7 => isO S 5 a_7 ∧ (∃ k1, k1 < k ∧ I_lbf e p n S k1 [(3, .inr (.inr (mR S 510 a_7))), (2, .inr (.inr p1)), (0, .inr (.inr (some e)))] [] S 0 0))))))))))))))
    obtain ⟨h1, h2, h3⟩ := hp
    refine ⟨fun z => ?_, fun w z => ?_⟩
    · subst z
      refine ⟨rfl, trivial, ⟨?_, rfl⟩, Nat.le_refl _, Nat.le_refl _⟩
      rw [hh]; cases k <;> rfl
    · subst z
      obtain ⟨m, B1, C1, D1, rfl, r1, r2, r3, rfl, r5⟩ := hB.nd
      obtain ⟨-, gw, g1, g2⟩ := hG w (by simp)
      obtain ⟨he, ge, g3, g4⟩ := h1
      have iw : idA S w = evId S w gw := by rw [idA, g1]; rfl
      have ie : idA S e = evId S e ge := by rw [idA, g3]; rfl
      refine ⟨rfl, gw, ⟨r5, g1, g2⟩, Nat.le_refl _, Nat.le_refl _, rfl, ge, ⟨he, g3, g4⟩, Nat.le_refl _, Nat.le_refl _, ?_⟩
      rw [← iw, ← ie]
      refine ⟨fun z => ?_, fun z => ⟨r5, m, by omega, sB S w, some w, D1, r3, fun y hy => hG y (by simp [hy]), ?_, rfl, rfl, rfl, rfl, rfl⟩⟩
      · have z2 := (lg_cmp_ge _ _).1 z
        have lf : ltA S e w = false := decide_eq_false (fun q => by rw [Int64.lt_iff_toInt_lt] at q; rw [Int64.le_iff_toInt_le] at z2; omega)
        refine ⟨rfl, trivial, ⟨?_, rfl⟩, Nat.le_refl _, Nat.le_refl _⟩
        rw [hh, lstW, lf]; rfl
      · have lt : ltA S e w = true := decide_eq_true (by
          have z2 : ¬ idA S e ≤ idA S w := fun q => z ((lg_cmp_ge _ _).2 q)
          rw [Int64.le_iff_toInt_le] at z2; rw [Int64.lt_iff_toInt_lt]; omega)
        rw [hh, lstW, lt]; rfl
theorem u_glbf (l : Launch) : Us l yX5_lastBefore cX5_lastBefore 4 (some (.object "WeaveText$Event")) 1 20 99 T_glbf := by
  intro Rc Rs av S cs sl K Kx h
  unfold T_glbf at h
  split at h
  · rename_i e_o p
    obtain ⟨e, rfl, h_1⟩ := pa_of h
    obtain ⟨n, A, hp, hc, hs, hk⟩ := h_1
    refine ⟨(sp_glbf e p n A), c_glbf l e p n A, fun _ _ _ => trivial, ⟨rfl, hp⟩, hc, hs, fun v9 S' h8 => by
      obtain ⟨h7, h8⟩ := h8
      cases h7
      subst h8
      exact hk, fun _ _ q => q.elim⟩
  · exact h.elim
/-- the row of siblings -/
def sibW (sb : Nat → Option Nat) : Nat → Option Nat → List Nat
  | n + 1, some y => y :: sibW sb n (sb y)
  | _, _ => []
def I_hsr (n : Nat) (p0 : Option Nat) (S : MM) (t : Nat) : KT := fun lo st S1 cs sl => ∃ p B, RpS S t p B ∧ ((∃ y ∈ sibW (sB S) n p0, mI S 513 y ≠ 0) ↔ ∃ y ∈ sibW (sB S) t p, mI S 513 y ≠ 0) ∧ lo = [(1, .inr (.inr p))] ∧ st = [] ∧ S = S1 ∧ cs = 0 ∧ sl = 0
def T_ghsr : TR := fun Rc Rs av S cs sl K _Kx => match av with
  | [.inr (.inr x_o)] => pa x_o fun x => (∃ (n : Nat) (A : List Nat), (isO S 5 x ∧ RpS S n (fR S x) A) ∧ cs ≤ Rc ∧ sl ≤ Rs ∧ (K (some (.inl (tf (∃ y ∈ sibW (sB S) n (fR S x), mI S 513 y ≠ 0)))) S cs sl))
  | _ => False
def sp_ghsr (x : Nat) (n : Nat) (A : List Nat) : Sp := (fun av S => av = [.inr (.inr (some x))] ∧ (isO S 5 x ∧ RpS S n (fR S x) A), fun _ S => 0, fun _ S => 0, fun _ S rv S' => rv = (some (.inl (tf (∃ y ∈ sibW (sB S) n (fR S x), mI S 513 y ≠ 0)))) ∧ S' = S, fun _ _ _ _ => False)
def tX5_hasShownRight : CD := [(0, .aload_n 0), (1, .getfield 197), (4, .astore_n 1), (5, .aload_n 1), (6, .ifnull 20), (9, .aload_n 1), (10, .getfield 138), (13, .ifCond .eq 5), (16, .iconst 1), (17, .ireturn), (18, .aload_n 1), (19, .getfield 214), (22, .astore_n 1), (23, .goto (-18)), (26, .iconst 0), (27, .ireturn)]
set_option maxRecDepth 100000 in
theorem kX5_hasShownRight : chk cX5_hasShownRight tX5_hasShownRight = true := by decide +kernel

set_option maxRecDepth 100000 in
set_option maxHeartbeats 2000000 in
theorem c_ghsr (l : Launch) : ∀ (x : Nat) (n : Nat) (A : List Nat), Ct l yX5_hasShownRight cX5_hasShownRight 2 (some .boolean) 0 0 (sp_ghsr x n A) := by
  intro x n A
  refine Ct.of (fX5, nX5, aX5, iX5, lX5, [], qX5, gX5, []) false tX5_hasShownRight (fun _ S => look [(5, ([1], I_hsr n (fR S x) S))]) (by decide) (by decide) kX5_hasShownRight ⟨_, _, rfl⟩ fX5_ok nX5_ok aX5_ok iX5_ok lX5_ok (fun _ _ _ _ _ _ _ _ _ _ _ _ _ _ _ _ _ _ => no_all) qX5_ok gX5_ok rfl ?_ ?_
  · rintro _ S ⟨rfl, hp⟩
    refine ⟨Nat.le_of_ble_eq_true rfl, 300, ?_⟩
    show (isO S 5 x ∧ (∃ k1, I_hsr n (fR S x) S k1 [(1, .inr (.inr (mR S 509 x)))] [] S 0 0))
    exact ⟨hp.1, n, fR S x, A, hp.2, Iff.rfl, rfl, rfl, rfl, rfl, rfl⟩
  · intro av S hpre pc I hI k lo st S1 cs sl h
    obtain ⟨rfl, hp⟩ := hpre
    have hm := look_in hI
    rw [List.mem_singleton] at hm
    cases hm
    obtain ⟨p, B, hB, hh, rfl, rfl, rfl, rfl, rfl⟩ := h
    refine ⟨300, ?_⟩
    show ((p = none → (([] : List MV) = [] ∧ mret (some .boolean) (sp_ghsr x n A) [.inr (.inr (some x))] S (some (.inl (0 : Int32))) S 0 0)) ∧ (∀ w_1, p = some w_1 → (pa p fun a_2 => isO S 5 a_2 ∧ (((mI S 513 a_2) = 0 → (pa p fun a_3 => isO S 5 a_3 ∧ (∃ k1, k1 < k ∧ I_hsr n (fR S x) S k1 [(1, .inr (.inr (mR S 510 a_3)))] [] S 0 0))) ∧ (¬ (mI S 513 a_2) = 0 → (([] : List MV) = [] ∧ mret (some .boolean) (sp_ghsr x n A) [.inr (.inr (some x))] S (some (.inl (1 : Int32))) S 0 0))))))
    refine ⟨fun z => ?_, fun w z => ?_⟩
    · subst z
      refine ⟨rfl, Or.inl rfl, ⟨ret_f (fun q => ?_) rfl, rfl⟩, Nat.le_refl _, Nat.le_refl _⟩
      obtain ⟨y, hy, -⟩ := hh.1 q
      cases k <;> cases hy
    · subst z
      obtain ⟨m, B1, C1, D1, rfl, r1, r2, r3, rfl, r5⟩ := hB.nd
      refine ⟨r5, fun z => ⟨r5, m, by omega, sB S w, D1, r3, hh.trans ?_, rfl, rfl, rfl, rfl, rfl⟩, fun z => ⟨rfl, Or.inr rfl, ⟨ret_t (hh.2 ⟨w, List.mem_cons_self, z⟩) rfl, rfl⟩, Nat.le_refl _, Nat.le_refl _⟩⟩
      constructor
      · rintro ⟨y, hy, h9⟩
        rcases List.mem_cons.1 hy with q | q
        · exact absurd z (q ▸ h9)
        · exact ⟨y, q, h9⟩
      · rintro ⟨y, hy, h9⟩
        exact ⟨y, List.mem_cons_of_mem _ hy, h9⟩
theorem u_ghsr (l : Launch) : Us l yX5_hasShownRight cX5_hasShownRight 2 (some .boolean) 0 0 99 T_ghsr := by
  intro Rc Rs av S cs sl K Kx h
  unfold T_ghsr at h
  split at h
  · rename_i x_o
    obtain ⟨x, rfl, h_1⟩ := pa_of h
    obtain ⟨n, A, hp, hc, hs, hk⟩ := h_1
    refine ⟨(sp_ghsr x n A), c_ghsr l x n A, fun _ _ _ => trivial, ⟨rfl, hp⟩, hc, hs, fun v9 S' h8 => by
      obtain ⟨h7, h8⟩ := h8
      cases h7
      subst h8
      exact hk, fun _ _ q => q.elim⟩
  · exact h.elim
/-- the chain from a pointer on -/
def chn (S : MM) : Option Nat → List Nat → Prop
  | p, [] => p = none
  | p, v :: R => p = some v ∧ isO S 5 v ∧ chn S (mR S 512 v) R
def I_nsh (R0 : List Nat) (S : MM) (t : Nat) : KT := fun lo st S1 cs sl => ∃ p R, t = R.length ∧ chn S p R ∧ R0.find? (fun y => decide (mI S 513 y ≠ 0)) = R.find? (fun y => decide (mI S 513 y ≠ 0)) ∧ lo = [(1, .inr (.inr p))] ∧ st = [] ∧ S = S1 ∧ cs = 0 ∧ sl = 0
def T_gnsh : TR := fun Rc Rs av S cs sl K _Kx => match av with
  | [.inr (.inr x_o)] => pa x_o fun x => (∃ (R : List Nat), (isO S 5 x ∧ chn S (mR S 512 x) R) ∧ cs ≤ Rc ∧ sl ≤ Rs ∧ (K (some (.inr (.inr (R.find? (fun y => decide (mI S 513 y ≠ 0)))))) S cs sl))
  | _ => False
def sp_gnsh (x : Nat) (R : List Nat) : Sp := (fun av S => av = [.inr (.inr (some x))] ∧ (isO S 5 x ∧ chn S (mR S 512 x) R), fun _ S => 0, fun _ S => 0, fun _ S rv S' => rv = (some (.inr (.inr (R.find? (fun y => decide (mI S 513 y ≠ 0)))))) ∧ S' = S, fun _ _ _ _ => False)
def tX5_nextShown : CD := [(0, .aload_n 0), (1, .getfield 147), (4, .astore_n 1), (5, .aload_n 1), (6, .ifnull 20), (9, .aload_n 1), (10, .getfield 138), (13, .ifCond .eq 5), (16, .aload_n 1), (17, .areturn), (18, .aload_n 1), (19, .getfield 147), (22, .astore_n 1), (23, .goto (-18)), (26, .aconst_null), (27, .areturn)]
set_option maxRecDepth 100000 in
theorem kX5_nextShown : chk cX5_nextShown tX5_nextShown = true := by decide +kernel

set_option maxRecDepth 100000 in
set_option maxHeartbeats 2000000 in
theorem c_gnsh (l : Launch) : ∀ (x : Nat) (R : List Nat), Ct l yX5_nextShown cX5_nextShown 2 (some (.object "WeaveText$Event")) 0 0 (sp_gnsh x R) := by
  intro x R
  refine Ct.of (fX5, nX5, aX5, iX5, lX5, [], qX5, gX5, []) false tX5_nextShown (fun _ S => look [(5, ([1], I_nsh R S))]) (by decide) (by decide) kX5_nextShown ⟨_, _, rfl⟩ fX5_ok nX5_ok aX5_ok iX5_ok lX5_ok (fun _ _ _ _ _ _ _ _ _ _ _ _ _ _ _ _ _ _ => no_all) qX5_ok gX5_ok rfl ?_ ?_
  · rintro _ S ⟨rfl, hp⟩
    refine ⟨Nat.le_of_ble_eq_true rfl, 300, ?_⟩
    show (isO S 5 x ∧ (∃ k1, I_nsh R S k1 [(1, .inr (.inr (mR S 512 x)))] [] S 0 0))
    exact ⟨hp.1, R.length, mR S 512 x, R, rfl, hp.2, rfl, rfl, rfl, rfl, rfl, rfl⟩
  · intro av S hpre pc I hI k lo st S1 cs sl h
    obtain ⟨rfl, hp⟩ := hpre
    have hm := look_in hI
    rw [List.mem_singleton] at hm
    cases hm
    obtain ⟨p, R1, rfl, hB, hh, rfl, rfl, rfl, rfl, rfl⟩ := h
    refine ⟨300, ?_⟩
    show ((p = none → (([] : List MV) = [] ∧ mret (some (.object "WeaveText$Event")) (sp_gnsh x R) [.inr (.inr (some x))] S (some (.inr (.inr none))) S 0 0)) ∧ (∀ w_1, p = some w_1 → (pa p fun a_2 => isO S 5 a_2 ∧ (((mI S 513 a_2) = 0 → (pa p fun a_3 => isO S 5 a_3 ∧ (∃ k1, k1 < R1.length ∧ I_nsh R S k1 [(1, .inr (.inr (mR S 512 a_3)))] [] S 0 0))) ∧ (¬ (mI S 513 a_2) = 0 → (([] : List MV) = [] ∧ mret (some (.object "WeaveText$Event")) (sp_gnsh x R) [.inr (.inr (some x))] S (some (.inr (.inr p))) S 0 0))))))
    refine ⟨fun z => ?_, fun w z => ?_⟩
    · subst z
      cases R1 with
      | nil => exact ⟨rfl, trivial, ⟨by rw [hh]; rfl, rfl⟩, Nat.le_refl _, Nat.le_refl _⟩
      | cons v R2 => obtain ⟨q, -⟩ := hB; cases q
    · subst z
      cases R1 with
      | nil => cases hB
      | cons v R2 =>
        obtain ⟨q, r5, r6⟩ := hB
        cases q
        refine ⟨r5, fun z => ⟨r5, R2.length, by simp, mR S 512 w, R2, rfl, r6, ?_, rfl, rfl, rfl, rfl, rfl⟩, fun z => ⟨rfl, trivial, ⟨?_, rfl⟩, Nat.le_refl _, Nat.le_refl _⟩⟩
        · rw [hh, List.find?_cons, show decide (mI S 513 w ≠ 0) = false from decide_eq_false (fun q => q z)]
        · rw [hh, List.find?_cons, show decide (mI S 513 w ≠ 0) = true from decide_eq_true z]
theorem u_gnsh (l : Launch) : Us l yX5_nextShown cX5_nextShown 2 (some (.object "WeaveText$Event")) 0 0 99 T_gnsh := by
  intro Rc Rs av S cs sl K Kx h
  unfold T_gnsh at h
  split at h
  · rename_i x_o
    obtain ⟨x, rfl, h_1⟩ := pa_of h
    obtain ⟨R, hp, hc, hs, hk⟩ := h_1
    refine ⟨(sp_gnsh x R), c_gnsh l x R, fun _ _ _ => trivial, ⟨rfl, hp⟩, hc, hs, fun v9 S' h8 => by
      obtain ⟨h7, h8⟩ := h8
      cases h7
      subst h8
      exact hk, fun _ _ q => q.elim⟩
  · exact h.elim
def lkS (S : MM) (e x : Nat) : MM := match mR S 512 x with
  | some y => sR (sR (sR (sR S 511 e (some x)) 512 e (some y)) 511 y (some e)) 512 x (some e)
  | none => sR (sR (sR S 511 e (some x)) 512 e none) 512 x (some e)
def T_glk : TR := fun Rc Rs av S cs sl K _Kx => match av with
  | [.inr (.inr e_o), .inr (.inr x_o)] => pa e_o fun e => (pa x_o fun x => ((isO S 5 e ∧ isO S 5 x ∧ (∀ y, mR S 512 x = some y → isO S 5 y)) ∧ cs ≤ Rc ∧ sl ≤ Rs ∧ (K none (lkS S e x) cs sl)))
  | _ => False
def sp_glk (e : Nat) (x : Nat)  : Sp := (fun av S => av = [.inr (.inr (some e)), .inr (.inr (some x))] ∧ (isO S 5 e ∧ isO S 5 x ∧ (∀ y, mR S 512 x = some y → isO S 5 y)), fun _ S => 0, fun _ S => 0, fun _ S rv S' => rv = none ∧ S' = lkS S e x, fun _ _ _ _ => False)
def tX5_linkBehind : CD := [(0, .aload_n 0), (1, .aload_n 1), (2, .putfield 144), (5, .aload_n 0), (6, .aload_n 1), (7, .getfield 147), (10, .putfield 147), (13, .aload_n 0), (14, .getfield 147), (17, .ifnull 11), (20, .aload_n 0), (21, .getfield 147), (24, .aload_n 0), (25, .putfield 144), (28, .aload_n 1), (29, .aload_n 0), (30, .putfield 147), (33, .return_)]
set_option maxRecDepth 100000 in
theorem kX5_linkBehind : chk cX5_linkBehind tX5_linkBehind = true := by decide +kernel

set_option maxRecDepth 100000 in
set_option maxHeartbeats 2000000 in
theorem c_glk (l : Launch) : ∀ (e : Nat) (x : Nat), Ct l yX5_linkBehind cX5_linkBehind 2 none 0 0 (sp_glk e x) := by
  intro e x
  refine Ct.of (fX5, nX5, aX5, iX5, lX5, [], qX5, gX5, []) false tX5_linkBehind (fun _ _ _ => none) (by decide) (by decide) kX5_linkBehind ⟨_, _, rfl⟩ fX5_ok nX5_ok aX5_ok iX5_ok lX5_ok (fun _ _ _ _ _ _ _ _ _ _ _ _ _ _ _ _ _ _ => no_all) qX5_ok gX5_ok rfl ?_ ?_
  · rintro _ S ⟨rfl, hp⟩
    refine ⟨Nat.le_of_ble_eq_true rfl, 300, ?_⟩
    show (True ∧ (isO S 5 e ∧ (isO (sR S 511 e (some x)) 5 x ∧ (True ∧ (isO (sR S 511 e (some x)) 5 e ∧ (isO (sR (sR S 511 e (some x)) 512 e (mR (sR S 511 e (some x)) 512 x)) 5 e ∧ (((mR (sR (sR S 511 e (some x)) 512 e (mR (sR S 511 e (some x)) 512 x)) 512 e) = none → (True ∧ (isO (sR (sR S 511 e (some x)) 512 e (mR (sR S 511 e (some x)) 512 x)) 5 x ∧ (([] : List MV) = [] ∧ mret none (sp_glk e x) [.inr (.inr (some e)), .inr (.inr (some x))] S none (sR (sR (sR S 511 e (some x)) 512 e (mR (sR S 511 e (some x)) 512 x)) 512 x (some e)) 0 0)))) ∧ (∀ w_1, (mR (sR (sR S 511 e (some x)) 512 e (mR (sR S 511 e (some x)) 512 x)) 512 e) = some w_1 → (isO (sR (sR S 511 e (some x)) 512 e (mR (sR S 511 e (some x)) 512 x)) 5 e ∧ (True ∧ (pa (mR (sR (sR S 511 e (some x)) 512 e (mR (sR S 511 e (some x)) 512 x)) 512 e) fun a_2 => isO (sR (sR S 511 e (some x)) 512 e (mR (sR S 511 e (some x)) 512 x)) 5 a_2 ∧ (True ∧ (isO (sR (sR (sR S 511 e (some x)) 512 e (mR (sR S 511 e (some x)) 512 x)) 511 a_2 (some e)) 5 x ∧ (([] : List MV) = [] ∧ mret none (sp_glk e x) [.inr (.inr (some e)), .inr (.inr (some x))] S none (sR (sR (sR (sR S 511 e (some x)) 512 e (mR (sR S 511 e (some x)) 512 x)) 511 a_2 (some e)) 512 x (some e)) 0 0))))))))))))))
    obtain ⟨h1, h2, h3⟩ := hp
    have e1 : mR (sR S 511 e (some x)) 512 x = mR S 512 x := by rw [mR_sR, if_neg (fun z => absurd z.1 (by decide))]
    rw [e1]
    have e2 : mR (sR (sR S 511 e (some x)) 512 e (mR S 512 x)) 512 e = mR S 512 x := by rw [mR_sR, if_pos ⟨rfl, rfl⟩]
    rw [e2]
    refine ⟨trivial, h1, h2, trivial, h1, h1, fun z => ⟨trivial, h2, rfl, trivial, ⟨rfl, ?_⟩, Nat.le_refl _, Nat.le_refl _⟩, fun w z => ?_⟩
    · rw [lkS, z]
    · rw [z]
      refine ⟨h1, trivial, h3 w z, trivial, h2, rfl, trivial, ⟨rfl, ?_⟩, Nat.le_refl _, Nat.le_refl _⟩
      rw [lkS, z]
  · exact fun _ _ _ _ _ h => by cases h
theorem u_glk (l : Launch) : Us l yX5_linkBehind cX5_linkBehind 2 none 0 0 99 T_glk := by
  intro Rc Rs av S cs sl K Kx h
  unfold T_glk at h
  split at h
  · rename_i e_o x_o
    obtain ⟨e, rfl, h_1⟩ := pa_of h
    obtain ⟨x, rfl, h_2⟩ := pa_of h_1
    obtain ⟨hp, hc, hs, hk⟩ := h_2
    refine ⟨(sp_glk e x), c_glk l e x, fun _ _ _ => trivial, ⟨rfl, hp⟩, hc, hs, fun S' h8 => by
      obtain ⟨-, h8⟩ := h8
      subst h8
      exact hk, fun _ _ q => q.elim⟩
  · exact h.elim
theorem isO_sR {S : MM} {i a k b : Nat} {v : Option Nat} (h : isO S k b) : isO (sR S i a v) k b := h
theorem isO_sI {S : MM} {i a k b : Nat} {v : Int32} (h : isO S k b) : isO (sI S i a v) k b := h
def T_eini : TR := fun Rc Rs av S cs sl K _Kx => match av with
  | [.inr (.inr e_o), .inr (.inr g), .inl x, .inl t, .inr (.inr p), .inr (.inr b), .inl c, .inl i] => pa e_o fun e => ((isO S 5 e) ∧ cs ≤ Rc ∧ sl ≤ Rs ∧ (K none (sI (sI (sR (sR (sI (sI (sR (sI (sI (sI (sR (sR (sR (sR (sR (sR S 507 e none) 508 e none) 509 e none) 510 e none) 511 e none) 512 e none) 513 e 0) 514 e (-1)) 515 e 0) 500 e g) 501 e x) 502 e t) 503 e p) 504 e b) 505 e c) 506 e i) cs sl))
  | _ => False
def sp_eini (e : Nat) (g : Option Nat) (x : Int32) (t : Int32) (p : Option Nat) (b : Option Nat) (c : Int32) (i : Int32)  : Sp := (fun av S => av = [.inr (.inr (some e)), .inr (.inr g), .inl x, .inl t, .inr (.inr p), .inr (.inr b), .inl c, .inl i] ∧ (isO S 5 e), fun _ S => 0, fun _ S => 0, fun _ S rv S' => rv = none ∧ S' = sI (sI (sR (sR (sI (sI (sR (sI (sI (sI (sR (sR (sR (sR (sR (sR S 507 e none) 508 e none) 509 e none) 510 e none) 511 e none) 512 e none) 513 e 0) 514 e (-1)) 515 e 0) 500 e g) 501 e x) 502 e t) 503 e p) 504 e b) 505 e c) 506 e i, fun _ _ _ _ => False)
def tX4_init : CD := [(0, .aload_n 0), (1, .invokespecial 3), (4, .aload_n 0), (5, .aconst_null), (6, .putfield 9), (9, .aload_n 0), (10, .aconst_null), (11, .putfield 15), (14, .aload_n 0), (15, .aconst_null), (16, .putfield 18), (19, .aload_n 0), (20, .aconst_null), (21, .putfield 21), (24, .aload_n 0), (25, .aconst_null), (26, .putfield 24), (29, .aload_n 0), (30, .aconst_null), (31, .putfield 27), (34, .aload_n 0), (35, .iconst 0), (36, .putfield 30), (39, .aload_n 0), (40, .iconst (-1)), (41, .putfield 34), (44, .aload_n 0), (45, .iconst 0), (46, .putfield 37), (49, .aload_n 0), (50, .aload_n 1), (51, .putfield 40), (54, .aload_n 0), (55, .iload_n 2), (56, .putfield 44), (59, .aload_n 0), (60, .iload_n 3), (61, .putfield 47), (64, .aload_n 0), (65, .aload 4), (67, .putfield 50), (70, .aload_n 0), (71, .aload 5), (73, .putfield 54), (76, .aload_n 0), (77, .iload 6), (79, .putfield 58), (82, .aload_n 0), (83, .iload 7), (85, .putfield 61), (88, .return_)]
set_option maxRecDepth 100000 in
theorem kX4_init : chk cX4_init tX4_init = true := by decide +kernel
theorem vX4_init_3 : ∀ w ∈ ([.methodLink RX4 3 Lib.objectInit, .instanceMethod Lib.objectInit, .code Lib.objectInit ⟨#[0xb1]⟩ 1 none] : List Cond), w ∈ lw_good := List.forall_mem_cons.mpr ⟨mgd 282 (by decide +kernel) (by decide +kernel), List.forall_mem_cons.mpr ⟨mgd 158 (by decide +kernel) (by decide +kernel), List.forall_mem_cons.mpr ⟨mgd 159 (by decide +kernel) (by decide +kernel), fun _ h => absurd h List.not_mem_nil⟩⟩⟩
set_option maxRecDepth 100000 in
set_option maxHeartbeats 2000000 in
theorem c_eini (l : Launch) : ∀ (e : Nat) (g : Option Nat) (x : Int32) (t : Int32) (p : Option Nat) (b : Option Nat) (c : Int32) (i : Int32), Ct l yX4_init cX4_init 8 none 1 20 (sp_eini e g x t p b c i) := by
  intro e g x t p b c i
  refine Ct.of (fX4, nX4, aX4, iX4, lX4, [(3, 1, 1, 0, T_obj)], qX4, gX4, []) true tX4_init (fun _ _ _ => none) (by decide) (by decide) kX4_init ⟨_, _, rfl⟩ fX4_ok nX4_ok aX4_ok iX4_ok lX4_ok (fun p e R s m args below meth c Q D cy z r A C hR1 hR2 => List.forall_mem_cons.mpr ⟨cOK_use (fun _ _ _ _ _ _ _ _ h => ⟨spObj, cOK_obj C vX4_init_3 ⟨by rw [hR1]; decide, by rw [hR2]; decide⟩, T_obj_ok h⟩), fun _ h => absurd h List.not_mem_nil⟩) qX4_ok gX4_ok rfl ?_ ?_
  · rintro _ S ⟨rfl, hp⟩
    refine ⟨Nat.le_of_ble_eq_true rfl, 300, ?_⟩
    show (1 = 1 ∧ (True ∧ 0 ≤ 0 ∧ 0 ≤ 0 ∧ ((True ∧ (isO S 5 e ∧ (True ∧ (isO (sR S 507 e none) 5 e ∧ (True ∧ (isO (sR (sR S 507 e none) 508 e none) 5 e ∧ (True ∧ (isO (sR (sR (sR S 507 e none) 508 e none) 509 e none) 5 e ∧ (True ∧ (isO (sR (sR (sR (sR S 507 e none) 508 e none) 509 e none) 510 e none) 5 e ∧ (True ∧ (isO (sR (sR (sR (sR (sR S 507 e none) 508 e none) 509 e none) 510 e none) 511 e none) 5 e ∧ (True ∧ (isO (sR (sR (sR (sR (sR (sR S 507 e none) 508 e none) 509 e none) 510 e none) 511 e none) 512 e none) 5 e ∧ (True ∧ (isO (sI (sR (sR (sR (sR (sR (sR S 507 e none) 508 e none) 509 e none) 510 e none) 511 e none) 512 e none) 513 e (0 : Int32)) 5 e ∧ (True ∧ (isO (sI (sI (sR (sR (sR (sR (sR (sR S 507 e none) 508 e none) 509 e none) 510 e none) 511 e none) 512 e none) 513 e (0 : Int32)) 514 e (-1 : Int32)) 5 e ∧ (true = true ∧ (isO (sI (sI (sI (sR (sR (sR (sR (sR (sR S 507 e none) 508 e none) 509 e none) 510 e none) 511 e none) 512 e none) 513 e (0 : Int32)) 514 e (-1 : Int32)) 515 e (0 : Int32)) 5 e ∧ (true = true ∧ (isO (sR (sI (sI (sI (sR (sR (sR (sR (sR (sR S 507 e none) 508 e none) 509 e none) 510 e none) 511 e none) 512 e none) 513 e (0 : Int32)) 514 e (-1 : Int32)) 515 e (0 : Int32)) 500 e g) 5 e ∧ (true = true ∧ (isO (sI (sR (sI (sI (sI (sR (sR (sR (sR (sR (sR S 507 e none) 508 e none) 509 e none) 510 e none) 511 e none) 512 e none) 513 e (0 : Int32)) 514 e (-1 : Int32)) 515 e (0 : Int32)) 500 e g) 501 e x) 5 e ∧ (true = true ∧ (isO (sI (sI (sR (sI (sI (sI (sR (sR (sR (sR (sR (sR S 507 e none) 508 e none) 509 e none) 510 e none) 511 e none) 512 e none) 513 e (0 : Int32)) 514 e (-1 : Int32)) 515 e (0 : Int32)) 500 e g) 501 e x) 502 e t) 5 e ∧ (true = true ∧ (isO (sR (sI (sI (sR (sI (sI (sI (sR (sR (sR (sR (sR (sR S 507 e none) 508 e none) 509 e none) 510 e none) 511 e none) 512 e none) 513 e (0 : Int32)) 514 e (-1 : Int32)) 515 e (0 : Int32)) 500 e g) 501 e x) 502 e t) 503 e p) 5 e ∧ (true = true ∧ (isO (sR (sR (sI (sI (sR (sI (sI (sI (sR (sR (sR (sR (sR (sR S 507 e none) 508 e none) 509 e none) 510 e none) 511 e none) 512 e none) 513 e (0 : Int32)) 514 e (-1 : Int32)) 515 e (0 : Int32)) 500 e g) 501 e x) 502 e t) 503 e p) 504 e b) 5 e ∧ (true = true ∧ (isO (sI (sR (sR (sI (sI (sR (sI (sI (sI (sR (sR (sR (sR (sR (sR S 507 e none) 508 e none) 509 e none) 510 e none) 511 e none) 512 e none) 513 e (0 : Int32)) 514 e (-1 : Int32)) 515 e (0 : Int32)) 500 e g) 501 e x) 502 e t) 503 e p) 504 e b) 505 e c) 5 e ∧ (([] : List MV) = [] ∧ mret none (sp_eini e g x t p b c i) [.inr (.inr (some e)), .inr (.inr g), .inl x, .inl t, .inr (.inr p), .inr (.inr b), .inl c, .inl i] S none (sI (sI (sR (sR (sI (sI (sR (sI (sI (sI (sR (sR (sR (sR (sR (sR S 507 e none) 508 e none) 509 e none) 510 e none) 511 e none) 512 e none) 513 e (0 : Int32)) 514 e (-1 : Int32)) 515 e (0 : Int32)) 500 e g) 501 e x) 502 e t) 503 e p) 504 e b) 505 e c) 506 e i) 0 0))))))))))))))))))))))))))))))))))))
    exact ⟨rfl, trivial, Nat.le_refl _, Nat.le_refl _, trivial, hp, trivial, (isO_sR hp), trivial, (isO_sR (isO_sR hp)), trivial, (isO_sR (isO_sR (isO_sR hp))), trivial, (isO_sR (isO_sR (isO_sR (isO_sR hp)))), trivial, (isO_sR (isO_sR (isO_sR (isO_sR (isO_sR hp))))), trivial, (isO_sR (isO_sR (isO_sR (isO_sR (isO_sR (isO_sR hp)))))), trivial, (isO_sI (isO_sR (isO_sR (isO_sR (isO_sR (isO_sR (isO_sR hp))))))), trivial, (isO_sI (isO_sI (isO_sR (isO_sR (isO_sR (isO_sR (isO_sR (isO_sR hp)))))))), rfl, (isO_sI (isO_sI (isO_sI (isO_sR (isO_sR (isO_sR (isO_sR (isO_sR (isO_sR hp))))))))), rfl, (isO_sR (isO_sI (isO_sI (isO_sI (isO_sR (isO_sR (isO_sR (isO_sR (isO_sR (isO_sR hp)))))))))), rfl, (isO_sI (isO_sR (isO_sI (isO_sI (isO_sI (isO_sR (isO_sR (isO_sR (isO_sR (isO_sR (isO_sR hp))))))))))), rfl, (isO_sI (isO_sI (isO_sR (isO_sI (isO_sI (isO_sI (isO_sR (isO_sR (isO_sR (isO_sR (isO_sR (isO_sR hp)))))))))))), rfl, (isO_sR (isO_sI (isO_sI (isO_sR (isO_sI (isO_sI (isO_sI (isO_sR (isO_sR (isO_sR (isO_sR (isO_sR (isO_sR hp))))))))))))), rfl, (isO_sR (isO_sR (isO_sI (isO_sI (isO_sR (isO_sI (isO_sI (isO_sI (isO_sR (isO_sR (isO_sR (isO_sR (isO_sR (isO_sR hp)))))))))))))), rfl, (isO_sI (isO_sR (isO_sR (isO_sI (isO_sI (isO_sR (isO_sI (isO_sI (isO_sI (isO_sR (isO_sR (isO_sR (isO_sR (isO_sR (isO_sR hp))))))))))))))), rfl, trivial, ⟨rfl, rfl⟩, Nat.le_refl _, Nat.le_refl _⟩
  · exact fun _ _ _ _ _ h => by cases h
theorem u_eini (l : Launch) : Us l yX4_init cX4_init 8 none 1 20 98 T_eini := by
  intro Rc Rs av S cs sl K Kx h
  unfold T_eini at h
  split at h
  · rename_i e_o g x t p b c i
    obtain ⟨e, rfl, h_1⟩ := pa_of h
    obtain ⟨hp, hc, hs, hk⟩ := h_1
    refine ⟨(sp_eini e g x t p b c i), c_eini l e g x t p b c i, fun _ _ h9 => ⟨_, _, h9.1⟩, ⟨rfl, hp⟩, hc, hs, fun S' h8 => by
      obtain ⟨-, h8⟩ := h8
      subst h8
      exact hk, fun _ _ q => q.elim⟩
  · exact h.elim
def T_dini : TR := fun Rc Rs av S cs sl K _Kx => match av with
  | [.inr (.inr e_o), .inl x, .inl y] => pa e_o fun e => ((isO S 4 e) ∧ cs ≤ Rc ∧ sl ≤ Rs ∧ (K none (sI (sI S 400 e x) 401 e y) cs sl))
  | _ => False
def sp_dini (e : Nat) (x : Int32) (y : Int32)  : Sp := (fun av S => av = [.inr (.inr (some e)), .inl x, .inl y] ∧ (isO S 4 e), fun _ S => 0, fun _ S => 0, fun _ S rv S' => rv = none ∧ S' = sI (sI S 400 e x) 401 e y, fun _ _ _ _ => False)
def tX3_init : CD := [(0, .aload_n 0), (1, .invokespecial 1), (4, .aload_n 0), (5, .iload_n 1), (6, .putfield 7), (9, .aload_n 0), (10, .iload_n 2), (11, .putfield 13), (14, .return_)]
set_option maxRecDepth 100000 in
theorem kX3_init : chk cX3_init tX3_init = true := by decide +kernel
theorem vX3_init_1 : ∀ w ∈ ([.methodLink RX3 1 Lib.objectInit, .instanceMethod Lib.objectInit, .code Lib.objectInit ⟨#[0xb1]⟩ 1 none] : List Cond), w ∈ lw_good := List.forall_mem_cons.mpr ⟨mgd 1041 (by decide +kernel) (by decide +kernel), List.forall_mem_cons.mpr ⟨mgd 158 (by decide +kernel) (by decide +kernel), List.forall_mem_cons.mpr ⟨mgd 159 (by decide +kernel) (by decide +kernel), fun _ h => absurd h List.not_mem_nil⟩⟩⟩
set_option maxRecDepth 100000 in
set_option maxHeartbeats 2000000 in
theorem c_dini (l : Launch) : ∀ (e : Nat) (x : Int32) (y : Int32), Ct l yX3_init cX3_init 3 none 1 20 (sp_dini e x y) := by
  intro e x y
  refine Ct.of (fX3, nX3, aX3, iX3, lX3, [(1, 1, 1, 0, T_obj)], qX3, gX3, []) true tX3_init (fun _ _ _ => none) (by decide) (by decide) kX3_init ⟨_, _, rfl⟩ fX3_ok nX3_ok aX3_ok iX3_ok lX3_ok (fun p e R s m args below meth c Q D cy z r A C hR1 hR2 => List.forall_mem_cons.mpr ⟨cOK_use (fun _ _ _ _ _ _ _ _ h => ⟨spObj, cOK_obj C vX3_init_1 ⟨by rw [hR1]; decide, by rw [hR2]; decide⟩, T_obj_ok h⟩), fun _ h => absurd h List.not_mem_nil⟩) qX3_ok gX3_ok rfl ?_ ?_
  · rintro _ S ⟨rfl, hp⟩
    refine ⟨Nat.le_of_ble_eq_true rfl, 300, ?_⟩
    show (1 = 1 ∧ (True ∧ 0 ≤ 0 ∧ 0 ≤ 0 ∧ ((true = true ∧ (isO S 4 e ∧ (true = true ∧ (isO (sI S 400 e x) 4 e ∧ (([] : List MV) = [] ∧ mret none (sp_dini e x y) [.inr (.inr (some e)), .inl x, .inl y] S none (sI (sI S 400 e x) 401 e y) 0 0))))))))
    exact ⟨rfl, trivial, Nat.le_refl _, Nat.le_refl _, rfl, hp, rfl, hp, rfl, trivial, ⟨rfl, rfl⟩, Nat.le_refl _, Nat.le_refl _⟩
  · exact fun _ _ _ _ _ h => by cases h
theorem u_dini (l : Launch) : Us l yX3_init cX3_init 3 none 1 20 98 T_dini := by
  intro Rc Rs av S cs sl K Kx h
  unfold T_dini at h
  split at h
  · rename_i e_o x y
    obtain ⟨e, rfl, h_1⟩ := pa_of h
    obtain ⟨hp, hc, hs, hk⟩ := h_1
    refine ⟨(sp_dini e x y), c_dini l e x y, fun _ _ h9 => ⟨_, _, h9.1⟩, ⟨rfl, hp⟩, hc, hs, fun S' h8 => by
      obtain ⟨-, h8⟩ := h8
      subst h8
      exact hk, fun _ _ q => q.elim⟩
  · exact h.elim
