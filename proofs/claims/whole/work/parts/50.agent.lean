/-! ===== A new agent ===== -/
theorem isO_rR {S : MM} {a k b : Nat} {f : Nat → Option Nat} (h : isO S k b) : isO (rR S a f) k b := h
theorem isO_rI {S : MM} {a k b : Nat} {f : Nat → Int32} (h : isO S k b) : isO (rI S a f) k b := h
def agS (S : MM) (a q : Nat) (x s : Int32) : MM := sI (sI (sR (sR (sI (nO S q 0) 0 q 0) 1 q (some (mZ S))) 102 a (some q)) 100 a x) 101 a s
def T_agini : TR := fun Rc Rs av S cs sl K _Kx => match av with
  | [.inr (.inr a_o), .inl x, .inl s] => pa a_o fun a => ((isO S 1 a) ∧ cs + 1 ≤ Rc ∧ sl + 3 ≤ Rs ∧ (∀ (S' : MM), (∃ q, q ∉ mL S ∧ S' = agS S a q x s) → K none S' (cs + 1) (sl + 3)))
  | _ => False
def sp_agini (a : Nat) (x : Int32) (s : Int32)  : Sp := (fun av S => av = [.inr (.inr (some a)), .inl x, .inl s] ∧ (isO S 1 a), fun _ S => 1, fun _ S => 3, fun _ S rv S' => rv = none ∧ (∃ q, q ∉ mL S ∧ S' = agS S a q x s), fun _ _ _ _ => False)
def tX0_init : CD := [(0, .aload_n 0), (1, .invokespecial 1), (4, .aload_n 0), (5, .new 7), (8, .dup), (9, .invokespecial 9), (12, .putfield 10), (15, .aload_n 0), (16, .iload_n 1), (17, .putfield 16), (20, .aload_n 0), (21, .iload_n 2), (22, .putfield 20), (25, .return_)]
set_option maxRecDepth 100000 in
theorem kX0_init : chk cX0_init tX0_init = true := by decide +kernel
theorem vX0_init_1 : ∀ w ∈ ([.methodLink RX0 1 Lib.objectInit, .instanceMethod Lib.objectInit, .code Lib.objectInit ⟨#[0xb1]⟩ 1 none] : List Cond), w ∈ lw_good := List.forall_mem_cons.mpr ⟨mgd 235 (by decide +kernel) (by decide +kernel), List.forall_mem_cons.mpr ⟨mgd 158 (by decide +kernel) (by decide +kernel), List.forall_mem_cons.mpr ⟨mgd 159 (by decide +kernel) (by decide +kernel), fun _ h => absurd h List.not_mem_nil⟩⟩⟩
theorem vX0_init_9 : ∀ w ∈ ([.instanceMethod yJx4a65c_init_da8c8, .initialized yJx4a65c_init_da8c8.cls, .code yJx4a65c_init_da8c8 cJx4a65c_init_da8c8 1 none] : List Cond), w ∈ lw_good := List.forall_mem_cons.mpr ⟨mgd 239 (by decide +kernel) (by decide +kernel), List.forall_mem_cons.mpr ⟨mgd 130 (by decide +kernel) (by decide +kernel), List.forall_mem_cons.mpr ⟨mgd 240 (by decide +kernel) (by decide +kernel), fun _ h => absurd h List.not_mem_nil⟩⟩⟩
set_option maxRecDepth 100000 in
set_option maxHeartbeats 2000000 in
theorem c_agini (l : Launch) : ∀ (a : Nat) (x : Int32) (s : Int32), Ct l yX0_init cX0_init 3 none 4 80 (sp_agini a x s) := by
  intro a x s
  refine Ct.of (fX0, nX0, aX0, iX0, lX0, [(1, 1, 1, 0, T_obj), (9, 1, 1, 0, T_alini)], qX0, gX0, []) true tX0_init (fun _ _ _ => none) (by decide) (by decide) kX0_init ⟨_, _, rfl⟩ fX0_ok nX0_ok aX0_ok iX0_ok lX0_ok (fun p e R s m args below meth c Q D cy z r A C hR1 hR2 => List.forall_mem_cons.mpr ⟨cOK_use (fun _ _ _ _ _ _ _ _ h => ⟨spObj, cOK_obj C vX0_init_1 ⟨by rw [hR1]; decide, by rw [hR2]; decide⟩, T_obj_ok h⟩), List.forall_mem_cons.mpr ⟨cOK_use (fun _ _ _ _ _ _ _ _ h => let ⟨sp, h1, h2, h3⟩ := u_alini l _ _ _ _ _ _ _ _ h; ⟨sp, cOK_I C h1 vX0_init_9 (Or.inl (mgd 238 (by decide +kernel) (by decide +kernel))) rfl ⟨by decide, by decide, by decide +kernel⟩ ⟨by rw [hR1]; decide, by rw [hR2]; decide⟩ h2, h3⟩), fun _ h => absurd h List.not_mem_nil⟩⟩) qX0_ok gX0_ok rfl ?_ ?_
  · rintro _ S ⟨rfl, hp⟩
    refine ⟨Nat.le_of_ble_eq_true rfl, 300, ?_⟩
    show (1 = 1 ∧ (True ∧ 0 ≤ 1 ∧ 0 ≤ 3 ∧ ((0 + 1 ≤ 1 ∧ 0 + 3 ≤ 3 ∧ ∀ q_2, q_2 ∉ mL S → (1 = 1 ∧ ((isO (nO S q_2 0) 0 q_2) ∧ 0 + 1 ≤ 1 ∧ 0 + 3 ≤ 3 ∧ ((true = true ∧ (isO (sR (sI (nO S q_2 0) 0 q_2 0) 1 q_2 (some (mZ (nO S q_2 0)))) 1 a ∧ (true = true ∧ (isO (sR (sR (sI (nO S q_2 0) 0 q_2 0) 1 q_2 (some (mZ (nO S q_2 0)))) 102 a (some q_2)) 1 a ∧ (true = true ∧ (isO (sI (sR (sR (sI (nO S q_2 0) 0 q_2 0) 1 q_2 (some (mZ (nO S q_2 0)))) 102 a (some q_2)) 100 a x) 1 a ∧ (([] : List MV) = [] ∧ mret none (sp_agini a x s) [.inr (.inr (some a)), .inl x, .inl s] S none (sI (sI (sR (sR (sI (nO S q_2 0) 0 q_2 0) 1 q_2 (some (mZ (nO S q_2 0)))) 102 a (some q_2)) 100 a x) 101 a s) (0 + 1) (0 + 3)))))))))))))))
    refine ⟨rfl, trivial, Nat.zero_le _, Nat.zero_le _, Nat.le_refl _, Nat.le_refl _, fun q hq => ⟨rfl, isO_nO_self, Nat.le_refl _, Nat.le_refl _, ?_⟩⟩
    have h1 : isO (nO S q 0) 1 a := isO_nO hp hq
    exact ⟨rfl, isO_sR (isO_sI h1), rfl, isO_sR (isO_sR (isO_sI h1)), rfl, isO_sI (isO_sR (isO_sR (isO_sI h1))), rfl, trivial, ⟨rfl, q, hq, rfl⟩, Nat.le_refl _, Nat.le_refl _⟩
  · exact fun _ _ _ _ _ h => by cases h
theorem u_agini (l : Launch) : Us l yX0_init cX0_init 3 none 4 80 98 T_agini := by
  intro Rc Rs av S cs sl K Kx h
  unfold T_agini at h
  split at h
  · rename_i a_o x s
    obtain ⟨a, rfl, h_1⟩ := pa_of h
    obtain ⟨hp, hc, hs, hk⟩ := h_1
    refine ⟨(sp_agini a x s), c_agini l a x s, fun _ _ h9 => ⟨_, _, h9.1⟩, ⟨rfl, hp⟩, hc, hs, fun S' h8 => by
      obtain ⟨-, h8⟩ := h8
      exact hk _ h8, fun _ _ q => q.elim⟩
  · exact h.elim
/-- the graph with a slot for an agent -/
def Gr.agn (G : Gr) (a : Nat) : Gr := (G.n, G.ev, G.m + 1, updN G.ag G.m a)
theorem Gr.agn_cnt (G : Gr) (a : Nat) : ∀ k s, (G.agn a).cnt k s = G.cnt k s
  | 0, _ => rfl
  | k + 1, s => by rw [Gr.cnt, Gr.cnt, Gr.agn_cnt G a k s]; rfl
theorem Gr.agn_key {G : Gr} (h : G.ok) (a : Nat) {k : Nat} (hk : k < G.n) : (G.agn a).key k = G.key k := by
  have := h.sl1 k hk
  show updN G.ag G.m a (G.ev k).sl * _ + _ = _
  rw [updN_o (by omega)]; rfl
theorem Gr.agn_ok {G : Gr} (h : G.ok) {a : Nat} (hm : G.m < 16) (ha : a < 256) (hn : ∀ t, t < G.m → G.ag t ≠ a) : (G.agn a).ok := by
  have ag : ∀ s, s < G.m → updN G.ag G.m a s = G.ag s := fun s hs => updN_o (by omega)
  refine ⟨h.hn, by show G.m + 1 ≤ 16; omega, fun s hs => ?_, fun s t hs ht e => ?_, trivial, fun k hk => Nat.lt_succ_of_lt (h.sl1 k hk), fun k hk => ?_, h.pa1, fun k s hk => ?_, h.pa3, h.pr1, h.pr2, h.pr3, fun k hk => ?_⟩
  · show updN G.ag G.m a s < 256
    by_cases q : s = G.m
    · rw [q, updN_s]; exact ha
    · rw [updN_o q]; exact h.ag1 s (by have : s < G.m + 1 := hs; omega)
  · have hs : s < G.m + 1 := hs
    have ht : t < G.m + 1 := ht
    have e : updN G.ag G.m a s = updN G.ag G.m a t := e
    by_cases q : s = G.m <;> by_cases w : t = G.m
    · rw [q, w]
    · rw [q, updN_s, updN_o w] at e
      exact absurd e.symm (hn t (by omega))
    · rw [w, updN_s, updN_o q] at e
      exact absurd e (hn s (by omega))
    · rw [updN_o q, updN_o w] at e
      exact h.ag2 s t (by omega) (by omega) e
  · rw [Gr.agn_cnt]; exact h.nu1 k hk
  · rw [Gr.agn_cnt]; exact h.pa2 k s hk
  · refine List.Pairwise.imp_of_mem (fun {p q} hp hq hh => ?_) (h.pr4 k hk)
    have hk' : k < G.n := hk
    rw [Gr.agn_key h a (by have := h.pr1 k hk p hp; omega), Gr.agn_key h a (by have := h.pr1 k hk q hq; omega)]; exact hh
theorem Gr.agn_GT {G : Gr} {T : Tr} (h : GT G T) {a : Nat} (hm : G.m < 16) (ha : a < 256) (hn : ∀ t, t < G.m → G.ag t ≠ a) : GT (G.agn a) T := ⟨Gr.agn_ok h.1 hm ha hn, h.2⟩
theorem Gr.agn_evL (G : Gr) (a s : Nat) : evL (G.agn a) s = evL G s := rfl
theorem Gr.agn_del (G : Gr) (a : Nat) (W : Nat → Nat) (k : Nat) : ∀ N, del (G.agn a) W N k = del G W N k
  | 0 => rfl
  | N + 1 => by rw [del, del, Gr.agn_del G a W k N]; rfl
theorem Gr.agn_stV (G : Gr) (a : Nat) (W : Nat → Nat) (N k : Nat) : stV (G.agn a) W N k = stV G W N k := by
  rw [stV, stV, Gr.agn_del]; rfl
theorem Gr.agn_c1 (G : Gr) (a : Nat) (W : Nat → Nat) (N : Nat) : c1 (G.agn a) W N = c1 G W N := by
  rw [c1, c1]
  refine congrArg List.length (List.filter_congr (fun x _ => ?_))
  rw [Gr.agn_stV]; rfl
theorem xa_cg {A A' : Nat → Nat} {X X' : GX} (h1 : A' 1 = A 1) (h2 : X'.ad = X.ad) : xa A' X' = xa A X := by
  funext x
  cases x with
  | zero => exact h1
  | succ k => show X'.ad k = X.ad k; rw [h2]
def agA (A : Nat → Nat) (m q z : Nat) : Nat → Nat := fun j => if j = 20 + 2 * m then q else if j = 21 + 2 * m then z else A j
theorem agA_o {A : Nat → Nat} {m q z j : Nat} (h : j < 20 + 2 * m) : agA A m q z j = A j := by rw [agA, if_neg (by omega), if_neg (by omega)]
def agX (X : GX) (m q : Nat) : GX := (X.ad, X.pw, X.bf, updN X.aa m q)
def agF (F : Nat → Nat × Nat) (i m q q2 : Nat) : Nat → Nat × Nat := fun b => if b = q then (i, 20 + m) else if b = q2 then (i, 40 + m) else F b
def agM (S : MM) (g ar q q2 m a : Nat) : MM := sI (rR (agS (nO S q 1) q q2 (nI a) (nI m)) ar (va_up (eR S ar) a (some q))) 603 g (nI (m + 1))
section AGN
variable {S : MM} {F : Nat → Nat × Nat} {i : Nat} {A : Nat → Nat} {X : GX} {G : Gr} {T : Tr} {H : List Nat} {W : Nat → Nat}
theorem GI.agn (h : GI S F i A X G T H W) (hF : FO S F) (hi : i ≠ 0) {a q q2 : Nat} (hm : G.m < 16) (ha : a < 256) (hn : ∀ t, t < G.m → G.ag t ≠ a) (hq : q ∉ mL S) (hq2 : q2 ∉ mL (nO S q 1)) :
    GI (agM S (A 0) (A 4) q q2 G.m a) (agF F i G.m q q2) i (agA A G.m q2 (mZ S)) (agX X G.m q) (G.agn a) T H W ∧ FO (agM S (A 0) (A 4) q q2 G.m a) (agF F i G.m q q2) ∧ Keep (fun b => (F b).1 = i) S (agM S (A 0) (A 4) q q2 G.m a) ∧ ∀ b, b ∈ mL S → agF F i G.m q q2 b = F b := by
  have hq2' : q2 ∉ mL S := fun z => hq2 (List.mem_append_left _ z)
  have hqq : q2 ≠ q := fun z => hq2 (z ▸ List.mem_append_right _ (List.mem_singleton.mpr rfl))
  have k0 : Keep (fun b => b = A 0 ∨ b = A 4 ∨ b = q ∨ b = q2) S (agM S (A 0) (A 4) q q2 G.m a) := by
    refine Keep.sI (Keep.rR (Keep.sI (Keep.sI (Keep.sR (Keep.sR (Keep.sI ((Keep.rf.nO hq).nO hq2) ?_) ?_) ?_) ?_) ?_) ?_) ?_
    · exact Or.inr (Or.inr (Or.inr rfl))
    · exact Or.inr (Or.inr (Or.inr rfl))
    · exact Or.inr (Or.inr (Or.inl rfl))
    · exact Or.inr (Or.inr (Or.inl rfl))
    · exact Or.inr (Or.inr (Or.inl rfl))
    · exact Or.inr (Or.inl rfl)
    · exact Or.inl rfl
  have hf : ∀ b, b ∈ mL S → agF F i G.m q q2 b = F b := fun b hb => by
    rw [agF, if_neg (fun (e : b = q) => hq (e ▸ hb)), if_neg (fun (e : b = q2) => hq2' (e ▸ hb))]
  have g0 : F (A 0) = (i, 1) := (h 0).2
  have g4 : F (A 4) = (i, 5) := (h 3).2.2.1
  have inL : ∀ {b r : Nat}, F b = (i, r) → b ∈ mL S := fun hb => hF.iso hb hi
  have nP : ∀ {b r : Nat}, F b = (i, r) → r ≠ 1 → r ≠ 5 → ¬ (b = A 0 ∨ b = A 4 ∨ b = q ∨ b = q2) := fun hb r1 r5 z => by
    rcases z with z | z | z | z
    · exact h.fne hb g0 r1 z
    · exact h.fne hb g4 r5 z
    · exact hq (z ▸ inL hb)
    · exact hq2' (z ▸ inL hb)
  have fF : ∀ {b r : Nat}, F b = (i, r) → agF F i G.m q q2 b = (i, r) := fun hb => (hf _ (inL hb)).trans hb
  have kR : ∀ {b r : Nat}, F b = (i, r) → r ≠ 1 → r ≠ 5 → ∀ j, mR (agM S (A 0) (A 4) q q2 G.m a) j b = mR S j b := fun hb r1 r5 => (k0.2.1 _ (inL hb) (nP hb r1 r5)).2.1
  have kI : ∀ {b r : Nat}, F b = (i, r) → r ≠ 1 → r ≠ 5 → ∀ j, mI (agM S (A 0) (A 4) q q2 G.m a) j b = mI S j b := fun hb r1 r5 => (k0.2.1 _ (inL hb) (nP hb r1 r5)).1
  have gl := (h 0).1
  have gq : A 0 ≠ q := fun z => hq (z ▸ gl.1)
  have gq2 : A 0 ≠ q2 := fun z => hq2' (z ▸ gl.1)
  have gR : ∀ j, mR (agM S (A 0) (A 4) q q2 G.m a) j (A 0) = mR S j (A 0) := fun j => by
    unfold agM agS
    rw [mR_sI, mR_rR, mR_sI, mR_sI, mR_sR, if_neg (fun z => gq z.2), mR_sR, if_neg (fun z => gq2 z.2), mR_sI, mR_nO, if_neg gq2, mR_nO, if_neg gq]
  have gI : ∀ j, j ≠ 603 → mI (agM S (A 0) (A 4) q q2 G.m a) j (A 0) = mI S j (A 0) := fun j hj => by
    unfold agM agS
    rw [mI_sI, if_neg (fun z => hj z.1), mI_rR, mI_sI, if_neg (fun z => gq z.2), mI_sI, if_neg (fun z => gq z.2), mI_sR, mI_sR, mI_sI, if_neg (fun z => gq2 z.2), mI_nO, if_neg gq2, mI_nO, if_neg gq]
  have hxa : xa (agA A G.m q2 (mZ S)) (agX X G.m q) = xa A X := xa_cg (agA_o (by omega)) rfl
  have a0 : ∀ j, j < 20 → agA A G.m q2 (mZ S) j = A j := fun j hj => agA_o (by omega)
  have gx : ∀ x, x = 0 ∨ x ∈ T.od → ∃ r, F (xa A X x) = (i, r) ∧ r ≠ 1 ∧ r ≠ 5 := fun x hx => by
    rcases hx with z | z
    · subst z; exact ⟨_, (h 1).2.2, by decide, by decide⟩
    · obtain ⟨k, rfl, h1, -⟩ := h.nd z
      exact ⟨_, (h 11 k h1).1, by omega, by omega⟩
  have eq4 : eR (agM S (A 0) (A 4) q q2 G.m a) (A 4) = va_up (eR S (A 4)) a (some q) := by
    unfold agM
    rw [eR_sI, eR_rR, if_pos rfl]
  have oq : isO (agM S (A 0) (A 4) q q2 G.m a) 1 q := by
    unfold agM agS
    exact isO_sI (isO_rR (isO_sI (isO_sI (isO_sR (isO_sR (isO_sI (isO_nO isO_nO_self hq2)))))))
  have oq2 : isO (agM S (A 0) (A 4) q q2 G.m a) 0 q2 := by
    unfold agM agS
    exact isO_sI (isO_rR (isO_sI (isO_sI (isO_sR (isO_sR (isO_sI isO_nO_self))))))
  refine ⟨fun j => ?_, fun b hb => ?_, k0.mono (fun b hb z => ?_), hf⟩
  · match j with
    | 0 => exact ⟨by rw [a0 0 (by decide)]; exact k0.isO (h 0).1, by rw [a0 0 (by decide)]; exact fF g0⟩
    | 1 => exact ⟨by rw [a0 0 (by decide), a0 1 (by decide)]; exact (gR 600).trans (h 1).1, by rw [a0 1 (by decide)]; exact k0.isO (h 1).2.1, by rw [a0 1 (by decide)]; exact fF (h 1).2.2⟩
    | 2 =>
      show mR _ 601 (agA A G.m q2 (mZ S) 0) = some (agA A G.m q2 (mZ S) 2) ∧ agF F i G.m q q2 (agA A G.m q2 (mZ S) 2) = (i, 3) ∧ (capF G.n ≠ 0 → agF F i G.m q q2 (agA A G.m q2 (mZ S) 3) = (i, 4)) ∧ AL _ (agA A G.m q2 (mZ S) 2) (agA A G.m q2 (mZ S) 3) (capF G.n) 5 ((List.range G.n).map X.ad)
      rw [a0 0 (by decide), a0 2 (by decide), a0 3 (by decide)]
      exact ⟨(gR 601).trans (h 2).1, fF (h 2).2.1, fun c => fF ((h 2).2.2.1 c), (h 2).2.2.2.keepc k0 (nP (h 2).2.1 (by decide) (by decide)) (fun c => nP ((h 2).2.2.1 c) (by decide) (by decide))⟩
    | 3 =>
      obtain ⟨b1, b2, b3, b4, b5, b6⟩ := h 3
      show mR _ 602 (agA A G.m q2 (mZ S) 0) = some (agA A G.m q2 (mZ S) 4) ∧ isO _ 21 (agA A G.m q2 (mZ S) 4) ∧ agF F i G.m q q2 (agA A G.m q2 (mZ S) 4) = (i, 5) ∧ mN _ (agA A G.m q2 (mZ S) 4) = 256 ∧ (∀ s, s < G.m + 1 → eR _ (agA A G.m q2 (mZ S) 4) (updN G.ag G.m a s) = some (updN X.aa G.m q s)) ∧ ∀ j, j < 256 → (∀ s, s < G.m + 1 → updN G.ag G.m a s ≠ j) → eR _ (agA A G.m q2 (mZ S) 4) j = none
      rw [a0 0 (by decide), a0 4 (by decide), eq4]
      refine ⟨(gR 602).trans b1, k0.isO b2, fF b3, (k0.1 _ b2.1).2.2.trans b4, fun s hs => ?_, fun j hj z => ?_⟩
      · by_cases w : s = G.m
        · rw [w, updN_s, updN_s]; exact va_up_self _ _ _
        · rw [updN_o w, updN_o w, va_up_ne _ _ (hn s (by omega))]; exact b5 s (by omega)
      · have z0 := z G.m (Nat.lt_succ_self _)
        rw [updN_s] at z0
        rw [va_up_ne _ _ (fun e => z0 e.symm)]
        exact b6 j hj (fun s hs => by have := z s (Nat.lt_succ_of_lt hs); rw [updN_o (by omega)] at this; exact this)
    | 4 =>
      show mI _ 603 (agA A G.m q2 (mZ S) 0) = nI (G.m + 1)
      rw [a0 0 (by decide)]
      exact if_pos ⟨rfl, rfl⟩
    | 5 =>
      show mR _ 604 (agA A G.m q2 (mZ S) 0) = some (agA A G.m q2 (mZ S) 5) ∧ agF F i G.m q q2 (agA A G.m q2 (mZ S) 5) = (i, 6) ∧ (agA A G.m q2 (mZ S) 7 ≠ 0 → agF F i G.m q q2 (agA A G.m q2 (mZ S) 6) = (i, 7)) ∧ AL _ (agA A G.m q2 (mZ S) 5) (agA A G.m q2 (mZ S) 6) (agA A G.m q2 (mZ S) 7) 5 (H.map X.ad) ∧ (agA A G.m q2 (mZ S) 7 = 0 ∨ agA A G.m q2 (mZ S) 7 = 10 ∨ agA A G.m q2 (mZ S) 7 = 15 ∨ agA A G.m q2 (mZ S) 7 = 22)
      rw [a0 0 (by decide), a0 5 (by decide), a0 6 (by decide), a0 7 (by decide)]
      exact ⟨(gR 604).trans (h 5).1, fF (h 5).2.1, fun c => fF ((h 5).2.2.1 c), (h 5).2.2.2.1.keepc k0 (nP (h 5).2.1 (by decide) (by decide)) (fun c => nP ((h 5).2.2.1 c) (by decide) (by decide)), (h 5).2.2.2.2⟩
    | 6 =>
      show mI _ 605 (agA A G.m q2 (mZ S) 0) = nI (visN G T)
      rw [a0 0 (by decide)]
      exact (gI 605 (by decide)).trans (h 6)
    | 7 =>
      show mR _ 606 (agA A G.m q2 (mZ S) 0) = some (agA A G.m q2 (mZ S) 8) ∧ agF F i G.m q q2 (agA A G.m q2 (mZ S) 8) = (i, 8) ∧ WR _ (agA A G.m q2 (mZ S) 8) W
      rw [a0 0 (by decide), a0 8 (by decide)]
      exact ⟨(gR 606).trans (h 7).1, fF (h 7).2.1, (h 7).2.2.keep k0 (nP (h 7).2.1 (by decide) (by decide))⟩
    | 8 =>
      show mR _ 607 (agA A G.m q2 (mZ S) 0) = some (agA A G.m q2 (mZ S) 9) ∧ agF F i G.m q q2 (agA A G.m q2 (mZ S) 9) = (i, 9) ∧ isO _ 17 (agA A G.m q2 (mZ S) 9) ∧ mN _ (agA A G.m q2 (mZ S) 9) = 16
      rw [a0 0 (by decide), a0 9 (by decide)]
      exact ⟨(gR 607).trans (h 8).1, fF (h 8).2.1, k0.isO (h 8).2.2.1, (k0.1 _ (h 8).2.2.1.1).2.2.trans (h 8).2.2.2⟩
    | 9 =>
      show mR _ 608 (agA A G.m q2 (mZ S) 0) = some (agA A G.m q2 (mZ S) 10) ∧ agF F i G.m q q2 (agA A G.m q2 (mZ S) 10) = (i, 10) ∧ isO _ 17 (agA A G.m q2 (mZ S) 10) ∧ mN _ (agA A G.m q2 (mZ S) 10) = 16
      rw [a0 0 (by decide), a0 10 (by decide)]
      exact ⟨(gR 608).trans (h 9).1, fF (h 9).2.1, k0.isO (h 9).2.2.1, (k0.1 _ (h 9).2.2.1.1).2.2.trans (h 9).2.2.2⟩
    | 10 =>
      have he := h.ev.keep k0 (fun k q => ⟨nP (h 11 k q).1 (by omega) (by omega), nP (h 11 k q).2.1 (by decide) (by decide), nP (h 11 k q).2.2 (by decide) (by decide)⟩) (fun s q => nP (h 12 s q).1 (by omega) (by omega))
      refine ⟨Gr.agn_ok h.ok hm ha hn, fun k hk => ?_, fun s hs => ?_, h.ev.2.2.2⟩
      · obtain ⟨c1, c2, c3⟩ := he.2.1 k hk
        refine ⟨c1, ?_, c3⟩
        show mR _ 500 (X.ad k) = some (updN X.aa G.m q (G.ev k).sl)
        have := h.ok.sl1 k hk
        rw [updN_o (by omega)]; exact c2
      · show isO _ 1 (updN X.aa G.m q s) ∧ mI _ 100 (updN X.aa G.m q s) = nI (updN G.ag G.m a s) ∧ mI _ 101 (updN X.aa G.m q s) = nI s
        by_cases w : s = G.m
        · rw [w, updN_s, updN_s]
          have g603 : q ≠ A 0 := fun z => gq z.symm
          refine ⟨oq, ?_, ?_⟩
          · unfold agM agS
            rw [mI_sI, if_neg (fun z => absurd z.1 (by decide)), mI_rR, mI_sI, if_neg (fun z => absurd z.1 (by decide)), mI_sI, if_pos ⟨rfl, rfl⟩]
          · unfold agM agS
            rw [mI_sI, if_neg (fun z => absurd z.1 (by decide)), mI_rR, mI_sI, if_pos ⟨rfl, rfl⟩]
        · rw [updN_o w, updN_o w]
          exact he.2.2.1 s (by have : s < G.m + 1 := hs; omega)
    | 11 => exact fun k w => ⟨fF (h 11 k w).1, fF (h 11 k w).2.1, fF (h 11 k w).2.2⟩
    | 12 =>
      intro s hs
      show agF F i G.m q q2 (updN X.aa G.m q s) = (i, 20 + s) ∧ mR _ 102 (updN X.aa G.m q s) = some (agA A G.m q2 (mZ S) (20 + 2 * s)) ∧ agF F i G.m q q2 (agA A G.m q2 (mZ S) (20 + 2 * s)) = (i, 40 + s) ∧ (capF ((G.agn a).cn s) ≠ 0 → agF F i G.m q q2 (agA A G.m q2 (mZ S) (21 + 2 * s)) = (i, 60 + s)) ∧ AL _ (agA A G.m q2 (mZ S) (20 + 2 * s)) (agA A G.m q2 (mZ S) (21 + 2 * s)) (capF ((G.agn a).cn s)) 5 ((evL G s).map X.ad)
      have ecn : (G.agn a).cn s = G.cn s := Gr.agn_cnt G a G.n s
      rw [ecn]
      by_cases w : s = G.m
      · subst w
        have c0 : G.cn G.m = 0 := Gr.cnt_m h.ok (Nat.le_refl _) (Nat.le_refl _)
        have e0 : evL G G.m = [] := List.eq_nil_of_length_eq_zero (by rw [evL_len]; exact c0)
        have ea : agA A G.m q2 (mZ S) (20 + 2 * G.m) = q2 := if_pos rfl
        have ez : agA A G.m q2 (mZ S) (21 + 2 * G.m) = mZ S := by rw [agA, if_neg (by omega), if_pos rfl]
        rw [updN_s, ea, ez, c0, e0]
        refine ⟨if_pos rfl, ?_, ?_, fun z => absurd rfl z, oq2, ?_, ?_, Nat.le_refl _, Nat.zero_le _, fun x hx => absurd hx List.not_mem_nil, Or.inr rfl, Or.inl ⟨rfl, rfl⟩⟩
        · unfold agM agS
          rw [mR_sI, mR_rR, mR_sI, mR_sI, mR_sR, if_pos ⟨rfl, rfl⟩]
        · rw [agF, if_neg hqq, if_pos rfl]
        · unfold agM agS
          rw [mR_sI, mR_rR, mR_sI, mR_sI, mR_sR, if_neg (fun z => absurd z.1 (by decide)), mR_sR, if_pos ⟨rfl, rfl⟩]
          rfl
        · unfold agM agS
          rw [mI_sI, if_neg (fun z => absurd z.1 (by decide)), mI_rR, mI_sI, if_neg (fun z => absurd z.1 (by decide)), mI_sI, if_neg (fun z => absurd z.1 (by decide)), mI_sR, mI_sR, mI_sI, if_neg (fun z => absurd z.1 (by decide)), mI_nO, if_pos rfl]
          rfl
      · have hs' : s < G.m := by have : s < G.m + 1 := hs; omega
        obtain ⟨b1, b2, b3, b4, b5⟩ := h 12 s hs'
        have ea : agA A G.m q2 (mZ S) (20 + 2 * s) = A (20 + 2 * s) := agA_o (by omega)
        have ez : agA A G.m q2 (mZ S) (21 + 2 * s) = A (21 + 2 * s) := by rw [agA, if_neg (by omega), if_neg (by omega)]
        rw [updN_o w, ea, ez]
        exact ⟨fF b1, (kR b1 (by omega) (by omega) 102).trans b2, fF b3, fun c => fF (b4 c), b5.keepc k0 (nP b3 (by omega) (by omega)) (fun c => nP (b4 c) (by omega) (by omega))⟩
    | 13 =>
      show mI _ 609 (agA A G.m q2 (mZ S) 0) = nI (c1 (G.agn a) W G.n)
      rw [a0 0 (by decide), Gr.agn_c1]
      exact (gI 609 (by decide)).trans (h 13)
    | 14 =>
      intro k w c
      show mI _ 513 (X.ad k) = nI (stV (G.agn a) W G.n k)
      rw [Gr.agn_stV]
      exact (kI (h 11 k w).1 (by omega) (by omega) 513).trans (h 14 k w c)
    | 15 => exact fun k w c => (kI (h 11 k w).1 (by omega) (by omega) 514).trans (h 15 k w c)
    | 16 =>
      intro x hx
      rw [hxa]
      obtain ⟨r, hr, r1, r5⟩ := gx x hx
      obtain ⟨b1, b2, b3⟩ := h 16 x hx
      exact ⟨(kR hr r1 r5 508).trans b1, (kR hr r1 r5 509).trans b2, fun z => (kR hr r1 r5 510).trans (b3 z)⟩
    | 17 =>
      show ChP _ (agA A G.m q2 (mZ S) 1) (T.od.map (xa (agA A G.m q2 (mZ S)) (agX X G.m q)))
      rw [hxa, a0 1 (by decide)]
      refine ChP.keep (h 17) k0 (nP (h 1).2.2 (by decide) (by decide)) (fun y hy => ?_)
      obtain ⟨x, x1, rfl⟩ := List.mem_map.1 hy
      obtain ⟨r, hr, r1, r5⟩ := gx x (Or.inr x1)
      exact nP hr r1 r5
    | 18 =>
      obtain ⟨U, V, e, b1, b2⟩ := h 18
      refine ⟨U, V, e, ?_, ?_⟩
      · rw [hxa, a0 0 (by decide), a0 1 (by decide)]; exact (gR 610).trans b1
      · have e9 : seenC (agM S (A 0) (A 4) q q2 G.m a) (U.map (xa A X)) = seenC S (U.map (xa A X)) := seenC_cg (fun y hy => by
          obtain ⟨x, x1, rfl⟩ := List.mem_map.1 hy
          obtain ⟨r, hr, r1, r5⟩ := gx x (Or.inr (by rw [e]; exact List.mem_append_left _ x1))
          exact kI hr r1 r5 513)
        rw [hxa, a0 0 (by decide), e9]; exact (gI 611 (by decide)).trans b2
    | 19 => exact Gr.agn_GT h.gt hm ha hn
    | 20 =>
      obtain ⟨c1, c2⟩ : HdS G H := h 20
      refine ⟨c1, List.Pairwise.imp_of_mem (fun {p q} hp hq hh => ?_) c2⟩
      rw [Gr.agn_key h.ok a ((c1 p).1 hp).1, Gr.agn_key h.ok a ((c1 q).1 hq).1]; exact hh
    | 21 =>
      obtain ⟨⟨c1, c2⟩, c3⟩ := h 21
      refine ⟨⟨fun s => ?_, c2⟩, fun s hs => c3 s (by have : G.m + 1 ≤ s := hs; omega)⟩
      rw [show (G.agn a).cn s = G.cn s from Gr.agn_cnt G a G.n s]; exact c1 s
    | n + 22 => exact trivial
  · have hL : mL (agM S (A 0) (A 4) q q2 G.m a) = (mL S ++ [q]) ++ [q2] := rfl
    rw [hL, List.mem_append, List.mem_append, List.mem_singleton, List.mem_singleton]
    by_cases z : b = q
    · exact Or.inl (Or.inr z)
    · by_cases w : b = q2
      · exact Or.inr w
      · rw [agF, if_neg z, if_neg w] at hb
        exact Or.inl (Or.inl (hF b hb))
  · rcases z with z | z | z | z
    · exact F1 (z ▸ g0)
    · exact F1 (z ▸ g4)
    · exact absurd (z ▸ hb) hq
    · exact absurd (z ▸ hb) hq2'
end AGN
