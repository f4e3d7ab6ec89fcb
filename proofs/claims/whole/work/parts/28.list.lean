/-! ===== ArrayList ===== -/
/-- the list a with its row d of c places has the objects L, of kind kk; c = 0: no row of its own yet -/
def AL (S : MM) (a d c kk : Nat) (L : List Nat) : Prop := isO S 0 a ∧ mR S 1 a = some d ∧ mI S 2 a = nI L.length ∧ L.length ≤ c ∧ c ≤ 100000 ∧ (∀ x ∈ L, isO S kk x) ∧ (kk = 4 ∨ kk = 5) ∧ ((c = 0 ∧ d = mZ S) ∨ (10 ≤ c ∧ isO S 26 d ∧ mN S d = c ∧ eR S d = fun i => L[i]?))
/-- what a list's changes write: the list, and its own row -/
def AP (S : MM) (a d c : Nat) : Nat → Prop := fun b => b = a ∨ (b = d ∧ c ≠ 0 ∧ mK S b = 26)
theorem AP.tr {S S1 S2 : MM} {a d d1 c : Nat} (h1 : Keep (AP S a d c) S S1) (h2 : Keep (AP S1 a d1 c) S1 S2) (hd : d1 = d ∨ d1 ∉ mL S) : Keep (AP S a d c) S S2 := by
  refine ⟨fun b hb => ?_, fun b hb hp => ?_, h2.2.2.1.trans h1.2.2.1, h2.2.2.2.trans h1.2.2.2⟩
  · obtain ⟨a1, a2, a3⟩ := h1.1 b hb
    obtain ⟨b1, b2, b3⟩ := h2.1 b a1
    exact ⟨b1, b2.trans a2, b3.trans a3⟩
  · have hq : ¬ AP S1 a d1 c b := fun z => z.elim (fun w => hp (Or.inl w)) (fun w => hd.elim (fun e => hp (Or.inr ⟨w.1.trans e, w.2.1, (h1.1 b hb).2.1.symm.trans w.2.2⟩)) (fun n => n (w.1 ▸ hb)))
    obtain ⟨a1, a2, a3, a4, a5, a6⟩ := h1.2.1 b hb hp
    obtain ⟨b1, b2, b3, b4, b5, b6⟩ := h2.2.1 b (h1.1 b hb).1 hq
    exact ⟨fun i => (b1 i).trans (a1 i), fun i => (b2 i).trans (a2 i), fun i => (b3 i).trans (a3 i), b4.trans a4, b5.trans a5, b6.trans a6⟩
theorem AP.no {S : MM} {a d c k b : Nat} (h : isO S k b) (h1 : k ≠ 26) (h2 : b ≠ a) : ¬ AP S a d c b := fun z => z.elim h2 (fun w => h1 (h.2.symm.trans w.2.2))
theorem AL.keepc {P : Nat → Prop} {S S' : MM} {a d c kk : Nat} {L : List Nat} (h : AL S a d c kk L) (hk : Keep P S S') (h1 : ¬ P a) (h2 : c ≠ 0 → ¬ P d) : AL S' a d c kk L := by
  obtain ⟨a1, a2, a3, a4, a5, a6, a7, a8⟩ := h
  obtain ⟨k1, k2, -⟩ := hk.2.1 a a1.1 h1
  refine ⟨hk.isO a1, by rw [k2]; exact a2, by rw [k1]; exact a3, a4, a5, fun x hx => hk.isO (a6 x hx), a7, ?_⟩
  rcases a8 with ⟨b1, b2⟩ | ⟨b1, b2, b3, b4⟩
  · exact Or.inl ⟨b1, by rw [hk.2.2.1]; exact b2⟩
  · obtain ⟨-, -, -, -, -, k6⟩ := hk.2.1 d b2.1 (h2 (by omega))
    exact Or.inr ⟨b1, hk.isO b2, by rw [(hk.1 d b2.1).2.2]; exact b3, by rw [k6]; exact b4⟩
theorem AL.keep {P : Nat → Prop} {S S' : MM} {a d c kk : Nat} {L : List Nat} (h : AL S a d c kk L) (hk : Keep P S S') (h1 : ¬ P a) (h2 : isO S 26 d → ¬ P d) : AL S' a d c kk L := by
  obtain ⟨a1, a2, a3, a4, a5, a6, a7, a8⟩ := h
  obtain ⟨k1, k2, -⟩ := hk.2.1 a a1.1 h1
  refine ⟨hk.isO a1, by rw [k2]; exact a2, by rw [k1]; exact a3, a4, a5, fun x hx => hk.isO (a6 x hx), a7, ?_⟩
  rcases a8 with ⟨b1, b2⟩ | ⟨b1, b2, b3, b4⟩
  · exact Or.inl ⟨b1, by rw [hk.2.2.1]; exact b2⟩
  · obtain ⟨-, -, -, -, -, k6⟩ := hk.2.1 d b2.1 (h2 b2)
    exact Or.inr ⟨b1, hk.isO b2, by rw [(hk.1 d b2.1).2.2]; exact b3, by rw [k6]; exact b4⟩
theorem AL.el {S : MM} {a d c kk : Nat} {L : List Nat} (h : AL S a d c kk L) {x : Nat} (hx : x ∈ L) : isO S kk x := h.2.2.2.2.2.1 x hx
def T_acini : TR := fun Rc Rs av S cs sl K _Kx => match av with
  | [.inr (.inr a_o)] => pa a_o fun a => ((isO S 0 a) ∧ cs ≤ Rc ∧ sl ≤ Rs ∧ (K none S cs sl))
  | _ => False
def sp_acini (a : Nat)  : Sp := (fun av S => av = [.inr (.inr (some a))] ∧ (isO S 0 a), fun _ S => 0, fun _ S => 0, fun _ S rv S' => rv = none ∧ S' = S, fun _ _ _ _ => False)
def tJxa1e45_init_da8c8 : CD := [(0, .aload_n 0), (1, .invokespecial 1), (4, .return_)]
set_option maxRecDepth 100000 in
theorem kJxa1e45_init_da8c8 : chk cJxa1e45_init_da8c8 tJxa1e45_init_da8c8 = true := by decide +kernel
theorem vJxa1e45_init_da8c8_1 : ∀ w ∈ ([.methodLink RJxa1e45 1 Lib.objectInit, .instanceMethod Lib.objectInit, .code Lib.objectInit ⟨#[0xb1]⟩ 1 none] : List Cond), w ∈ lw_good := List.forall_mem_cons.mpr ⟨mgd 247 (by decide +kernel) (by decide +kernel), List.forall_mem_cons.mpr ⟨mgd 158 (by decide +kernel) (by decide +kernel), List.forall_mem_cons.mpr ⟨mgd 159 (by decide +kernel) (by decide +kernel), fun _ h => absurd h List.not_mem_nil⟩⟩⟩
set_option maxRecDepth 100000 in
set_option maxHeartbeats 2000000 in
theorem c_acini (l : Launch) : ∀ (a : Nat), Ct l yJxa1e45_init_da8c8 cJxa1e45_init_da8c8 1 none 1 20 (sp_acini a) := by
  intro a
  refine Ct.of (fJxa1e45, nJxa1e45, aJxa1e45, iJxa1e45, lJxa1e45, [(1, 1, 1, 0, T_obj)], qJxa1e45, gJxa1e45, []) true tJxa1e45_init_da8c8 (fun _ _ _ => none) (by decide) (by decide) kJxa1e45_init_da8c8 ⟨_, _, rfl⟩ fJxa1e45_ok nJxa1e45_ok aJxa1e45_ok iJxa1e45_ok lJxa1e45_ok (fun p e R s m args below meth c Q D cy z r A C hR1 hR2 => List.forall_mem_cons.mpr ⟨cOK_use (fun _ _ _ _ _ _ _ _ h => ⟨spObj, cOK_obj C vJxa1e45_init_da8c8_1 ⟨by rw [hR1]; decide, by rw [hR2]; decide⟩, T_obj_ok h⟩), fun _ h => absurd h List.not_mem_nil⟩) qJxa1e45_ok gJxa1e45_ok rfl ?_ ?_
  · rintro _ S ⟨rfl, hp⟩
    refine ⟨Nat.le_of_ble_eq_true rfl, 300, ?_⟩
    show (1 = 1 ∧ (True ∧ 0 ≤ 0 ∧ 0 ≤ 0 ∧ ((([] : List MV) = [] ∧ mret none (sp_acini a) [.inr (.inr (some a))] S none S 0 0))))
    exact ⟨rfl, trivial, Nat.le_refl _, Nat.le_refl _, rfl, trivial, ⟨rfl, rfl⟩, Nat.le_refl _, Nat.le_refl _⟩
  · exact fun _ _ _ _ _ h => by cases h
theorem u_acini (l : Launch) : Us l yJxa1e45_init_da8c8 cJxa1e45_init_da8c8 1 none 1 20 98 T_acini := by
  intro Rc Rs av S cs sl K Kx h
  unfold T_acini at h
  split at h
  · rename_i a_o
    obtain ⟨a, rfl, h_1⟩ := pa_of h
    obtain ⟨hp, hc, hs, hk⟩ := h_1
    refine ⟨(sp_acini a), c_acini l a, fun _ _ h9 => ⟨_, _, h9.1⟩, ⟨rfl, hp⟩, hc, hs, fun S' h8 => by
      obtain ⟨-, h8⟩ := h8
      subst h8
      exact hk, fun _ _ q => q.elim⟩
  · exact h.elim
def T_alini0 : TR := fun Rc Rs av S cs sl K _Kx => match av with
  | [.inr (.inr a_o)] => pa a_o fun a => ((isO S 0 a) ∧ cs ≤ Rc ∧ sl ≤ Rs ∧ (K none (sI S 0 a 0) cs sl))
  | _ => False
def sp_alini0 (a : Nat)  : Sp := (fun av S => av = [.inr (.inr (some a))] ∧ (isO S 0 a), fun _ S => 0, fun _ S => 0, fun _ S rv S' => rv = none ∧ S' = sI S 0 a 0, fun _ _ _ _ => False)
def tJxc12de_init_da8c8 : CD := [(0, .aload_n 0), (1, .invokespecial 1), (4, .aload_n 0), (5, .iconst 0), (6, .putfield 7), (9, .return_)]
set_option maxRecDepth 100000 in
theorem kJxc12de_init_da8c8 : chk cJxc12de_init_da8c8 tJxc12de_init_da8c8 = true := by decide +kernel
theorem vJxc12de_init_da8c8_1 : ∀ w ∈ ([.instanceMethod yJxa1e45_init_da8c8, .initialized yJxa1e45_init_da8c8.cls, .code yJxa1e45_init_da8c8 cJxa1e45_init_da8c8 1 none] : List Cond), w ∈ lw_good := List.forall_mem_cons.mpr ⟨mgd 245 (by decide +kernel) (by decide +kernel), List.forall_mem_cons.mpr ⟨mgd 128 (by decide +kernel) (by decide +kernel), List.forall_mem_cons.mpr ⟨mgd 246 (by decide +kernel) (by decide +kernel), fun _ h => absurd h List.not_mem_nil⟩⟩⟩
set_option maxRecDepth 100000 in
set_option maxHeartbeats 2000000 in
theorem c_alini0 (l : Launch) : ∀ (a : Nat), Ct l yJxc12de_init_da8c8 cJxc12de_init_da8c8 1 none 2 40 (sp_alini0 a) := by
  intro a
  refine Ct.of (fJxc12de, nJxc12de, aJxc12de, iJxc12de, lJxc12de, [(1, 1, 1, 0, T_acini)], qJxc12de, gJxc12de, []) true tJxc12de_init_da8c8 (fun _ _ _ => none) (by decide) (by decide) kJxc12de_init_da8c8 ⟨_, _, rfl⟩ fJxc12de_ok nJxc12de_ok aJxc12de_ok iJxc12de_ok lJxc12de_ok (fun p e R s m args below meth c Q D cy z r A C hR1 hR2 => List.forall_mem_cons.mpr ⟨cOK_use (fun _ _ _ _ _ _ _ _ h => let ⟨sp, h1, h2, h3⟩ := u_acini l _ _ _ _ _ _ _ _ h; ⟨sp, cOK_I C h1 vJxc12de_init_da8c8_1 (Or.inl (mgd 244 (by decide +kernel) (by decide +kernel))) rfl ⟨by decide, by decide, by decide +kernel⟩ ⟨by rw [hR1]; decide, by rw [hR2]; decide⟩ h2, h3⟩), fun _ h => absurd h List.not_mem_nil⟩) qJxc12de_ok gJxc12de_ok rfl ?_ ?_
  · rintro _ S ⟨rfl, hp⟩
    refine ⟨Nat.le_of_ble_eq_true rfl, 300, ?_⟩
    show (1 = 1 ∧ ((isO S 0 a) ∧ 0 ≤ 0 ∧ 0 ≤ 0 ∧ ((True ∧ (isO S 0 a ∧ (([] : List MV) = [] ∧ mret none (sp_alini0 a) [.inr (.inr (some a))] S none (sI S 0 a (0 : Int32)) 0 0))))))
    exact ⟨rfl, hp, Nat.le_refl _, Nat.le_refl _, trivial, hp, rfl, trivial, ⟨rfl, rfl⟩, Nat.le_refl _, Nat.le_refl _⟩
  · exact fun _ _ _ _ _ h => by cases h
theorem u_alini0 (l : Launch) : Us l yJxc12de_init_da8c8 cJxc12de_init_da8c8 1 none 2 40 98 T_alini0 := by
  intro Rc Rs av S cs sl K Kx h
  unfold T_alini0 at h
  split at h
  · rename_i a_o
    obtain ⟨a, rfl, h_1⟩ := pa_of h
    obtain ⟨hp, hc, hs, hk⟩ := h_1
    refine ⟨(sp_alini0 a), c_alini0 l a, fun _ _ h9 => ⟨_, _, h9.1⟩, ⟨rfl, hp⟩, hc, hs, fun S' h8 => by
      obtain ⟨-, h8⟩ := h8
      subst h8
      exact hk, fun _ _ q => q.elim⟩
  · exact h.elim
def T_alini : TR := fun Rc Rs av S cs sl K _Kx => match av with
  | [.inr (.inr a_o)] => pa a_o fun a => ((isO S 0 a) ∧ cs ≤ Rc ∧ sl ≤ Rs ∧ (K none (sR (sI S 0 a 0) 1 a (some (mZ S))) cs sl))
  | _ => False
def sp_alini (a : Nat)  : Sp := (fun av S => av = [.inr (.inr (some a))] ∧ (isO S 0 a), fun _ S => 0, fun _ S => 0, fun _ S rv S' => rv = none ∧ S' = sR (sI S 0 a 0) 1 a (some (mZ S)), fun _ _ _ _ => False)
def tJx4a65c_init_da8c8 : CD := [(0, .aload_n 0), (1, .invokespecial 1), (4, .aload_n 0), (5, .getstatic 39), (8, .putfield 9), (11, .return_)]
set_option maxRecDepth 100000 in
theorem kJx4a65c_init_da8c8 : chk cJx4a65c_init_da8c8 tJx4a65c_init_da8c8 = true := by decide +kernel
theorem vJx4a65c_init_da8c8_1 : ∀ w ∈ ([.instanceMethod yJxc12de_init_da8c8, .initialized yJxc12de_init_da8c8.cls, .code yJxc12de_init_da8c8 cJxc12de_init_da8c8 1 none] : List Cond), w ∈ lw_good := List.forall_mem_cons.mpr ⟨mgd 242 (by decide +kernel) (by decide +kernel), List.forall_mem_cons.mpr ⟨mgd 129 (by decide +kernel) (by decide +kernel), List.forall_mem_cons.mpr ⟨mgd 243 (by decide +kernel) (by decide +kernel), fun _ h => absurd h List.not_mem_nil⟩⟩⟩
set_option maxRecDepth 100000 in
set_option maxHeartbeats 2000000 in
theorem c_alini (l : Launch) : ∀ (a : Nat), Ct l yJx4a65c_init_da8c8 cJx4a65c_init_da8c8 1 none 3 60 (sp_alini a) := by
  intro a
  refine Ct.of (fJx4a65c, nJx4a65c, aJx4a65c, iJx4a65c, lJx4a65c, [(1, 1, 1, 0, T_alini0)], qJx4a65c, gJx4a65c, []) true tJx4a65c_init_da8c8 (fun _ _ _ => none) (by decide) (by decide) kJx4a65c_init_da8c8 ⟨_, _, rfl⟩ fJx4a65c_ok nJx4a65c_ok aJx4a65c_ok iJx4a65c_ok lJx4a65c_ok (fun p e R s m args below meth c Q D cy z r A C hR1 hR2 => List.forall_mem_cons.mpr ⟨cOK_use (fun _ _ _ _ _ _ _ _ h => let ⟨sp, h1, h2, h3⟩ := u_alini0 l _ _ _ _ _ _ _ _ h; ⟨sp, cOK_I C h1 vJx4a65c_init_da8c8_1 (Or.inl (mgd 241 (by decide +kernel) (by decide +kernel))) rfl ⟨by decide, by decide, by decide +kernel⟩ ⟨by rw [hR1]; decide, by rw [hR2]; decide⟩ h2, h3⟩), fun _ h => absurd h List.not_mem_nil⟩) qJx4a65c_ok gJx4a65c_ok rfl ?_ ?_
  · rintro _ S ⟨rfl, hp⟩
    refine ⟨Nat.le_of_ble_eq_true rfl, 300, ?_⟩
    show (1 = 1 ∧ ((isO S 0 a) ∧ 0 ≤ 0 ∧ 0 ≤ 0 ∧ ((True ∧ (isO (sI S 0 a 0) 0 a ∧ (([] : List MV) = [] ∧ mret none (sp_alini a) [.inr (.inr (some a))] S none (sR (sI S 0 a 0) 1 a (some (mZ (sI S 0 a 0)))) 0 0))))))
    exact ⟨rfl, hp, Nat.le_refl _, Nat.le_refl _, trivial, hp, rfl, trivial, ⟨rfl, rfl⟩, Nat.le_refl _, Nat.le_refl _⟩
  · exact fun _ _ _ _ _ h => by cases h
theorem u_alini (l : Launch) : Us l yJx4a65c_init_da8c8 cJx4a65c_init_da8c8 1 none 3 60 98 T_alini := by
  intro Rc Rs av S cs sl K Kx h
  unfold T_alini at h
  split at h
  · rename_i a_o
    obtain ⟨a, rfl, h_1⟩ := pa_of h
    obtain ⟨hp, hc, hs, hk⟩ := h_1
    refine ⟨(sp_alini a), c_alini l a, fun _ _ h9 => ⟨_, _, h9.1⟩, ⟨rfl, hp⟩, hc, hs, fun S' h8 => by
      obtain ⟨-, h8⟩ := h8
      subst h8
      exact hk, fun _ _ q => q.elim⟩
  · exact h.elim
def T_alsz : TR := fun Rc Rs av S cs sl K _Kx => match av with
  | [.inr (.inr a_o)] => pa a_o fun a => (∃ (d c kk : Nat) (L : List Nat), (AL S a d c kk L) ∧ cs ≤ Rc ∧ sl ≤ Rs ∧ (K (some (.inl (nI L.length))) S cs sl))
  | _ => False
def sp_alsz (a : Nat) (d c kk : Nat) (L : List Nat) : Sp := (fun av S => av = [.inr (.inr (some a))] ∧ (AL S a d c kk L), fun _ S => 0, fun _ S => 0, fun _ S rv S' => rv = (some (.inl (nI L.length))) ∧ S' = S, fun _ _ _ _ => False)
def tJx4a65c_size_8abf5 : CD := [(0, .aload_n 0), (1, .getfield 48), (4, .ireturn)]
set_option maxRecDepth 100000 in
theorem kJx4a65c_size_8abf5 : chk cJx4a65c_size_8abf5 tJx4a65c_size_8abf5 = true := by decide +kernel

set_option maxRecDepth 100000 in
set_option maxHeartbeats 2000000 in
theorem c_alsz (l : Launch) : ∀ (a : Nat) (d c kk : Nat) (L : List Nat), Ct l yJx4a65c_size_8abf5 cJx4a65c_size_8abf5 1 (some .int) 0 0 (sp_alsz a d c kk L) := by
  intro a d c kk L
  refine Ct.of (fJx4a65c, nJx4a65c, aJx4a65c, iJx4a65c, lJx4a65c, [], qJx4a65c, gJx4a65c, []) false tJx4a65c_size_8abf5 (fun _ _ _ => none) (by decide) (by decide) kJx4a65c_size_8abf5 ⟨_, _, rfl⟩ fJx4a65c_ok nJx4a65c_ok aJx4a65c_ok iJx4a65c_ok lJx4a65c_ok (fun _ _ _ _ _ _ _ _ _ _ _ _ _ _ _ _ _ _ => no_all) qJx4a65c_ok gJx4a65c_ok rfl ?_ ?_
  · rintro _ S ⟨rfl, hp⟩
    refine ⟨Nat.le_of_ble_eq_true rfl, 300, ?_⟩
    show (isO S 0 a ∧ (([] : List MV) = [] ∧ mret (some .int) (sp_alsz a d c kk L) [.inr (.inr (some a))] S (some (.inl (mI S 2 a))) S 0 0))
    exact ⟨hp.1, rfl, trivial, ⟨by rw [hp.2.2.1], rfl⟩, Nat.le_refl _, Nat.le_refl _⟩
  · exact fun _ _ _ _ _ h => by cases h
theorem u_alsz (l : Launch) : Us l yJx4a65c_size_8abf5 cJx4a65c_size_8abf5 1 (some .int) 0 0 0 T_alsz := by
  intro Rc Rs av S cs sl K Kx h
  unfold T_alsz at h
  split at h
  · rename_i a_o
    obtain ⟨a, rfl, h_1⟩ := pa_of h
    obtain ⟨d, c, kk, L, hp, hc, hs, hk⟩ := h_1
    refine ⟨(sp_alsz a d c kk L), c_alsz l a d c kk L, fun _ _ h9 => ⟨_, _, h9.1, h9.2.1⟩, ⟨rfl, hp⟩, hc, hs, fun v9 S' h8 => by
      obtain ⟨h7, h8⟩ := h8
      cases h7
      subst h8
      exact hk, fun _ _ q => q.elim⟩
  · exact h.elim
def T_alemp : TR := fun Rc Rs av S cs sl K _Kx => match av with
  | [.inr (.inr a_o)] => pa a_o fun a => (∃ (d c kk : Nat) (L : List Nat), (AL S a d c kk L) ∧ cs ≤ Rc ∧ sl ≤ Rs ∧ (K (some (.inl (tf (L = [])))) S cs sl))
  | _ => False
def sp_alemp (a : Nat) (d c kk : Nat) (L : List Nat) : Sp := (fun av S => av = [.inr (.inr (some a))] ∧ (AL S a d c kk L), fun _ S => 0, fun _ S => 0, fun _ S rv S' => rv = (some (.inl (tf (L = [])))) ∧ S' = S, fun _ _ _ _ => False)
def tJx4a65c_isEmpty_aae02 : CD := [(0, .aload_n 0), (1, .getfield 48), (4, .ifCond .ne 7), (7, .iconst 1), (8, .goto 4), (11, .iconst 0), (12, .ireturn)]
set_option maxRecDepth 100000 in
theorem kJx4a65c_isEmpty_aae02 : chk cJx4a65c_isEmpty_aae02 tJx4a65c_isEmpty_aae02 = true := by decide +kernel

set_option maxRecDepth 100000 in
set_option maxHeartbeats 2000000 in
theorem c_alemp (l : Launch) : ∀ (a : Nat) (d c kk : Nat) (L : List Nat), Ct l yJx4a65c_isEmpty_aae02 cJx4a65c_isEmpty_aae02 1 (some .boolean) 0 0 (sp_alemp a d c kk L) := by
  intro a d c kk L
  refine Ct.of (fJx4a65c, nJx4a65c, aJx4a65c, iJx4a65c, lJx4a65c, [], qJx4a65c, gJx4a65c, []) false tJx4a65c_isEmpty_aae02 (fun _ _ _ => none) (by decide) (by decide) kJx4a65c_isEmpty_aae02 ⟨_, _, rfl⟩ fJx4a65c_ok nJx4a65c_ok aJx4a65c_ok iJx4a65c_ok lJx4a65c_ok (fun _ _ _ _ _ _ _ _ _ _ _ _ _ _ _ _ _ _ => no_all) qJx4a65c_ok gJx4a65c_ok rfl ?_ ?_
  · rintro _ S ⟨rfl, hp⟩
    refine ⟨Nat.le_of_ble_eq_true rfl, 300, ?_⟩
    show (isO S 0 a ∧ ((¬ (mI S 2 a) = 0 → (([] : List MV) = [] ∧ mret (some .boolean) (sp_alemp a d c kk L) [.inr (.inr (some a))] S (some (.inl (0 : Int32))) S 0 0)) ∧ ((mI S 2 a) = 0 → (([] : List MV) = [] ∧ mret (some .boolean) (sp_alemp a d c kk L) [.inr (.inr (some a))] S (some (.inl (1 : Int32))) S 0 0))))
    obtain ⟨a1, a2, a3, a4, a5, a6⟩ := hp
    rw [a3]
    refine ⟨a1, if_ne (b := 0) (by omega) (by decide) (fun h => ⟨rfl, Or.inl rfl, ⟨ret_f (fun z => h (by rw [z]; rfl)) rfl, rfl⟩, Nat.le_refl _, Nat.le_refl _⟩) (fun h => ⟨rfl, Or.inr rfl, ⟨ret_t (List.eq_nil_of_length_eq_zero h) rfl, rfl⟩, Nat.le_refl _, Nat.le_refl _⟩)⟩
  · exact fun _ _ _ _ _ h => by cases h
theorem u_alemp (l : Launch) : Us l yJx4a65c_isEmpty_aae02 cJx4a65c_isEmpty_aae02 1 (some .boolean) 0 0 0 T_alemp := by
  intro Rc Rs av S cs sl K Kx h
  unfold T_alemp at h
  split at h
  · rename_i a_o
    obtain ⟨a, rfl, h_1⟩ := pa_of h
    obtain ⟨d, c, kk, L, hp, hc, hs, hk⟩ := h_1
    refine ⟨(sp_alemp a d c kk L), c_alemp l a d c kk L, fun _ _ h9 => ⟨_, _, h9.1, h9.2.1⟩, ⟨rfl, hp⟩, hc, hs, fun v9 S' h8 => by
      obtain ⟨h7, h8⟩ := h8
      cases h7
      subst h8
      exact hk, fun _ _ q => q.elim⟩
  · exact h.elim
def T_chk3 : TR := fun Rc Rs av S cs sl K _Kx => match av with
  | [.inl i_v, .inl n_v, .inr (.inr f)] => ∃ (i : Nat), i_v = nI i ∧ (∃ (n : Nat), n_v = nI n ∧ ((i < n ∧ n < 2147483648) ∧ cs ≤ Rc ∧ sl ≤ Rs ∧ (K (some (.inl (nI i))) S cs sl)))
  | _ => False
def sp_chk3 (i : Nat) (n : Nat) (f : Option Nat)  : Sp := (fun av S => av = [.inl (nI i), .inl (nI n), .inr (.inr f)] ∧ (i < n ∧ n < 2147483648), fun _ S => 0, fun _ S => 0, fun _ S rv S' => rv = (some (.inl (nI i))) ∧ S' = S, fun _ _ _ _ => False)
def tJ3_checkIndex_8e157 : CD := [(0, .iload_n 0), (1, .ifCond .lt 8), (4, .iload_n 0), (5, .iload_n 1), (6, .if_icmp .lt 10), (9, .aload_n 2), (10, .iload_n 0), (11, .iload_n 1), (12, .invokestatic 95), (15, .athrow), (16, .iload_n 0), (17, .ireturn)]
set_option maxRecDepth 100000 in
theorem kJ3_checkIndex_8e157 : chk cJ3_checkIndex_8e157 tJ3_checkIndex_8e157 = true := by decide +kernel

set_option maxRecDepth 100000 in
set_option maxHeartbeats 2000000 in
theorem c_chk3 (l : Launch) : ∀ (i : Nat) (n : Nat) (f : Option Nat), Ct l yJ3_checkIndex_8e157 cJ3_checkIndex_8e157 3 (some .int) 0 0 (sp_chk3 i n f) := by
  intro i n f
  refine Ct.of (fJ3, nJ3, aJ3, iJ3, lJ3, [], qJ3, gJ3, []) false tJ3_checkIndex_8e157 (fun _ _ _ => none) (by decide) (by decide) kJ3_checkIndex_8e157 ⟨_, _, rfl⟩ fJ3_ok nJ3_ok aJ3_ok iJ3_ok lJ3_ok (fun _ _ _ _ _ _ _ _ _ _ _ _ _ _ _ _ _ _ => no_all) qJ3_ok gJ3_ok rfl ?_ ?_
  · rintro _ S ⟨rfl, hp⟩
    refine ⟨Nat.le_of_ble_eq_true rfl, 300, ?_⟩
    show (((nI i) < 0 → False) ∧ (¬ (nI i) < 0 → (((nI i) < (nI n) → (([] : List MV) = [] ∧ mret (some .int) (sp_chk3 i n f) [.inl (nI i), .inl (nI n), .inr (.inr f)] S (some (.inl (nI i))) S 0 0)) ∧ (¬ (nI i) < (nI n) → False))))
    obtain ⟨h1, h2⟩ := hp
    exact ⟨fun z => nI_pos (by omega) z, fun _ => if_lt (by omega) h2 (fun _ => ⟨rfl, trivial, ⟨rfl, rfl⟩, Nat.le_refl _, Nat.le_refl _⟩) (fun z => by omega)⟩
  · exact fun _ _ _ _ _ h => by cases h
theorem u_chk3 (l : Launch) : Us l yJ3_checkIndex_8e157 cJ3_checkIndex_8e157 3 (some .int) 0 0 99 T_chk3 := by
  intro Rc Rs av S cs sl K Kx h
  unfold T_chk3 at h
  split at h
  · rename_i i_v n_v f
    obtain ⟨i, rfl, h_1⟩ := h
    obtain ⟨n, rfl, h_2⟩ := h_1
    obtain ⟨hp, hc, hs, hk⟩ := h_2
    refine ⟨(sp_chk3 i n f), c_chk3 l i n f, fun _ _ _ => trivial, ⟨rfl, hp⟩, hc, hs, fun v9 S' h8 => by
      obtain ⟨h7, h8⟩ := h8
      cases h7
      subst h8
      exact hk, fun _ _ q => q.elim⟩
  · exact h.elim
def T_chk : TR := fun Rc Rs av S cs sl K _Kx => match av with
  | [.inl i_v, .inl n_v] => ∃ (i : Nat), i_v = nI i ∧ (∃ (n : Nat), n_v = nI n ∧ ((i < n ∧ n < 2147483648) ∧ cs ≤ Rc ∧ sl ≤ Rs ∧ (K (some (.inl (nI i))) S cs sl)))
  | _ => False
def sp_chk (i : Nat) (n : Nat)  : Sp := (fun av S => av = [.inl (nI i), .inl (nI n)] ∧ (i < n ∧ n < 2147483648), fun _ S => 0, fun _ S => 0, fun _ S rv S' => rv = (some (.inl (nI i))) ∧ S' = S, fun _ _ _ _ => False)
def tJ15_checkIndex_7cf53 : CD := [(0, .iload_n 0), (1, .iload_n 1), (2, .aconst_null), (3, .invokestatic 105), (6, .ireturn)]
set_option maxRecDepth 100000 in
theorem kJ15_checkIndex_7cf53 : chk cJ15_checkIndex_7cf53 tJ15_checkIndex_7cf53 = true := by decide +kernel
theorem vJ15_checkIndex_7cf53_105 : ∀ w ∈ ([.methodLink RJ15 105 yJ3_checkIndex_8e157, .static yJ3_checkIndex_8e157, .initialized yJ3_checkIndex_8e157.cls, .code yJ3_checkIndex_8e157 cJ3_checkIndex_8e157 3 (some .int)] : List Cond), w ∈ lw_good := List.forall_mem_cons.mpr ⟨mgd 683 (by decide +kernel) (by decide +kernel), List.forall_mem_cons.mpr ⟨mgd 684 (by decide +kernel) (by decide +kernel), List.forall_mem_cons.mpr ⟨mgd 147 (by decide +kernel) (by decide +kernel), List.forall_mem_cons.mpr ⟨mgd 685 (by decide +kernel) (by decide +kernel), fun _ h => absurd h List.not_mem_nil⟩⟩⟩⟩
set_option maxRecDepth 100000 in
set_option maxHeartbeats 2000000 in
theorem c_chk (l : Launch) : ∀ (i : Nat) (n : Nat), Ct l yJ15_checkIndex_7cf53 cJ15_checkIndex_7cf53 2 (some .int) 1 22 (sp_chk i n) := by
  intro i n
  refine Ct.of (fJ15, nJ15, aJ15, iJ15, lJ15, [(105, 2, 3, 1, T_chk3)], qJ15, gJ15, []) false tJ15_checkIndex_7cf53 (fun _ _ _ => none) (by decide) (by decide) kJ15_checkIndex_7cf53 ⟨_, _, rfl⟩ fJ15_ok nJ15_ok aJ15_ok iJ15_ok lJ15_ok (fun p e R s m args below meth c Q D cy z r A C hR1 hR2 => List.forall_mem_cons.mpr ⟨cOK_use (fun _ _ _ _ _ _ _ _ h => let ⟨sp, h1, _, h3⟩ := u_chk3 l _ _ _ _ _ _ _ _ h; ⟨sp, cOK_S C h1 vJ15_checkIndex_7cf53_105 ⟨by decide, by decide, by decide +kernel⟩ ⟨by rw [hR1]; decide, by rw [hR2]; decide⟩, h3⟩), fun _ h => absurd h List.not_mem_nil⟩) qJ15_ok gJ15_ok rfl ?_ ?_
  · rintro _ S ⟨rfl, hp⟩
    refine ⟨Nat.le_of_ble_eq_true rfl, 300, ?_⟩
    show (2 = 2 ∧ (∃ (i_1 : Nat), nI i = nI i_1 ∧ (∃ (n_2 : Nat), nI n = nI n_2 ∧ ((i_1 < n_2 ∧ n_2 < 2147483648) ∧ 0 ≤ 0 ∧ 0 ≤ 0 ∧ ((([] : List MV) = [] ∧ mret (some .int) (sp_chk i n) [.inl (nI i), .inl (nI n)] S (some (.inl (nI i_1))) S 0 0))))))
    exact ⟨rfl, i, rfl, n, rfl, hp, Nat.le_refl _, Nat.le_refl _, rfl, trivial, ⟨rfl, rfl⟩, Nat.le_refl _, Nat.le_refl _⟩
  · exact fun _ _ _ _ _ h => by cases h
theorem u_chk (l : Launch) : Us l yJ15_checkIndex_7cf53 cJ15_checkIndex_7cf53 2 (some .int) 1 22 99 T_chk := by
  intro Rc Rs av S cs sl K Kx h
  unfold T_chk at h
  split at h
  · rename_i i_v n_v
    obtain ⟨i, rfl, h_1⟩ := h
    obtain ⟨n, rfl, h_2⟩ := h_1
    obtain ⟨hp, hc, hs, hk⟩ := h_2
    refine ⟨(sp_chk i n), c_chk l i n, fun _ _ _ => trivial, ⟨rfl, hp⟩, hc, hs, fun v9 S' h8 => by
      obtain ⟨h7, h8⟩ := h8
      cases h7
      subst h8
      exact hk, fun _ _ q => q.elim⟩
  · exact h.elim
def T_aled : TR := fun Rc Rs av S cs sl K _Kx => match av with
  | [.inr (.inr a_o), .inl i_v] => pa a_o fun a => (∃ (i : Nat), i_v = nI i ∧ (∃ (d c kk : Nat) (L : List Nat), (AL S a d c kk L ∧ i < L.length) ∧ cs ≤ Rc ∧ sl ≤ Rs ∧ (K (some (.inr (.inr (L[i]?)))) S cs sl)))
  | _ => False
def sp_aled (a : Nat) (i : Nat) (d c kk : Nat) (L : List Nat) : Sp := (fun av S => av = [.inr (.inr (some a)), .inl (nI i)] ∧ (AL S a d c kk L ∧ i < L.length), fun _ S => 0, fun _ S => 0, fun _ S rv S' => rv = (some (.inr (.inr (L[i]?)))) ∧ S' = S, fun _ _ _ _ => False)
def tJx4a65c_elementData_915e3 : CD := [(0, .aload_n 0), (1, .getfield 9), (4, .iload_n 1), (5, .aaload), (6, .areturn)]
set_option maxRecDepth 100000 in
theorem kJx4a65c_elementData_915e3 : chk cJx4a65c_elementData_915e3 tJx4a65c_elementData_915e3 = true := by decide +kernel

set_option maxRecDepth 100000 in
set_option maxHeartbeats 2000000 in
theorem c_aled (l : Launch) : ∀ (a : Nat) (i : Nat) (d c kk : Nat) (L : List Nat), Ct l yJx4a65c_elementData_915e3 cJx4a65c_elementData_915e3 2 (some (.object "java/lang/Object")) 0 0 (sp_aled a i d c kk L) := by
  intro a i d c kk L
  refine Ct.of (fJx4a65c, nJx4a65c, aJx4a65c, iJx4a65c, lJx4a65c, [], qJx4a65c, gJx4a65c, []) false tJx4a65c_elementData_915e3 (fun _ _ _ => none) (by decide) (by decide) kJx4a65c_elementData_915e3 ⟨_, _, rfl⟩ fJx4a65c_ok nJx4a65c_ok aJx4a65c_ok iJx4a65c_ok lJx4a65c_ok (fun _ _ _ _ _ _ _ _ _ _ _ _ _ _ _ _ _ _ => no_all) qJx4a65c_ok gJx4a65c_ok rfl ?_ ?_
  · rintro _ S ⟨rfl, hp⟩
    refine ⟨Nat.le_of_ble_eq_true rfl, 300, ?_⟩
    show (isO S 0 a ∧ (pa (mR S 1 a) fun a_1 => a_1 ∈ mL S ∧ ¬ mK S a_1 < 21 ∧ mK S a_1 < 29 ∧ inR S a_1 (nI i) ∧ (([] : List MV) = [] ∧ mret (some (.object "java/lang/Object")) (sp_aled a i d c kk L) [.inr (.inr (some a)), .inl (nI i)] S (some (.inr (.inr (eR S a_1 (nI i).toNatClampNeg)))) S 0 0)))
    obtain ⟨⟨a1, a2, a3, a4, a5, a6, a7, a8⟩, h1⟩ := hp
    rcases a8 with ⟨b1, b2⟩ | ⟨b1, b2, b3, b4⟩
    · omega
    rw [a2]
    refine ⟨a1, b2.1, by rw [b2.2]; decide, by rw [b2.2]; decide, vp_in_nI (by omega) (by omega), rfl, trivial, ⟨?_, rfl⟩, Nat.le_refl _, Nat.le_refl _⟩
    rw [b4, nI_clamp (by omega)]
  · exact fun _ _ _ _ _ h => by cases h
theorem u_aled (l : Launch) : Us l yJx4a65c_elementData_915e3 cJx4a65c_elementData_915e3 2 (some (.object "java/lang/Object")) 0 0 0 T_aled := by
  intro Rc Rs av S cs sl K Kx h
  unfold T_aled at h
  split at h
  · rename_i a_o i_v
    obtain ⟨a, rfl, h_1⟩ := pa_of h
    obtain ⟨i, rfl, h_2⟩ := h_1
    obtain ⟨d, c, kk, L, hp, hc, hs, hk⟩ := h_2
    refine ⟨(sp_aled a i d c kk L), c_aled l a i d c kk L, fun _ _ h9 => ⟨_, _, h9.1, h9.2.1.1⟩, ⟨rfl, hp⟩, hc, hs, fun v9 S' h8 => by
      obtain ⟨h7, h8⟩ := h8
      cases h7
      subst h8
      exact hk, fun _ _ q => q.elim⟩
  · exact h.elim
def T_alget : TR := fun Rc Rs av S cs sl K _Kx => match av with
  | [.inr (.inr a_o), .inl i_v] => pa a_o fun a => (∃ (i : Nat), i_v = nI i ∧ (∃ (d c kk : Nat) (L : List Nat), (AL S a d c kk L ∧ i < L.length) ∧ cs ≤ Rc ∧ sl ≤ Rs ∧ (K (some (.inr (.inr (L[i]?)))) S cs sl)))
  | _ => False
def sp_alget (a : Nat) (i : Nat) (d c kk : Nat) (L : List Nat) : Sp := (fun av S => av = [.inr (.inr (some a)), .inl (nI i)] ∧ (AL S a d c kk L ∧ i < L.length), fun _ S => 0, fun _ S => 0, fun _ S rv S' => rv = (some (.inr (.inr (L[i]?)))) ∧ S' = S, fun _ _ _ _ => False)
def tJx4a65c_get_915e3 : CD := [(0, .iload_n 1), (1, .aload_n 0), (2, .getfield 48), (5, .invokestatic 118), (8, .pop), (9, .aload_n 0), (10, .iload_n 1), (11, .invokevirtual 123), (14, .areturn)]
set_option maxRecDepth 100000 in
theorem kJx4a65c_get_915e3 : chk cJx4a65c_get_915e3 tJx4a65c_get_915e3 = true := by decide +kernel
theorem vJx4a65c_get_915e3_118 : ∀ w ∈ ([.methodLink RJx4a65c 118 yJ15_checkIndex_7cf53, .static yJ15_checkIndex_7cf53, .initialized yJ15_checkIndex_7cf53.cls, .code yJ15_checkIndex_7cf53 cJ15_checkIndex_7cf53 2 (some .int)] : List Cond), w ∈ lw_good := List.forall_mem_cons.mpr ⟨mgd 680 (by decide +kernel) (by decide +kernel), List.forall_mem_cons.mpr ⟨mgd 681 (by decide +kernel) (by decide +kernel), List.forall_mem_cons.mpr ⟨mgd 146 (by decide +kernel) (by decide +kernel), List.forall_mem_cons.mpr ⟨mgd 682 (by decide +kernel) (by decide +kernel), fun _ h => absurd h List.not_mem_nil⟩⟩⟩⟩
theorem vJx4a65c_get_915e3_123 : ∀ w ∈ ([.methodLink RJx4a65c 123 yJx4a65c_elementData_915e3, .instanceMethod yJx4a65c_elementData_915e3, .selects yJx4a65c_elementData_915e3.cls yJx4a65c_elementData_915e3 yJx4a65c_elementData_915e3, .initialized yJx4a65c_elementData_915e3.cls, .code yJx4a65c_elementData_915e3 cJx4a65c_elementData_915e3 2 (some (.object "java/lang/Object"))] : List Cond), w ∈ lw_good := List.forall_mem_cons.mpr ⟨mgd 686 (by decide +kernel) (by decide +kernel), List.forall_mem_cons.mpr ⟨mgd 687 (by decide +kernel) (by decide +kernel), List.forall_mem_cons.mpr ⟨mgd 688 (by decide +kernel) (by decide +kernel), List.forall_mem_cons.mpr ⟨mgd 130 (by decide +kernel) (by decide +kernel), List.forall_mem_cons.mpr ⟨mgd 689 (by decide +kernel) (by decide +kernel), fun _ h => absurd h List.not_mem_nil⟩⟩⟩⟩⟩
set_option maxRecDepth 100000 in
set_option maxHeartbeats 2000000 in
theorem c_alget (l : Launch) : ∀ (a : Nat) (i : Nat) (d c kk : Nat) (L : List Nat), Ct l yJx4a65c_get_915e3 cJx4a65c_get_915e3 2 (some (.object "java/lang/Object")) 2 43 (sp_alget a i d c kk L) := by
  intro a i d c kk L
  refine Ct.of (fJx4a65c, nJx4a65c, aJx4a65c, iJx4a65c, lJx4a65c, [(118, 2, 2, 1, T_chk), (123, 0, 2, 3, T_aled)], qJx4a65c, gJx4a65c, []) false tJx4a65c_get_915e3 (fun _ _ _ => none) (by decide) (by decide) kJx4a65c_get_915e3 ⟨_, _, rfl⟩ fJx4a65c_ok nJx4a65c_ok aJx4a65c_ok iJx4a65c_ok lJx4a65c_ok (fun p e R s m args below meth c Q D cy z r A C hR1 hR2 => List.forall_mem_cons.mpr ⟨cOK_use (fun _ _ _ _ _ _ _ _ h => let ⟨sp, h1, _, h3⟩ := u_chk l _ _ _ _ _ _ _ _ h; ⟨sp, cOK_S C h1 vJx4a65c_get_915e3_118 ⟨by decide, by decide, by decide +kernel⟩ ⟨by rw [hR1]; decide, by rw [hR2]; decide⟩, h3⟩), List.forall_mem_cons.mpr ⟨cOK_use (fun _ _ _ _ _ _ _ _ h => let ⟨sp, h1, h2, h3⟩ := u_aled l _ _ _ _ _ _ _ _ h; ⟨sp, cOK_V C h1 vJx4a65c_get_915e3_123 ⟨by decide, by decide, by decide +kernel⟩ ⟨by rw [hR1]; decide, by rw [hR2]; decide⟩ (k := 0) (T := TJx4a65c) (N := 3) rfl (by decide) h2, h3⟩), fun _ h => absurd h List.not_mem_nil⟩⟩) qJx4a65c_ok gJx4a65c_ok rfl ?_ ?_
  · rintro _ S ⟨rfl, hp⟩
    refine ⟨Nat.le_of_ble_eq_true rfl, 300, ?_⟩
    show (isO S 0 a ∧ (2 = 2 ∧ (∃ (i_1 : Nat), nI i = nI i_1 ∧ (∃ (n_2 : Nat), mI S 2 a = nI n_2 ∧ ((i_1 < n_2 ∧ n_2 < 2147483648) ∧ 0 ≤ 0 ∧ 0 ≤ 0 ∧ ((0 = 0 ∧ (∃ (i_4 : Nat), nI i = nI i_4 ∧ (∃ (d_5 c_6 kk_7 : Nat) (L_8 : List Nat), (AL S a d_5 c_6 kk_7 L_8 ∧ i_4 < L_8.length) ∧ 0 ≤ 0 ∧ 0 ≤ 0 ∧ ((([] : List MV) = [] ∧ mret (some (.object "java/lang/Object")) (sp_alget a i d c kk L) [.inr (.inr (some a)), .inl (nI i)] S (some (.inr (.inr (L_8[i_4]?)))) S 0 0)))))))))))
    obtain ⟨hA, h1⟩ := hp
    have h2 := hA.2.2.2.1
    have h3 := hA.2.2.2.2.1
    exact ⟨hA.1, rfl, i, rfl, L.length, hA.2.2.1, ⟨h1, by omega⟩, Nat.le_refl _, Nat.le_refl _, rfl, i, rfl, d, c, kk, L, ⟨hA, h1⟩, Nat.le_refl _, Nat.le_refl _, rfl, trivial, ⟨rfl, rfl⟩, Nat.le_refl _, Nat.le_refl _⟩
  · exact fun _ _ _ _ _ h => by cases h
theorem u_alget (l : Launch) : Us l yJx4a65c_get_915e3 cJx4a65c_get_915e3 2 (some (.object "java/lang/Object")) 2 43 0 T_alget := by
  intro Rc Rs av S cs sl K Kx h
  unfold T_alget at h
  split at h
  · rename_i a_o i_v
    obtain ⟨a, rfl, h_1⟩ := pa_of h
    obtain ⟨i, rfl, h_2⟩ := h_1
    obtain ⟨d, c, kk, L, hp, hc, hs, hk⟩ := h_2
    refine ⟨(sp_alget a i d c kk L), c_alget l a i d c kk L, fun _ _ h9 => ⟨_, _, h9.1, h9.2.1.1⟩, ⟨rfl, hp⟩, hc, hs, fun v9 S' h8 => by
      obtain ⟨h7, h8⟩ := h8
      cases h7
      subst h8
      exact hk, fun _ _ q => q.elim⟩
  · exact h.elim
def T_nwl : TR := fun Rc Rs av S cs sl K _Kx => match av with
  | [.inl x_v, .inl y_v, .inl z_v] => ∃ (x : Nat), x_v = nI x ∧ (∃ (y : Nat), y_v = nI y ∧ (∃ (z : Nat), z_v = nI z ∧ ((x ≤ 100000 ∧ y ≤ 100000 ∧ z ≤ 100000 ∧ 1 ≤ y) ∧ cs ≤ Rc ∧ sl ≤ Rs ∧ (K (some (.inl (nI (x + max y z)))) S cs sl))))
  | _ => False
def sp_nwl (x : Nat) (y : Nat) (z : Nat)  : Sp := (fun av S => av = [.inl (nI x), .inl (nI y), .inl (nI z)] ∧ (x ≤ 100000 ∧ y ≤ 100000 ∧ z ≤ 100000 ∧ 1 ≤ y), fun _ S => 0, fun _ S => 0, fun _ S rv S' => rv = (some (.inl (nI (x + max y z)))) ∧ S' = S, fun _ _ _ _ => False)
def tJ8_newLength_cabcc : CD := [(0, .iload_n 0), (1, .iload_n 1), (2, .iload_n 2), (3, .invokestatic 194), (6, .iadd), (7, .istore_n 3), (8, .iconst 0), (9, .iload_n 3), (10, .if_icmp .ge 11), (13, .iload_n 3), (14, .ldc 200), (16, .if_icmp .gt 5), (19, .iload_n 3), (20, .ireturn), (21, .iload_n 0), (22, .iload_n 1), (23, .invokestatic 201), (26, .ireturn)]
set_option maxRecDepth 100000 in
theorem kJ8_newLength_cabcc : chk cJ8_newLength_cabcc tJ8_newLength_cabcc = true := by decide +kernel
theorem vJ8_newLength_cabcc_194 : ∀ w ∈ ([.methodLink RJ8 194 Lib.Math.max.name, .static Lib.Math.max.name, .initialized "java/lang/Math", .code Lib.Math.max.name Lib.Math.max.code 2 (some .int)] : List Cond), w ∈ lw_good := List.forall_mem_cons.mpr ⟨mgd 967 (by decide +kernel) (by decide +kernel), List.forall_mem_cons.mpr ⟨mgd 888 (by decide +kernel) (by decide +kernel), List.forall_mem_cons.mpr ⟨mgd 143 (by decide +kernel) (by decide +kernel), List.forall_mem_cons.mpr ⟨mgd 889 (by decide +kernel) (by decide +kernel), fun _ h => absurd h List.not_mem_nil⟩⟩⟩⟩
set_option maxRecDepth 100000 in
set_option maxHeartbeats 2000000 in
theorem c_nwl (l : Launch) : ∀ (x : Nat) (y : Nat) (z : Nat), Ct l yJ8_newLength_cabcc cJ8_newLength_cabcc 4 (some .int) 1 21 (sp_nwl x y z) := by
  intro x y z
  refine Ct.of (fJ8, nJ8, aJ8, iJ8, lJ8, [(194, 2, 2, 1, T_max)], qJ8, gJ8, []) false tJ8_newLength_cabcc (fun _ _ _ => none) (by decide) (by decide) kJ8_newLength_cabcc ⟨_, _, rfl⟩ fJ8_ok nJ8_ok aJ8_ok iJ8_ok lJ8_ok (fun p e R s m args below meth c Q D cy z r A C hR1 hR2 => List.forall_mem_cons.mpr ⟨cOK_use (fun _ _ _ _ _ _ _ _ h => ⟨sp_max, cOK_max C vJ8_newLength_cabcc_194 ⟨by rw [hR1]; decide, by rw [hR2]; decide⟩, T_max_ok h⟩), fun _ h => absurd h List.not_mem_nil⟩) qJ8_ok gJ8_ok rfl ?_ ?_
  · rintro _ S ⟨rfl, hp⟩
    refine ⟨Nat.le_of_ble_eq_true rfl, 300, ?_⟩
    show (2 = 2 ∧ (True ∧ 0 ≤ 0 ∧ 0 ≤ 0 ∧ (((((nI x) + (imax (nI y) (nI z))) ≤ (0 : Int32) → False) ∧ (¬ ((nI x) + (imax (nI y) (nI z))) ≤ (0 : Int32) → (((2147483639 : Int32) < ((nI x) + (imax (nI y) (nI z))) → False) ∧ (¬ (2147483639 : Int32) < ((nI x) + (imax (nI y) (nI z))) → (([] : List MV) = [] ∧ mret (some .int) (sp_nwl x y z) [.inl (nI x), .inl (nI y), .inl (nI z)] S (some (.inl ((nI x) + (imax (nI y) (nI z))))) S 0 0))))))))
    obtain ⟨h1, h2, h3, h4⟩ := hp
    rw [imax_nI (by omega) (by omega), nI_add]
    exact ⟨rfl, trivial, Nat.le_refl _, Nat.le_refl _, if_le (b := 0) (by omega) (by decide) (fun z => by omega) (fun _ => if_lt (a := 2147483639) (by decide) (by omega) (fun z => by omega) (fun _ => ⟨rfl, trivial, ⟨rfl, rfl⟩, Nat.le_refl _, Nat.le_refl _⟩))⟩
  · exact fun _ _ _ _ _ h => by cases h
theorem u_nwl (l : Launch) : Us l yJ8_newLength_cabcc cJ8_newLength_cabcc 4 (some .int) 1 21 99 T_nwl := by
  intro Rc Rs av S cs sl K Kx h
  unfold T_nwl at h
  split at h
  · rename_i x_v y_v z_v
    obtain ⟨x, rfl, h_1⟩ := h
    obtain ⟨y, rfl, h_2⟩ := h_1
    obtain ⟨z, rfl, h_3⟩ := h_2
    obtain ⟨hp, hc, hs, hk⟩ := h_3
    refine ⟨(sp_nwl x y z), c_nwl l x y z, fun _ _ _ => trivial, ⟨rfl, hp⟩, hc, hs, fun v9 S' h8 => by
      obtain ⟨h7, h8⟩ := h8
      cases h7
      subst h8
      exact hk, fun _ _ q => q.elim⟩
  · exact h.elim
/-- a longer row with the objects of an old one -/
def lgS (S : MM) (a q n : Nat) : MM := rR (nA S q 26 n) q (va_cpy (eR S a) (fun _ => none) 0 0 (mN S a))
def okR (S : MM) (a : Nat) : Prop := isO S 26 a ∧ ∀ i, i < mN S a → ∀ b, eR S a i = some b → isO S 4 b ∨ isO S 5 b
def T_cpo3 : TR := fun Rc Rs av S cs sl K _Kx => match av with
  | [.inr (.inr a_o), .inl n_v, .inr (.inr f)] => pa a_o fun a => (∃ (n : Nat), n_v = nI n ∧ ((okR S a ∧ mN S a ≤ n ∧ n ≤ 1000000 ∧ f = some (mQ S).2) ∧ cs + 1 ≤ Rc ∧ sl + n ≤ Rs ∧ (∀ (v : Option Nat) (S' : MM), (∃ q, v = some q ∧ q ∉ mL S ∧ S' = lgS S a q n) → K (some (.inr (.inr v))) S' (cs + 1) (sl + n))))
  | _ => False
def sp_cpo3 (a : Nat) (n : Nat) (f : Option Nat)  : Sp := (fun av S => av = [.inr (.inr (some a)), .inl (nI n), .inr (.inr f)] ∧ (okR S a ∧ mN S a ≤ n ∧ n ≤ 1000000 ∧ f = some (mQ S).2), fun _ S => 1, fun _ S => n, fun _ S rv S' => ∃ v, rv = (some (.inr (.inr v))) ∧ (∃ q, v = some q ∧ q ∉ mL S ∧ S' = lgS S a q n), fun _ _ _ _ => False)
def tJ7_copyOf_6403c : CD := [(0, .aload_n 2), (1, .ldc 110), (3, .if_acmp .ne 10), (6, .iload_n 1), (7, .anewarray 2), (10, .goto 14), (13, .aload_n 2), (14, .invokevirtual 90), (17, .iload_n 1), (18, .invokestatic 95), (21, .checkcast 110), (24, .astore_n 3), (25, .aload_n 0), (26, .iconst 0), (27, .aload_n 3), (28, .iconst 0), (29, .aload_n 0), (30, .arraylength), (31, .iload_n 1), (32, .invokestatic 304), (35, .invokestatic 150), (38, .aload_n 3), (39, .areturn)]
set_option maxRecDepth 100000 in
theorem kJ7_copyOf_6403c : chk cJ7_copyOf_6403c tJ7_copyOf_6403c = true := by decide +kernel
theorem vJ7_copyOf_6403c_304 : ∀ w ∈ ([.methodLink RJ7 304 Lib.Math.min.name, .static Lib.Math.min.name, .initialized "java/lang/Math", .code Lib.Math.min.name Lib.Math.min.code 2 (some .int)] : List Cond), w ∈ lw_good := List.forall_mem_cons.mpr ⟨mgd 789 (by decide +kernel) (by decide +kernel), List.forall_mem_cons.mpr ⟨mgd 777 (by decide +kernel) (by decide +kernel), List.forall_mem_cons.mpr ⟨mgd 143 (by decide +kernel) (by decide +kernel), List.forall_mem_cons.mpr ⟨mgd 778 (by decide +kernel) (by decide +kernel), fun _ h => absurd h List.not_mem_nil⟩⟩⟩⟩
theorem vJ7_copyOf_6403c_150 : ∀ w ∈ ([.methodLink RJ7 150 arraycopyName, .native arraycopyName, .static arraycopyName, .initialized "java/lang/System"] : List Cond), w ∈ lw_good := List.forall_mem_cons.mpr ⟨mgd 790 (by decide +kernel) (by decide +kernel), List.forall_mem_cons.mpr ⟨mgd 792 (by decide +kernel) (by decide +kernel), List.forall_mem_cons.mpr ⟨mgd 791 (by decide +kernel) (by decide +kernel), List.forall_mem_cons.mpr ⟨mgd 144 (by decide +kernel) (by decide +kernel), fun _ h => absurd h List.not_mem_nil⟩⟩⟩⟩
set_option maxRecDepth 100000 in
set_option maxHeartbeats 2000000 in
theorem c_cpo3 (l : Launch) : ∀ (a : Nat) (n : Nat) (f : Option Nat), Ct l yJ7_copyOf_6403c cJ7_copyOf_6403c 4 (some (.array (.object "java/lang/Object"))) 1 32 (sp_cpo3 a n f) := by
  intro a n f
  refine Ct.of (fJ7, nJ7, aJ7, iJ7, lJ7, [(304, 2, 2, 1, T_min), (150, 2, 5, 0, T_acopyR)], qJ7, gJ7, []) false tJ7_copyOf_6403c (fun _ _ _ => none) (by decide) (by decide) kJ7_copyOf_6403c ⟨_, _, rfl⟩ fJ7_ok nJ7_ok aJ7_ok iJ7_ok lJ7_ok (fun p e R s m args below meth c Q D cy z r A C hR1 hR2 => List.forall_mem_cons.mpr ⟨cOK_use (fun _ _ _ _ _ _ _ _ h => ⟨sp_min, cOK_min C vJ7_copyOf_6403c_304 ⟨by rw [hR1]; decide, by rw [hR2]; decide⟩, T_min_ok h⟩), List.forall_mem_cons.mpr ⟨cOK_use (fun _ _ _ _ _ _ _ _ h => ⟨sp_acopyR, cOK_acopyR C vJ7_copyOf_6403c_150 ⟨by rw [hR1]; decide, by rw [hR2]; decide⟩, T_acopyR_ok h⟩), fun _ h => absurd h List.not_mem_nil⟩⟩) qJ7_ok gJ7_ok rfl ?_ ?_
  · rintro _ S ⟨rfl, hp⟩
    refine ⟨Nat.le_of_ble_eq_true rfl, 300, ?_⟩
    show ((¬ f = (some (mQ S).2) → False) ∧ (f = (some (mQ S).2) → (¬ (nI n) < 0 ∧ (nI n).toNatClampNeg * 8 ≤ 536870912 ∧ 0 + 1 ≤ 1 ∧ 0 + (nI n).toNatClampNeg ≤ n ∧ ∀ q_1, q_1 ∉ mL S → (∃ v_2 : Int32, (a ∈ mL (nA S q_1 26 (nI n).toNatClampNeg) ∧ ¬ mK (nA S q_1 26 (nI n).toNatClampNeg) a < 16 ∧ mK (nA S q_1 26 (nI n).toNatClampNeg) a < 29 ∧ v_2 = Int32.ofNat (mN (nA S q_1 26 (nI n).toNatClampNeg) a) ∨ a = mZ (nA S q_1 26 (nI n).toNatClampNeg) ∧ v_2 = 0) ∧ (2 = 2 ∧ (True ∧ 0 + 1 ≤ 1 ∧ 0 + (nI n).toNatClampNeg ≤ n ∧ ((2 = 2 ∧ ((acR (nA S q_1 26 (nI n).toNatClampNeg) a q_1 (0 : Int32) (0 : Int32) (imin v_2 (nI n))) ∧ 0 + 1 ≤ 1 ∧ 0 + (nI n).toNatClampNeg ≤ n ∧ ((([] : List MV) = [] ∧ mret (some (.array (.object "java/lang/Object"))) (sp_cpo3 a n f) [.inr (.inr (some a)), .inl (nI n), .inr (.inr f)] S (some (.inr (.inr (some q_1)))) (rR (nA S q_1 26 (nI n).toNatClampNeg) q_1 (va_cpy (eR (nA S q_1 26 (nI n).toNatClampNeg) a) (eR (nA S q_1 26 (nI n).toNatClampNeg) q_1) (0 : Int32).toNatClampNeg (0 : Int32).toNatClampNeg (imin v_2 (nI n)).toNatClampNeg)) (0 + 1) (0 + (nI n).toNatClampNeg))))))))))))
    obtain ⟨⟨h1, h2⟩, h3, h4, h5⟩ := hp
    rw [nI_clamp (by omega)]
    refine ⟨fun z => z h5, fun _ => ⟨nI_pos (by omega), by omega, Nat.le_refl _, by omega, fun q hq => ?_⟩⟩
    have haq : a ≠ q := fun e => hq (e ▸ h1.1)
    have hO : isO (nA S q 26 n) 26 a := isO_nA h1 hq
    have hN : mN (nA S q 26 n) a = mN S a := va_up_ne _ _ haq
    have hE : eR (nA S q 26 n) a = eR S a := va_up_ne _ _ haq
    have hEq : eR (nA S q 26 n) q = fun _ => none := va_up_self _ _ _
    refine ⟨nI (mN S a), Or.inl ⟨hO.1, by rw [hO.2]; decide, by rw [hO.2]; decide, by rw [hN]; rfl⟩, rfl, trivial, Nat.le_refl _, by omega, rfl, ?_⟩
    rw [imin_nI (by omega) (by omega), Nat.min_eq_left h3, nI_clamp (by omega)]
    refine ⟨⟨hO, isO_nA_self, fun i hi b hb => ?_, by decide, by decide, nI_pos (by omega), ?_, ?_⟩, Nat.le_refl _, by omega, rfl, trivial, ⟨_, rfl, q, rfl, hq, ?_⟩, Nat.le_refl _, by show 0 + n ≤ n; omega⟩
    · rw [nI_clamp (by omega)] at hi
      rw [hE, show (0 : Int32).toNatClampNeg = 0 from rfl, Nat.zero_add] at hb
      exact (h2 i hi b hb).elim (fun z => Or.inl (isO_nA z hq)) (fun z => Or.inr (isO_nA z hq))
    · rw [nI_clamp (by omega), hN]; show 0 + mN S a ≤ _; omega
    · rw [nI_clamp (by omega)]
      show 0 + mN S a ≤ mN (nA S q 26 n) q
      rw [mN_nA, if_pos rfl]; omega
    · rw [hE, hEq]; rfl
  · exact fun _ _ _ _ _ h => by cases h
theorem u_cpo3 (l : Launch) : Us l yJ7_copyOf_6403c cJ7_copyOf_6403c 4 (some (.array (.object "java/lang/Object"))) 1 32 99 T_cpo3 := by
  intro Rc Rs av S cs sl K Kx h
  unfold T_cpo3 at h
  split at h
  · rename_i a_o n_v f
    obtain ⟨a, rfl, h_1⟩ := pa_of h
    obtain ⟨n, rfl, h_2⟩ := h_1
    obtain ⟨hp, hc, hs, hk⟩ := h_2
    refine ⟨(sp_cpo3 a n f), c_cpo3 l a n f, fun _ _ _ => trivial, ⟨rfl, hp⟩, hc, hs, fun v9 S' h8 => by
      obtain ⟨v8, h7, h8⟩ := h8
      cases h7
      exact hk _ _ h8, fun _ _ q => q.elim⟩
  · exact h.elim
def T_cpo2 : TR := fun Rc Rs av S cs sl K _Kx => match av with
  | [.inr (.inr a_o), .inl n_v] => pa a_o fun a => (∃ (n : Nat), n_v = nI n ∧ ((okR S a ∧ mN S a ≤ n ∧ n ≤ 1000000) ∧ cs + 1 ≤ Rc ∧ sl + n ≤ Rs ∧ (∀ (v : Option Nat) (S' : MM), (∃ q, v = some q ∧ q ∉ mL S ∧ S' = lgS S a q n) → K (some (.inr (.inr v))) S' (cs + 1) (sl + n))))
  | _ => False
def sp_cpo2 (a : Nat) (n : Nat)  : Sp := (fun av S => av = [.inr (.inr (some a)), .inl (nI n)] ∧ (okR S a ∧ mN S a ≤ n ∧ n ≤ 1000000), fun _ S => 1, fun _ S => n, fun _ S rv S' => ∃ v, rv = (some (.inr (.inr v))) ∧ (∃ q, v = some q ∧ q ∉ mL S ∧ S' = lgS S a q n), fun _ _ _ _ => False)
def tJ7_copyOf_1904c : CD := [(0, .aload_n 0), (1, .iload_n 1), (2, .aload_n 0), (3, .invokevirtual 86), (6, .invokestatic 300), (9, .areturn)]
set_option maxRecDepth 100000 in
theorem kJ7_copyOf_1904c : chk cJ7_copyOf_1904c tJ7_copyOf_1904c = true := by decide +kernel
theorem vJ7_copyOf_1904c_86 : ∀ w ∈ ([.methodLink RJ7 86 gcN, .selects "[Ljava/lang/Object;" gcN gcN, .instanceMethod gcN, .native gcN] : List Cond), w ∈ lw_good := List.forall_mem_cons.mpr ⟨mgd 975 (by decide +kernel) (by decide +kernel), List.forall_mem_cons.mpr ⟨mgd 2479 (by decide +kernel) (by decide +kernel), List.forall_mem_cons.mpr ⟨mgd 976 (by decide +kernel) (by decide +kernel), List.forall_mem_cons.mpr ⟨mgd 998 (by decide +kernel) (by decide +kernel), fun _ h => absurd h List.not_mem_nil⟩⟩⟩⟩
theorem vJ7_copyOf_1904c_300 : ∀ w ∈ ([.methodLink RJ7 300 yJ7_copyOf_6403c, .static yJ7_copyOf_6403c, .initialized yJ7_copyOf_6403c.cls, .code yJ7_copyOf_6403c cJ7_copyOf_6403c 4 (some (.array (.object "java/lang/Object")))] : List Cond), w ∈ lw_good := List.forall_mem_cons.mpr ⟨mgd 999 (by decide +kernel) (by decide +kernel), List.forall_mem_cons.mpr ⟨mgd 1000 (by decide +kernel) (by decide +kernel), List.forall_mem_cons.mpr ⟨mgd 135 (by decide +kernel) (by decide +kernel), List.forall_mem_cons.mpr ⟨mgd 1001 (by decide +kernel) (by decide +kernel), fun _ h => absurd h List.not_mem_nil⟩⟩⟩⟩
set_option maxRecDepth 100000 in
set_option maxHeartbeats 2000000 in
theorem c_cpo2 (l : Launch) : ∀ (a : Nat) (n : Nat), Ct l yJ7_copyOf_1904c cJ7_copyOf_1904c 2 (some (.array (.object "java/lang/Object"))) 2 55 (sp_cpo2 a n) := by
  intro a n
  refine Ct.of (fJ7, nJ7, aJ7, iJ7, lJ7, [(86, 0, 1, 3, T_getc), (300, 2, 3, 3, T_cpo3)], qJ7, gJ7, []) false tJ7_copyOf_1904c (fun _ _ _ => none) (by decide) (by decide) kJ7_copyOf_1904c ⟨_, _, rfl⟩ fJ7_ok nJ7_ok aJ7_ok iJ7_ok lJ7_ok (fun p e R s m args below meth c Q D cy z r A C hR1 hR2 => List.forall_mem_cons.mpr ⟨cOK_use (fun _ _ _ _ _ _ _ _ h => ⟨sp_getc, cOK_getc C vJ7_copyOf_1904c_86 (mbd 2480 (by decide +kernel) (by decide +kernel)) ⟨by rw [hR1]; decide, by rw [hR2]; decide⟩, T_getc_ok h⟩), List.forall_mem_cons.mpr ⟨cOK_use (fun _ _ _ _ _ _ _ _ h => let ⟨sp, h1, _, h3⟩ := u_cpo3 l _ _ _ _ _ _ _ _ h; ⟨sp, cOK_S C h1 vJ7_copyOf_1904c_300 ⟨by decide, by decide, by decide +kernel⟩ ⟨by rw [hR1]; decide, by rw [hR2]; decide⟩, h3⟩), fun _ h => absurd h List.not_mem_nil⟩⟩) qJ7_ok gJ7_ok rfl ?_ ?_
  · rintro _ S ⟨rfl, hp⟩
    refine ⟨Nat.le_of_ble_eq_true rfl, 300, ?_⟩
    show (0 = 0 ∧ ((isO S 26 a) ∧ 0 ≤ 1 ∧ 0 ≤ n ∧ ((2 = 2 ∧ (∃ (n_2 : Nat), nI n = nI n_2 ∧ ((okR S a ∧ mN S a ≤ n_2 ∧ n_2 ≤ 1000000 ∧ (some (mQ S).2) = some (mQ S).2) ∧ 0 + 1 ≤ 1 ∧ 0 + n_2 ≤ n ∧ (∀ (x_4 : Option Nat) (S_3 : MM), (∃ q, x_4 = some q ∧ q ∉ mL S ∧ S_3 = lgS S a q n_2) → (([] : List MV) = [] ∧ mret (some (.array (.object "java/lang/Object"))) (sp_cpo2 a n) [.inr (.inr (some a)), .inl (nI n)] S (some (.inr (.inr x_4))) S_3 (0 + 1) (0 + n_2)))))))))
    obtain ⟨h1, h2, h3⟩ := hp
    refine ⟨rfl, h1.1, Nat.zero_le _, Nat.zero_le _, rfl, n, rfl, ⟨h1, h2, h3, rfl⟩, Nat.le_refl _, by omega, fun x S2 hx => ⟨rfl, trivial, ⟨x, rfl, hx⟩, Nat.le_refl _, ?_⟩⟩
    show 0 + n ≤ n
    omega
  · exact fun _ _ _ _ _ h => by cases h
theorem u_cpo2 (l : Launch) : Us l yJ7_copyOf_1904c cJ7_copyOf_1904c 2 (some (.array (.object "java/lang/Object"))) 2 55 99 T_cpo2 := by
  intro Rc Rs av S cs sl K Kx h
  unfold T_cpo2 at h
  split at h
  · rename_i a_o n_v
    obtain ⟨a, rfl, h_1⟩ := pa_of h
    obtain ⟨n, rfl, h_2⟩ := h_1
    obtain ⟨hp, hc, hs, hk⟩ := h_2
    refine ⟨(sp_cpo2 a n), c_cpo2 l a n, fun _ _ _ => trivial, ⟨rfl, hp⟩, hc, hs, fun v9 S' h8 => by
      obtain ⟨v8, h7, h8⟩ := h8
      cases h7
      exact hk _ _ h8, fun _ _ q => q.elim⟩
  · exact h.elim
/-- the places of a row that has grown -/
def gcap (c : Nat) : Nat := if c = 0 then 10 else c + c / 2
def grP (S S' : MM) (a d c kk : Nat) (L : List Nat) (v : Option Nat) : Prop := ∃ q, v = some q ∧ q ∉ mL S ∧ AL S' a q (gcap c) kk L ∧ Keep (fun b => b = a) S S' ∧ mI S' 0 a = mI S 0 a
theorem lgS_row {S : MM} {d q n : Nat} {L : List Nat} (hq : q ∉ mL S) (hd : d ∈ mL S) (h1 : eR S d = fun i => L[i]?) (h2 : L.length ≤ mN S d) : eR (lgS S d q n) q = fun i => L[i]? := by
  show va_up (eR (nA S q 26 n)) q (va_cpy (eR S d) (fun _ => none) 0 0 (mN S d)) q = _
  rw [va_up_self, h1]
  funext j
  show (if 0 ≤ j ∧ j < 0 + mN S d then L[0 + (j - 0)]? else none) = L[j]?
  by_cases z : j < mN S d
  · rw [if_pos ⟨Nat.zero_le _, by omega⟩, Nat.zero_add, Nat.sub_zero]
  · rw [if_neg (by omega), List.getElem?_eq_none (by omega)]
theorem lgS_keep {P : Nat → Prop} {S : MM} {d q n : Nat} (hq : q ∉ mL S) : Keep P S (lgS S d q n) := by
  refine ⟨fun b hb => ⟨List.mem_append_left _ hb, va_up_ne _ _ (fun (e : b = q) => hq (e ▸ hb)), va_up_ne _ _ (fun (e : b = q) => hq (e ▸ hb))⟩, fun b hb _ => ?_, rfl, rfl⟩
  have hbq : b ≠ q := fun e => hq (e ▸ hb)
  exact ⟨fun _ => rfl, fun _ => rfl, fun _ => rfl, by show va_up _ _ _ b = _; rw [va_up_ne _ _ hbq], by show va_up _ _ _ b = _; rw [va_up_ne _ _ hbq], by show va_up _ _ _ b = _; rw [va_up_ne _ _ hbq]; show va_up _ _ _ b = _; rw [va_up_ne _ _ hbq]⟩
theorem AL.okR {S : MM} {a d c kk : Nat} {L : List Nat} (h : AL S a d c kk L) (hc : c ≠ 0) : okR S d := by
  obtain ⟨a1, a2, a3, a4, a5, a6, a7, a8⟩ := h
  rcases a8 with ⟨b1, b2⟩ | ⟨b1, b2, b3, b4⟩
  · exact absurd b1 hc
  · refine ⟨b2, fun i hi b hb => ?_⟩
    rw [b4] at hb
    have := a6 b (List.mem_of_getElem? hb)
    rcases a7 with e | e
    · exact Or.inl (e ▸ this)
    · exact Or.inr (e ▸ this)
/-- the list has a new row with the same objects -/
theorem AL.regrow {S S1 : MM} {a d c kk q n : Nat} {L : List Nat} (h : AL S a d c kk L) (hk : Keep (fun b => b = a) S S1) (hq : q ∉ mL S) (hI : ∀ i, mI S1 i a = mI S i a) (h1 : isO S1 26 q) (h2 : mN S1 q = n) (h3 : eR S1 q = fun i => L[i]?) (h4 : mR S1 1 a = some q) (h5 : L.length ≤ n) (h6 : 10 ≤ n) (h7 : n ≤ 100000) : AL S1 a q n kk L := by
  obtain ⟨a1, a2, a3, a4, a5, a6, a7, a8⟩ := h
  exact ⟨hk.isO a1, h4, by rw [hI]; exact a3, h5, h7, fun x hx => hk.isO (a6 x hx), a7, Or.inr ⟨h6, h1, h2, h3⟩⟩
def T_algr1 : TR := fun Rc Rs av S cs sl K _Kx => match av with
  | [.inr (.inr a_o), .inl m_v] => pa a_o fun a => (∃ (m : Nat), m_v = nI m ∧ (∃ (d c kk : Nat) (L : List Nat), (AL S a d c kk L ∧ L.length = c ∧ m = c + 1 ∧ c ≤ 50000) ∧ cs + 1 ≤ Rc ∧ sl + (gcap c) ≤ Rs ∧ (∀ (v : Option Nat) (S' : MM), (grP S S' a d c kk L v) → K (some (.inr (.inr v))) S' (cs + 1) (sl + (gcap c)))))
  | _ => False
def sp_algr1 (a : Nat) (m : Nat) (d c kk : Nat) (L : List Nat) : Sp := (fun av S => av = [.inr (.inr (some a)), .inl (nI m)] ∧ (AL S a d c kk L ∧ L.length = c ∧ m = c + 1 ∧ c ≤ 50000), fun _ S => 1, fun _ S => gcap c, fun _ S rv S' => ∃ v, rv = (some (.inr (.inr v))) ∧ (grP S S' a d c kk L v), fun _ _ _ _ => False)
def tJx4a65c_grow_92f84 : CD := [(0, .aload_n 0), (1, .getfield 9), (4, .arraylength), (5, .istore_n 2), (6, .iload_n 2), (7, .ifCond .gt 13), (10, .aload_n 0), (11, .getfield 9), (14, .getstatic 39), (17, .if_acmp .eq 28), (20, .iload_n 2), (21, .iload_n 1), (22, .iload_n 2), (23, .isub), (24, .iload_n 2), (25, .iconst 1), (26, .ishr), (27, .invokestatic 73), (30, .istore_n 3), (31, .aload_n 0), (32, .aload_n 0), (33, .getfield 9), (36, .iload_n 3), (37, .invokestatic 66), (40, .dup_x1), (41, .putfield 9), (44, .areturn), (45, .aload_n 0), (46, .bipush 10), (48, .iload_n 1), (49, .invokestatic 79), (52, .anewarray 7), (55, .dup_x1), (56, .putfield 9), (59, .areturn)]
set_option maxRecDepth 100000 in
theorem kJx4a65c_grow_92f84 : chk cJx4a65c_grow_92f84 tJx4a65c_grow_92f84 = true := by decide +kernel
theorem vJx4a65c_grow_92f84_73 : ∀ w ∈ ([.methodLink RJx4a65c 73 yJ8_newLength_cabcc, .static yJ8_newLength_cabcc, .initialized yJ8_newLength_cabcc.cls, .code yJ8_newLength_cabcc cJ8_newLength_cabcc 4 (some .int)] : List Cond), w ∈ lw_good := List.forall_mem_cons.mpr ⟨mgd 964 (by decide +kernel) (by decide +kernel), List.forall_mem_cons.mpr ⟨mgd 965 (by decide +kernel) (by decide +kernel), List.forall_mem_cons.mpr ⟨mgd 148 (by decide +kernel) (by decide +kernel), List.forall_mem_cons.mpr ⟨mgd 966 (by decide +kernel) (by decide +kernel), fun _ h => absurd h List.not_mem_nil⟩⟩⟩⟩
theorem vJx4a65c_grow_92f84_66 : ∀ w ∈ ([.methodLink RJx4a65c 66 yJ7_copyOf_1904c, .static yJ7_copyOf_1904c, .initialized yJ7_copyOf_1904c.cls, .code yJ7_copyOf_1904c cJ7_copyOf_1904c 2 (some (.array (.object "java/lang/Object")))] : List Cond), w ∈ lw_good := List.forall_mem_cons.mpr ⟨mgd 972 (by decide +kernel) (by decide +kernel), List.forall_mem_cons.mpr ⟨mgd 973 (by decide +kernel) (by decide +kernel), List.forall_mem_cons.mpr ⟨mgd 135 (by decide +kernel) (by decide +kernel), List.forall_mem_cons.mpr ⟨mgd 974 (by decide +kernel) (by decide +kernel), fun _ h => absurd h List.not_mem_nil⟩⟩⟩⟩
theorem vJx4a65c_grow_92f84_79 : ∀ w ∈ ([.methodLink RJx4a65c 79 Lib.Math.max.name, .static Lib.Math.max.name, .initialized "java/lang/Math", .code Lib.Math.max.name Lib.Math.max.code 2 (some .int)] : List Cond), w ∈ lw_good := List.forall_mem_cons.mpr ⟨mgd 1005 (by decide +kernel) (by decide +kernel), List.forall_mem_cons.mpr ⟨mgd 888 (by decide +kernel) (by decide +kernel), List.forall_mem_cons.mpr ⟨mgd 143 (by decide +kernel) (by decide +kernel), List.forall_mem_cons.mpr ⟨mgd 889 (by decide +kernel) (by decide +kernel), fun _ h => absurd h List.not_mem_nil⟩⟩⟩⟩
set_option maxRecDepth 100000 in
set_option maxHeartbeats 2000000 in
theorem c_algr1 (l : Launch) : ∀ (a : Nat) (m : Nat) (d c kk : Nat) (L : List Nat), Ct l yJx4a65c_grow_92f84 cJx4a65c_grow_92f84 4 (some (.array (.object "java/lang/Object"))) 3 76 (sp_algr1 a m d c kk L) := by
  intro a m d c kk L
  refine Ct.of (fJx4a65c, nJx4a65c, aJx4a65c, iJx4a65c, lJx4a65c, [(73, 2, 3, 1, T_nwl), (66, 2, 2, 3, T_cpo2), (79, 2, 2, 1, T_max)], qJx4a65c, gJx4a65c, []) false tJx4a65c_grow_92f84 (fun _ _ _ => none) (by decide) (by decide) kJx4a65c_grow_92f84 ⟨_, _, rfl⟩ fJx4a65c_ok nJx4a65c_ok aJx4a65c_ok iJx4a65c_ok lJx4a65c_ok (fun p e R s m args below meth c Q D cy z r A C hR1 hR2 => List.forall_mem_cons.mpr ⟨cOK_use (fun _ _ _ _ _ _ _ _ h => let ⟨sp, h1, _, h3⟩ := u_nwl l _ _ _ _ _ _ _ _ h; ⟨sp, cOK_S C h1 vJx4a65c_grow_92f84_73 ⟨by decide, by decide, by decide +kernel⟩ ⟨by rw [hR1]; decide, by rw [hR2]; decide⟩, h3⟩), List.forall_mem_cons.mpr ⟨cOK_use (fun _ _ _ _ _ _ _ _ h => let ⟨sp, h1, _, h3⟩ := u_cpo2 l _ _ _ _ _ _ _ _ h; ⟨sp, cOK_S C h1 vJx4a65c_grow_92f84_66 ⟨by decide, by decide, by decide +kernel⟩ ⟨by rw [hR1]; decide, by rw [hR2]; decide⟩, h3⟩), List.forall_mem_cons.mpr ⟨cOK_use (fun _ _ _ _ _ _ _ _ h => ⟨sp_max, cOK_max C vJx4a65c_grow_92f84_79 ⟨by rw [hR1]; decide, by rw [hR2]; decide⟩, T_max_ok h⟩), fun _ h => absurd h List.not_mem_nil⟩⟩⟩) qJx4a65c_ok gJx4a65c_ok rfl ?_ ?_
  · rintro _ S ⟨rfl, hp⟩
    refine ⟨Nat.le_of_ble_eq_true rfl, 300, ?_⟩
    show (isO S 0 a ∧ (pa (mR S 1 a) fun a_1 => ∃ v_2 : Int32, (a_1 ∈ mL S ∧ ¬ mK S a_1 < 16 ∧ mK S a_1 < 29 ∧ v_2 = Int32.ofNat (mN S a_1) ∨ a_1 = mZ S ∧ v_2 = 0) ∧ ((0 < v_2 → (2 = 2 ∧ (∃ (x_3 : Nat), v_2 = nI x_3 ∧ (∃ (y_4 : Nat), (nI m) - v_2 = nI y_4 ∧ (∃ (z_5 : Nat), v_2 >>> ((1 : Int32) &&& 31) = nI z_5 ∧ ((x_3 ≤ 100000 ∧ y_4 ≤ 100000 ∧ z_5 ≤ 100000 ∧ 1 ≤ y_4) ∧ 0 ≤ 1 ∧ 0 ≤ gcap c ∧ ((isO S 0 a ∧ (2 = 2 ∧ ((pa (mR S 1 a) fun a_7 => (∃ (n_8 : Nat), nI (x_3 + max y_4 z_5) = nI n_8 ∧ ((okR S a_7 ∧ mN S a_7 ≤ n_8 ∧ n_8 ≤ 1000000) ∧ 0 + 1 ≤ 1 ∧ 0 + n_8 ≤ gcap c ∧ (∀ (x_10 : Option Nat) (S_9 : MM), (∃ q, x_10 = some q ∧ q ∉ mL S ∧ S_9 = lgS S a_7 q n_8) → (True ∧ (isO S_9 0 a ∧ (([] : List MV) = [] ∧ mret (some (.array (.object "java/lang/Object"))) (sp_algr1 a m d c kk L) [.inr (.inr (some a)), .inl (nI m)] S (some (.inr (.inr x_10))) (sR S_9 1 a x_10) (0 + 1) (0 + n_8)))))))))))))))))) ∧ (¬ 0 < v_2 → (isO S 0 a ∧ (((mR S 1 a) = (some (mZ S)) → (2 = 2 ∧ (True ∧ 0 ≤ 1 ∧ 0 ≤ gcap c ∧ ((¬ (imax (10 : Int32) (nI m)) < 0 ∧ (imax (10 : Int32) (nI m)).toNatClampNeg * 8 ≤ 536870912 ∧ 0 + 1 ≤ 1 ∧ 0 + (imax (10 : Int32) (nI m)).toNatClampNeg ≤ gcap c ∧ ∀ q_12, q_12 ∉ mL S → (True ∧ (isO (nA S q_12 26 (imax (10 : Int32) (nI m)).toNatClampNeg) 0 a ∧ (([] : List MV) = [] ∧ mret (some (.array (.object "java/lang/Object"))) (sp_algr1 a m d c kk L) [.inr (.inr (some a)), .inl (nI m)] S (some (.inr (.inr (some q_12)))) (sR (nA S q_12 26 (imax (10 : Int32) (nI m)).toNatClampNeg) 1 a (some q_12)) (0 + 1) (0 + (imax (10 : Int32) (nI m)).toNatClampNeg))))))))) ∧ (¬ (mR S 1 a) = (some (mZ S)) → (2 = 2 ∧ (∃ (x_13 : Nat), v_2 = nI x_13 ∧ (∃ (y_14 : Nat), (nI m) - v_2 = nI y_14 ∧ (∃ (z_15 : Nat), v_2 >>> ((1 : Int32) &&& 31) = nI z_15 ∧ ((x_13 ≤ 100000 ∧ y_14 ≤ 100000 ∧ z_15 ≤ 100000 ∧ 1 ≤ y_14) ∧ 0 ≤ 1 ∧ 0 ≤ gcap c ∧ ((isO S 0 a ∧ (2 = 2 ∧ ((pa (mR S 1 a) fun a_17 => (∃ (n_18 : Nat), nI (x_13 + max y_14 z_15) = nI n_18 ∧ ((okR S a_17 ∧ mN S a_17 ≤ n_18 ∧ n_18 ≤ 1000000) ∧ 0 + 1 ≤ 1 ∧ 0 + n_18 ≤ gcap c ∧ (∀ (x_20 : Option Nat) (S_19 : MM), (∃ q, x_20 = some q ∧ q ∉ mL S ∧ S_19 = lgS S a_17 q n_18) → (True ∧ (isO S_19 0 a ∧ (([] : List MV) = [] ∧ mret (some (.array (.object "java/lang/Object"))) (sp_algr1 a m d c kk L) [.inr (.inr (some a)), .inl (nI m)] S (some (.inr (.inr x_20))) (sR S_19 1 a x_20) (0 + 1) (0 + n_18))))))))))))))))))))))))
    obtain ⟨hA, h1, h2, h3⟩ := hp
    have hA0 := hA
    obtain ⟨a1, a2, a3, a4, a5, a6, a7, a8⟩ := hA
    subst h2
    rcases a8 with ⟨b1, b2⟩ | ⟨b1, b2, b3, b4⟩
    · rw [a2]
      refine ⟨a1, 0, Or.inr ⟨b2, rfl⟩, ⟨fun z => absurd z (by decide), fun _ => ⟨a1, fun _ => ?_, fun z => absurd (by rw [b2]) z⟩⟩⟩
      subst b1
      rw [show imax (10 : Int32) (nI (0 + 1)) = nI 10 from rfl, nI_clamp (by decide)]
      refine ⟨rfl, trivial, Nat.zero_le _, Nat.zero_le _, by decide, by decide, Nat.le_refl _, Nat.le_refl _, fun q hq => ⟨trivial, isO_nA a1 hq, rfl, trivial, ⟨_, rfl, q, rfl, hq, ?_, ?_, rfl⟩, Nat.le_refl _, Nat.le_refl _⟩⟩
      · have hL : L = [] := List.eq_nil_of_length_eq_zero h1
        refine hA0.regrow (n := 10) (((Keep.rf : Keep (fun b => b = a) S S).nA hq).sR rfl) hq (fun i => rfl) (isO_nA_self (n := 10)) ?_ ?_ ?_ (by omega) (by decide) (by decide)
        · show va_up _ _ _ q = _; rw [va_up_self]
        · show va_up _ _ _ q = _; rw [va_up_self, hL]; rfl
        · rw [mR_sR, if_pos ⟨rfl, rfl⟩]
      · exact ((Keep.rf : Keep (fun b => b = a) S S).nA hq).sR rfl
    · have hok := hA0.okR (by omega)
      have key : ∀ (x_10 : Option Nat) (S_9 : MM), (∃ q, x_10 = some q ∧ q ∉ mL S ∧ S_9 = lgS S d q (c + c / 2)) → mret (some (.array (.object "java/lang/Object"))) (sp_algr1 a (c + 1) d c kk L) [.inr (.inr (some a)), .inl (nI (c + 1))] S (some (.inr (.inr x_10))) (sR S_9 1 a x_10) (0 + 1) (0 + (c + c / 2)) := by
        rintro x S9 ⟨q, rfl, hq, rfl⟩
        have hg : gcap c = c + c / 2 := by rw [gcap, if_neg (by omega)]
        refine ⟨trivial, ⟨_, rfl, q, rfl, hq, ?_, (lgS_keep hq).sR rfl, rfl⟩, Nat.le_refl _, ?_⟩
        · rw [hg]
          refine hA0.regrow (n := c + c / 2) ((lgS_keep hq).sR rfl) hq (fun i => rfl) ⟨List.mem_append_right _ (List.mem_singleton.mpr rfl), va_up_self _ _ _⟩ ?_ ?_ ?_ (by omega) (by omega) (by omega)
          · show va_up _ _ _ q = _; rw [va_up_self]
          · exact lgS_row hq b2.1 b4 (by omega)
          · rw [mR_sR, if_pos ⟨rfl, rfl⟩]
        · show 0 + (c + c / 2) ≤ gcap c
          rw [hg]; omega
      rw [a2]
      refine ⟨a1, nI c, Or.inl ⟨b2.1, by rw [b2.2]; decide, by rw [b2.2]; decide, by rw [b3]; rfl⟩, ?_⟩
      rw [shr1_nI (by omega), pk_sub (by omega), show c + 1 - c = 1 by omega]
      have hg : gcap c = c + c / 2 := by rw [gcap, if_neg (by omega)]
      have hm : c + max 1 (c / 2) = c + c / 2 := by omega
      refine if_lt (a := 0) (by decide) (by omega) (fun _ => ?_) (fun z => by omega)
      refine ⟨rfl, c, rfl, 1, rfl, c / 2, rfl, ⟨by omega, by omega, by omega, by omega⟩, Nat.zero_le _, Nat.zero_le _, a1, rfl, c + c / 2, by rw [hm], ⟨hok, by omega, by omega⟩, Nat.le_refl _, by omega, fun x S9 hx => ⟨trivial, ?_, rfl, key x S9 hx⟩⟩
      obtain ⟨q, rfl, hq, rfl⟩ := hx
      exact (lgS_keep (P := fun _ => False) hq).isO a1
  · exact fun _ _ _ _ _ h => by cases h
theorem u_algr1 (l : Launch) : Us l yJx4a65c_grow_92f84 cJx4a65c_grow_92f84 4 (some (.array (.object "java/lang/Object"))) 3 76 0 T_algr1 := by
  intro Rc Rs av S cs sl K Kx h
  unfold T_algr1 at h
  split at h
  · rename_i a_o m_v
    obtain ⟨a, rfl, h_1⟩ := pa_of h
    obtain ⟨m, rfl, h_2⟩ := h_1
    obtain ⟨d, c, kk, L, hp, hc, hs, hk⟩ := h_2
    refine ⟨(sp_algr1 a m d c kk L), c_algr1 l a m d c kk L, fun _ _ h9 => ⟨_, _, h9.1, h9.2.1.1⟩, ⟨rfl, hp⟩, hc, hs, fun v9 S' h8 => by
      obtain ⟨v8, h7, h8⟩ := h8
      cases h7
      exact hk _ _ h8, fun _ _ q => q.elim⟩
  · exact h.elim
def T_algr : TR := fun Rc Rs av S cs sl K _Kx => match av with
  | [.inr (.inr a_o)] => pa a_o fun a => (∃ (d c kk : Nat) (L : List Nat), (AL S a d c kk L ∧ L.length = c ∧ c ≤ 50000) ∧ cs + 1 ≤ Rc ∧ sl + (gcap c) ≤ Rs ∧ (∀ (v : Option Nat) (S' : MM), (grP S S' a d c kk L v) → K (some (.inr (.inr v))) S' (cs + 1) (sl + (gcap c))))
  | _ => False
def sp_algr (a : Nat) (d c kk : Nat) (L : List Nat) : Sp := (fun av S => av = [.inr (.inr (some a))] ∧ (AL S a d c kk L ∧ L.length = c ∧ c ≤ 50000), fun _ S => 1, fun _ S => gcap c, fun _ S rv S' => ∃ v, rv = (some (.inr (.inr v))) ∧ (grP S S' a d c kk L v), fun _ _ _ _ => False)
def tJx4a65c_grow_d5877 : CD := [(0, .aload_n 0), (1, .aload_n 0), (2, .getfield 48), (5, .iconst 1), (6, .iadd), (7, .invokevirtual 69), (10, .areturn)]
set_option maxRecDepth 100000 in
theorem kJx4a65c_grow_d5877 : chk cJx4a65c_grow_d5877 tJx4a65c_grow_d5877 = true := by decide +kernel
theorem vJx4a65c_grow_d5877_69 : ∀ w ∈ ([.methodLink RJx4a65c 69 yJx4a65c_grow_92f84, .instanceMethod yJx4a65c_grow_92f84, .selects yJx4a65c_grow_92f84.cls yJx4a65c_grow_92f84 yJx4a65c_grow_92f84, .initialized yJx4a65c_grow_92f84.cls, .code yJx4a65c_grow_92f84 cJx4a65c_grow_92f84 4 (some (.array (.object "java/lang/Object")))] : List Cond), w ∈ lw_good := List.forall_mem_cons.mpr ⟨mgd 960 (by decide +kernel) (by decide +kernel), List.forall_mem_cons.mpr ⟨mgd 962 (by decide +kernel) (by decide +kernel), List.forall_mem_cons.mpr ⟨mgd 11 (by decide +kernel) (by decide +kernel), List.forall_mem_cons.mpr ⟨mgd 130 (by decide +kernel) (by decide +kernel), List.forall_mem_cons.mpr ⟨mgd 963 (by decide +kernel) (by decide +kernel), fun _ h => absurd h List.not_mem_nil⟩⟩⟩⟩⟩
set_option maxRecDepth 100000 in
set_option maxHeartbeats 2000000 in
theorem c_algr (l : Launch) : ∀ (a : Nat) (d c kk : Nat) (L : List Nat), Ct l yJx4a65c_grow_d5877 cJx4a65c_grow_d5877 1 (some (.array (.object "java/lang/Object"))) 4 99 (sp_algr a d c kk L) := by
  intro a d c kk L
  refine Ct.of (fJx4a65c, nJx4a65c, aJx4a65c, iJx4a65c, lJx4a65c, [(69, 0, 2, 3, T_algr1)], qJx4a65c, gJx4a65c, []) false tJx4a65c_grow_d5877 (fun _ _ _ => none) (by decide) (by decide) kJx4a65c_grow_d5877 ⟨_, _, rfl⟩ fJx4a65c_ok nJx4a65c_ok aJx4a65c_ok iJx4a65c_ok lJx4a65c_ok (fun p e R s m args below meth c Q D cy z r A C hR1 hR2 => List.forall_mem_cons.mpr ⟨cOK_use (fun _ _ _ _ _ _ _ _ h => let ⟨sp, h1, h2, h3⟩ := u_algr1 l _ _ _ _ _ _ _ _ h; ⟨sp, cOK_V C h1 vJx4a65c_grow_d5877_69 ⟨by decide, by decide, by decide +kernel⟩ ⟨by rw [hR1]; decide, by rw [hR2]; decide⟩ (k := 0) (T := TJx4a65c) (N := 3) rfl (by decide) h2, h3⟩), fun _ h => absurd h List.not_mem_nil⟩) qJx4a65c_ok gJx4a65c_ok rfl ?_ ?_
  · rintro _ S ⟨rfl, hp⟩
    refine ⟨Nat.le_of_ble_eq_true rfl, 300, ?_⟩
    show (isO S 0 a ∧ (0 = 0 ∧ (∃ (m_1 : Nat), (mI S 2 a) + (1 : Int32) = nI m_1 ∧ (∃ (d_2 c_3 kk_4 : Nat) (L_5 : List Nat), (AL S a d_2 c_3 kk_4 L_5 ∧ L_5.length = c_3 ∧ m_1 = c_3 + 1 ∧ c_3 ≤ 50000) ∧ 0 + 1 ≤ 1 ∧ 0 + (gcap c_3) ≤ gcap c ∧ (∀ (x_7 : Option Nat) (S_6 : MM), (grP S S_6 a d_2 c_3 kk_4 L_5 x_7) → (([] : List MV) = [] ∧ mret (some (.array (.object "java/lang/Object"))) (sp_algr a d c kk L) [.inr (.inr (some a))] S (some (.inr (.inr x_7))) S_6 (0 + 1) (0 + (gcap c_3))))))))
    obtain ⟨hA, h1, h2⟩ := hp
    exact ⟨hA.1, rfl, c + 1, by rw [hA.2.2.1, nI_1, h1], d, c, kk, L, ⟨hA, h1, rfl, h2⟩, Nat.le_refl _, by omega, fun x S2 hx => ⟨rfl, trivial, ⟨x, rfl, hx⟩, Nat.le_refl _, by show 0 + gcap c ≤ gcap c; omega⟩⟩
  · exact fun _ _ _ _ _ h => by cases h
theorem u_algr (l : Launch) : Us l yJx4a65c_grow_d5877 cJx4a65c_grow_d5877 1 (some (.array (.object "java/lang/Object"))) 4 99 0 T_algr := by
  intro Rc Rs av S cs sl K Kx h
  unfold T_algr at h
  split at h
  · rename_i a_o
    obtain ⟨a, rfl, h_1⟩ := pa_of h
    obtain ⟨d, c, kk, L, hp, hc, hs, hk⟩ := h_1
    refine ⟨(sp_algr a d c kk L), c_algr l a d c kk L, fun _ _ h9 => ⟨_, _, h9.1, h9.2.1.1⟩, ⟨rfl, hp⟩, hc, hs, fun v9 S' h8 => by
      obtain ⟨v8, h7, h8⟩ := h8
      cases h7
      exact hk _ _ h8, fun _ _ q => q.elim⟩
  · exact h.elim
def alC (c l : Nat) : Nat := if l = c then 1 else 0
def alZ (c l : Nat) : Nat := if l = c then gcap c else 0
def alK (c l : Nat) : Nat := if l = c then gcap c else c
/-- what an addition leaves -/
def adP (S S' : MM) (a d c kk : Nat) (L L' : List Nat) : Prop := ∃ d', AL S' a d' (alK c L.length) kk L' ∧ Keep (AP S a d c) S S' ∧ ((d' = d ∧ c ≠ 0) ∨ d' ∉ mL S)
theorem row_add (L : List Nat) (x : Nat) : va_up (fun i => L[i]?) L.length (some x) = fun i => (L ++ [x])[i]? := by
  funext j
  show (if j = L.length then some x else L[j]?) = _
  rw [List.getElem?_append]
  by_cases z : j = L.length
  · rw [if_pos z, if_neg (by omega), z, Nat.sub_self]; rfl
  · rw [if_neg z]
    by_cases w : j < L.length
    · rw [if_pos w]
    · rw [if_neg w, List.getElem?_eq_none (by omega), List.getElem?_eq_none (by simp; omega)]
/-- a row of the list is written anew, and its size -/
theorem AL.write {S : MM} {a d c kk n : Nat} {L L' : List Nat} {f : Nat → Option Nat} (h : AL S a d c kk L) (hc : 10 ≤ c) (h1 : f = fun i => L'[i]?) (h2 : ∀ x ∈ L', isO S kk x) (h3 : L'.length = n) (h4 : n ≤ c) : AL (sI (rR S d f) 2 a (nI n)) a d c kk L' := by
  obtain ⟨a1, a2, a3, a4, a5, a6, a7, a8⟩ := h
  rcases a8 with ⟨b1, b2⟩ | ⟨b1, b2, b3, b4⟩
  · omega
  · refine ⟨a1, a2, by rw [mI_sI, if_pos ⟨rfl, rfl⟩, h3], by omega, a5, h2, a7, Or.inr ⟨b1, b2, b3, ?_⟩⟩
    show va_up (eR S) d f d = _
    rw [va_up_self, h1]
theorem AL.row {S : MM} {a d c kk : Nat} {L : List Nat} (h : AL S a d c kk L) (hc : c ≠ 0) : isO S 26 d ∧ mN S d = c ∧ 10 ≤ c ∧ eR S d = fun i => L[i]? := by
  obtain ⟨a1, a2, a3, a4, a5, a6, a7, a8⟩ := h
  rcases a8 with ⟨b1, b2⟩ | ⟨b1, b2, b3, b4⟩
  · exact absurd b1 hc
  · exact ⟨b2, b3, b1, b4⟩
def T_aladd3 : TR := fun Rc Rs av S cs sl K _Kx => match av with
  | [.inr (.inr a_o), .inr (.inr x_o), .inr (.inr r), .inl s_v] => pa a_o fun a => (pa x_o fun x => (∃ (s : Nat), s_v = nI s ∧ (∃ (d c kk : Nat) (L : List Nat), (AL S a d c kk L ∧ isO S kk x ∧ r = some d ∧ s = L.length ∧ c ≤ 50000) ∧ cs + (alC c L.length) ≤ Rc ∧ sl + (alZ c L.length) ≤ Rs ∧ (∀ (S' : MM), (adP S S' a d c kk L (L ++ [x])) → K none S' (cs + (alC c L.length)) (sl + (alZ c L.length))))))
  | _ => False
def sp_aladd3 (a : Nat) (x : Nat) (r : Option Nat) (s : Nat) (d c kk : Nat) (L : List Nat) : Sp := (fun av S => av = [.inr (.inr (some a)), .inr (.inr (some x)), .inr (.inr r), .inl (nI s)] ∧ (AL S a d c kk L ∧ isO S kk x ∧ r = some d ∧ s = L.length ∧ c ≤ 50000), fun _ S => alC c L.length, fun _ S => alZ c L.length, fun _ S rv S' => rv = none ∧ (adP S S' a d c kk L (L ++ [x])), fun _ _ _ _ => False)
def tJx4a65c_add_72be8 : CD := [(0, .iload_n 3), (1, .aload_n 2), (2, .arraylength), (3, .if_icmp .ne 8), (6, .aload_n 0), (7, .invokevirtual 129), (10, .astore_n 2), (11, .aload_n 2), (12, .iload_n 3), (13, .aload_n 1), (14, .aastore), (15, .aload_n 0), (16, .iload_n 3), (17, .iconst 1), (18, .iadd), (19, .putfield 48), (22, .return_)]
set_option maxRecDepth 100000 in
theorem kJx4a65c_add_72be8 : chk cJx4a65c_add_72be8 tJx4a65c_add_72be8 = true := by decide +kernel
theorem vJx4a65c_add_72be8_129 : ∀ w ∈ ([.methodLink RJx4a65c 129 yJx4a65c_grow_d5877, .instanceMethod yJx4a65c_grow_d5877, .selects yJx4a65c_grow_d5877.cls yJx4a65c_grow_d5877 yJx4a65c_grow_d5877, .initialized yJx4a65c_grow_d5877.cls, .code yJx4a65c_grow_d5877 cJx4a65c_grow_d5877 1 (some (.array (.object "java/lang/Object")))] : List Cond), w ∈ lw_good := List.forall_mem_cons.mpr ⟨mgd 956 (by decide +kernel) (by decide +kernel), List.forall_mem_cons.mpr ⟨mgd 958 (by decide +kernel) (by decide +kernel), List.forall_mem_cons.mpr ⟨mgd 10 (by decide +kernel) (by decide +kernel), List.forall_mem_cons.mpr ⟨mgd 130 (by decide +kernel) (by decide +kernel), List.forall_mem_cons.mpr ⟨mgd 959 (by decide +kernel) (by decide +kernel), fun _ h => absurd h List.not_mem_nil⟩⟩⟩⟩⟩
set_option maxRecDepth 100000 in
set_option maxHeartbeats 2000000 in
theorem c_aladd3 (l : Launch) : ∀ (a : Nat) (x : Nat) (r : Option Nat) (s : Nat) (d c kk : Nat) (L : List Nat), Ct l yJx4a65c_add_72be8 cJx4a65c_add_72be8 4 none 5 119 (sp_aladd3 a x r s d c kk L) := by
  intro a x r s d c kk L
  refine Ct.of (fJx4a65c, nJx4a65c, aJx4a65c, iJx4a65c, lJx4a65c, [(129, 0, 1, 3, T_algr)], qJx4a65c, gJx4a65c, []) false tJx4a65c_add_72be8 (fun _ _ _ => none) (by decide) (by decide) kJx4a65c_add_72be8 ⟨_, _, rfl⟩ fJx4a65c_ok nJx4a65c_ok aJx4a65c_ok iJx4a65c_ok lJx4a65c_ok (fun p e R s m args below meth c Q D cy z r A C hR1 hR2 => List.forall_mem_cons.mpr ⟨cOK_use (fun _ _ _ _ _ _ _ _ h => let ⟨sp, h1, h2, h3⟩ := u_algr l _ _ _ _ _ _ _ _ h; ⟨sp, cOK_V C h1 vJx4a65c_add_72be8_129 ⟨by decide, by decide, by decide +kernel⟩ ⟨by rw [hR1]; decide, by rw [hR2]; decide⟩ (k := 0) (T := TJx4a65c) (N := 3) rfl (by decide) h2, h3⟩), fun _ h => absurd h List.not_mem_nil⟩) qJx4a65c_ok gJx4a65c_ok rfl ?_ ?_
  · rintro _ S ⟨rfl, hp⟩
    refine ⟨Nat.le_of_ble_eq_true rfl, 300, ?_⟩
    show (pa r fun a_1 => ∃ v_2 : Int32, (a_1 ∈ mL S ∧ ¬ mK S a_1 < 16 ∧ mK S a_1 < 29 ∧ v_2 = Int32.ofNat (mN S a_1) ∨ a_1 = mZ S ∧ v_2 = 0) ∧ ((¬ (nI s) = v_2 → (pa r fun a_3 => a_3 ∈ mL S ∧ ¬ mK S a_3 < 21 ∧ mK S a_3 < 29 ∧ inR S a_3 (nI s) ∧ (∀ w_4, (some x) = some w_4 → w_4 ∈ mL S ∧ (mK S a_3 = 21 ∧ mK S w_4 = 1 ∨ mK S a_3 = 22 ∧ mK S w_4 = 2 ∨ mK S a_3 = 23 ∧ mK S w_4 = 5 ∨ mK S a_3 = 24 ∧ mK S w_4 = 11 ∨ mK S a_3 = 25 ∧ mK S w_4 = 13 ∨ mK S a_3 = 26 ∧ (mK S w_4 = 4 ∨ mK S w_4 = 5) ∨ mK S a_3 = 27 ∧ mK S w_4 = 16 ∨ mK S a_3 = 28 ∧ mK S w_4 = 17)) ∧ (True ∧ (isO (rR S a_3 (va_up (eR S a_3) (nI s).toNatClampNeg (some x))) 0 a ∧ (([] : List MV) = [] ∧ mret none (sp_aladd3 a x r s d c kk L) [.inr (.inr (some a)), .inr (.inr (some x)), .inr (.inr r), .inl (nI s)] S none (sI (rR S a_3 (va_up (eR S a_3) (nI s).toNatClampNeg (some x))) 2 a ((nI s) + (1 : Int32))) 0 0))))) ∧ ((nI s) = v_2 → (0 = 0 ∧ (∃ (d_5 c_6 kk_7 : Nat) (L_8 : List Nat), (AL S a d_5 c_6 kk_7 L_8 ∧ L_8.length = c_6 ∧ c_6 ≤ 50000) ∧ 0 + 1 ≤ alC c L.length ∧ 0 + (gcap c_6) ≤ alZ c L.length ∧ (∀ (x_10 : Option Nat) (S_9 : MM), (grP S S_9 a d_5 c_6 kk_7 L_8 x_10) → (pa x_10 fun a_11 => a_11 ∈ mL S_9 ∧ ¬ mK S_9 a_11 < 21 ∧ mK S_9 a_11 < 29 ∧ inR S_9 a_11 (nI s) ∧ (∀ w_12, (some x) = some w_12 → w_12 ∈ mL S_9 ∧ (mK S_9 a_11 = 21 ∧ mK S_9 w_12 = 1 ∨ mK S_9 a_11 = 22 ∧ mK S_9 w_12 = 2 ∨ mK S_9 a_11 = 23 ∧ mK S_9 w_12 = 5 ∨ mK S_9 a_11 = 24 ∧ mK S_9 w_12 = 11 ∨ mK S_9 a_11 = 25 ∧ mK S_9 w_12 = 13 ∨ mK S_9 a_11 = 26 ∧ (mK S_9 w_12 = 4 ∨ mK S_9 w_12 = 5) ∨ mK S_9 a_11 = 27 ∧ mK S_9 w_12 = 16 ∨ mK S_9 a_11 = 28 ∧ mK S_9 w_12 = 17)) ∧ (True ∧ (isO (rR S_9 a_11 (va_up (eR S_9 a_11) (nI s).toNatClampNeg (some x))) 0 a ∧ (([] : List MV) = [] ∧ mret none (sp_aladd3 a x r s d c kk L) [.inr (.inr (some a)), .inr (.inr (some x)), .inr (.inr r), .inl (nI s)] S none (sI (rR S_9 a_11 (va_up (eR S_9 a_11) (nI s).toNatClampNeg (some x))) 2 a ((nI s) + (1 : Int32))) (0 + 1) (0 + (gcap c_6))))))))))))
    obtain ⟨hA, hx, rfl, rfl, h3⟩ := hp
    have hA0 := hA
    obtain ⟨a1, a2, a3, a4, a5, a6, a7, a8⟩ := hA
    have as : ∀ (S' : MM) (e : Nat), isO S' 26 e → isO S' kk x → (∀ w, some x = some w → w ∈ mL S' ∧ (mK S' e = 21 ∧ mK S' w = 1 ∨ mK S' e = 22 ∧ mK S' w = 2 ∨ mK S' e = 23 ∧ mK S' w = 5 ∨ mK S' e = 24 ∧ mK S' w = 11 ∨ mK S' e = 25 ∧ mK S' w = 13 ∨ mK S' e = 26 ∧ (mK S' w = 4 ∨ mK S' w = 5) ∨ mK S' e = 27 ∧ mK S' w = 16 ∨ mK S' e = 28 ∧ mK S' w = 17)) := by
      intro S' e he hw w hw2
      cases hw2
      refine ⟨hw.1, Or.inr (Or.inr (Or.inr (Or.inr (Or.inr (Or.inl ⟨he.2, ?_⟩)))))⟩
      rcases a7 with z | z
      · exact Or.inl (hw.2.trans z)
      · exact Or.inr (hw.2.trans z)
    have hel : ∀ (S' : MM), (∀ y, isO S kk y → isO S' kk y) → ∀ y ∈ L ++ [x], isO S' kk y := by
      intro S' h y hy
      rw [List.mem_append, List.mem_singleton] at hy
      exact hy.elim (fun z => h y (a6 y z)) (fun z => h y (z ▸ hx))
    have grown : ∀ (S9 : MM) (q : Nat), L.length = c → q ∉ mL S → AL S9 a q (gcap c) kk L → Keep (fun b => b = a) S S9 → mret none (sp_aladd3 a x (some d) L.length d c kk L) [.inr (.inr (some a)), .inr (.inr (some x)), .inr (.inr (some d)), .inl (nI L.length)] S none (sI (rR S9 q (va_up (eR S9 q) L.length (some x))) 2 a (nI L.length + 1)) (0 + 1) (0 + gcap c) := by
      intro S9 q hLc hq h9 hk
      have hg : c < gcap c ∧ 10 ≤ gcap c ∧ gcap c ≤ 100000 := by unfold gcap; split <;> omega
      obtain ⟨r1, r2, r3, r4⟩ := h9.row (by omega)
      have hqa : q ≠ a := fun e => hq (e ▸ a1.1)
      refine ⟨trivial, ⟨rfl, q, ?_, ?_, Or.inr hq⟩, ?_, ?_⟩
      · rw [alK, if_pos hLc, nI_1]
        exact h9.write hg.2.1 (by rw [r4, row_add]) (hel S9 (fun y hy => hk.isO hy)) (by simp) (by omega)
      · have k1 : Keep (fun b => b = a ∨ b = q) S9 (sI (rR S9 q (va_up (eR S9 q) L.length (some x))) 2 a (nI L.length + 1)) := (Keep.rf.rR (Or.inr rfl)).sI (Or.inl rfl)
        exact (hk.mono (fun b _ z => Or.inl z)).trN k1 (fun b hb z => z.elim Or.inl (fun w => absurd (w ▸ hb) hq))
      · show 0 + 1 ≤ alC c L.length
        rw [alC, if_pos hLc]; exact Nat.le_refl _
      · show 0 + gcap c ≤ alZ c L.length
        rw [alZ, if_pos hLc]; omega
    rcases a8 with ⟨b1, b2⟩ | ⟨b1, b2, b3, b4⟩
    · refine ⟨0, Or.inr ⟨b2, rfl⟩, fun z => absurd (by rw [show L.length = 0 by omega]; rfl) z, fun _ => ⟨rfl, d, c, kk, L, ⟨hA0, by omega, h3⟩, ?_, ?_, fun y S9 hy => ?_⟩⟩
      · rw [alC, if_pos (by omega)]; exact Nat.le_refl _
      · rw [alZ, if_pos (by omega)]; omega
      · obtain ⟨q, rfl, hq, h9, hk, -⟩ := hy
        have hg : c < gcap c ∧ gcap c ≤ 100000 := by unfold gcap; split <;> omega
        obtain ⟨r1, r2, r3, r4⟩ := h9.row (by omega)
        refine ⟨r1.1, by rw [r1.2]; decide, by rw [r1.2]; decide, vp_in_nI (by omega) (by omega), as S9 q r1 (hk.isO hx), trivial, h9.1, rfl, ?_⟩
        rw [nI_clamp (by omega)]
        exact grown S9 q (by omega) hq h9 hk
    · refine ⟨nI c, Or.inl ⟨b2.1, by rw [b2.2]; decide, by rw [b2.2]; decide, by rw [b3]; rfl⟩, if_ne (by omega) (by omega) (fun h4 => ?_) (fun h4 => ?_)⟩
      · refine ⟨b2.1, by rw [b2.2]; decide, by rw [b2.2]; decide, vp_in_nI (by omega) (by omega), as S d b2 hx, trivial, a1, rfl, trivial, ⟨rfl, d, ?_, (Keep.rf.rR (Or.inr ⟨rfl, by omega, b2.2⟩)).sI (Or.inl rfl), Or.inl ⟨rfl, by omega⟩⟩, Nat.zero_le _, Nat.zero_le _⟩
        rw [alK, if_neg h4, nI_1, nI_clamp (by omega)]
        exact hA0.write b1 (by rw [b4, row_add]) (hel S (fun y hy => hy)) (by simp) (by omega)
      · refine ⟨rfl, d, c, kk, L, ⟨hA0, by omega, h3⟩, ?_, ?_, fun y S9 hy => ?_⟩
        · rw [alC, if_pos (by omega)]; exact Nat.le_refl _
        · rw [alZ, if_pos (by omega)]; omega
        · obtain ⟨q, rfl, hq, h9, hk, -⟩ := hy
          have hg : c < gcap c ∧ gcap c ≤ 100000 := by unfold gcap; split <;> omega
          obtain ⟨r1, r2, r3, r4⟩ := h9.row (by omega)
          refine ⟨r1.1, by rw [r1.2]; decide, by rw [r1.2]; decide, vp_in_nI (by omega) (by omega), as S9 q r1 (hk.isO hx), trivial, h9.1, rfl, ?_⟩
          rw [nI_clamp (by omega)]
          exact grown S9 q (by omega) hq h9 hk
  · exact fun _ _ _ _ _ h => by cases h
theorem u_aladd3 (l : Launch) : Us l yJx4a65c_add_72be8 cJx4a65c_add_72be8 4 none 5 119 0 T_aladd3 := by
  intro Rc Rs av S cs sl K Kx h
  unfold T_aladd3 at h
  split at h
  · rename_i a_o x_o r s_v
    obtain ⟨a, rfl, h_1⟩ := pa_of h
    obtain ⟨x, rfl, h_2⟩ := pa_of h_1
    obtain ⟨s, rfl, h_3⟩ := h_2
    obtain ⟨d, c, kk, L, hp, hc, hs, hk⟩ := h_3
    refine ⟨(sp_aladd3 a x r s d c kk L), c_aladd3 l a x r s d c kk L, fun _ _ h9 => ⟨_, _, h9.1, h9.2.1.1⟩, ⟨rfl, hp⟩, hc, hs, fun S' h8 => by
      obtain ⟨-, h8⟩ := h8
      exact hk _ h8, fun _ _ q => q.elim⟩
  · exact h.elim
/-- the list's count of changes is no matter -/
theorem AL.mod {S : MM} {a d c kk : Nat} {L : List Nat} (h : AL S a d c kk L) (v : Int32) : AL (sI S 0 a v) a d c kk L := by
  obtain ⟨a1, a2, a3, a4, a5, a6, a7, a8⟩ := h
  exact ⟨a1, a2, by rw [mI_sI, if_neg (fun z => absurd z.1 (by decide))]; exact a3, a4, a5, a6, a7, a8⟩
def T_aladd : TR := fun Rc Rs av S cs sl K _Kx => match av with
  | [.inr (.inr a_o), .inr (.inr x_o)] => pa a_o fun a => (pa x_o fun x => (∃ (d c kk : Nat) (L : List Nat), (AL S a d c kk L ∧ isO S kk x ∧ c ≤ 50000) ∧ cs + (alC c L.length) ≤ Rc ∧ sl + (alZ c L.length) ≤ Rs ∧ (∀ (S' : MM), (adP S S' a d c kk L (L ++ [x])) → K (some (.inl 1)) S' (cs + (alC c L.length)) (sl + (alZ c L.length)))))
  | _ => False
def sp_aladd (a : Nat) (x : Nat) (d c kk : Nat) (L : List Nat) : Sp := (fun av S => av = [.inr (.inr (some a)), .inr (.inr (some x))] ∧ (AL S a d c kk L ∧ isO S kk x ∧ c ≤ 50000), fun _ S => alC c L.length, fun _ S => alZ c L.length, fun _ S rv S' => rv = (some (.inl 1)) ∧ (adP S S' a d c kk L (L ++ [x])), fun _ _ _ _ => False)
def tJx4a65c_add_9ea2d : CD := [(0, .aload_n 0), (1, .dup), (2, .getfield 63), (5, .iconst 1), (6, .iadd), (7, .putfield 63), (10, .aload_n 0), (11, .aload_n 1), (12, .aload_n 0), (13, .getfield 9), (16, .aload_n 0), (17, .getfield 48), (20, .invokevirtual 131), (23, .iconst 1), (24, .ireturn)]
set_option maxRecDepth 100000 in
theorem kJx4a65c_add_9ea2d : chk cJx4a65c_add_9ea2d tJx4a65c_add_9ea2d = true := by decide +kernel
theorem vJx4a65c_add_9ea2d_131 : ∀ w ∈ ([.methodLink RJx4a65c 131 yJx4a65c_add_72be8, .instanceMethod yJx4a65c_add_72be8, .selects yJx4a65c_add_72be8.cls yJx4a65c_add_72be8 yJx4a65c_add_72be8, .initialized yJx4a65c_add_72be8.cls, .code yJx4a65c_add_72be8 cJx4a65c_add_72be8 4 none] : List Cond), w ∈ lw_good := List.forall_mem_cons.mpr ⟨mgd 952 (by decide +kernel) (by decide +kernel), List.forall_mem_cons.mpr ⟨mgd 954 (by decide +kernel) (by decide +kernel), List.forall_mem_cons.mpr ⟨mgd 9 (by decide +kernel) (by decide +kernel), List.forall_mem_cons.mpr ⟨mgd 130 (by decide +kernel) (by decide +kernel), List.forall_mem_cons.mpr ⟨mgd 955 (by decide +kernel) (by decide +kernel), fun _ h => absurd h List.not_mem_nil⟩⟩⟩⟩⟩
set_option maxRecDepth 100000 in
set_option maxHeartbeats 2000000 in
theorem c_aladd (l : Launch) : ∀ (a : Nat) (x : Nat) (d c kk : Nat) (L : List Nat), Ct l yJx4a65c_add_9ea2d cJx4a65c_add_9ea2d 2 (some .boolean) 6 142 (sp_aladd a x d c kk L) := by
  intro a x d c kk L
  refine Ct.of (fJx4a65c, nJx4a65c, aJx4a65c, iJx4a65c, lJx4a65c, [(131, 0, 4, 0, T_aladd3)], qJx4a65c, gJx4a65c, []) false tJx4a65c_add_9ea2d (fun _ _ _ => none) (by decide) (by decide) kJx4a65c_add_9ea2d ⟨_, _, rfl⟩ fJx4a65c_ok nJx4a65c_ok aJx4a65c_ok iJx4a65c_ok lJx4a65c_ok (fun p e R s m args below meth c Q D cy z r A C hR1 hR2 => List.forall_mem_cons.mpr ⟨cOK_use (fun _ _ _ _ _ _ _ _ h => let ⟨sp, h1, h2, h3⟩ := u_aladd3 l _ _ _ _ _ _ _ _ h; ⟨sp, cOK_V C h1 vJx4a65c_add_9ea2d_131 ⟨by decide, by decide, by decide +kernel⟩ ⟨by rw [hR1]; decide, by rw [hR2]; decide⟩ (k := 0) (T := TJx4a65c) (N := 3) rfl (by decide) h2, h3⟩), fun _ h => absurd h List.not_mem_nil⟩) qJx4a65c_ok gJx4a65c_ok rfl ?_ ?_
  · rintro _ S ⟨rfl, hp⟩
    refine ⟨Nat.le_of_ble_eq_true rfl, 300, ?_⟩
    show (isO S 0 a ∧ (True ∧ (isO S 0 a ∧ (isO (sI S 0 a ((mI S 0 a) + (1 : Int32))) 0 a ∧ (isO (sI S 0 a ((mI S 0 a) + (1 : Int32))) 0 a ∧ (0 = 0 ∧ (∃ (s_1 : Nat), mI (sI S 0 a ((mI S 0 a) + (1 : Int32))) 2 a = nI s_1 ∧ (∃ (d_2 c_3 kk_4 : Nat) (L_5 : List Nat), (AL (sI S 0 a ((mI S 0 a) + (1 : Int32))) a d_2 c_3 kk_4 L_5 ∧ isO (sI S 0 a ((mI S 0 a) + (1 : Int32))) kk_4 x ∧ (mR (sI S 0 a ((mI S 0 a) + (1 : Int32))) 1 a) = some d_2 ∧ s_1 = L_5.length ∧ c_3 ≤ 50000) ∧ 0 + (alC c_3 L_5.length) ≤ alC c L.length ∧ 0 + (alZ c_3 L_5.length) ≤ alZ c L.length ∧ (∀ (S_6 : MM), (adP (sI S 0 a ((mI S 0 a) + (1 : Int32))) S_6 a d_2 c_3 kk_4 L_5 (L_5 ++ [x])) → (([] : List MV) = [] ∧ mret (some .boolean) (sp_aladd a x d c kk L) [.inr (.inr (some a)), .inr (.inr (some x))] S (some (.inl (1 : Int32))) S_6 (0 + (alC c_3 L_5.length)) (0 + (alZ c_3 L_5.length))))))))))))
    obtain ⟨hA, hx, h3⟩ := hp
    have hA1 := hA.mod (mI S 0 a + 1)
    refine ⟨hA.1, trivial, hA.1, hA.1, hA.1, rfl, L.length, hA1.2.2.1, d, c, kk, L, ⟨hA1, hx, hA.2.1, rfl, h3⟩, by omega, by omega, fun S2 hS => ⟨rfl, Or.inr rfl, ⟨rfl, ?_⟩, ?_, ?_⟩⟩
    · obtain ⟨d', g1, g2, g3⟩ := hS
      exact ⟨d', g1, ((Keep.rf : Keep (AP S a d c) S S).sI (Or.inl rfl)).tr g2, g3⟩
    · show 0 + alC c L.length ≤ alC c L.length
      omega
    · show 0 + alZ c L.length ≤ alZ c L.length
      omega
  · exact fun _ _ _ _ _ h => by cases h
theorem u_aladd (l : Launch) : Us l yJx4a65c_add_9ea2d cJx4a65c_add_9ea2d 2 (some .boolean) 6 142 0 T_aladd := by
  intro Rc Rs av S cs sl K Kx h
  unfold T_aladd at h
  split at h
  · rename_i a_o x_o
    obtain ⟨a, rfl, h_1⟩ := pa_of h
    obtain ⟨x, rfl, h_2⟩ := pa_of h_1
    obtain ⟨d, c, kk, L, hp, hc, hs, hk⟩ := h_2
    refine ⟨(sp_aladd a x d c kk L), c_aladd l a x d c kk L, fun _ _ h9 => ⟨_, _, h9.1, h9.2.1.1⟩, ⟨rfl, hp⟩, hc, hs, fun v9 S' h8 => by
      obtain ⟨h7, h8⟩ := h8
      cases h7
      exact hk _ h8, fun _ _ q => q.elim⟩
  · exact h.elim
def T_alrc : TR := fun Rc Rs av S cs sl K _Kx => match av with
  | [.inr (.inr a_o), .inl i_v] => pa a_o fun a => (∃ (i : Nat), i_v = nI i ∧ (∃ (d c kk : Nat) (L : List Nat), (AL S a d c kk L ∧ i ≤ L.length) ∧ cs ≤ Rc ∧ sl ≤ Rs ∧ (K none S cs sl)))
  | _ => False
def sp_alrc (a : Nat) (i : Nat) (d c kk : Nat) (L : List Nat) : Sp := (fun av S => av = [.inr (.inr (some a)), .inl (nI i)] ∧ (AL S a d c kk L ∧ i ≤ L.length), fun _ S => 0, fun _ S => 0, fun _ S rv S' => rv = none ∧ S' = S, fun _ _ _ _ => False)
def tJx4a65c_rangeCheckForAdd_d00df : CD := [(0, .iload_n 1), (1, .aload_n 0), (2, .getfield 48), (5, .if_icmp .gt 7), (8, .iload_n 1), (9, .ifCond .ge 16), (12, .new 187), (15, .dup), (16, .aload_n 0), (17, .iload_n 1), (18, .invokevirtual 198), (21, .invokespecial 193), (24, .athrow), (25, .return_)]
set_option maxRecDepth 100000 in
theorem kJx4a65c_rangeCheckForAdd_d00df : chk cJx4a65c_rangeCheckForAdd_d00df tJx4a65c_rangeCheckForAdd_d00df = true := by decide +kernel

set_option maxRecDepth 100000 in
set_option maxHeartbeats 2000000 in
theorem c_alrc (l : Launch) : ∀ (a : Nat) (i : Nat) (d c kk : Nat) (L : List Nat), Ct l yJx4a65c_rangeCheckForAdd_d00df cJx4a65c_rangeCheckForAdd_d00df 2 none 0 0 (sp_alrc a i d c kk L) := by
  intro a i d c kk L
  refine Ct.of (fJx4a65c, nJx4a65c, aJx4a65c, iJx4a65c, lJx4a65c, [], qJx4a65c, gJx4a65c, []) false tJx4a65c_rangeCheckForAdd_d00df (fun _ _ _ => none) (by decide) (by decide) kJx4a65c_rangeCheckForAdd_d00df ⟨_, _, rfl⟩ fJx4a65c_ok nJx4a65c_ok aJx4a65c_ok iJx4a65c_ok lJx4a65c_ok (fun _ _ _ _ _ _ _ _ _ _ _ _ _ _ _ _ _ _ => no_all) qJx4a65c_ok gJx4a65c_ok rfl ?_ ?_
  · rintro _ S ⟨rfl, hp⟩
    refine ⟨Nat.le_of_ble_eq_true rfl, 300, ?_⟩
    show (isO S 0 a ∧ (((mI S 2 a) < (nI i) → False) ∧ (¬ (mI S 2 a) < (nI i) → ((0 ≤ (nI i) → (([] : List MV) = [] ∧ mret none (sp_alrc a i d c kk L) [.inr (.inr (some a)), .inl (nI i)] S none S 0 0)) ∧ (¬ 0 ≤ (nI i) → False)))))
    obtain ⟨hA, h1⟩ := hp
    have h2 := hA.2.2.2.1
    have h3 := hA.2.2.2.2.1
    rw [hA.2.2.1]
    exact ⟨hA.1, if_lt (by omega) (by omega) (fun z => by omega) (fun _ => ⟨fun _ => ⟨rfl, trivial, ⟨rfl, rfl⟩, Nat.le_refl _, Nat.le_refl _⟩, fun z => z (nI_pos' (by omega))⟩)⟩
  · exact fun _ _ _ _ _ h => by cases h
theorem u_alrc (l : Launch) : Us l yJx4a65c_rangeCheckForAdd_d00df cJx4a65c_rangeCheckForAdd_d00df 2 none 0 0 0 T_alrc := by
  intro Rc Rs av S cs sl K Kx h
  unfold T_alrc at h
  split at h
  · rename_i a_o i_v
    obtain ⟨a, rfl, h_1⟩ := pa_of h
    obtain ⟨i, rfl, h_2⟩ := h_1
    obtain ⟨d, c, kk, L, hp, hc, hs, hk⟩ := h_2
    refine ⟨(sp_alrc a i d c kk L), c_alrc l a i d c kk L, fun _ _ h9 => ⟨_, _, h9.1, h9.2.1.1⟩, ⟨rfl, hp⟩, hc, hs, fun S' h8 => by
      obtain ⟨-, h8⟩ := h8
      subst h8
      exact hk, fun _ _ q => q.elim⟩
  · exact h.elim
theorem rR_rR {S : MM} {a : Nat} {f g : Nat → Option Nat} : rR (rR S a f) a g = rR S a g := by
  have e : va_up (va_up (eR S) a f) a g = va_up (eR S) a g := by
    funext b
    show (if b = a then g else if b = a then f else eR S b) = if b = a then g else eR S b
    split <;> rfl
  show (mL S, mK S, mI S, mR S, mJ S, mN S, eI S, eJ S, va_up (va_up (eR S) a f) a g, mZ S, mQ S) = _
  rw [e]
  rfl
theorem rR_sI {S : MM} {i a d : Nat} {v : Int32} {f : Nat → Option Nat} : rR (sI S i a v) d f = sI (rR S d f) i a v := rfl
theorem eR_self {S : MM} {a : Nat} {f : Nat → Option Nat} : eR (rR S a f) a = f := va_up_self _ _ _
theorem row_ins {L : List Nat} {i x : Nat} (hi : i ≤ L.length) : va_up (va_cpy (fun j => L[j]?) (fun j => L[j]?) i (i + 1) (L.length - i)) i (some x) = fun j => (L.take i ++ x :: L.drop i)[j]? := by
  funext j
  show (if j = i then some x else if i + 1 ≤ j ∧ j < i + 1 + (L.length - i) then L[i + (j - (i + 1))]? else L[j]?) = _
  have hl : (L.take i).length = i := by rw [List.length_take]; omega
  rw [List.getElem?_append, hl]
  by_cases z : j = i
  · rw [if_pos z, if_neg (by omega), z, Nat.sub_self]; rfl
  · rw [if_neg z]
    by_cases w : j < i
    · rw [if_pos w, if_neg (by omega), List.getElem?_take, if_pos w]
    · obtain ⟨t, ht⟩ : ∃ t, j - i = t + 1 := ⟨j - i - 1, by omega⟩
      rw [if_neg w, ht, List.getElem?_cons_succ, List.getElem?_drop]
      by_cases v : i + 1 ≤ j ∧ j < i + 1 + (L.length - i)
      · rw [if_pos v, show i + (j - (i + 1)) = i + t by omega]
      · rw [if_neg v, List.getElem?_eq_none (by omega), List.getElem?_eq_none (by omega)]
theorem row_rem {L : List Nat} {i : Nat} (hi : i < L.length) : va_up (va_cpy (fun j => L[j]?) (fun j => L[j]?) (i + 1) i (L.length - 1 - i)) (L.length - 1) none = fun j => (L.take i ++ L.drop (i + 1))[j]? := by
  funext j
  show (if j = L.length - 1 then none else if i ≤ j ∧ j < i + (L.length - 1 - i) then L[i + 1 + (j - i)]? else L[j]?) = _
  have hl : (L.take i).length = i := by rw [List.length_take]; omega
  rw [List.getElem?_append, hl]
  by_cases w : j < i
  · rw [if_pos w, if_neg (by omega), if_neg (by omega), List.getElem?_take, if_pos w]
  · rw [if_neg w, List.getElem?_drop]
    by_cases z : j = L.length - 1
    · rw [if_pos z, List.getElem?_eq_none (by omega)]
    · rw [if_neg z]
      by_cases v : i ≤ j ∧ j < i + (L.length - 1 - i)
      · rw [if_pos v]
      · rw [if_neg v, List.getElem?_eq_none (by omega), List.getElem?_eq_none (by omega)]
theorem row_rem0 {L : List Nat} {i : Nat} (hi : i < L.length) (h : L.length - 1 ≤ i) : va_up (fun j => L[j]?) (L.length - 1) none = fun j => (L.take i ++ L.drop (i + 1))[j]? := by
  rw [← row_rem hi]
  congr 1
  funext j
  show _ = if i ≤ j ∧ j < i + (L.length - 1 - i) then _ else _
  rw [if_neg (by omega)]
def T_alins : TR := fun Rc Rs av S cs sl K _Kx => match av with
  | [.inr (.inr a_o), .inl i_v, .inr (.inr x_o)] => pa a_o fun a => (pa x_o fun x => (∃ (i : Nat), i_v = nI i ∧ (∃ (d c kk : Nat) (L : List Nat), (AL S a d c kk L ∧ isO S kk x ∧ i ≤ L.length ∧ c ≤ 50000) ∧ cs + (alC c L.length) ≤ Rc ∧ sl + (alZ c L.length) ≤ Rs ∧ (∀ (S' : MM), (adP S S' a d c kk L (L.take i ++ x :: L.drop i)) → K none S' (cs + (alC c L.length)) (sl + (alZ c L.length))))))
  | _ => False
def sp_alins (a : Nat) (i : Nat) (x : Nat) (d c kk : Nat) (L : List Nat) : Sp := (fun av S => av = [.inr (.inr (some a)), .inl (nI i), .inr (.inr (some x))] ∧ (AL S a d c kk L ∧ isO S kk x ∧ i ≤ L.length ∧ c ≤ 50000), fun _ S => alC c L.length, fun _ S => alZ c L.length, fun _ S rv S' => rv = none ∧ (adP S S' a d c kk L (L.take i ++ x :: L.drop i)), fun _ _ _ _ => False)
def tJx4a65c_add_7a177 : CD := [(0, .aload_n 0), (1, .iload_n 1), (2, .invokevirtual 135), (5, .aload_n 0), (6, .dup), (7, .getfield 63), (10, .iconst 1), (11, .iadd), (12, .putfield 63), (15, .aload_n 0), (16, .getfield 48), (19, .dup), (20, .istore_n 3), (21, .aload_n 0), (22, .getfield 9), (25, .dup), (26, .astore 4), (28, .arraylength), (29, .if_icmp .ne 9), (32, .aload_n 0), (33, .invokevirtual 129), (36, .astore 4), (38, .aload 4), (40, .iload_n 1), (41, .aload 4), (43, .iload_n 1), (44, .iconst 1), (45, .iadd), (46, .iload_n 3), (47, .iload_n 1), (48, .isub), (49, .invokestatic 112), (52, .aload 4), (54, .iload_n 1), (55, .aload_n 2), (56, .aastore), (57, .aload_n 0), (58, .iload_n 3), (59, .iconst 1), (60, .iadd), (61, .putfield 48), (64, .return_)]
set_option maxRecDepth 100000 in
theorem kJx4a65c_add_7a177 : chk cJx4a65c_add_7a177 tJx4a65c_add_7a177 = true := by decide +kernel
theorem vJx4a65c_add_7a177_135 : ∀ w ∈ ([.methodLink RJx4a65c 135 yJx4a65c_rangeCheckForAdd_d00df, .instanceMethod yJx4a65c_rangeCheckForAdd_d00df, .selects yJx4a65c_rangeCheckForAdd_d00df.cls yJx4a65c_rangeCheckForAdd_d00df yJx4a65c_rangeCheckForAdd_d00df, .initialized yJx4a65c_rangeCheckForAdd_d00df.cls, .code yJx4a65c_rangeCheckForAdd_d00df cJx4a65c_rangeCheckForAdd_d00df 2 none] : List Cond), w ∈ lw_good := List.forall_mem_cons.mpr ⟨mgd 1028 (by decide +kernel) (by decide +kernel), List.forall_mem_cons.mpr ⟨mgd 1030 (by decide +kernel) (by decide +kernel), List.forall_mem_cons.mpr ⟨mgd 15 (by decide +kernel) (by decide +kernel), List.forall_mem_cons.mpr ⟨mgd 130 (by decide +kernel) (by decide +kernel), List.forall_mem_cons.mpr ⟨mgd 1031 (by decide +kernel) (by decide +kernel), fun _ h => absurd h List.not_mem_nil⟩⟩⟩⟩⟩
theorem vJx4a65c_add_7a177_129 : ∀ w ∈ ([.methodLink RJx4a65c 129 yJx4a65c_grow_d5877, .instanceMethod yJx4a65c_grow_d5877, .selects yJx4a65c_grow_d5877.cls yJx4a65c_grow_d5877 yJx4a65c_grow_d5877, .initialized yJx4a65c_grow_d5877.cls, .code yJx4a65c_grow_d5877 cJx4a65c_grow_d5877 1 (some (.array (.object "java/lang/Object")))] : List Cond), w ∈ lw_good := List.forall_mem_cons.mpr ⟨mgd 956 (by decide +kernel) (by decide +kernel), List.forall_mem_cons.mpr ⟨mgd 958 (by decide +kernel) (by decide +kernel), List.forall_mem_cons.mpr ⟨mgd 10 (by decide +kernel) (by decide +kernel), List.forall_mem_cons.mpr ⟨mgd 130 (by decide +kernel) (by decide +kernel), List.forall_mem_cons.mpr ⟨mgd 959 (by decide +kernel) (by decide +kernel), fun _ h => absurd h List.not_mem_nil⟩⟩⟩⟩⟩
theorem vJx4a65c_add_7a177_112 : ∀ w ∈ ([.methodLink RJx4a65c 112 arraycopyName, .native arraycopyName, .static arraycopyName, .initialized "java/lang/System"] : List Cond), w ∈ lw_good := List.forall_mem_cons.mpr ⟨mgd 1023 (by decide +kernel) (by decide +kernel), List.forall_mem_cons.mpr ⟨mgd 792 (by decide +kernel) (by decide +kernel), List.forall_mem_cons.mpr ⟨mgd 791 (by decide +kernel) (by decide +kernel), List.forall_mem_cons.mpr ⟨mgd 144 (by decide +kernel) (by decide +kernel), fun _ h => absurd h List.not_mem_nil⟩⟩⟩⟩
set_option maxRecDepth 100000 in
set_option maxHeartbeats 2000000 in
theorem c_alins (l : Launch) : ∀ (a : Nat) (i : Nat) (x : Nat) (d c kk : Nat) (L : List Nat), Ct l yJx4a65c_add_7a177 cJx4a65c_add_7a177 5 none 5 119 (sp_alins a i x d c kk L) := by
  intro a i x d c kk L
  refine Ct.of (fJx4a65c, nJx4a65c, aJx4a65c, iJx4a65c, lJx4a65c, [(135, 0, 2, 0, T_alrc), (129, 0, 1, 3, T_algr), (112, 2, 5, 0, T_acopyR)], qJx4a65c, gJx4a65c, []) false tJx4a65c_add_7a177 (fun _ _ _ => none) (by decide) (by decide) kJx4a65c_add_7a177 ⟨_, _, rfl⟩ fJx4a65c_ok nJx4a65c_ok aJx4a65c_ok iJx4a65c_ok lJx4a65c_ok (fun p e R s m args below meth c Q D cy z r A C hR1 hR2 => List.forall_mem_cons.mpr ⟨cOK_use (fun _ _ _ _ _ _ _ _ h => let ⟨sp, h1, h2, h3⟩ := u_alrc l _ _ _ _ _ _ _ _ h; ⟨sp, cOK_V C h1 vJx4a65c_add_7a177_135 ⟨by decide, by decide, by decide +kernel⟩ ⟨by rw [hR1]; decide, by rw [hR2]; decide⟩ (k := 0) (T := TJx4a65c) (N := 3) rfl (by decide) h2, h3⟩), List.forall_mem_cons.mpr ⟨cOK_use (fun _ _ _ _ _ _ _ _ h => let ⟨sp, h1, h2, h3⟩ := u_algr l _ _ _ _ _ _ _ _ h; ⟨sp, cOK_V C h1 vJx4a65c_add_7a177_129 ⟨by decide, by decide, by decide +kernel⟩ ⟨by rw [hR1]; decide, by rw [hR2]; decide⟩ (k := 0) (T := TJx4a65c) (N := 3) rfl (by decide) h2, h3⟩), List.forall_mem_cons.mpr ⟨cOK_use (fun _ _ _ _ _ _ _ _ h => ⟨sp_acopyR, cOK_acopyR C vJx4a65c_add_7a177_112 ⟨by rw [hR1]; decide, by rw [hR2]; decide⟩, T_acopyR_ok h⟩), fun _ h => absurd h List.not_mem_nil⟩⟩⟩) qJx4a65c_ok gJx4a65c_ok rfl ?_ ?_
  · rintro _ S ⟨rfl, hp⟩
    refine ⟨Nat.le_of_ble_eq_true rfl, 300, ?_⟩
    show (0 = 0 ∧ (∃ (i_1 : Nat), nI i = nI i_1 ∧ (∃ (d_2 c_3 kk_4 : Nat) (L_5 : List Nat), (AL S a d_2 c_3 kk_4 L_5 ∧ i_1 ≤ L_5.length) ∧ 0 ≤ alC c L.length ∧ 0 ≤ alZ c L.length ∧ ((isO S 0 a ∧ (True ∧ (isO S 0 a ∧ (isO (sI S 0 a ((mI S 0 a) + (1 : Int32))) 0 a ∧ (isO (sI S 0 a ((mI S 0 a) + (1 : Int32))) 0 a ∧ (pa (mR (sI S 0 a ((mI S 0 a) + (1 : Int32))) 1 a) fun a_7 => ∃ v_8 : Int32, (a_7 ∈ mL (sI S 0 a ((mI S 0 a) + (1 : Int32))) ∧ ¬ mK (sI S 0 a ((mI S 0 a) + (1 : Int32))) a_7 < 16 ∧ mK (sI S 0 a ((mI S 0 a) + (1 : Int32))) a_7 < 29 ∧ v_8 = Int32.ofNat (mN (sI S 0 a ((mI S 0 a) + (1 : Int32))) a_7) ∨ a_7 = mZ (sI S 0 a ((mI S 0 a) + (1 : Int32))) ∧ v_8 = 0) ∧ ((¬ (mI (sI S 0 a ((mI S 0 a) + (1 : Int32))) 2 a) = v_8 → (2 = 2 ∧ ((pa (mR (sI S 0 a ((mI S 0 a) + (1 : Int32))) 1 a) fun a_9 => ((pa (mR (sI S 0 a ((mI S 0 a) + (1 : Int32))) 1 a) fun a_10 => ((acR (sI S 0 a ((mI S 0 a) + (1 : Int32))) a_9 a_10 (nI i) ((nI i) + (1 : Int32)) ((mI (sI S 0 a ((mI S 0 a) + (1 : Int32))) 2 a) - (nI i))) ∧ 0 ≤ alC c L.length ∧ 0 ≤ alZ c L.length ∧ ((pa (mR (sI S 0 a ((mI S 0 a) + (1 : Int32))) 1 a) fun a_12 => a_12 ∈ mL (rR (sI S 0 a ((mI S 0 a) + (1 : Int32))) a_10 (va_cpy (eR (sI S 0 a ((mI S 0 a) + (1 : Int32))) a_9) (eR (sI S 0 a ((mI S 0 a) + (1 : Int32))) a_10) (nI i).toNatClampNeg ((nI i) + (1 : Int32)).toNatClampNeg ((mI (sI S 0 a ((mI S 0 a) + (1 : Int32))) 2 a) - (nI i)).toNatClampNeg)) ∧ ¬ mK (rR (sI S 0 a ((mI S 0 a) + (1 : Int32))) a_10 (va_cpy (eR (sI S 0 a ((mI S 0 a) + (1 : Int32))) a_9) (eR (sI S 0 a ((mI S 0 a) + (1 : Int32))) a_10) (nI i).toNatClampNeg ((nI i) + (1 : Int32)).toNatClampNeg ((mI (sI S 0 a ((mI S 0 a) + (1 : Int32))) 2 a) - (nI i)).toNatClampNeg)) a_12 < 21 ∧ mK (rR (sI S 0 a ((mI S 0 a) + (1 : Int32))) a_10 (va_cpy (eR (sI S 0 a ((mI S 0 a) + (1 : Int32))) a_9) (eR (sI S 0 a ((mI S 0 a) + (1 : Int32))) a_10) (nI i).toNatClampNeg ((nI i) + (1 : Int32)).toNatClampNeg ((mI (sI S 0 a ((mI S 0 a) + (1 : Int32))) 2 a) - (nI i)).toNatClampNeg)) a_12 < 29 ∧ inR (rR (sI S 0 a ((mI S 0 a) + (1 : Int32))) a_10 (va_cpy (eR (sI S 0 a ((mI S 0 a) + (1 : Int32))) a_9) (eR (sI S 0 a ((mI S 0 a) + (1 : Int32))) a_10) (nI i).toNatClampNeg ((nI i) + (1 : Int32)).toNatClampNeg ((mI (sI S 0 a ((mI S 0 a) + (1 : Int32))) 2 a) - (nI i)).toNatClampNeg)) a_12 (nI i) ∧ (∀ w_13, (some x) = some w_13 → w_13 ∈ mL (rR (sI S 0 a ((mI S 0 a) + (1 : Int32))) a_10 (va_cpy (eR (sI S 0 a ((mI S 0 a) + (1 : Int32))) a_9) (eR (sI S 0 a ((mI S 0 a) + (1 : Int32))) a_10) (nI i).toNatClampNeg ((nI i) + (1 : Int32)).toNatClampNeg ((mI (sI S 0 a ((mI S 0 a) + (1 : Int32))) 2 a) - (nI i)).toNatClampNeg)) ∧ (mK (rR (sI S 0 a ((mI S 0 a) + (1 : Int32))) a_10 (va_cpy (eR (sI S 0 a ((mI S 0 a) + (1 : Int32))) a_9) (eR (sI S 0 a ((mI S 0 a) + (1 : Int32))) a_10) (nI i).toNatClampNeg ((nI i) + (1 : Int32)).toNatClampNeg ((mI (sI S 0 a ((mI S 0 a) + (1 : Int32))) 2 a) - (nI i)).toNatClampNeg)) a_12 = 21 ∧ mK (rR (sI S 0 a ((mI S 0 a) + (1 : Int32))) a_10 (va_cpy (eR (sI S 0 a ((mI S 0 a) + (1 : Int32))) a_9) (eR (sI S 0 a ((mI S 0 a) + (1 : Int32))) a_10) (nI i).toNatClampNeg ((nI i) + (1 : Int32)).toNatClampNeg ((mI (sI S 0 a ((mI S 0 a) + (1 : Int32))) 2 a) - (nI i)).toNatClampNeg)) w_13 = 1 ∨ mK (rR (sI S 0 a ((mI S 0 a) + (1 : Int32))) a_10 (va_cpy (eR (sI S 0 a ((mI S 0 a) + (1 : Int32))) a_9) (eR (sI S 0 a ((mI S 0 a) + (1 : Int32))) a_10) (nI i).toNatClampNeg ((nI i) + (1 : Int32)).toNatClampNeg ((mI (sI S 0 a ((mI S 0 a) + (1 : Int32))) 2 a) - (nI i)).toNatClampNeg)) a_12 = 22 ∧ mK (rR (sI S 0 a ((mI S 0 a) + (1 : Int32))) a_10 (va_cpy (eR (sI S 0 a ((mI S 0 a) + (1 : Int32))) a_9) (eR (sI S 0 a ((mI S 0 a) + (1 : Int32))) a_10) (nI i).toNatClampNeg ((nI i) + (1 : Int32)).toNatClampNeg ((mI (sI S 0 a ((mI S 0 a) + (1 : Int32))) 2 a) - (nI i)).toNatClampNeg)) w_13 = 2 ∨ mK (rR (sI S 0 a ((mI S 0 a) + (1 : Int32))) a_10 (va_cpy (eR (sI S 0 a ((mI S 0 a) + (1 : Int32))) a_9) (eR (sI S 0 a ((mI S 0 a) + (1 : Int32))) a_10) (nI i).toNatClampNeg ((nI i) + (1 : Int32)).toNatClampNeg ((mI (sI S 0 a ((mI S 0 a) + (1 : Int32))) 2 a) - (nI i)).toNatClampNeg)) a_12 = 23 ∧ mK (rR (sI S 0 a ((mI S 0 a) + (1 : Int32))) a_10 (va_cpy (eR (sI S 0 a ((mI S 0 a) + (1 : Int32))) a_9) (eR (sI S 0 a ((mI S 0 a) + (1 : Int32))) a_10) (nI i).toNatClampNeg ((nI i) + (1 : Int32)).toNatClampNeg ((mI (sI S 0 a ((mI S 0 a) + (1 : Int32))) 2 a) - (nI i)).toNatClampNeg)) w_13 = 5 ∨ mK (rR (sI S 0 a ((mI S 0 a) + (1 : Int32))) a_10 (va_cpy (eR (sI S 0 a ((mI S 0 a) + (1 : Int32))) a_9) (eR (sI S 0 a ((mI S 0 a) + (1 : Int32))) a_10) (nI i).toNatClampNeg ((nI i) + (1 : Int32)).toNatClampNeg ((mI (sI S 0 a ((mI S 0 a) + (1 : Int32))) 2 a) - (nI i)).toNatClampNeg)) a_12 = 24 ∧ mK (rR (sI S 0 a ((mI S 0 a) + (1 : Int32))) a_10 (va_cpy (eR (sI S 0 a ((mI S 0 a) + (1 : Int32))) a_9) (eR (sI S 0 a ((mI S 0 a) + (1 : Int32))) a_10) (nI i).toNatClampNeg ((nI i) + (1 : Int32)).toNatClampNeg ((mI (sI S 0 a ((mI S 0 a) + (1 : Int32))) 2 a) - (nI i)).toNatClampNeg)) w_13 = 11 ∨ mK (rR (sI S 0 a ((mI S 0 a) + (1 : Int32))) a_10 (va_cpy (eR (sI S 0 a ((mI S 0 a) + (1 : Int32))) a_9) (eR (sI S 0 a ((mI S 0 a) + (1 : Int32))) a_10) (nI i).toNatClampNeg ((nI i) + (1 : Int32)).toNatClampNeg ((mI (sI S 0 a ((mI S 0 a) + (1 : Int32))) 2 a) - (nI i)).toNatClampNeg)) a_12 = 25 ∧ mK (rR (sI S 0 a ((mI S 0 a) + (1 : Int32))) a_10 (va_cpy (eR (sI S 0 a ((mI S 0 a) + (1 : Int32))) a_9) (eR (sI S 0 a ((mI S 0 a) + (1 : Int32))) a_10) (nI i).toNatClampNeg ((nI i) + (1 : Int32)).toNatClampNeg ((mI (sI S 0 a ((mI S 0 a) + (1 : Int32))) 2 a) - (nI i)).toNatClampNeg)) w_13 = 13 ∨ mK (rR (sI S 0 a ((mI S 0 a) + (1 : Int32))) a_10 (va_cpy (eR (sI S 0 a ((mI S 0 a) + (1 : Int32))) a_9) (eR (sI S 0 a ((mI S 0 a) + (1 : Int32))) a_10) (nI i).toNatClampNeg ((nI i) + (1 : Int32)).toNatClampNeg ((mI (sI S 0 a ((mI S 0 a) + (1 : Int32))) 2 a) - (nI i)).toNatClampNeg)) a_12 = 26 ∧ (mK (rR (sI S 0 a ((mI S 0 a) + (1 : Int32))) a_10 (va_cpy (eR (sI S 0 a ((mI S 0 a) + (1 : Int32))) a_9) (eR (sI S 0 a ((mI S 0 a) + (1 : Int32))) a_10) (nI i).toNatClampNeg ((nI i) + (1 : Int32)).toNatClampNeg ((mI (sI S 0 a ((mI S 0 a) + (1 : Int32))) 2 a) - (nI i)).toNatClampNeg)) w_13 = 4 ∨ mK (rR (sI S 0 a ((mI S 0 a) + (1 : Int32))) a_10 (va_cpy (eR (sI S 0 a ((mI S 0 a) + (1 : Int32))) a_9) (eR (sI S 0 a ((mI S 0 a) + (1 : Int32))) a_10) (nI i).toNatClampNeg ((nI i) + (1 : Int32)).toNatClampNeg ((mI (sI S 0 a ((mI S 0 a) + (1 : Int32))) 2 a) - (nI i)).toNatClampNeg)) w_13 = 5) ∨ mK (rR (sI S 0 a ((mI S 0 a) + (1 : Int32))) a_10 (va_cpy (eR (sI S 0 a ((mI S 0 a) + (1 : Int32))) a_9) (eR (sI S 0 a ((mI S 0 a) + (1 : Int32))) a_10) (nI i).toNatClampNeg ((nI i) + (1 : Int32)).toNatClampNeg ((mI (sI S 0 a ((mI S 0 a) + (1 : Int32))) 2 a) - (nI i)).toNatClampNeg)) a_12 = 27 ∧ mK (rR (sI S 0 a ((mI S 0 a) + (1 : Int32))) a_10 (va_cpy (eR (sI S 0 a ((mI S 0 a) + (1 : Int32))) a_9) (eR (sI S 0 a ((mI S 0 a) + (1 : Int32))) a_10) (nI i).toNatClampNeg ((nI i) + (1 : Int32)).toNatClampNeg ((mI (sI S 0 a ((mI S 0 a) + (1 : Int32))) 2 a) - (nI i)).toNatClampNeg)) w_13 = 16 ∨ mK (rR (sI S 0 a ((mI S 0 a) + (1 : Int32))) a_10 (va_cpy (eR (sI S 0 a ((mI S 0 a) + (1 : Int32))) a_9) (eR (sI S 0 a ((mI S 0 a) + (1 : Int32))) a_10) (nI i).toNatClampNeg ((nI i) + (1 : Int32)).toNatClampNeg ((mI (sI S 0 a ((mI S 0 a) + (1 : Int32))) 2 a) - (nI i)).toNatClampNeg)) a_12 = 28 ∧ mK (rR (sI S 0 a ((mI S 0 a) + (1 : Int32))) a_10 (va_cpy (eR (sI S 0 a ((mI S 0 a) + (1 : Int32))) a_9) (eR (sI S 0 a ((mI S 0 a) + (1 : Int32))) a_10) (nI i).toNatClampNeg ((nI i) + (1 : Int32)).toNatClampNeg ((mI (sI S 0 a ((mI S 0 a) + (1 : Int32))) 2 a) - (nI i)).toNatClampNeg)) w_13 = 17)) ∧ (True ∧ (isO (rR (rR (sI S 0 a ((mI S 0 a) + (1 : Int32))) a_10 (va_cpy (eR (sI S 0 a ((mI S 0 a) + (1 : Int32))) a_9) (eR (sI S 0 a ((mI S 0 a) + (1 : Int32))) a_10) (nI i).toNatClampNeg ((nI i) + (1 : Int32)).toNatClampNeg ((mI (sI S 0 a ((mI S 0 a) + (1 : Int32))) 2 a) - (nI i)).toNatClampNeg)) a_12 (va_up (eR (rR (sI S 0 a ((mI S 0 a) + (1 : Int32))) a_10 (va_cpy (eR (sI S 0 a ((mI S 0 a) + (1 : Int32))) a_9) (eR (sI S 0 a ((mI S 0 a) + (1 : Int32))) a_10) (nI i).toNatClampNeg ((nI i) + (1 : Int32)).toNatClampNeg ((mI (sI S 0 a ((mI S 0 a) + (1 : Int32))) 2 a) - (nI i)).toNatClampNeg)) a_12) (nI i).toNatClampNeg (some x))) 0 a ∧ (([] : List MV) = [] ∧ mret none (sp_alins a i x d c kk L) [.inr (.inr (some a)), .inl (nI i), .inr (.inr (some x))] S none (sI (rR (rR (sI S 0 a ((mI S 0 a) + (1 : Int32))) a_10 (va_cpy (eR (sI S 0 a ((mI S 0 a) + (1 : Int32))) a_9) (eR (sI S 0 a ((mI S 0 a) + (1 : Int32))) a_10) (nI i).toNatClampNeg ((nI i) + (1 : Int32)).toNatClampNeg ((mI (sI S 0 a ((mI S 0 a) + (1 : Int32))) 2 a) - (nI i)).toNatClampNeg)) a_12 (va_up (eR (rR (sI S 0 a ((mI S 0 a) + (1 : Int32))) a_10 (va_cpy (eR (sI S 0 a ((mI S 0 a) + (1 : Int32))) a_9) (eR (sI S 0 a ((mI S 0 a) + (1 : Int32))) a_10) (nI i).toNatClampNeg ((nI i) + (1 : Int32)).toNatClampNeg ((mI (sI S 0 a ((mI S 0 a) + (1 : Int32))) 2 a) - (nI i)).toNatClampNeg)) a_12) (nI i).toNatClampNeg (some x))) 2 a ((mI (sI S 0 a ((mI S 0 a) + (1 : Int32))) 2 a) + (1 : Int32))) 0 0)))))))))))) ∧ ((mI (sI S 0 a ((mI S 0 a) + (1 : Int32))) 2 a) = v_8 → (0 = 0 ∧ (∃ (d_14 c_15 kk_16 : Nat) (L_17 : List Nat), (AL (sI S 0 a ((mI S 0 a) + (1 : Int32))) a d_14 c_15 kk_16 L_17 ∧ L_17.length = c_15 ∧ c_15 ≤ 50000) ∧ 0 + 1 ≤ alC c L.length ∧ 0 + (gcap c_15) ≤ alZ c L.length ∧ (∀ (x_19 : Option Nat) (S_18 : MM), (grP (sI S 0 a ((mI S 0 a) + (1 : Int32))) S_18 a d_14 c_15 kk_16 L_17 x_19) → (2 = 2 ∧ ((pa x_19 fun a_20 => ((pa x_19 fun a_21 => ((acR S_18 a_20 a_21 (nI i) ((nI i) + (1 : Int32)) ((mI (sI S 0 a ((mI S 0 a) + (1 : Int32))) 2 a) - (nI i))) ∧ 0 + 1 ≤ alC c L.length ∧ 0 + (gcap c_15) ≤ alZ c L.length ∧ ((pa x_19 fun a_23 => a_23 ∈ mL (rR S_18 a_21 (va_cpy (eR S_18 a_20) (eR S_18 a_21) (nI i).toNatClampNeg ((nI i) + (1 : Int32)).toNatClampNeg ((mI (sI S 0 a ((mI S 0 a) + (1 : Int32))) 2 a) - (nI i)).toNatClampNeg)) ∧ ¬ mK (rR S_18 a_21 (va_cpy (eR S_18 a_20) (eR S_18 a_21) (nI i).toNatClampNeg ((nI i) + (1 : Int32)).toNatClampNeg ((mI (sI S 0 a ((mI S 0 a) + (1 : Int32))) 2 a) - (nI i)).toNatClampNeg)) a_23 < 21 ∧ mK (rR S_18 a_21 (va_cpy (eR S_18 a_20) (eR S_18 a_21) (nI i).toNatClampNeg ((nI i) + (1 : Int32)).toNatClampNeg ((mI (sI S 0 a ((mI S 0 a) + (1 : Int32))) 2 a) - (nI i)).toNatClampNeg)) a_23 < 29 ∧ inR (rR S_18 a_21 (va_cpy (eR S_18 a_20) (eR S_18 a_21) (nI i).toNatClampNeg ((nI i) + (1 : Int32)).toNatClampNeg ((mI (sI S 0 a ((mI S 0 a) + (1 : Int32))) 2 a) - (nI i)).toNatClampNeg)) a_23 (nI i) ∧ (∀ w_24, (some x) = some w_24 → w_24 ∈ mL (rR S_18 a_21 (va_cpy (eR S_18 a_20) (eR S_18 a_21) (nI i).toNatClampNeg ((nI i) + (1 : Int32)).toNatClampNeg ((mI (sI S 0 a ((mI S 0 a) + (1 : Int32))) 2 a) - (nI i)).toNatClampNeg)) ∧ (mK (rR S_18 a_21 (va_cpy (eR S_18 a_20) (eR S_18 a_21) (nI i).toNatClampNeg ((nI i) + (1 : Int32)).toNatClampNeg ((mI (sI S 0 a ((mI S 0 a) + (1 : Int32))) 2 a) - (nI i)).toNatClampNeg)) a_23 = 21 ∧ mK (rR S_18 a_21 (va_cpy (eR S_18 a_20) (eR S_18 a_21) (nI i).toNatClampNeg ((nI i) + (1 : Int32)).toNatClampNeg ((mI (sI S 0 a ((mI S 0 a) + (1 : Int32))) 2 a) - (nI i)).toNatClampNeg)) w_24 = 1 ∨ mK (rR S_18 a_21 (va_cpy (eR S_18 a_20) (eR S_18 a_21) (nI i).toNatClampNeg ((nI i) + (1 : Int32)).toNatClampNeg ((mI (sI S 0 a ((mI S 0 a) + (1 : Int32))) 2 a) - (nI i)).toNatClampNeg)) a_23 = 22 ∧ mK (rR S_18 a_21 (va_cpy (eR S_18 a_20) (eR S_18 a_21) (nI i).toNatClampNeg ((nI i) + (1 : Int32)).toNatClampNeg ((mI (sI S 0 a ((mI S 0 a) + (1 : Int32))) 2 a) - (nI i)).toNatClampNeg)) w_24 = 2 ∨ mK (rR S_18 a_21 (va_cpy (eR S_18 a_20) (eR S_18 a_21) (nI i).toNatClampNeg ((nI i) + (1 : Int32)).toNatClampNeg ((mI (sI S 0 a ((mI S 0 a) + (1 : Int32))) 2 a) - (nI i)).toNatClampNeg)) a_23 = 23 ∧ mK (rR S_18 a_21 (va_cpy (eR S_18 a_20) (eR S_18 a_21) (nI i).toNatClampNeg ((nI i) + (1 : Int32)).toNatClampNeg ((mI (sI S 0 a ((mI S 0 a) + (1 : Int32))) 2 a) - (nI i)).toNatClampNeg)) w_24 = 5 ∨ mK (rR S_18 a_21 (va_cpy (eR S_18 a_20) (eR S_18 a_21) (nI i).toNatClampNeg ((nI i) + (1 : Int32)).toNatClampNeg ((mI (sI S 0 a ((mI S 0 a) + (1 : Int32))) 2 a) - (nI i)).toNatClampNeg)) a_23 = 24 ∧ mK (rR S_18 a_21 (va_cpy (eR S_18 a_20) (eR S_18 a_21) (nI i).toNatClampNeg ((nI i) + (1 : Int32)).toNatClampNeg ((mI (sI S 0 a ((mI S 0 a) + (1 : Int32))) 2 a) - (nI i)).toNatClampNeg)) w_24 = 11 ∨ mK (rR S_18 a_21 (va_cpy (eR S_18 a_20) (eR S_18 a_21) (nI i).toNatClampNeg ((nI i) + (1 : Int32)).toNatClampNeg ((mI (sI S 0 a ((mI S 0 a) + (1 : Int32))) 2 a) - (nI i)).toNatClampNeg)) a_23 = 25 ∧ mK (rR S_18 a_21 (va_cpy (eR S_18 a_20) (eR S_18 a_21) (nI i).toNatClampNeg ((nI i) + (1 : Int32)).toNatClampNeg ((mI (sI S 0 a ((mI S 0 a) + (1 : Int32))) 2 a) - (nI i)).toNatClampNeg)) w_24 = 13 ∨ mK (rR S_18 a_21 (va_cpy (eR S_18 a_20) (eR S_18 a_21) (nI i).toNatClampNeg ((nI i) + (1 : Int32)).toNatClampNeg ((mI (sI S 0 a ((mI S 0 a) + (1 : Int32))) 2 a) - (nI i)).toNatClampNeg)) a_23 = 26 ∧ (mK (rR S_18 a_21 (va_cpy (eR S_18 a_20) (eR S_18 a_21) (nI i).toNatClampNeg ((nI i) + (1 : Int32)).toNatClampNeg ((mI (sI S 0 a ((mI S 0 a) + (1 : Int32))) 2 a) - (nI i)).toNatClampNeg)) w_24 = 4 ∨ mK (rR S_18 a_21 (va_cpy (eR S_18 a_20) (eR S_18 a_21) (nI i).toNatClampNeg ((nI i) + (1 : Int32)).toNatClampNeg ((mI (sI S 0 a ((mI S 0 a) + (1 : Int32))) 2 a) - (nI i)).toNatClampNeg)) w_24 = 5) ∨ mK (rR S_18 a_21 (va_cpy (eR S_18 a_20) (eR S_18 a_21) (nI i).toNatClampNeg ((nI i) + (1 : Int32)).toNatClampNeg ((mI (sI S 0 a ((mI S 0 a) + (1 : Int32))) 2 a) - (nI i)).toNatClampNeg)) a_23 = 27 ∧ mK (rR S_18 a_21 (va_cpy (eR S_18 a_20) (eR S_18 a_21) (nI i).toNatClampNeg ((nI i) + (1 : Int32)).toNatClampNeg ((mI (sI S 0 a ((mI S 0 a) + (1 : Int32))) 2 a) - (nI i)).toNatClampNeg)) w_24 = 16 ∨ mK (rR S_18 a_21 (va_cpy (eR S_18 a_20) (eR S_18 a_21) (nI i).toNatClampNeg ((nI i) + (1 : Int32)).toNatClampNeg ((mI (sI S 0 a ((mI S 0 a) + (1 : Int32))) 2 a) - (nI i)).toNatClampNeg)) a_23 = 28 ∧ mK (rR S_18 a_21 (va_cpy (eR S_18 a_20) (eR S_18 a_21) (nI i).toNatClampNeg ((nI i) + (1 : Int32)).toNatClampNeg ((mI (sI S 0 a ((mI S 0 a) + (1 : Int32))) 2 a) - (nI i)).toNatClampNeg)) w_24 = 17)) ∧ (True ∧ (isO (rR (rR S_18 a_21 (va_cpy (eR S_18 a_20) (eR S_18 a_21) (nI i).toNatClampNeg ((nI i) + (1 : Int32)).toNatClampNeg ((mI (sI S 0 a ((mI S 0 a) + (1 : Int32))) 2 a) - (nI i)).toNatClampNeg)) a_23 (va_up (eR (rR S_18 a_21 (va_cpy (eR S_18 a_20) (eR S_18 a_21) (nI i).toNatClampNeg ((nI i) + (1 : Int32)).toNatClampNeg ((mI (sI S 0 a ((mI S 0 a) + (1 : Int32))) 2 a) - (nI i)).toNatClampNeg)) a_23) (nI i).toNatClampNeg (some x))) 0 a ∧ (([] : List MV) = [] ∧ mret none (sp_alins a i x d c kk L) [.inr (.inr (some a)), .inl (nI i), .inr (.inr (some x))] S none (sI (rR (rR S_18 a_21 (va_cpy (eR S_18 a_20) (eR S_18 a_21) (nI i).toNatClampNeg ((nI i) + (1 : Int32)).toNatClampNeg ((mI (sI S 0 a ((mI S 0 a) + (1 : Int32))) 2 a) - (nI i)).toNatClampNeg)) a_23 (va_up (eR (rR S_18 a_21 (va_cpy (eR S_18 a_20) (eR S_18 a_21) (nI i).toNatClampNeg ((nI i) + (1 : Int32)).toNatClampNeg ((mI (sI S 0 a ((mI S 0 a) + (1 : Int32))) 2 a) - (nI i)).toNatClampNeg)) a_23) (nI i).toNatClampNeg (some x))) 2 a ((mI (sI S 0 a ((mI S 0 a) + (1 : Int32))) 2 a) + (1 : Int32))) (0 + 1) (0 + (gcap c_15))))))))))))))))))))))))))))
    obtain ⟨hA, hx, h1, h3⟩ := hp
    have h2 := hA.2.2.2.1
    have a7 := hA.2.2.2.2.2.2.1
    have hcc := hA.2.2.2.2.1
    have c10 : c = 0 ∨ 10 ≤ c := hA.2.2.2.2.2.2.2.elim (fun z => Or.inl z.1) (fun z => Or.inr z.1)
    have hT : AL (sI S 0 a (mI S 0 a + 1)) a d c kk L := hA.mod _
    have kT : Keep (AP S a d c) S (sI S 0 a (mI S 0 a + 1)) := Keep.rf.sI (Or.inl rfl)
    have hmK : mK (sI S 0 a (mI S 0 a + 1)) = mK S := rfl
    refine ⟨rfl, i, rfl, d, c, kk, L, ⟨hA, h1⟩, Nat.zero_le _, Nat.zero_le _, hA.1, trivial, hA.1, hA.1, hA.1, ?_⟩
    have hx1 : isO (sI S 0 a (mI S 0 a + 1)) kk x := hx
    have hmL : mL (sI S 0 a (mI S 0 a + 1)) = mL S := rfl
    generalize sI S 0 a (mI S 0 a + 1) = T at *
    have as : ∀ (S' : MM) (e : Nat), isO S' 26 e → isO S' kk x → (∀ w, some x = some w → w ∈ mL S' ∧ (mK S' e = 21 ∧ mK S' w = 1 ∨ mK S' e = 22 ∧ mK S' w = 2 ∨ mK S' e = 23 ∧ mK S' w = 5 ∨ mK S' e = 24 ∧ mK S' w = 11 ∨ mK S' e = 25 ∧ mK S' w = 13 ∨ mK S' e = 26 ∧ (mK S' w = 4 ∨ mK S' w = 5) ∨ mK S' e = 27 ∧ mK S' w = 16 ∨ mK S' e = 28 ∧ mK S' w = 17)) := by
      intro S' e he hw w hw2
      cases hw2
      refine ⟨hw.1, Or.inr (Or.inr (Or.inr (Or.inr (Or.inr (Or.inl ⟨he.2, ?_⟩)))))⟩
      rcases a7 with z | z
      · exact Or.inl (hw.2.trans z)
      · exact Or.inr (hw.2.trans z)
    have hac : ∀ (S' : MM) (e c' : Nat), AL S' a e c' kk L → L.length < c' → acR S' e e (nI i) (nI (i + 1)) (nI (L.length - i)) := by
      intro S' e c' g1 g2
      obtain ⟨r1, r2, r3, r4⟩ := g1.row (by omega)
      have g3 := g1.2.2.2.2.1
      refine ⟨r1, r1, fun j hj b hb => ?_, nI_pos (by omega), nI_pos (by omega), nI_pos (by omega), by rw [nI_clamp (by omega), nI_clamp (by omega), r2]; omega, by rw [nI_clamp (by omega), nI_clamp (by omega), r2]; omega⟩
      rw [r4] at hb
      have := g1.el (List.mem_of_getElem? hb)
      rcases a7 with z | z
      · exact Or.inl (z ▸ this)
      · exact Or.inr (z ▸ this)
    have fin : ∀ (S' : MM) (e c' : Nat), AL S' a e c' kk L → L.length < c' → isO S' kk x → AL (sI (rR (rR S' e (va_cpy (eR S' e) (eR S' e) i (i + 1) (L.length - i))) e (va_up (eR (rR S' e (va_cpy (eR S' e) (eR S' e) i (i + 1) (L.length - i))) e) i (some x))) 2 a (nI (L.length + 1))) a e c' kk (L.take i ++ x :: L.drop i) := by
      intro S' e c' g1 g2 g3
      obtain ⟨r1, r2, r3, r4⟩ := g1.row (by omega)
      rw [eR_self, rR_rR]
      refine g1.write r3 (by rw [r4, row_ins h1]) (fun y hy => ?_) ?_ (by omega)
      · rw [List.mem_append, List.mem_cons] at hy
        rcases hy with z | z | z
        · exact g1.el (List.mem_of_mem_take z)
        · exact z ▸ g3
        · exact g1.el (List.mem_of_mem_drop z)
      · rw [List.length_append, List.length_cons, List.length_take, List.length_drop]; omega
    have grown : ∀ (S9 : MM) (q : Nat), L.length = c → q ∉ mL T → AL S9 a q (gcap c) kk L → Keep (fun b => b = a) T S9 → (acR S9 q q (nI i) (nI (i + 1)) (nI (L.length - i)) ∧ 0 + 1 ≤ alC c L.length ∧ 0 + gcap c ≤ alZ c L.length ∧ isO S9 26 q ∧ inR S9 q (nI i) ∧ isO S9 kk x ∧ isO S9 0 a ∧ mret none (sp_alins a i x d c kk L) [.inr (.inr (some a)), .inl (nI i), .inr (.inr (some x))] S none (sI (rR (rR S9 q (va_cpy (eR S9 q) (eR S9 q) i (i + 1) (L.length - i))) q (va_up (eR (rR S9 q (va_cpy (eR S9 q) (eR S9 q) i (i + 1) (L.length - i))) q) i (some x))) 2 a (nI (L.length + 1))) (0 + 1) (0 + gcap c)) := by
      intro S9 q hLc hq h9 hk
      have hg : c < gcap c ∧ 10 ≤ gcap c ∧ gcap c ≤ 100000 := by unfold gcap; split <;> omega
      obtain ⟨r1, r2, r3, r4⟩ := h9.row (by omega)
      have c1 : 0 + 1 ≤ alC c L.length := by rw [alC, if_pos hLc]; exact Nat.le_refl _
      have c2 : 0 + gcap c ≤ alZ c L.length := by rw [alZ, if_pos hLc]; omega
      refine ⟨hac S9 q _ h9 (by omega), c1, c2, r1, vp_in_nI (by omega) (by omega), hk.isO hx1, h9.1, trivial, ⟨rfl, q, ?_, ?_, Or.inr (by rw [← hmL]; exact hq)⟩, c1, c2⟩
      · rw [alK, if_pos hLc]
        exact fin S9 q _ h9 (by omega) (hk.isO hx1)
      · rw [rR_rR]
        have k1 : Keep (fun b => b = a ∨ b = q) S9 (sI (rR S9 q (va_up (eR (rR S9 q (va_cpy (eR S9 q) (eR S9 q) i (i + 1) (L.length - i))) q) i (some x))) 2 a (nI (L.length + 1))) := (Keep.rf.rR (Or.inr rfl)).sI (Or.inl rfl)
        exact kT.trN ((hk.mono (Q := AP S a d c) (fun b _ z => Or.inl z)).trN k1 (fun b hb z => z.elim Or.inl (fun w => absurd (w ▸ hb) hq))) (fun b _ z => z)
    have hT0 := hT
    obtain ⟨b1, b2, b3, b4, b5, b6, b7, b8⟩ := hT
    rw [b2, b3]
    rcases b8 with ⟨e1, e2⟩ | ⟨e1, e2, e3, e4⟩
    · refine ⟨0, Or.inr ⟨e2, rfl⟩, fun z => absurd (by rw [show L.length = 0 by omega]; rfl) z, fun _ => ⟨rfl, d, c, kk, L, ⟨hT0, by omega, h3⟩, ?_, ?_, fun y S9 hy => ?_⟩⟩
      · rw [alC, if_pos (by omega)]; exact Nat.le_refl _
      · rw [alZ, if_pos (by omega)]; omega
      · obtain ⟨q, rfl, hq, h9, hk, -⟩ := hy
        rw [nI_1 i, nI_1 L.length, pk_sub h1, nI_clamp (n := i) (by omega), nI_clamp (n := i + 1) (by omega), nI_clamp (n := L.length - i) (by omega)]
        obtain ⟨x1, x2, x3, x4, x5, x6, x7, x8⟩ := grown S9 q (by omega) hq h9 hk
        exact ⟨rfl, x1, x2, x3, x4.1, by rw [show mK (rR S9 q (va_cpy (eR S9 q) (eR S9 q) i (i + 1) (L.length - i))) q = mK S9 q from rfl, x4.2]; decide, by rw [show mK (rR S9 q (va_cpy (eR S9 q) (eR S9 q) i (i + 1) (L.length - i))) q = mK S9 q from rfl, x4.2]; decide, x5, as _ q x4 x6, trivial, x7, rfl, x8⟩
    · refine ⟨nI c, Or.inl ⟨e2.1, by rw [e2.2]; decide, by rw [e2.2]; decide, by rw [e3]; rfl⟩, if_ne (by omega) (by omega) (fun h4 => ?_) (fun h4 => ?_)⟩
      · rw [nI_1 i, nI_1 L.length, pk_sub h1, nI_clamp (n := i) (by omega), nI_clamp (n := i + 1) (by omega), nI_clamp (n := L.length - i) (by omega)]
        refine ⟨rfl, hac T d c hT0 (by omega), Nat.zero_le _, Nat.zero_le _, e2.1, by rw [show mK (rR T d (va_cpy (eR T d) (eR T d) i (i + 1) (L.length - i))) d = mK T d from rfl, e2.2]; decide, by rw [show mK (rR T d (va_cpy (eR T d) (eR T d) i (i + 1) (L.length - i))) d = mK T d from rfl, e2.2]; decide, vp_in_nI (by show i < mN T d; omega) (by show mN T d < 2147483648; omega), as _ d e2 hx1, trivial, b1, rfl, trivial, ⟨rfl, d, ?_, ?_, Or.inl ⟨rfl, by omega⟩⟩, Nat.zero_le _, Nat.zero_le _⟩
        · rw [alK, if_neg h4]
          exact fin T d c hT0 (by omega) hx1
        · exact ((kT.rR (Or.inr ⟨rfl, by omega, by rw [← hmK]; exact e2.2⟩)).rR (Or.inr ⟨rfl, by omega, by rw [← hmK]; exact e2.2⟩)).sI (Or.inl rfl)
      · refine ⟨rfl, d, c, kk, L, ⟨hT0, by omega, h3⟩, ?_, ?_, fun y S9 hy => ?_⟩
        · rw [alC, if_pos (by omega)]; exact Nat.le_refl _
        · rw [alZ, if_pos (by omega)]; omega
        · obtain ⟨q, rfl, hq, h9, hk, -⟩ := hy
          rw [nI_1 i, nI_1 L.length, pk_sub h1, nI_clamp (n := i) (by omega), nI_clamp (n := i + 1) (by omega), nI_clamp (n := L.length - i) (by omega)]
          obtain ⟨x1, x2, x3, x4, x5, x6, x7, x8⟩ := grown S9 q (by omega) hq h9 hk
          exact ⟨rfl, x1, x2, x3, x4.1, by rw [show mK (rR S9 q (va_cpy (eR S9 q) (eR S9 q) i (i + 1) (L.length - i))) q = mK S9 q from rfl, x4.2]; decide, by rw [show mK (rR S9 q (va_cpy (eR S9 q) (eR S9 q) i (i + 1) (L.length - i))) q = mK S9 q from rfl, x4.2]; decide, x5, as _ q x4 x6, trivial, x7, rfl, x8⟩
  · exact fun _ _ _ _ _ h => by cases h
theorem u_alins (l : Launch) : Us l yJx4a65c_add_7a177 cJx4a65c_add_7a177 5 none 5 119 0 T_alins := by
  intro Rc Rs av S cs sl K Kx h
  unfold T_alins at h
  split at h
  · rename_i a_o i_v x_o
    obtain ⟨a, rfl, h_1⟩ := pa_of h
    obtain ⟨x, rfl, h_2⟩ := pa_of h_1
    obtain ⟨i, rfl, h_3⟩ := h_2
    obtain ⟨d, c, kk, L, hp, hc, hs, hk⟩ := h_3
    refine ⟨(sp_alins a i x d c kk L), c_alins l a i x d c kk L, fun _ _ h9 => ⟨_, _, h9.1, h9.2.1.1⟩, ⟨rfl, hp⟩, hc, hs, fun S' h8 => by
      obtain ⟨-, h8⟩ := h8
      exact hk _ h8, fun _ _ q => q.elim⟩
  · exact h.elim
def rmP (S S' : MM) (a d c kk : Nat) (L' : List Nat) : Prop := AL S' a d c kk L' ∧ Keep (AP S a d c) S S'
def T_alfr : TR := fun Rc Rs av S cs sl K _Kx => match av with
  | [.inr (.inr a_o), .inr (.inr r), .inl i_v] => pa a_o fun a => (∃ (i : Nat), i_v = nI i ∧ (∃ (d c kk : Nat) (L : List Nat), (AL S a d c kk L ∧ i < L.length ∧ r = some d) ∧ cs ≤ Rc ∧ sl ≤ Rs ∧ (∀ (S' : MM), (rmP S S' a d c kk (L.take i ++ L.drop (i + 1))) → K none S' cs sl)))
  | _ => False
def sp_alfr (a : Nat) (r : Option Nat) (i : Nat) (d c kk : Nat) (L : List Nat) : Sp := (fun av S => av = [.inr (.inr (some a)), .inr (.inr r), .inl (nI i)] ∧ (AL S a d c kk L ∧ i < L.length ∧ r = some d), fun _ S => 0, fun _ S => 0, fun _ S rv S' => rv = none ∧ (rmP S S' a d c kk (L.take i ++ L.drop (i + 1))), fun _ _ _ _ => False)
def tJx4a65c_fastRemove_b59b0 : CD := [(0, .aload_n 0), (1, .dup), (2, .getfield 63), (5, .iconst 1), (6, .iadd), (7, .putfield 63), (10, .aload_n 0), (11, .getfield 48), (14, .iconst 1), (15, .isub), (16, .dup), (17, .istore_n 3), (18, .iload_n 2), (19, .if_icmp .le 15), (22, .aload_n 1), (23, .iload_n 2), (24, .iconst 1), (25, .iadd), (26, .aload_n 1), (27, .iload_n 2), (28, .iload_n 3), (29, .iload_n 2), (30, .isub), (31, .invokestatic 112), (34, .aload_n 1), (35, .aload_n 0), (36, .iload_n 3), (37, .dup_x1), (38, .putfield 48), (41, .aconst_null), (42, .aastore), (43, .return_)]
set_option maxRecDepth 100000 in
theorem kJx4a65c_fastRemove_b59b0 : chk cJx4a65c_fastRemove_b59b0 tJx4a65c_fastRemove_b59b0 = true := by decide +kernel
theorem vJx4a65c_fastRemove_b59b0_112 : ∀ w ∈ ([.methodLink RJx4a65c 112 arraycopyName, .native arraycopyName, .static arraycopyName, .initialized "java/lang/System"] : List Cond), w ∈ lw_good := List.forall_mem_cons.mpr ⟨mgd 1023 (by decide +kernel) (by decide +kernel), List.forall_mem_cons.mpr ⟨mgd 792 (by decide +kernel) (by decide +kernel), List.forall_mem_cons.mpr ⟨mgd 791 (by decide +kernel) (by decide +kernel), List.forall_mem_cons.mpr ⟨mgd 144 (by decide +kernel) (by decide +kernel), fun _ h => absurd h List.not_mem_nil⟩⟩⟩⟩
set_option maxRecDepth 100000 in
set_option maxHeartbeats 2000000 in
theorem c_alfr (l : Launch) : ∀ (a : Nat) (r : Option Nat) (i : Nat) (d c kk : Nat) (L : List Nat), Ct l yJx4a65c_fastRemove_b59b0 cJx4a65c_fastRemove_b59b0 4 none 1 32 (sp_alfr a r i d c kk L) := by
  intro a r i d c kk L
  refine Ct.of (fJx4a65c, nJx4a65c, aJx4a65c, iJx4a65c, lJx4a65c, [(112, 2, 5, 0, T_acopyR)], qJx4a65c, gJx4a65c, []) false tJx4a65c_fastRemove_b59b0 (fun _ _ _ => none) (by decide) (by decide) kJx4a65c_fastRemove_b59b0 ⟨_, _, rfl⟩ fJx4a65c_ok nJx4a65c_ok aJx4a65c_ok iJx4a65c_ok lJx4a65c_ok (fun p e R s m args below meth c Q D cy z r A C hR1 hR2 => List.forall_mem_cons.mpr ⟨cOK_use (fun _ _ _ _ _ _ _ _ h => ⟨sp_acopyR, cOK_acopyR C vJx4a65c_fastRemove_b59b0_112 ⟨by rw [hR1]; decide, by rw [hR2]; decide⟩, T_acopyR_ok h⟩), fun _ h => absurd h List.not_mem_nil⟩) qJx4a65c_ok gJx4a65c_ok rfl ?_ ?_
  · rintro _ S ⟨rfl, hp⟩
    refine ⟨Nat.le_of_ble_eq_true rfl, 300, ?_⟩
    show (isO S 0 a ∧ (True ∧ (isO S 0 a ∧ (isO (sI S 0 a ((mI S 0 a) + (1 : Int32))) 0 a ∧ ((((mI (sI S 0 a ((mI S 0 a) + (1 : Int32))) 2 a) - (1 : Int32)) ≤ (nI i) → (True ∧ (isO (sI S 0 a ((mI S 0 a) + (1 : Int32))) 0 a ∧ (pa r fun a_1 => a_1 ∈ mL (sI (sI S 0 a ((mI S 0 a) + (1 : Int32))) 2 a ((mI (sI S 0 a ((mI S 0 a) + (1 : Int32))) 2 a) - (1 : Int32))) ∧ ¬ mK (sI (sI S 0 a ((mI S 0 a) + (1 : Int32))) 2 a ((mI (sI S 0 a ((mI S 0 a) + (1 : Int32))) 2 a) - (1 : Int32))) a_1 < 21 ∧ mK (sI (sI S 0 a ((mI S 0 a) + (1 : Int32))) 2 a ((mI (sI S 0 a ((mI S 0 a) + (1 : Int32))) 2 a) - (1 : Int32))) a_1 < 29 ∧ inR (sI (sI S 0 a ((mI S 0 a) + (1 : Int32))) 2 a ((mI (sI S 0 a ((mI S 0 a) + (1 : Int32))) 2 a) - (1 : Int32))) a_1 ((mI (sI S 0 a ((mI S 0 a) + (1 : Int32))) 2 a) - (1 : Int32)) ∧ (∀ w_2, none = some w_2 → w_2 ∈ mL (sI (sI S 0 a ((mI S 0 a) + (1 : Int32))) 2 a ((mI (sI S 0 a ((mI S 0 a) + (1 : Int32))) 2 a) - (1 : Int32))) ∧ (mK (sI (sI S 0 a ((mI S 0 a) + (1 : Int32))) 2 a ((mI (sI S 0 a ((mI S 0 a) + (1 : Int32))) 2 a) - (1 : Int32))) a_1 = 21 ∧ mK (sI (sI S 0 a ((mI S 0 a) + (1 : Int32))) 2 a ((mI (sI S 0 a ((mI S 0 a) + (1 : Int32))) 2 a) - (1 : Int32))) w_2 = 1 ∨ mK (sI (sI S 0 a ((mI S 0 a) + (1 : Int32))) 2 a ((mI (sI S 0 a ((mI S 0 a) + (1 : Int32))) 2 a) - (1 : Int32))) a_1 = 22 ∧ mK (sI (sI S 0 a ((mI S 0 a) + (1 : Int32))) 2 a ((mI (sI S 0 a ((mI S 0 a) + (1 : Int32))) 2 a) - (1 : Int32))) w_2 = 2 ∨ mK (sI (sI S 0 a ((mI S 0 a) + (1 : Int32))) 2 a ((mI (sI S 0 a ((mI S 0 a) + (1 : Int32))) 2 a) - (1 : Int32))) a_1 = 23 ∧ mK (sI (sI S 0 a ((mI S 0 a) + (1 : Int32))) 2 a ((mI (sI S 0 a ((mI S 0 a) + (1 : Int32))) 2 a) - (1 : Int32))) w_2 = 5 ∨ mK (sI (sI S 0 a ((mI S 0 a) + (1 : Int32))) 2 a ((mI (sI S 0 a ((mI S 0 a) + (1 : Int32))) 2 a) - (1 : Int32))) a_1 = 24 ∧ mK (sI (sI S 0 a ((mI S 0 a) + (1 : Int32))) 2 a ((mI (sI S 0 a ((mI S 0 a) + (1 : Int32))) 2 a) - (1 : Int32))) w_2 = 11 ∨ mK (sI (sI S 0 a ((mI S 0 a) + (1 : Int32))) 2 a ((mI (sI S 0 a ((mI S 0 a) + (1 : Int32))) 2 a) - (1 : Int32))) a_1 = 25 ∧ mK (sI (sI S 0 a ((mI S 0 a) + (1 : Int32))) 2 a ((mI (sI S 0 a ((mI S 0 a) + (1 : Int32))) 2 a) - (1 : Int32))) w_2 = 13 ∨ mK (sI (sI S 0 a ((mI S 0 a) + (1 : Int32))) 2 a ((mI (sI S 0 a ((mI S 0 a) + (1 : Int32))) 2 a) - (1 : Int32))) a_1 = 26 ∧ (mK (sI (sI S 0 a ((mI S 0 a) + (1 : Int32))) 2 a ((mI (sI S 0 a ((mI S 0 a) + (1 : Int32))) 2 a) - (1 : Int32))) w_2 = 4 ∨ mK (sI (sI S 0 a ((mI S 0 a) + (1 : Int32))) 2 a ((mI (sI S 0 a ((mI S 0 a) + (1 : Int32))) 2 a) - (1 : Int32))) w_2 = 5) ∨ mK (sI (sI S 0 a ((mI S 0 a) + (1 : Int32))) 2 a ((mI (sI S 0 a ((mI S 0 a) + (1 : Int32))) 2 a) - (1 : Int32))) a_1 = 27 ∧ mK (sI (sI S 0 a ((mI S 0 a) + (1 : Int32))) 2 a ((mI (sI S 0 a ((mI S 0 a) + (1 : Int32))) 2 a) - (1 : Int32))) w_2 = 16 ∨ mK (sI (sI S 0 a ((mI S 0 a) + (1 : Int32))) 2 a ((mI (sI S 0 a ((mI S 0 a) + (1 : Int32))) 2 a) - (1 : Int32))) a_1 = 28 ∧ mK (sI (sI S 0 a ((mI S 0 a) + (1 : Int32))) 2 a ((mI (sI S 0 a ((mI S 0 a) + (1 : Int32))) 2 a) - (1 : Int32))) w_2 = 17)) ∧ (([] : List MV) = [] ∧ mret none (sp_alfr a r i d c kk L) [.inr (.inr (some a)), .inr (.inr r), .inl (nI i)] S none (rR (sI (sI S 0 a ((mI S 0 a) + (1 : Int32))) 2 a ((mI (sI S 0 a ((mI S 0 a) + (1 : Int32))) 2 a) - (1 : Int32))) a_1 (va_up (eR (sI (sI S 0 a ((mI S 0 a) + (1 : Int32))) 2 a ((mI (sI S 0 a ((mI S 0 a) + (1 : Int32))) 2 a) - (1 : Int32))) a_1) ((mI (sI S 0 a ((mI S 0 a) + (1 : Int32))) 2 a) - (1 : Int32)).toNatClampNeg none)) 0 0))))) ∧ (¬ ((mI (sI S 0 a ((mI S 0 a) + (1 : Int32))) 2 a) - (1 : Int32)) ≤ (nI i) → (2 = 2 ∧ ((pa r fun a_3 => ((pa r fun a_4 => ((acR (sI S 0 a ((mI S 0 a) + (1 : Int32))) a_3 a_4 ((nI i) + (1 : Int32)) (nI i) (((mI (sI S 0 a ((mI S 0 a) + (1 : Int32))) 2 a) - (1 : Int32)) - (nI i))) ∧ 0 ≤ 0 ∧ 0 ≤ 0 ∧ ((True ∧ (isO (rR (sI S 0 a ((mI S 0 a) + (1 : Int32))) a_4 (va_cpy (eR (sI S 0 a ((mI S 0 a) + (1 : Int32))) a_3) (eR (sI S 0 a ((mI S 0 a) + (1 : Int32))) a_4) ((nI i) + (1 : Int32)).toNatClampNeg (nI i).toNatClampNeg (((mI (sI S 0 a ((mI S 0 a) + (1 : Int32))) 2 a) - (1 : Int32)) - (nI i)).toNatClampNeg)) 0 a ∧ (pa r fun a_6 => a_6 ∈ mL (sI (rR (sI S 0 a ((mI S 0 a) + (1 : Int32))) a_4 (va_cpy (eR (sI S 0 a ((mI S 0 a) + (1 : Int32))) a_3) (eR (sI S 0 a ((mI S 0 a) + (1 : Int32))) a_4) ((nI i) + (1 : Int32)).toNatClampNeg (nI i).toNatClampNeg (((mI (sI S 0 a ((mI S 0 a) + (1 : Int32))) 2 a) - (1 : Int32)) - (nI i)).toNatClampNeg)) 2 a ((mI (sI S 0 a ((mI S 0 a) + (1 : Int32))) 2 a) - (1 : Int32))) ∧ ¬ mK (sI (rR (sI S 0 a ((mI S 0 a) + (1 : Int32))) a_4 (va_cpy (eR (sI S 0 a ((mI S 0 a) + (1 : Int32))) a_3) (eR (sI S 0 a ((mI S 0 a) + (1 : Int32))) a_4) ((nI i) + (1 : Int32)).toNatClampNeg (nI i).toNatClampNeg (((mI (sI S 0 a ((mI S 0 a) + (1 : Int32))) 2 a) - (1 : Int32)) - (nI i)).toNatClampNeg)) 2 a ((mI (sI S 0 a ((mI S 0 a) + (1 : Int32))) 2 a) - (1 : Int32))) a_6 < 21 ∧ mK (sI (rR (sI S 0 a ((mI S 0 a) + (1 : Int32))) a_4 (va_cpy (eR (sI S 0 a ((mI S 0 a) + (1 : Int32))) a_3) (eR (sI S 0 a ((mI S 0 a) + (1 : Int32))) a_4) ((nI i) + (1 : Int32)).toNatClampNeg (nI i).toNatClampNeg (((mI (sI S 0 a ((mI S 0 a) + (1 : Int32))) 2 a) - (1 : Int32)) - (nI i)).toNatClampNeg)) 2 a ((mI (sI S 0 a ((mI S 0 a) + (1 : Int32))) 2 a) - (1 : Int32))) a_6 < 29 ∧ inR (sI (rR (sI S 0 a ((mI S 0 a) + (1 : Int32))) a_4 (va_cpy (eR (sI S 0 a ((mI S 0 a) + (1 : Int32))) a_3) (eR (sI S 0 a ((mI S 0 a) + (1 : Int32))) a_4) ((nI i) + (1 : Int32)).toNatClampNeg (nI i).toNatClampNeg (((mI (sI S 0 a ((mI S 0 a) + (1 : Int32))) 2 a) - (1 : Int32)) - (nI i)).toNatClampNeg)) 2 a ((mI (sI S 0 a ((mI S 0 a) + (1 : Int32))) 2 a) - (1 : Int32))) a_6 ((mI (sI S 0 a ((mI S 0 a) + (1 : Int32))) 2 a) - (1 : Int32)) ∧ (∀ w_7, none = some w_7 → w_7 ∈ mL (sI (rR (sI S 0 a ((mI S 0 a) + (1 : Int32))) a_4 (va_cpy (eR (sI S 0 a ((mI S 0 a) + (1 : Int32))) a_3) (eR (sI S 0 a ((mI S 0 a) + (1 : Int32))) a_4) ((nI i) + (1 : Int32)).toNatClampNeg (nI i).toNatClampNeg (((mI (sI S 0 a ((mI S 0 a) + (1 : Int32))) 2 a) - (1 : Int32)) - (nI i)).toNatClampNeg)) 2 a ((mI (sI S 0 a ((mI S 0 a) + (1 : Int32))) 2 a) - (1 : Int32))) ∧ (mK (sI (rR (sI S 0 a ((mI S 0 a) + (1 : Int32))) a_4 (va_cpy (eR (sI S 0 a ((mI S 0 a) + (1 : Int32))) a_3) (eR (sI S 0 a ((mI S 0 a) + (1 : Int32))) a_4) ((nI i) + (1 : Int32)).toNatClampNeg (nI i).toNatClampNeg (((mI (sI S 0 a ((mI S 0 a) + (1 : Int32))) 2 a) - (1 : Int32)) - (nI i)).toNatClampNeg)) 2 a ((mI (sI S 0 a ((mI S 0 a) + (1 : Int32))) 2 a) - (1 : Int32))) a_6 = 21 ∧ mK (sI (rR (sI S 0 a ((mI S 0 a) + (1 : Int32))) a_4 (va_cpy (eR (sI S 0 a ((mI S 0 a) + (1 : Int32))) a_3) (eR (sI S 0 a ((mI S 0 a) + (1 : Int32))) a_4) ((nI i) + (1 : Int32)).toNatClampNeg (nI i).toNatClampNeg (((mI (sI S 0 a ((mI S 0 a) + (1 : Int32))) 2 a) - (1 : Int32)) - (nI i)).toNatClampNeg)) 2 a ((mI (sI S 0 a ((mI S 0 a) + (1 : Int32))) 2 a) - (1 : Int32))) w_7 = 1 ∨ mK (sI (rR (sI S 0 a ((mI S 0 a) + (1 : Int32))) a_4 (va_cpy (eR (sI S 0 a ((mI S 0 a) + (1 : Int32))) a_3) (eR (sI S 0 a ((mI S 0 a) + (1 : Int32))) a_4) ((nI i) + (1 : Int32)).toNatClampNeg (nI i).toNatClampNeg (((mI (sI S 0 a ((mI S 0 a) + (1 : Int32))) 2 a) - (1 : Int32)) - (nI i)).toNatClampNeg)) 2 a ((mI (sI S 0 a ((mI S 0 a) + (1 : Int32))) 2 a) - (1 : Int32))) a_6 = 22 ∧ mK (sI (rR (sI S 0 a ((mI S 0 a) + (1 : Int32))) a_4 (va_cpy (eR (sI S 0 a ((mI S 0 a) + (1 : Int32))) a_3) (eR (sI S 0 a ((mI S 0 a) + (1 : Int32))) a_4) ((nI i) + (1 : Int32)).toNatClampNeg (nI i).toNatClampNeg (((mI (sI S 0 a ((mI S 0 a) + (1 : Int32))) 2 a) - (1 : Int32)) - (nI i)).toNatClampNeg)) 2 a ((mI (sI S 0 a ((mI S 0 a) + (1 : Int32))) 2 a) - (1 : Int32))) w_7 = 2 ∨ mK (sI (rR (sI S 0 a ((mI S 0 a) + (1 : Int32))) a_4 (va_cpy (eR (sI S 0 a ((mI S 0 a) + (1 : Int32))) a_3) (eR (sI S 0 a ((mI S 0 a) + (1 : Int32))) a_4) ((nI i) + (1 : Int32)).toNatClampNeg (nI i).toNatClampNeg (((mI (sI S 0 a ((mI S 0 a) + (1 : Int32))) 2 a) - (1 : Int32)) - (nI i)).toNatClampNeg)) 2 a ((mI (sI S 0 a ((mI S 0 a) + (1 : Int32))) 2 a) - (1 : Int32))) a_6 = 23 ∧ mK (sI (rR (sI S 0 a ((mI S 0 a) + (1 : Int32))) a_4 (va_cpy (eR (sI S 0 a ((mI S 0 a) + (1 : Int32))) a_3) (eR (sI S 0 a ((mI S 0 a) + (1 : Int32))) a_4) ((nI i) + (1 : Int32)).toNatClampNeg (nI i).toNatClampNeg (((mI (sI S 0 a ((mI S 0 a) + (1 : Int32))) 2 a) - (1 : Int32)) - (nI i)).toNatClampNeg)) 2 a ((mI (sI S 0 a ((mI S 0 a) + (1 : Int32))) 2 a) - (1 : Int32))) w_7 = 5 ∨ mK (sI (rR (sI S 0 a ((mI S 0 a) + (1 : Int32))) a_4 (va_cpy (eR (sI S 0 a ((mI S 0 a) + (1 : Int32))) a_3) (eR (sI S 0 a ((mI S 0 a) + (1 : Int32))) a_4) ((nI i) + (1 : Int32)).toNatClampNeg (nI i).toNatClampNeg (((mI (sI S 0 a ((mI S 0 a) + (1 : Int32))) 2 a) - (1 : Int32)) - (nI i)).toNatClampNeg)) 2 a ((mI (sI S 0 a ((mI S 0 a) + (1 : Int32))) 2 a) - (1 : Int32))) a_6 = 24 ∧ mK (sI (rR (sI S 0 a ((mI S 0 a) + (1 : Int32))) a_4 (va_cpy (eR (sI S 0 a ((mI S 0 a) + (1 : Int32))) a_3) (eR (sI S 0 a ((mI S 0 a) + (1 : Int32))) a_4) ((nI i) + (1 : Int32)).toNatClampNeg (nI i).toNatClampNeg (((mI (sI S 0 a ((mI S 0 a) + (1 : Int32))) 2 a) - (1 : Int32)) - (nI i)).toNatClampNeg)) 2 a ((mI (sI S 0 a ((mI S 0 a) + (1 : Int32))) 2 a) - (1 : Int32))) w_7 = 11 ∨ mK (sI (rR (sI S 0 a ((mI S 0 a) + (1 : Int32))) a_4 (va_cpy (eR (sI S 0 a ((mI S 0 a) + (1 : Int32))) a_3) (eR (sI S 0 a ((mI S 0 a) + (1 : Int32))) a_4) ((nI i) + (1 : Int32)).toNatClampNeg (nI i).toNatClampNeg (((mI (sI S 0 a ((mI S 0 a) + (1 : Int32))) 2 a) - (1 : Int32)) - (nI i)).toNatClampNeg)) 2 a ((mI (sI S 0 a ((mI S 0 a) + (1 : Int32))) 2 a) - (1 : Int32))) a_6 = 25 ∧ mK (sI (rR (sI S 0 a ((mI S 0 a) + (1 : Int32))) a_4 (va_cpy (eR (sI S 0 a ((mI S 0 a) + (1 : Int32))) a_3) (eR (sI S 0 a ((mI S 0 a) + (1 : Int32))) a_4) ((nI i) + (1 : Int32)).toNatClampNeg (nI i).toNatClampNeg (((mI (sI S 0 a ((mI S 0 a) + (1 : Int32))) 2 a) - (1 : Int32)) - (nI i)).toNatClampNeg)) 2 a ((mI (sI S 0 a ((mI S 0 a) + (1 : Int32))) 2 a) - (1 : Int32))) w_7 = 13 ∨ mK (sI (rR (sI S 0 a ((mI S 0 a) + (1 : Int32))) a_4 (va_cpy (eR (sI S 0 a ((mI S 0 a) + (1 : Int32))) a_3) (eR (sI S 0 a ((mI S 0 a) + (1 : Int32))) a_4) ((nI i) + (1 : Int32)).toNatClampNeg (nI i).toNatClampNeg (((mI (sI S 0 a ((mI S 0 a) + (1 : Int32))) 2 a) - (1 : Int32)) - (nI i)).toNatClampNeg)) 2 a ((mI (sI S 0 a ((mI S 0 a) + (1 : Int32))) 2 a) - (1 : Int32))) a_6 = 26 ∧ (mK (sI (rR (sI S 0 a ((mI S 0 a) + (1 : Int32))) a_4 (va_cpy (eR (sI S 0 a ((mI S 0 a) + (1 : Int32))) a_3) (eR (sI S 0 a ((mI S 0 a) + (1 : Int32))) a_4) ((nI i) + (1 : Int32)).toNatClampNeg (nI i).toNatClampNeg (((mI (sI S 0 a ((mI S 0 a) + (1 : Int32))) 2 a) - (1 : Int32)) - (nI i)).toNatClampNeg)) 2 a ((mI (sI S 0 a ((mI S 0 a) + (1 : Int32))) 2 a) - (1 : Int32))) w_7 = 4 ∨ mK (sI (rR (sI S 0 a ((mI S 0 a) + (1 : Int32))) a_4 (va_cpy (eR (sI S 0 a ((mI S 0 a) + (1 : Int32))) a_3) (eR (sI S 0 a ((mI S 0 a) + (1 : Int32))) a_4) ((nI i) + (1 : Int32)).toNatClampNeg (nI i).toNatClampNeg (((mI (sI S 0 a ((mI S 0 a) + (1 : Int32))) 2 a) - (1 : Int32)) - (nI i)).toNatClampNeg)) 2 a ((mI (sI S 0 a ((mI S 0 a) + (1 : Int32))) 2 a) - (1 : Int32))) w_7 = 5) ∨ mK (sI (rR (sI S 0 a ((mI S 0 a) + (1 : Int32))) a_4 (va_cpy (eR (sI S 0 a ((mI S 0 a) + (1 : Int32))) a_3) (eR (sI S 0 a ((mI S 0 a) + (1 : Int32))) a_4) ((nI i) + (1 : Int32)).toNatClampNeg (nI i).toNatClampNeg (((mI (sI S 0 a ((mI S 0 a) + (1 : Int32))) 2 a) - (1 : Int32)) - (nI i)).toNatClampNeg)) 2 a ((mI (sI S 0 a ((mI S 0 a) + (1 : Int32))) 2 a) - (1 : Int32))) a_6 = 27 ∧ mK (sI (rR (sI S 0 a ((mI S 0 a) + (1 : Int32))) a_4 (va_cpy (eR (sI S 0 a ((mI S 0 a) + (1 : Int32))) a_3) (eR (sI S 0 a ((mI S 0 a) + (1 : Int32))) a_4) ((nI i) + (1 : Int32)).toNatClampNeg (nI i).toNatClampNeg (((mI (sI S 0 a ((mI S 0 a) + (1 : Int32))) 2 a) - (1 : Int32)) - (nI i)).toNatClampNeg)) 2 a ((mI (sI S 0 a ((mI S 0 a) + (1 : Int32))) 2 a) - (1 : Int32))) w_7 = 16 ∨ mK (sI (rR (sI S 0 a ((mI S 0 a) + (1 : Int32))) a_4 (va_cpy (eR (sI S 0 a ((mI S 0 a) + (1 : Int32))) a_3) (eR (sI S 0 a ((mI S 0 a) + (1 : Int32))) a_4) ((nI i) + (1 : Int32)).toNatClampNeg (nI i).toNatClampNeg (((mI (sI S 0 a ((mI S 0 a) + (1 : Int32))) 2 a) - (1 : Int32)) - (nI i)).toNatClampNeg)) 2 a ((mI (sI S 0 a ((mI S 0 a) + (1 : Int32))) 2 a) - (1 : Int32))) a_6 = 28 ∧ mK (sI (rR (sI S 0 a ((mI S 0 a) + (1 : Int32))) a_4 (va_cpy (eR (sI S 0 a ((mI S 0 a) + (1 : Int32))) a_3) (eR (sI S 0 a ((mI S 0 a) + (1 : Int32))) a_4) ((nI i) + (1 : Int32)).toNatClampNeg (nI i).toNatClampNeg (((mI (sI S 0 a ((mI S 0 a) + (1 : Int32))) 2 a) - (1 : Int32)) - (nI i)).toNatClampNeg)) 2 a ((mI (sI S 0 a ((mI S 0 a) + (1 : Int32))) 2 a) - (1 : Int32))) w_7 = 17)) ∧ (([] : List MV) = [] ∧ mret none (sp_alfr a r i d c kk L) [.inr (.inr (some a)), .inr (.inr r), .inl (nI i)] S none (rR (sI (rR (sI S 0 a ((mI S 0 a) + (1 : Int32))) a_4 (va_cpy (eR (sI S 0 a ((mI S 0 a) + (1 : Int32))) a_3) (eR (sI S 0 a ((mI S 0 a) + (1 : Int32))) a_4) ((nI i) + (1 : Int32)).toNatClampNeg (nI i).toNatClampNeg (((mI (sI S 0 a ((mI S 0 a) + (1 : Int32))) 2 a) - (1 : Int32)) - (nI i)).toNatClampNeg)) 2 a ((mI (sI S 0 a ((mI S 0 a) + (1 : Int32))) 2 a) - (1 : Int32))) a_6 (va_up (eR (sI (rR (sI S 0 a ((mI S 0 a) + (1 : Int32))) a_4 (va_cpy (eR (sI S 0 a ((mI S 0 a) + (1 : Int32))) a_3) (eR (sI S 0 a ((mI S 0 a) + (1 : Int32))) a_4) ((nI i) + (1 : Int32)).toNatClampNeg (nI i).toNatClampNeg (((mI (sI S 0 a ((mI S 0 a) + (1 : Int32))) 2 a) - (1 : Int32)) - (nI i)).toNatClampNeg)) 2 a ((mI (sI S 0 a ((mI S 0 a) + (1 : Int32))) 2 a) - (1 : Int32))) a_6) ((mI (sI S 0 a ((mI S 0 a) + (1 : Int32))) 2 a) - (1 : Int32)).toNatClampNeg none)) 0 0)))))))))))))))))
    obtain ⟨hA, h1, rfl⟩ := hp
    have h2 := hA.2.2.2.1
    have a7 := hA.2.2.2.2.2.2.1
    have hcc := hA.2.2.2.2.1
    have hT : AL (sI S 0 a (mI S 0 a + 1)) a d c kk L := hA.mod _
    have kT : Keep (AP S a d c) S (sI S 0 a (mI S 0 a + 1)) := Keep.rf.sI (Or.inl rfl)
    have hmK : mK (sI S 0 a (mI S 0 a + 1)) = mK S := rfl
    refine ⟨hA.1, trivial, hA.1, hA.1, ?_⟩
    generalize sI S 0 a (mI S 0 a + 1) = T at *
    obtain ⟨r1, r2, r3, r4⟩ := hT.row (by omega)
    have hda : d ≠ a := isO_ne r1 hT.1 (by decide)
    rw [hT.2.2.1, show nI L.length - (1 : Int32) = nI (L.length - 1) from pk_sub (b := 1) (by omega)]
    have mem : ∀ y ∈ L.take i ++ L.drop (i + 1), isO T kk y := fun y hy => by
      rw [List.mem_append] at hy
      exact hy.elim (fun z => hT.el (List.mem_of_mem_take z)) (fun z => hT.el (List.mem_of_mem_drop z))
    have hln : (L.take i ++ L.drop (i + 1)).length = L.length - 1 := by rw [List.length_append, List.length_take, List.length_drop]; omega
    refine if_le (by omega) (by omega) (fun h3 => ?_) (fun h3 => ?_)
    · rw [nI_clamp (n := L.length - 1) (by omega)]
      refine ⟨trivial, hT.1, r1.1, by rw [mK_sI, r1.2]; decide, by rw [mK_sI, r1.2]; decide, (by rw [inR, mN_sI, r2]; exact vp_in_nI (by omega) (by omega)), (fun w hw => by cases hw), rfl, trivial, ⟨rfl, ?_, (kT.sI (Or.inl rfl)).rR (Or.inr ⟨rfl, by omega, by rw [← hmK]; exact r1.2⟩)⟩, Nat.le_refl _, Nat.le_refl _⟩
      rw [rR_sI, eR_sI]
      refine hT.write r3 ?_ mem hln (by omega)
      rw [r4, row_rem0 h1 h3]
    · rw [nI_1 i, pk_sub (a := L.length - 1) (by omega), nI_clamp (n := L.length - 1) (by omega), nI_clamp (n := i) (by omega), nI_clamp (n := i + 1) (by omega), nI_clamp (n := L.length - 1 - i) (by omega)]
      refine ⟨rfl, ⟨r1, r1, fun j hj b hb => ?_, nI_pos (by omega), nI_pos (by omega), nI_pos (by omega), by rw [nI_clamp (by omega), nI_clamp (by omega), r2]; omega, by rw [nI_clamp (by omega), nI_clamp (by omega), r2]; omega⟩, Nat.le_refl _, Nat.le_refl _, trivial, hT.1, r1.1, ?_, ?_, (by rw [inR, mN_sI, mN_rR, r2]; exact vp_in_nI (by omega) (by omega)), (fun w hw => by cases hw), rfl, trivial, ⟨rfl, ?_, ((kT.rR (Or.inr ⟨rfl, by omega, by rw [← hmK]; exact r1.2⟩)).sI (Or.inl rfl)).rR (Or.inr ⟨rfl, by omega, by rw [← hmK]; exact r1.2⟩)⟩, Nat.le_refl _, Nat.le_refl _⟩
      · rw [r4] at hb
        have := hT.el (List.mem_of_getElem? hb)
        rcases a7 with z | z
        · exact Or.inl (z ▸ this)
        · exact Or.inr (z ▸ this)
      · rw [mK_sI, mK_rR, r1.2]; decide
      · rw [mK_sI, mK_rR, r1.2]; decide
      · rw [rR_sI, rR_rR, eR_sI, eR_self]
        refine hT.write r3 ?_ mem hln (by omega)
        rw [r4, row_rem h1]
  · exact fun _ _ _ _ _ h => by cases h
theorem u_alfr (l : Launch) : Us l yJx4a65c_fastRemove_b59b0 cJx4a65c_fastRemove_b59b0 4 none 1 32 0 T_alfr := by
  intro Rc Rs av S cs sl K Kx h
  unfold T_alfr at h
  split at h
  · rename_i a_o r i_v
    obtain ⟨a, rfl, h_1⟩ := pa_of h
    obtain ⟨i, rfl, h_2⟩ := h_1
    obtain ⟨d, c, kk, L, hp, hc, hs, hk⟩ := h_2
    refine ⟨(sp_alfr a r i d c kk L), c_alfr l a r i d c kk L, fun _ _ h9 => ⟨_, _, h9.1, h9.2.1.1⟩, ⟨rfl, hp⟩, hc, hs, fun S' h8 => by
      obtain ⟨-, h8⟩ := h8
      exact hk _ h8, fun _ _ q => q.elim⟩
  · exact h.elim
def T_alrm : TR := fun Rc Rs av S cs sl K _Kx => match av with
  | [.inr (.inr a_o), .inl i_v] => pa a_o fun a => (∃ (i : Nat), i_v = nI i ∧ (∃ (d c kk : Nat) (L : List Nat), (AL S a d c kk L ∧ i < L.length) ∧ cs ≤ Rc ∧ sl ≤ Rs ∧ (∀ (S' : MM), (rmP S S' a d c kk (L.take i ++ L.drop (i + 1))) → K (some (.inr (.inr (L[i]?)))) S' cs sl)))
  | _ => False
def sp_alrm (a : Nat) (i : Nat) (d c kk : Nat) (L : List Nat) : Sp := (fun av S => av = [.inr (.inr (some a)), .inl (nI i)] ∧ (AL S a d c kk L ∧ i < L.length), fun _ S => 0, fun _ S => 0, fun _ S rv S' => rv = (some (.inr (.inr (L[i]?)))) ∧ (rmP S S' a d c kk (L.take i ++ L.drop (i + 1))), fun _ _ _ _ => False)
def tJx4a65c_remove_915e3 : CD := [(0, .iload_n 1), (1, .aload_n 0), (2, .getfield 48), (5, .invokestatic 118), (8, .pop), (9, .aload_n 0), (10, .getfield 9), (13, .astore_n 2), (14, .aload_n 2), (15, .iload_n 1), (16, .aaload), (17, .astore_n 3), (18, .aload_n 0), (19, .aload_n 2), (20, .iload_n 1), (21, .invokevirtual 144), (24, .aload_n 3), (25, .areturn)]
set_option maxRecDepth 100000 in
theorem kJx4a65c_remove_915e3 : chk cJx4a65c_remove_915e3 tJx4a65c_remove_915e3 = true := by decide +kernel
theorem vJx4a65c_remove_915e3_118 : ∀ w ∈ ([.methodLink RJx4a65c 118 yJ15_checkIndex_7cf53, .static yJ15_checkIndex_7cf53, .initialized yJ15_checkIndex_7cf53.cls, .code yJ15_checkIndex_7cf53 cJ15_checkIndex_7cf53 2 (some .int)] : List Cond), w ∈ lw_good := List.forall_mem_cons.mpr ⟨mgd 680 (by decide +kernel) (by decide +kernel), List.forall_mem_cons.mpr ⟨mgd 681 (by decide +kernel) (by decide +kernel), List.forall_mem_cons.mpr ⟨mgd 146 (by decide +kernel) (by decide +kernel), List.forall_mem_cons.mpr ⟨mgd 682 (by decide +kernel) (by decide +kernel), fun _ h => absurd h List.not_mem_nil⟩⟩⟩⟩
theorem vJx4a65c_remove_915e3_144 : ∀ w ∈ ([.methodLink RJx4a65c 144 yJx4a65c_fastRemove_b59b0, .instanceMethod yJx4a65c_fastRemove_b59b0, .selects yJx4a65c_fastRemove_b59b0.cls yJx4a65c_fastRemove_b59b0 yJx4a65c_fastRemove_b59b0, .initialized yJx4a65c_fastRemove_b59b0.cls, .code yJx4a65c_fastRemove_b59b0 cJx4a65c_fastRemove_b59b0 4 none] : List Cond), w ∈ lw_good := List.forall_mem_cons.mpr ⟨mgd 1019 (by decide +kernel) (by decide +kernel), List.forall_mem_cons.mpr ⟨mgd 1021 (by decide +kernel) (by decide +kernel), List.forall_mem_cons.mpr ⟨mgd 14 (by decide +kernel) (by decide +kernel), List.forall_mem_cons.mpr ⟨mgd 130 (by decide +kernel) (by decide +kernel), List.forall_mem_cons.mpr ⟨mgd 1022 (by decide +kernel) (by decide +kernel), fun _ h => absurd h List.not_mem_nil⟩⟩⟩⟩⟩
set_option maxRecDepth 100000 in
set_option maxHeartbeats 2000000 in
theorem c_alrm (l : Launch) : ∀ (a : Nat) (i : Nat) (d c kk : Nat) (L : List Nat), Ct l yJx4a65c_remove_915e3 cJx4a65c_remove_915e3 4 (some (.object "java/lang/Object")) 2 55 (sp_alrm a i d c kk L) := by
  intro a i d c kk L
  refine Ct.of (fJx4a65c, nJx4a65c, aJx4a65c, iJx4a65c, lJx4a65c, [(118, 2, 2, 1, T_chk), (144, 0, 3, 0, T_alfr)], qJx4a65c, gJx4a65c, []) false tJx4a65c_remove_915e3 (fun _ _ _ => none) (by decide) (by decide) kJx4a65c_remove_915e3 ⟨_, _, rfl⟩ fJx4a65c_ok nJx4a65c_ok aJx4a65c_ok iJx4a65c_ok lJx4a65c_ok (fun p e R s m args below meth c Q D cy z r A C hR1 hR2 => List.forall_mem_cons.mpr ⟨cOK_use (fun _ _ _ _ _ _ _ _ h => let ⟨sp, h1, _, h3⟩ := u_chk l _ _ _ _ _ _ _ _ h; ⟨sp, cOK_S C h1 vJx4a65c_remove_915e3_118 ⟨by decide, by decide, by decide +kernel⟩ ⟨by rw [hR1]; decide, by rw [hR2]; decide⟩, h3⟩), List.forall_mem_cons.mpr ⟨cOK_use (fun _ _ _ _ _ _ _ _ h => let ⟨sp, h1, h2, h3⟩ := u_alfr l _ _ _ _ _ _ _ _ h; ⟨sp, cOK_V C h1 vJx4a65c_remove_915e3_144 ⟨by decide, by decide, by decide +kernel⟩ ⟨by rw [hR1]; decide, by rw [hR2]; decide⟩ (k := 0) (T := TJx4a65c) (N := 3) rfl (by decide) h2, h3⟩), fun _ h => absurd h List.not_mem_nil⟩⟩) qJx4a65c_ok gJx4a65c_ok rfl ?_ ?_
  · rintro _ S ⟨rfl, hp⟩
    refine ⟨Nat.le_of_ble_eq_true rfl, 300, ?_⟩
    show (isO S 0 a ∧ (2 = 2 ∧ (∃ (i_1 : Nat), nI i = nI i_1 ∧ (∃ (n_2 : Nat), mI S 2 a = nI n_2 ∧ ((i_1 < n_2 ∧ n_2 < 2147483648) ∧ 0 ≤ 0 ∧ 0 ≤ 0 ∧ ((isO S 0 a ∧ (pa (mR S 1 a) fun a_4 => a_4 ∈ mL S ∧ ¬ mK S a_4 < 21 ∧ mK S a_4 < 29 ∧ inR S a_4 (nI i) ∧ (0 = 0 ∧ (∃ (i_5 : Nat), nI i = nI i_5 ∧ (∃ (d_6 c_7 kk_8 : Nat) (L_9 : List Nat), (AL S a d_6 c_7 kk_8 L_9 ∧ i_5 < L_9.length ∧ (mR S 1 a) = some d_6) ∧ 0 ≤ 0 ∧ 0 ≤ 0 ∧ (∀ (S_10 : MM), (rmP S S_10 a d_6 c_7 kk_8 (L_9.take i_5 ++ L_9.drop (i_5 + 1))) → (([] : List MV) = [] ∧ mret (some (.object "java/lang/Object")) (sp_alrm a i d c kk L) [.inr (.inr (some a)), .inl (nI i)] S (some (.inr (.inr (eR S a_4 (nI i).toNatClampNeg)))) S_10 0 0)))))))))))))
    obtain ⟨hA, h1⟩ := hp
    have h2 := hA.2.2.2.1
    have h3 := hA.2.2.2.2.1
    obtain ⟨r1, r2, r3, r4⟩ := hA.row (by omega)
    rw [hA.2.1]
    refine ⟨hA.1, rfl, i, rfl, L.length, hA.2.2.1, ⟨h1, by omega⟩, Nat.le_refl _, Nat.le_refl _, hA.1, r1.1, by rw [r1.2]; decide, by rw [r1.2]; decide, vp_in_nI (by omega) (by omega), rfl, i, rfl, d, c, kk, L, ⟨hA, h1, rfl⟩, Nat.le_refl _, Nat.le_refl _, fun S2 hS => ⟨rfl, trivial, ⟨?_, hS⟩, Nat.le_refl _, Nat.le_refl _⟩⟩
    rw [r4, nI_clamp (by omega)]
  · exact fun _ _ _ _ _ h => by cases h
theorem u_alrm (l : Launch) : Us l yJx4a65c_remove_915e3 cJx4a65c_remove_915e3 4 (some (.object "java/lang/Object")) 2 55 0 T_alrm := by
  intro Rc Rs av S cs sl K Kx h
  unfold T_alrm at h
  split at h
  · rename_i a_o i_v
    obtain ⟨a, rfl, h_1⟩ := pa_of h
    obtain ⟨i, rfl, h_2⟩ := h_1
    obtain ⟨d, c, kk, L, hp, hc, hs, hk⟩ := h_2
    refine ⟨(sp_alrm a i d c kk L), c_alrm l a i d c kk L, fun _ _ h9 => ⟨_, _, h9.1, h9.2.1.1⟩, ⟨rfl, hp⟩, hc, hs, fun v9 S' h8 => by
      obtain ⟨h7, h8⟩ := h8
      cases h7
      exact hk _ h8, fun _ _ q => q.elim⟩
  · exact h.elim
