/-! ===== THE LEAVES: Event's reads ===== -/
theorem pa_i {o : Option Nat} {a : Nat} {k : Nat → Prop} (h : o = some a) (h2 : k a) : pa o k := by rw [h]; exact h2
def tX4_inserts : CD := [(0, .aload_n 0), (1, .getfield 58), (4, .iconst (-1)), (5, .if_icmp .eq 7), (8, .iconst 1), (9, .goto 4), (12, .iconst 0), (13, .ireturn)]
set_option maxRecDepth 100000 in
theorem kX4_inserts : chk cX4_inserts tX4_inserts = true := by decide +kernel
def sp_inserts : Sp := sp0 (fun av S => ∃ a, av = [.inr (.inr (some a))] ∧ isO S 5 a) (fun av S r S' => ∀ a, av = [.inr (.inr (some a))] → r = some (.inl (if mI S 505 a = -1 then 0 else 1)) ∧ S' = S)
theorem c_X4_inserts (l : Launch) : Ct l yX4_inserts cX4_inserts 1 (some .boolean) 0 0 sp_inserts := by
  refine Ct.of (fX4, nX4, aX4, iX4, lX4, [], qX4, gX4, []) false tX4_inserts (fun _ _ _ => none) (by decide) (by decide) kX4_inserts ⟨_, _, rfl⟩ fX4_ok nX4_ok aX4_ok iX4_ok lX4_ok (fun _ _ _ _ _ _ _ _ _ _ _ _ _ _ _ _ _ _ => no_all) qX4_ok gX4_ok rfl ?_ ?_
  · rintro av S ⟨a, rfl, h1⟩
    refine ⟨Nat.le_of_ble_eq_true rfl, 30, ?_⟩
    show (isO S 5 a ∧ (((mI S 505 a) = (-1 : Int32) → (([] : List MV) = [] ∧ mret (some .boolean) sp_inserts [.inr (.inr (some a))] S (some (.inl (0 : Int32))) S 0 0)) ∧ (¬ (mI S 505 a) = (-1 : Int32) → (([] : List MV) = [] ∧ mret (some .boolean) sp_inserts [.inr (.inr (some a))] S (some (.inl (1 : Int32))) S 0 0))))
    exact ⟨h1, fun h => ⟨rfl, mret0 (Or.inl rfl) (fun _ e => by cases e; rw [if_pos h]; exact ⟨rfl, rfl⟩)⟩, fun h => ⟨rfl, mret0 (Or.inr rfl) (fun _ e => by cases e; rw [if_neg h]; exact ⟨rfl, rfl⟩)⟩⟩
  · exact fun _ _ _ _ _ h => by cases h
def tX4_isVisible : CD := [(0, .aload_n 0), (1, .getfield 34), (4, .iconst (-1)), (5, .if_icmp .ne 7), (8, .iconst 1), (9, .goto 4), (12, .iconst 0), (13, .ireturn)]
set_option maxRecDepth 100000 in
theorem kX4_isVisible : chk cX4_isVisible tX4_isVisible = true := by decide +kernel
def sp_isVisible : Sp := sp0 (fun av S => ∃ a, av = [.inr (.inr (some a))] ∧ isO S 5 a) (fun av S r S' => ∀ a, av = [.inr (.inr (some a))] → r = some (.inl (if mI S 514 a = -1 then 1 else 0)) ∧ S' = S)
theorem c_X4_isVisible (l : Launch) : Ct l yX4_isVisible cX4_isVisible 1 (some .boolean) 0 0 sp_isVisible := by
  refine Ct.of (fX4, nX4, aX4, iX4, lX4, [], qX4, gX4, []) false tX4_isVisible (fun _ _ _ => none) (by decide) (by decide) kX4_isVisible ⟨_, _, rfl⟩ fX4_ok nX4_ok aX4_ok iX4_ok lX4_ok (fun _ _ _ _ _ _ _ _ _ _ _ _ _ _ _ _ _ _ => no_all) qX4_ok gX4_ok rfl ?_ ?_
  · rintro av S ⟨a, rfl, h1⟩
    refine ⟨Nat.le_of_ble_eq_true rfl, 30, ?_⟩
    show (isO S 5 a ∧ ((¬ (mI S 514 a) = (-1 : Int32) → (([] : List MV) = [] ∧ mret (some .boolean) sp_isVisible [.inr (.inr (some a))] S (some (.inl (0 : Int32))) S 0 0)) ∧ ((mI S 514 a) = (-1 : Int32) → (([] : List MV) = [] ∧ mret (some .boolean) sp_isVisible [.inr (.inr (some a))] S (some (.inl (1 : Int32))) S 0 0))))
    exact ⟨h1, fun h => ⟨rfl, mret0 (Or.inl rfl) (fun _ e => by cases e; rw [if_neg h]; exact ⟨rfl, rfl⟩)⟩, fun h => ⟨rfl, mret0 (Or.inr rfl) (fun _ e => by cases e; rw [if_pos h]; exact ⟨rfl, rfl⟩)⟩⟩
  · exact fun _ _ _ _ _ h => by cases h
def tX4_id : CD := [(0, .aload_n 0), (1, .getfield 40), (4, .getfield 64), (7, .i2l), (8, .bipush 32), (10, .lshl), (11, .aload_n 0), (12, .getfield 44), (15, .i2l), (16, .ladd), (17, .lreturn)]
set_option maxRecDepth 100000 in
theorem kX4_id : chk cX4_id tX4_id = true := by decide +kernel
/-- an event's id as its agent's and its own number -/
def evId (S : MM) (a g : Nat) : Int64 := (mI S 100 g).toInt64 <<< ((32 : Int32).toInt64 &&& 63) + (mI S 501 a).toInt64
def sp_id : Sp := sp0 (fun av S => ∃ a g, av = [.inr (.inr (some a))] ∧ isO S 5 a ∧ mR S 500 a = some g ∧ isO S 1 g) (fun av S r S' => ∀ a g, av = [.inr (.inr (some a))] → mR S 500 a = some g → r = some (.inr (.inl (evId S a g))) ∧ S' = S)
theorem c_X4_id (l : Launch) : Ct l yX4_id cX4_id 1 (some .long) 0 0 sp_id := by
  refine Ct.of (fX4, nX4, aX4, iX4, lX4, [], qX4, gX4, []) false tX4_id (fun _ _ _ => none) (by decide) (by decide) kX4_id ⟨_, _, rfl⟩ fX4_ok nX4_ok aX4_ok iX4_ok lX4_ok (fun _ _ _ _ _ _ _ _ _ _ _ _ _ _ _ _ _ _ => no_all) qX4_ok gX4_ok rfl ?_ ?_
  · rintro av S ⟨a, g, rfl, h1, h2, h3⟩
    refine ⟨Nat.le_of_ble_eq_true rfl, 30, ?_⟩
    show (isO S 5 a ∧ (pa (mR S 500 a) fun a_1 => isO S 1 a_1 ∧ (isO S 5 a ∧ (([] : List MV) = [] ∧ mret (some .long) sp_id [.inr (.inr (some a))] S (some (.inr (.inl ((((mI S 100 a_1).toInt64) <<< ((32 : Int32).toInt64 &&& 63)) + ((mI S 501 a).toInt64))))) S 0 0))))
    exact ⟨h1, pa_i h2 ⟨h3, h1, rfl, mret0 trivial (fun _ _ e e2 => by cases e; rw [h2] at e2; cases e2; exact ⟨rfl, rfl⟩)⟩⟩
  · exact fun _ _ _ _ _ h => by cases h
def tX4_ancestorsOf : CD := [(0, .iload_n 1), (1, .aload_n 0), (2, .getfield 40), (5, .getfield 69), (8, .if_icmp .ne 10), (11, .aload_n 0), (12, .getfield 44), (15, .goto 9), (18, .aload_n 0), (19, .getfield 54), (22, .iload_n 1), (23, .iaload), (24, .ireturn)]
set_option maxRecDepth 100000 in
theorem kX4_ancestorsOf : chk cX4_ancestorsOf tX4_ancestorsOf = true := by decide +kernel
/-- how many events of a slot's agent are ancestors -/
def evAnc (S : MM) (a g b : Nat) (x : Int32) : Int32 := if x = mI S 101 g then mI S 501 a else eI S b x.toNatClampNeg
def sp_anc : Sp := sp0 (fun av S => ∃ a g b x, av = [.inr (.inr (some a)), .inl x] ∧ isO S 5 a ∧ mR S 500 a = some g ∧ isO S 1 g ∧ mR S 504 a = some b ∧ isO S 17 b ∧ (¬ x = mI S 101 g → inR S b x)) (fun av S r S' => ∀ a g b x, av = [.inr (.inr (some a)), .inl x] → mR S 500 a = some g → mR S 504 a = some b → r = some (.inl (evAnc S a g b x)) ∧ S' = S)
theorem c_X4_ancestorsOf (l : Launch) : Ct l yX4_ancestorsOf cX4_ancestorsOf 2 (some .int) 0 0 sp_anc := by
  refine Ct.of (fX4, nX4, aX4, iX4, lX4, [], qX4, gX4, []) false tX4_ancestorsOf (fun _ _ _ => none) (by decide) (by decide) kX4_ancestorsOf ⟨_, _, rfl⟩ fX4_ok nX4_ok aX4_ok iX4_ok lX4_ok (fun _ _ _ _ _ _ _ _ _ _ _ _ _ _ _ _ _ _ => no_all) qX4_ok gX4_ok rfl ?_ ?_
  · rintro av S ⟨a, g, b, x, rfl, h1, h2, h3, h4, h5, h6⟩
    refine ⟨Nat.le_of_ble_eq_true rfl, 30, ?_⟩
    show (isO S 5 a ∧ (pa (mR S 500 a) fun a_1 => isO S 1 a_1 ∧ ((¬ x = (mI S 101 a_1) → (isO S 5 a ∧ (pa (mR S 504 a) fun a_2 => ∃ v_3 : Int32, (isO S 17 a_2 ∧ inR S a_2 x ∧ v_3 = eI S a_2 x.toNatClampNeg ∨ a_2 = (mQ S).1 ∧ vp_in x 16 ∧ v_3 = mRem x.toNatClampNeg) ∧ (([] : List MV) = [] ∧ mret (some .int) sp_anc [.inr (.inr (some a)), .inl x] S (some (.inl v_3)) S 0 0)))) ∧ (x = (mI S 101 a_1) → (isO S 5 a ∧ (([] : List MV) = [] ∧ mret (some .int) sp_anc [.inr (.inr (some a)), .inl x] S (some (.inl (mI S 501 a))) S 0 0))))))
    refine ⟨h1, pa_i h2 ⟨h3, fun h => ⟨h1, pa_i h4 ⟨_, Or.inl ⟨h5, h6 h, rfl⟩, rfl, mret0 trivial (fun _ _ _ _ e e2 e3 => ?_)⟩⟩, fun h => ⟨h1, rfl, mret0 trivial (fun _ _ _ _ e e2 e3 => ?_)⟩⟩⟩
    · cases e; rw [h2] at e2; rw [h4] at e3; cases e2; cases e3; rw [evAnc, if_neg h]; exact ⟨rfl, rfl⟩
    · cases e; rw [h2] at e2; rw [h4] at e3; cases e2; cases e3; rw [evAnc, if_pos h]; exact ⟨rfl, rfl⟩
  · exact fun _ _ _ _ _ h => by cases h
def tX4_standsIn : CD := [(0, .aload_n 0), (1, .getfield 47), (4, .iload_n 1), (5, .if_icmp .ge 23), (8, .aload_n 0), (9, .getfield 34), (12, .iconst (-1)), (13, .if_icmp .eq 11), (16, .aload_n 0), (17, .getfield 34), (20, .iload_n 1), (21, .if_icmp .lt 7), (24, .iconst 1), (25, .goto 4), (28, .iconst 0), (29, .ireturn)]
set_option maxRecDepth 100000 in
theorem kX4_standsIn : chk cX4_standsIn tX4_standsIn = true := by decide +kernel
def sp_standsIn : Sp := sp0 (fun av S => ∃ a x, av = [.inr (.inr (some a)), .inl x] ∧ isO S 5 a) (fun av S r S' => ∀ a x, av = [.inr (.inr (some a)), .inl x] → r = some (.inl (if x ≤ mI S 502 a then 0 else if mI S 514 a = -1 then 1 else if mI S 514 a < x then 0 else 1)) ∧ S' = S)
theorem c_X4_standsIn (l : Launch) : Ct l yX4_standsIn cX4_standsIn 2 (some .boolean) 0 0 sp_standsIn := by
  refine Ct.of (fX4, nX4, aX4, iX4, lX4, [], qX4, gX4, []) false tX4_standsIn (fun _ _ _ => none) (by decide) (by decide) kX4_standsIn ⟨_, _, rfl⟩ fX4_ok nX4_ok aX4_ok iX4_ok lX4_ok (fun _ _ _ _ _ _ _ _ _ _ _ _ _ _ _ _ _ _ => no_all) qX4_ok gX4_ok rfl ?_ ?_
  · rintro av S ⟨a, x, rfl, h1⟩
    refine ⟨Nat.le_of_ble_eq_true rfl, 30, ?_⟩
    show (isO S 5 a ∧ ((x ≤ (mI S 502 a) → (([] : List MV) = [] ∧ mret (some .boolean) sp_standsIn [.inr (.inr (some a)), .inl x] S (some (.inl (0 : Int32))) S 0 0)) ∧ (¬ x ≤ (mI S 502 a) → (isO S 5 a ∧ (((mI S 514 a) = (-1 : Int32) → (([] : List MV) = [] ∧ mret (some .boolean) sp_standsIn [.inr (.inr (some a)), .inl x] S (some (.inl (1 : Int32))) S 0 0)) ∧ (¬ (mI S 514 a) = (-1 : Int32) → (isO S 5 a ∧ (((mI S 514 a) < x → (([] : List MV) = [] ∧ mret (some .boolean) sp_standsIn [.inr (.inr (some a)), .inl x] S (some (.inl (0 : Int32))) S 0 0)) ∧ (¬ (mI S 514 a) < x → (([] : List MV) = [] ∧ mret (some .boolean) sp_standsIn [.inr (.inr (some a)), .inl x] S (some (.inl (1 : Int32))) S 0 0))))))))))
    refine ⟨h1, fun g1 => ⟨rfl, mret0 (Or.inl rfl) (fun _ _ e => ?_)⟩, fun g1 => ⟨h1, fun g2 => ⟨rfl, mret0 (Or.inr rfl) (fun _ _ e => ?_)⟩, fun g2 => ⟨h1, fun g3 => ⟨rfl, mret0 (Or.inl rfl) (fun _ _ e => ?_)⟩, fun g3 => ⟨rfl, mret0 (Or.inr rfl) (fun _ _ e => ?_)⟩⟩⟩⟩
    · cases e; rw [if_pos g1]; exact ⟨rfl, rfl⟩
    · cases e; rw [if_neg g1, if_pos g2]; exact ⟨rfl, rfl⟩
    · cases e; rw [if_neg g1, if_neg g2, if_pos g3]; exact ⟨rfl, rfl⟩
    · cases e; rw [if_neg g1, if_neg g2, if_neg g3]; exact ⟨rfl, rfl⟩
  · exact fun _ _ _ _ _ h => by cases h
def tX4_follows : CD := [(0, .aload_n 1), (1, .getfield 44), (4, .aload_n 0), (5, .aload_n 1), (6, .getfield 40), (9, .getfield 69), (12, .invokevirtual 72), (15, .if_icmp .ge 7), (18, .iconst 1), (19, .goto 4), (22, .iconst 0), (23, .ireturn)]
set_option maxRecDepth 100000 in
theorem kX4_follows : chk cX4_follows tX4_follows = true := by decide +kernel
/-- 'this' (a, of agent g) follows another event (o, of agent h) -/
def evFol (S : MM) (a g b o h : Nat) : Int32 := if evAnc S a g b (mI S 101 h) ≤ mI S 501 o then 0 else 1
def sp_follows : Sp := sp0 (fun av S => ∃ a g b o h, av = [.inr (.inr (some a)), .inr (.inr (some o))] ∧ isO S 5 a ∧ isO S 5 o ∧ mR S 500 o = some h ∧ isO S 1 h ∧ mR S 500 a = some g ∧ isO S 1 g ∧ mR S 504 a = some b ∧ isO S 17 b ∧ (¬ mI S 101 h = mI S 101 g → inR S b (mI S 101 h))) (fun av S r S' => ∀ a g b o h, av = [.inr (.inr (some a)), .inr (.inr (some o))] → mR S 500 a = some g → mR S 504 a = some b → mR S 500 o = some h → r = some (.inl (evFol S a g b o h)) ∧ S' = S)
theorem recv_anc : ∀ av S, sp_anc.1 av S → ∃ a vs, av = .inr (.inr (some a)) :: vs ∧ isO S 5 a := fun _ _ ⟨a, _, _, x, e, h, _⟩ => ⟨a, [.inl x], e, h⟩
theorem wX4_follows_72 : ∀ w ∈ ([.methodLink RX4 72 yX4_ancestorsOf, .instanceMethod yX4_ancestorsOf, .selects yX4_ancestorsOf.cls yX4_ancestorsOf yX4_ancestorsOf, .initialized yX4_ancestorsOf.cls, .code yX4_ancestorsOf cX4_ancestorsOf 2 (some .int)] : List Cond), w ∈ lw_good := List.forall_mem_cons.mpr ⟨mgd 1227 (by decide +kernel) (by decide +kernel), List.forall_mem_cons.mpr ⟨mgd 884 (by decide +kernel) (by decide +kernel), List.forall_mem_cons.mpr ⟨mgd 885 (by decide +kernel) (by decide +kernel), List.forall_mem_cons.mpr ⟨mgd 126 (by decide +kernel) (by decide +kernel), List.forall_mem_cons.mpr ⟨mgd 886 (by decide +kernel) (by decide +kernel), fun _ h => absurd h List.not_mem_nil⟩⟩⟩⟩⟩
theorem c_X4_follows (l : Launch) : Ct l yX4_follows cX4_follows 2 (some .boolean) 1 21 sp_follows := by
  have c_X4_ancestorsOf_l := c_X4_ancestorsOf l
  refine Ct.of (fX4, nX4, aX4, iX4, lX4, [(72, 0, 2, 1, Told 1 sp_anc)], qX4, gX4, []) false tX4_follows (fun _ _ _ => none) (by decide) (by decide) kX4_follows ⟨_, _, rfl⟩ fX4_ok nX4_ok aX4_ok iX4_ok lX4_ok (fun p e R s m args below meth c Q D cy z r A C hR1 hR2 => List.forall_mem_cons.mpr ⟨cOK_old (cOK_V C (c_X4_ancestorsOf_l) wX4_follows_72 ⟨by decide, by decide, by decide +kernel⟩ ⟨by rw [hR1]; decide, by rw [hR2]; decide⟩ (k := 5) (T := TX4) (N := 16) rfl (by decide) recv_anc), fun _ h => absurd h List.not_mem_nil⟩) qX4_ok gX4_ok rfl ?_ ?_
  · rintro av S ⟨a, g, b, o, h, rfl, h1, h2, h3, h4, h5, h6, h7, h8, h9⟩
    refine ⟨Nat.le_of_ble_eq_true rfl, 30, ?_⟩
    show (isO S 5 o ∧ (isO S 5 o ∧ (pa (mR S 500 o) fun a_1 => isO S 1 a_1 ∧ (0 = 0 ∧ sp_anc.1 [.inr (.inr (some a)), .inl (mI S 101 a_1)] S ∧ 0 ≤ 0 ∧ 0 ≤ 0 ∧ (∀ (x_3 : Int32) (S_2 : MM), sp_anc.2.2.2.1 [.inr (.inr (some a)), .inl (mI S 101 a_1)] S (some (.inl x_3)) S_2 → ((x_3 ≤ (mI S 501 o) → (([] : List MV) = [] ∧ mret (some .boolean) sp_follows [.inr (.inr (some a)), .inr (.inr (some o))] S (some (.inl (0 : Int32))) S_2 0 0)) ∧ (¬ x_3 ≤ (mI S 501 o) → (([] : List MV) = [] ∧ mret (some .boolean) sp_follows [.inr (.inr (some a)), .inr (.inr (some o))] S (some (.inl (1 : Int32))) S_2 0 0)))) ∧ ∀ (E_5 : Nat) (S_4 : MM), False → False))))
    refine ⟨h2, h2, pa_i h3 ⟨h4, rfl, ⟨a, g, b, _, rfl, h1, h5, h6, h7, h8, h9⟩, Nat.le_refl _, Nat.le_refl _, fun x S1 hp => ?_, fun _ _ q => q⟩⟩
    obtain ⟨e1, e2⟩ := hp a g b _ rfl h5 h7
    cases e1
    subst e2
    refine ⟨fun q => ⟨rfl, mret0 (Or.inl rfl) (fun _ _ _ _ _ e k1 k2 k3 => ?_)⟩, fun q => ⟨rfl, mret0 (Or.inr rfl) (fun _ _ _ _ _ e k1 k2 k3 => ?_)⟩⟩
    · cases e; rw [h5] at k1; rw [h7] at k2; rw [h3] at k3; cases k1; cases k2; cases k3; rw [evFol, if_pos q]; exact ⟨rfl, rfl⟩
    · cases e; rw [h5] at k1; rw [h7] at k2; rw [h3] at k3; cases k1; cases k2; cases k3; rw [evFol, if_neg q]; exact ⟨rfl, rfl⟩
  · exact fun _ _ _ _ _ h => by cases h
