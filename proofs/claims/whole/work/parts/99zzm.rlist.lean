/-! ===== The reference: list (the agents' table) ===== -/
/-- the agents listed so far -/
def lsP (S : MM) (t : Nat) (z : Nat → Nat) (L : List Nat) : Prop := mI S 1532 t = nI L.length ∧ (∀ j, j < L.length → eI S (z 31) j = nI (L.getD j 0)) ∧ L.Nodup ∧ ∀ a, a ∈ L → a < 256
def lsX (L : List Nat) (a : Nat) : List Nat := if a ∈ L then L else L ++ [a]
def lsQ (S S' : MM) (F : Nat → Nat × Nat) (t : Nat) (z : Nat → Nat) (Y : Nat → Nat → Nat) (R : Rb) (kz : Nat → Nat) (L : List Nat) (a : Nat) : Prop := MD S' F t z Y R kz ∧ lsP S' t z (lsX L a) ∧ Keep (fun c => c = t ∨ c = z 31) S S' ∧ (∀ f, f ≠ 1532 → mI S' f t = mI S f t) ∧ ∀ f, mR S' f t = mR S f t
def I_lst (t a : Nat) (L : List Nat) (S : MM) (k : Nat) : KT := fun lo st S1 cs sl => ∃ j, j + k = L.length ∧ (∀ n, n < j → L.getD n 0 ≠ a) ∧ lo = [(0, .inr (.inr (some t))), (1, .inl (nI a)), (2, .inl (nI j))] ∧ st = [] ∧ S = S1 ∧ cs = 0 ∧ sl = 0
def T_rlst : TR := fun Rc Rs av S cs sl K _Kx => match av with
  | [.inr (.inr t_o), .inl a_v] => pa t_o fun t => (∃ (a : Nat), a_v = nI a ∧ (∃ (F : Nat → Nat × Nat) (z : Nat → Nat) (Y : Nat → Nat → Nat) (R : Rb) (kz : Nat → Nat) (L : List Nat), (MD S F t z Y R kz ∧ lsP S t z L ∧ a < 256 ∧ L.length ≤ 256) ∧ cs ≤ Rc ∧ sl ≤ Rs ∧ (∀ (v : Int32) (S' : MM), (∃ j, v = nI j ∧ j < (lsX L a).length ∧ (lsX L a).getD j 0 = a) ∧ (lsQ S S' F t z Y R kz L a) → K (some (.inl v)) S' cs sl)))
  | _ => False
def sp_rlst (t : Nat) (a : Nat) (F : Nat → Nat × Nat) (z : Nat → Nat) (Y : Nat → Nat → Nat) (R : Rb) (kz : Nat → Nat) (L : List Nat) : Sp := (fun av S => av = [.inr (.inr (some t)), .inl (nI a)] ∧ (MD S F t z Y R kz ∧ lsP S t z L ∧ a < 256 ∧ L.length ≤ 256), fun _ S => 0, fun _ S => 0, fun _ S rv S' => ∃ v, rv = (some (.inl v)) ∧ (∃ j, v = nI j ∧ j < (lsX L a).length ∧ (lsX L a).getD j 0 = a) ∧ (lsQ S S' F t z Y R kz L a), fun _ _ _ _ => False)
def tX14_list : CD := [(0, .iconst 0), (1, .istore_n 2), (2, .iload_n 2), (3, .aload_n 0), (4, .getfield 332), (7, .if_icmp .ge 21), (10, .aload_n 0), (11, .getfield 94), (14, .iload_n 2), (15, .iaload), (16, .iload_n 1), (17, .if_icmp .ne 5), (20, .iload_n 2), (21, .ireturn), (22, .iinc 2 1), (25, .goto (-23)), (28, .aload_n 0), (29, .getfield 94), (32, .aload_n 0), (33, .getfield 332), (36, .iload_n 1), (37, .iastore), (38, .aload_n 0), (39, .dup), (40, .getfield 332), (43, .iconst 1), (44, .iadd), (45, .putfield 332), (48, .aload_n 0), (49, .getfield 332), (52, .iconst 1), (53, .isub), (54, .ireturn)]
set_option maxRecDepth 100000 in
theorem kX14_list : chk cX14_list tX14_list = true := by decide +kernel

set_option maxRecDepth 100000 in
set_option maxHeartbeats 2000000 in
theorem c_rlst (l : Launch) : ∀ (t : Nat) (a : Nat) (F : Nat → Nat × Nat) (z : Nat → Nat) (Y : Nat → Nat → Nat) (R : Rb) (kz : Nat → Nat) (L : List Nat), Ct l yX14_list cX14_list 3 (some .int) 0 0 (sp_rlst t a F z Y R kz L) := by
  intro t a F z Y R kz L
  refine Ct.of (fX14, nX14, aX14, iX14, lX14, [], qX14, gX14, []) false tX14_list (fun _ S => look [(2, ([0,1,2], I_lst t a L S))]) (by decide) (by decide) kX14_list ⟨_, _, rfl⟩ fX14_ok nX14_ok aX14_ok iX14_ok lX14_ok (fun _ _ _ _ _ _ _ _ _ _ _ _ _ _ _ _ _ _ => no_all) qX14_ok gX14_ok rfl ?_ ?_
  · rintro _ S ⟨rfl, hp⟩
    refine ⟨Nat.le_of_ble_eq_true rfl, 300, ?_⟩
    show (∃ k1, I_lst t a L S k1 [(0, .inr (.inr (some t))), (1, .inl (nI a)), (2, .inl (0 : Int32))] [] S 0 0)
    exact ⟨L.length, 0, Nat.zero_add _, fun n hn => absurd hn (Nat.not_lt_zero n), rfl, rfl, rfl, rfl, rfl⟩
  · intro av S hpre pc I hI k lo st S1 cs sl h
    obtain ⟨rfl, hp⟩ := hpre
    have hm := look_in hI
    rw [List.mem_singleton] at hm
    cases hm
    obtain ⟨j, hj, hall, rfl, rfl, rfl, rfl, rfl⟩ := h
    refine ⟨300, ?_⟩
    show (isO S 15 t ∧ (((mI S 1532 t) ≤ (nI j) → (isO S 15 t ∧ (isO S 15 t ∧ (pa (mR S 1531 t) fun a_1 => isO S 17 a_1 ∧ inR S a_1 (mI S 1532 t) ∧ (isO (rI S a_1 (upd (eI S a_1) (mI S 1532 t).toNatClampNeg (nI a))) 15 t ∧ (True ∧ (isO (rI S a_1 (upd (eI S a_1) (mI S 1532 t).toNatClampNeg (nI a))) 15 t ∧ (isO (sI (rI S a_1 (upd (eI S a_1) (mI S 1532 t).toNatClampNeg (nI a))) 1532 t ((mI (rI S a_1 (upd (eI S a_1) (mI S 1532 t).toNatClampNeg (nI a))) 1532 t) + (1 : Int32))) 15 t ∧ (([] : List MV) = [] ∧ mret (some .int) (sp_rlst t a F z Y R kz L) [.inr (.inr (some t)), .inl (nI a)] S (some (.inl ((mI (sI (rI S a_1 (upd (eI S a_1) (mI S 1532 t).toNatClampNeg (nI a))) 1532 t ((mI (rI S a_1 (upd (eI S a_1) (mI S 1532 t).toNatClampNeg (nI a))) 1532 t) + (1 : Int32))) 1532 t) - (1 : Int32)))) (sI (rI S a_1 (upd (eI S a_1) (mI S 1532 t).toNatClampNeg (nI a))) 1532 t ((mI (rI S a_1 (upd (eI S a_1) (mI S 1532 t).toNatClampNeg (nI a))) 1532 t) + (1 : Int32))) 0 0))))))))) ∧ (¬ (mI S 1532 t) ≤ (nI j) → (isO S 15 t ∧ (pa (mR S 1531 t) fun a_2 => ∃ v_3 : Int32, (isO S 17 a_2 ∧ inR S a_2 (nI j) ∧ v_3 = eI S a_2 (nI j).toNatClampNeg ∨ a_2 = (mQ S).1 ∧ vp_in (nI j) 16 ∧ v_3 = mRem (nI j).toNatClampNeg) ∧ ((¬ v_3 = (nI a) → (∃ k1, k1 < k ∧ I_lst t a L S k1 [(0, .inr (.inr (some t))), (1, .inl (nI a)), (2, .inl ((nI j) + (1 : Int32)))] [] S 0 0)) ∧ (v_3 = (nI a) → (([] : List MV) = [] ∧ mret (some .int) (sp_rlst t a F z Y R kz L) [.inr (.inr (some t)), .inl (nI a)] S (some (.inl (nI j))) S 0 0))))))))
    obtain ⟨h, ⟨l1, l2, l3, l4⟩, ha, hl⟩ := hp
    have r31 := h 1 31 (by decide)
    rw [l1]
    refine ⟨(h 0).1, if_le (by omega) (by omega) (fun w => ?_) (fun w => ?_)⟩
    · have hjl : j = L.length := by omega
      subst hjl
      have hna : a ∉ L := fun q => by
        obtain ⟨n, hn, e⟩ := List.getElem_of_mem q
        exact hall n hn (by rw [List.getD_eq_getElem?_getD, List.getElem?_eq_getElem hn, e]; rfl)
      have hl5 : L.length < 256 := by
        have := List.Nodup.length_le_of_subset (l₁ := a :: L) (l₂ := List.range 256) (List.nodup_cons.2 ⟨hna, l3⟩) (fun x hx => by
          rcases List.mem_cons.1 hx with e | e
          · rw [e]; exact List.mem_range.2 ha
          · exact List.mem_range.2 (l4 x e))
        rw [List.length_cons, List.length_range] at this
        omega
      have cl : (nI L.length).toNatClampNeg = L.length := nI_clamp (by omega)
      have ex : lsX L a = L ++ [a] := if_neg hna
      have kp : Keep (fun c => c = t ∨ c = z 31) S (sI (rI S (z 31) (upd (eI S (z 31)) (nI L.length).toNatClampNeg (nI a))) 1532 t (nI (L.length + 1))) := Keep.sI (P := fun c => c = t ∨ c = z 31) (Keep.rI (P := fun c => c = t ∨ c = z 31) Keep.rf (Or.inr rfl)) (Or.inl rfl)
      have hI : ∀ f, f ≠ 1532 → mI (sI (rI S (z 31) (upd (eI S (z 31)) (nI L.length).toNatClampNeg (nI a))) 1532 t (nI (L.length + 1))) f t = mI S f t := fun f hf => by rw [mI_sI, if_neg (fun e => hf e.1)]; rfl
      have hM : MD (sI (rI S (z 31) (upd (eI S (z 31)) (nI L.length).toNatClampNeg (nI a))) 1532 t (nI (L.length + 1))) F t z Y R kz := h.keep0 kp (fun b hb => by
        rcases hb with e | e
        · rw [e, (h 0).2]
          exact ⟨rfl, fun k _ q => by injection q with _ q; omega⟩
        · rw [e, r31.2.1]
          refine ⟨rfl, fun k hk q => ?_⟩
          injection q with _ q
          revert hk; rw [show k = 31 by omega]; decide) (fun f hf => hI f (fun e => by subst e; revert hf; decide)) (fun f => rfl) (fun _ _ => rfl) (fun b hb => (kp.1 b (h 12 b hb)).1)
      refine ⟨(h 0).1, (h 0).1, pa_i r31.1 ⟨r31.2.2.1, inRn (N := 256) r31.2.2.2 hl5 (by decide), (h 0).1, trivial, (h 0).1, (h 0).1, rfl, trivial, ?_⟩⟩
      rw [mI_rI, l1, nI_1, mI_sI, if_pos ⟨rfl, rfl⟩, (nI_dcr L.length).2]
      refine ⟨⟨_, rfl, ⟨L.length, rfl, by rw [ex, List.length_append]; exact Nat.lt_succ_self _, by rw [ex]; exact (at_app L [] a).2⟩, hM, ⟨?_, fun n hn => ?_, ?_, fun x hx => ?_⟩, kp, hI, fun f => rfl⟩, Nat.le_refl _, Nat.le_refl _⟩
      · rw [ex, mI_sI, if_pos ⟨rfl, rfl⟩, List.length_append]; rfl
      · rw [ex, List.length_append] at hn
        have hn : n < L.length + 1 := hn
        show eI (rI S (z 31) _) (z 31) n = _
        rw [ex, eI_rI, if_pos rfl, cl, upd]
        by_cases c : n = L.length
        · rw [if_pos c, c]; exact congrArg nI (at_app L [] a).2.symm
        · rw [if_neg c, getD_app_l (by omega)]; exact l2 n (by omega)
      · rw [ex]
        exact List.nodup_append.2 ⟨l3, List.nodup_cons.2 ⟨List.not_mem_nil, List.nodup_nil⟩, fun x hx y hy e => hna (by rw [← List.mem_singleton.1 hy, ← e]; exact hx)⟩
      · rw [ex] at hx
        rcases List.mem_append.1 hx with e | e
        · exact l4 x e
        · rw [List.mem_singleton.1 e]; exact ha
    · have hm : L.getD j 0 ∈ L := by
        rw [List.getD_eq_getElem?_getD, List.getElem?_eq_getElem w]
        exact List.getElem_mem w
      have h4 := l4 _ hm
      refine ⟨(h 0).1, rdI (v := nI (L.getD j 0)) r31.1 r31.2.2.1 (inRn (N := 256) r31.2.2.2 (by omega) (by decide)) (by rw [nI_clamp (by omega)]; exact l2 j w) (if_ne (by omega) (by omega) (fun q => ?_) (fun q => ?_))⟩
      · refine ⟨k - 1, by omega, j + 1, by omega, fun n hn => ?_, by rw [nI_1], rfl, rfl, rfl, rfl⟩
        by_cases c : n = j
        · rw [c]; exact q
        · exact hall n (by omega)
      · have ex : lsX L a = L := if_pos (q ▸ hm)
        refine ⟨rfl, trivial, ⟨_, rfl, ⟨j, rfl, by rw [ex]; exact w, by rw [ex]; exact q⟩, h, ?_, Keep.rf, fun _ _ => rfl, fun _ => rfl⟩, Nat.le_refl _, Nat.le_refl _⟩
        rw [ex]
        exact ⟨l1, l2, l3, l4⟩
theorem u_rlst (l : Launch) : Us l yX14_list cX14_list 3 (some .int) 0 0 15 T_rlst := by
  intro Rc Rs av S cs sl K Kx h
  unfold T_rlst at h
  split at h
  · rename_i t_o a_v
    obtain ⟨t, rfl, h_1⟩ := pa_of h
    obtain ⟨a, rfl, h_2⟩ := h_1
    obtain ⟨F, z, Y, R, kz, L, hp, hc, hs, hk⟩ := h_2
    refine ⟨(sp_rlst t a F z Y R kz L), c_rlst l t a F z Y R kz L, fun _ _ h9 => ⟨_, _, h9.1, (h9.2.1 0).1⟩, ⟨rfl, hp⟩, hc, hs, fun v9 S' h8 => by
      obtain ⟨v8, h7, h8⟩ := h8
      cases h7
      exact hk _ _ h8, fun _ _ q => q.elim⟩
  · exact h.elim
