/-! ===== The reference's calls: end, anchor, view ===== -/
def Rb.sQ (R : Rb) (Q : Ab) : Rb := (Q, R.2.1, R.2.2)
def mdJ (k : Nat) : Nat := if k = 0 then 2 else if k = 1 then 3 else if k = 3 ∨ k = 4 then 4 else if k = 5 ∨ k = 6 then 5 else if k = 7 then 6 else if k = 9 then 7 else 8
def mdF (f : Nat) : Nat := if f = 1502 then 3 else if f = 1508 then 6 else if f = 1510 then 7 else 9
section MDX
variable {S S' : MM} {F F' : Nat → Nat × Nat} {t : Nat} {z : Nat → Nat} {Y : Nat → Nat → Nat} {R : Rb} {kz : Nat → Nat} {P : Nat → Prop}
theorem MD.keepx (j0 : Nat) (h : MD S F t z Y R kz) (hk : Keep P S S') (hP : ∀ b, P b → (F b).1 = 100 ∨ (F b).1 = 110) (hrow : ∀ k, k ∈ mdP → mdJ k ≠ j0 → eI S' (z k) = eI S (z k) ∧ eR S' (z k) = eR S (z k)) (hI : ∀ f, f ∈ [1502, 1508, 1510, 1513, 1514] → mdF f ≠ j0 → mI S' f t = mI S f t) (hR : ∀ f, mR S' f t = mR S f t) (hO : ∀ k, k = 21 ∨ (25 ≤ k ∧ k ≤ 30) → mdO S' F' t z k) (hf : ∀ b, b ∈ mL S → F' b = F b) (hFO : FO S' F') : ∀ j, j ≠ j0 → MDf S' F' t z Y R kz j := by
  intro j hj
  match j, hj with
  | 0, _ => exact ⟨hk.isO (h 0).1, (hf _ (h 0).1.1).trans (h 0).2⟩
  | 1, _ =>
    intro k hk9
    obtain ⟨a1, a2, a3, a4⟩ := h 1 k hk9
    exact ⟨(hR _).trans a1, (hf _ a3.1).trans a2, hk.isO a3, (hk.1 _ a3.1).2.2.trans a4⟩
  | 2, hj =>
    intro p hp
    obtain ⟨a1, a2⟩ := h 2 p hp
    rw [(hrow 0 (by decide) hj).2]
    exact ⟨a1, a2.keep hk (fun b hb z => by have := hP b z; omega) hf⟩
  | 3, hj =>
    obtain ⟨a1, a2, a3⟩ := h 3
    refine ⟨(hI 1502 (by decide) hj).trans a1, a2, ?_⟩
    unfold byR
    rw [(hrow 1 (by decide) hj).1]; exact a3
  | 4, hj =>
    intro k hk9
    rcases h 4 k hk9 with ⟨a1, a2⟩ | ⟨a1, a2, a3, a4, a5, a6, a7, a8⟩
    · exact Or.inl ⟨a1, by rw [(hrow 3 (by decide) hj).2]; exact a2⟩
    · refine Or.inr ⟨a1, by rw [(hrow 3 (by decide) hj).2]; exact a2, hk.isO a3, (hk.1 _ a3.1).2.2.trans a4, (hf _ a3.1).trans a5, by rw [(hrow 4 (by decide) hj).1]; exact a6, a7, ?_⟩
      unfold byR
      rw [(hk.2.1 _ a3.1 (fun q => by have := hP _ q; rw [a5] at this; have : 120 + k = 100 ∨ 120 + k = 110 := this; omega)).2.2.2.1]
      exact a8
  | 5, hj =>
    intro b hb
    rw [(hrow 5 (by decide) hj).1, (hrow 6 (by decide) hj).1]; exact h 5 b hb
  | 6, hj =>
    obtain ⟨a1, a2, a3⟩ := h 6
    rw [MDf, (hrow 7 (by decide) hj).1]
    exact ⟨(hI 1508 (by decide) hj).trans a1, a2, a3⟩
  | 7, hj =>
    obtain ⟨a1, a2⟩ := h 7
    rw [MDf, (hrow 9 (by decide) hj).1]
    exact ⟨(hI 1510 (by decide) hj).trans a1, a2⟩
  | 8, hj =>
    intro a ha
    rw [(hrow 11 (by decide) hj).1, (hrow 12 (by decide) hj).1]; exact h 8 a ha
  | 9, hj =>
    obtain ⟨a1, a2, a3, a4⟩ := h 9
    exact ⟨(hI 1513 (by decide) hj).trans a1, a2, (hI 1514 (by decide) hj).trans a3, a4⟩
  | 10, _ => exact hO
  | 11, _ => exact h 11
  | 12, _ => exact hFO
  | n + 13, _ => trivial
/-- rows of D and the object's own fields were written -/
theorem MD.wr1 (h : MD S F t z Y R kz) (D : List Nat) (j0 : Nat) (hD : ∀ k, k ∈ D → k ∈ mdL) (hj0 : ∀ k, k ∈ mdP → mdJ k ≠ j0 → k ∉ D) (hk : Keep (fun c => c = t ∨ ∃ k, k ∈ D ∧ c = z k) S S') (hI : ∀ f, f ∈ [1502, 1508, 1510, 1513, 1514] → mdF f ≠ j0 → mI S' f t = mI S f t) (hR : ∀ f, mR S' f t = mR S f t) : ∀ j, j ≠ j0 → MDf S' F t z Y R kz j := by
  have rol : ∀ k, k ∈ mdL → F (z k) = (100, 100 + k) := fun k hk => (h 1 k hk).2.1
  have ft := (h 0).2
  refine h.keepx j0 hk (fun b hb => ?_) (fun k k1 k2 => ?_) hI hR (fun k hk9 => ?_) (fun _ _ => rfl) (fun b hb => (hk.1 b (h 12 b hb)).1)
  · rcases hb with e | ⟨k, k1, e⟩
    · rw [e, ft]; exact Or.inl rfl
    · rw [e, rol k (hD k k1)]; exact Or.inl rfl
  · have hm : k ∈ mdL := by
      have : ∀ k, k ∈ mdP → k ∈ mdL := by decide
      exact this k k1
    obtain ⟨-, a2, a3, -⟩ := h 1 k hm
    have := hk.2.1 _ a3.1 (fun q => by
      rcases q with e | ⟨k', k3, e⟩
      · rw [e, ft] at a2
        injection a2 with _ a2
        omega
      · rw [e, rol k' (hD k' k3)] at a2
        injection a2 with _ a2
        exact hj0 k k1 k2 (by rw [show k = k' by omega]; exact k3))
    exact ⟨this.2.2.2.1, this.2.2.2.2.2⟩
  · obtain ⟨a1, a2, a3, B, a4⟩ := h 10 k hk9
    have nn : ∀ {x v}, F x = (110, v) → ¬ (x = t ∨ ∃ k, k ∈ D ∧ x = z k) := fun {x v} e q => by
      rcases q with q | ⟨k', k3, q⟩
      · rw [q, ft] at e
        injection e with e _
        omega
      · rw [q, rol k' (hD k' k3)] at e
        injection e with e _
        omega
    exact ⟨(hR _).trans a1, a2, a3, B, a4.kp hk (nn a2) (nn a3)⟩
theorem MD.wrQ {S2 : MM} (h : MD S F t z Y R kz) (D : List Nat) (hD : ∀ k, k ∈ D → k ∈ mdL) (hk : Keep (fun c => c = t ∨ ∃ k, k ∈ D ∧ c = z k) S S2) : Keep (fun c => 100 ≤ (F c).1) S S2 := hk.mono (fun b _ e => by
  rcases e with e | ⟨k, k1, e⟩
  · rw [e]; exact h.own
  · rw [e, (h 1 k (hD k k1)).2.1]; exact Nat.le_refl _)
/-- the tape is cut -/
theorem MD.cut (h : MD S F t z Y R kz) {j : Nat} (hj : j ≤ R.Q.tp.length) : MD (sI S 1502 t (nI j)) F t z Y (R.sQ (R.Q.sTp (R.Q.tp.take j))) kz := by
  have q := h.wr1 (S' := sI S 1502 t (nI j)) [] 3 (fun k hk => by cases hk) (fun k _ _ hk => by cases hk) (Keep.sI Keep.rf (Or.inl rfl)) (fun f hf hn => by
    rw [mI_sI, if_neg (fun e => hn (by rw [e.1]; rfl))]) (fun f => rfl)
  intro i
  match i with
  | 3 =>
    obtain ⟨a1, a2, a3, a4, a5⟩ := h 3
    have hl : (R.Q.tp.take j).length = j := by rw [List.length_take]; omega
    refine ⟨?_, ?_, a3, fun x hx => a4 x (List.mem_of_mem_take hx), fun i hi => ?_⟩
    · show mI (sI S 1502 t (nI j)) 1502 t = nI (R.Q.tp.take j).length
      rw [hl, mI_sI, if_pos ⟨rfl, rfl⟩]
    · show (R.Q.tp.take j).length ≤ 32768
      omega
    · have hi : i < (R.Q.tp.take j).length := hi
      show eI S (z 1) i &&& 255 = nI ((R.Q.tp.take j).getD i 0)
      rw [a5 i (by omega), List.getD_eq_getElem?_getD, List.getD_eq_getElem?_getD, List.getElem?_take, if_pos (by omega)]
  | 0 => exact q 0 (by decide)
  | 1 => exact q 1 (by decide)
  | 2 => exact q 2 (by decide)
  | 4 => exact q 4 (by decide)
  | 5 => exact q 5 (by decide)
  | 6 => exact q 6 (by decide)
  | 7 => exact q 7 (by decide)
  | 8 => exact q 8 (by decide)
  | 9 => exact q 9 (by decide)
  | 10 => exact q 10 (by decide)
  | 11 => exact q 11 (by decide)
  | 12 => exact q 12 (by decide)
  | n + 13 => trivial
/-- an anchor is set -/
theorem MD.anc (h : MD S F t z Y R kz) {i n : Nat} {o : Option Nat} (hi : i < 8) (hn : n < 4) (ho : ∀ k, o = some k → k + 1 ∈ (R.Q.T n).od) (hk : Keep (fun c => c = t ∨ ∃ k, k ∈ [11, 12] ∧ c = z k) S S') (h11 : eI S' (z 11) = upd (eI S (z 11)) i (nI n)) (h12 : eI S' (z 12) = upd (eI S (z 12)) i (stI o)) (hI : ∀ f, mI S' f t = mI S f t) (hR : ∀ f, mR S' f t = mR S f t) : MD S' F t z Y (R.sQ (R.Q.sAn (upF R.Q.ap i (some n)) (upF R.Q.an i o))) kz := by
  have q := h.wr1 (S' := S') [11, 12] 8 (by decide) (by decide) hk (fun f _ _ => hI f) hR
  intro j
  match j with
  | 8 =>
    intro a ha
    obtain ⟨a1, a2⟩ := h 8 a ha
    show eI S' (z 11) a = stI (upF R.Q.ap i (some n) a) ∧ ∀ p, upF R.Q.ap i (some n) a = some p → p < 4 ∧ eI S' (z 12) a = stI (upF R.Q.an i o a) ∧ ∀ k, upF R.Q.an i o a = some k → k + 1 ∈ (R.Q.T p).od
    rw [h11, h12, upd, upd]
    by_cases c : a = i
    · subst c
      rw [if_pos rfl, if_pos rfl, upF_s, upF_s]
      exact ⟨rfl, fun p e => by cases e; exact ⟨hn, rfl, ho⟩⟩
    · rw [if_neg c, if_neg c, upF_o c, upF_o c]
      exact ⟨a1, a2⟩
  | 0 => exact q 0 (by decide)
  | 1 => exact q 1 (by decide)
  | 2 => exact q 2 (by decide)
  | 3 => exact q 3 (by decide)
  | 4 => exact q 4 (by decide)
  | 5 => exact q 5 (by decide)
  | 6 => exact q 6 (by decide)
  | 7 => exact q 7 (by decide)
  | 9 => exact q 9 (by decide)
  | 10 => exact q 10 (by decide)
  | 11 => exact q 11 (by decide)
  | 12 => exact q 12 (by decide)
  | n + 13 => trivial
/-- the view becomes another -/
theorem MD.vew (h : MD S F t z Y R kz) {v : List Int32} (hv : v.length ≤ 8192) (hk : Keep (fun c => c = t ∨ ∃ k, k ∈ [7] ∧ c = z k) S S') (h7 : ∀ k, k < v.length → eI S' (z 7) k = v.getD k 0) (h8 : mI S' 1508 t = nI v.length) (hI : ∀ f, f ≠ 1508 → mI S' f t = mI S f t) (hR : ∀ f, mR S' f t = mR S f t) : MD S' F t z Y (R.sQ (R.Q.sVw v)) kz := by
  have q := h.wr1 (S' := S') [7] 6 (by decide) (by decide) hk (fun f _ hn => hI f (fun e => hn (by rw [e]; rfl))) hR
  intro j
  match j with
  | 6 => exact ⟨h8, hv, h7⟩
  | 0 => exact q 0 (by decide)
  | 1 => exact q 1 (by decide)
  | 2 => exact q 2 (by decide)
  | 3 => exact q 3 (by decide)
  | 4 => exact q 4 (by decide)
  | 5 => exact q 5 (by decide)
  | 7 => exact q 7 (by decide)
  | 8 => exact q 8 (by decide)
  | 9 => exact q 9 (by decide)
  | 10 => exact q 10 (by decide)
  | 11 => exact q 11 (by decide)
  | 12 => exact q 12 (by decide)
  | n + 13 => trivial
end MDX
def T_ren1 : TR := fun Rc Rs av S cs sl K _Kx => match av with
  | [.inr (.inr t_o), .inl x] => pa t_o fun t => (∃ (F : Nat → Nat × Nat) (z : Nat → Nat) (Y : Nat → Nat → Nat) (R : Rb) (kz : Nat → Nat), (MD S F t z Y R kz) ∧ cs + 1 ≤ Rc ∧ sl + 6 ≤ Rs ∧ (∀ (v : Int32) (S' : MM), (∃ th, (th = 0 ∧ ∃ j, j ≤ R.Q.tp.length ∧ x = nI j ∧ v = nI (R.Q.tp.length - j) ∧ mdW S S' F t (R.sQ (R.Q.sTp (R.Q.tp.take j))) kz th) ∨ (th = 1 ∧ np (R.Q.tp.length + 1) x ∧ v = 0 ∧ mdW S S' F t R kz th)) → K (some (.inl v)) S' (cs + 1) (sl + 6)))
  | _ => False
def sp_ren1 (t : Nat) (x : Int32) (F : Nat → Nat × Nat) (z : Nat → Nat) (Y : Nat → Nat → Nat) (R : Rb) (kz : Nat → Nat) : Sp := (fun av S => av = [.inr (.inr (some t)), .inl x] ∧ (MD S F t z Y R kz), fun _ S => 1, fun _ S => 6, fun _ S rv S' => ∃ v, rv = (some (.inl v)) ∧ (∃ th, (th = 0 ∧ ∃ j, j ≤ R.Q.tp.length ∧ x = nI j ∧ v = nI (R.Q.tp.length - j) ∧ mdW S S' F t (R.sQ (R.Q.sTp (R.Q.tp.take j))) kz th) ∨ (th = 1 ∧ np (R.Q.tp.length + 1) x ∧ v = 0 ∧ mdW S S' F t R kz th)), fun _ _ _ _ => False)
def tX14_end : CD := [(0, .aload_n 0), (1, .iconst 0), (2, .putfield 512), (5, .aload_n 0), (6, .iload_n 1), (7, .invokevirtual 519), (10, .ireturn), (11, .astore_n 2), (12, .aload_n 0), (13, .iconst 1), (14, .putfield 512), (17, .iconst 0), (18, .ireturn)]
set_option maxRecDepth 100000 in
theorem kX14_end : chk cX14_end tX14_end = true := by decide +kernel
theorem vX14_end_519 : ∀ w ∈ ([.methodLink RX14 519 yX14_end0, .instanceMethod yX14_end0, .selects yX14_end0.cls yX14_end0 yX14_end0, .initialized yX14_end0.cls, .code yX14_end0 cX14_end0 3 (some .int)] : List Cond), w ∈ lw_good := List.forall_mem_cons.mpr ⟨mgd 1926 (by decide +kernel) (by decide +kernel), List.forall_mem_cons.mpr ⟨mgd 1928 (by decide +kernel) (by decide +kernel), List.forall_mem_cons.mpr ⟨mgd 50 (by decide +kernel) (by decide +kernel), List.forall_mem_cons.mpr ⟨mgd 136 (by decide +kernel) (by decide +kernel), List.forall_mem_cons.mpr ⟨mgd 1929 (by decide +kernel) (by decide +kernel), fun _ h => absurd h List.not_mem_nil⟩⟩⟩⟩⟩
set_option maxRecDepth 100000 in
set_option maxHeartbeats 2000000 in
theorem c_ren1 (l : Launch) (hlt : l.stackTraces = false) : ∀ (t : Nat) (x : Int32) (F : Nat → Nat × Nat) (z : Nat → Nat) (Y : Nat → Nat → Nat) (R : Rb) (kz : Nat → Nat), CtX l yX14_end (Cond.codeWith yX14_end cX14_end 3 (some .int) [(5, 10, 11, 138)]) (some .int) 8 131 (sp_ren1 t x F z Y R kz) := by
  intro t x F z Y R kz
  refine CtX.ofH hlt (fX14, nX14, aX14, iX14, lX14, [(519, 0, 2, 1, T_ren0)], qX14, gX14, []) false tX14_end [((5, 10, 11, 138), 1)] (fun _ _ _ => none) (by decide) (by decide) kX14_end ⟨_, _, rfl⟩ fX14_ok nX14_ok aX14_ok iX14_ok lX14_ok (fun p e R s m args below meth c Q D cy z r A C hR1 hR2 => List.forall_mem_cons.mpr ⟨cOK_use (fun _ _ _ _ _ _ _ _ h => let ⟨sp, h1, h2, h3⟩ := u_ren0 l hlt _ _ _ _ _ _ _ _ h; ⟨sp, cOKx_V C h1 vX14_end_519 ⟨by decide, by decide, by decide +kernel⟩ ⟨by rw [hR1]; decide, by rw [hR2]; decide⟩ (k := 15) (T := TX14) (N := 52) rfl (by decide) h2, h3⟩), fun _ h => absurd h List.not_mem_nil⟩) qX14_ok gX14_ok rfl (List.forall_mem_cons.mpr ⟨⟨by decide, mgd 1925 (by decide +kernel) (by decide +kernel)⟩, fun _ h => absurd h List.not_mem_nil⟩) (fun _ _ _ _ z => z) ?_ ?_
  · rintro _ S ⟨rfl, hp⟩
    refine ⟨Nat.le_of_ble_eq_true rfl, 300, ?_⟩
    show (True ∧ (isO S 15 t ∧ (0 = 0 ∧ (∃ (F_1 : Nat → Nat × Nat) (z_2 : Nat → Nat) (Y_3 : Nat → Nat → Nat) (R_4 : Rb) (kz_5 : Nat → Nat), (MD (sI S 1551 t (0 : Int32)) F_1 t z_2 Y_3 R_4 kz_5) ∧ 0 + 1 ≤ 1 ∧ 0 + 6 ≤ 6 ∧ ((∀ (x_7 : Int32) (S_6 : MM), (∃ j, j ≤ R_4.Q.tp.length ∧ x = nI j ∧ x_7 = nI (R_4.Q.tp.length - j) ∧ S_6 = sI (sI S 1551 t (0 : Int32)) 1502 t (nI j)) → (([] : List MV) = [] ∧ mret (some .int) (sp_ren1 t x F z Y R kz) [.inr (.inr (some t)), .inl x] S (some (.inl x_7)) S_6 (0 + 1) (0 + 6))) ∧ ((np (R_4.Q.tp.length + 1) x) → (∀ e_9, (True ∧ (isO (sI S 1551 t (0 : Int32)) 15 t ∧ (([] : List MV) = [] ∧ mret (some .int) (sp_ren1 t x F z Y R kz) [.inr (.inr (some t)), .inl x] S (some (.inl (0 : Int32))) (sI (sI S 1551 t (0 : Int32)) 1551 t (1 : Int32)) (0 + 1) (0 + 6)))))))))))
    refine ⟨trivial, (hp 0).1, rfl, F, z, Y, R, kz, hp.th 0, by decide, by decide, fun v S3 h => ?_, fun h e => ⟨trivial, (hp 0).1, rfl, trivial, ⟨_, rfl, 1, Or.inr ⟨rfl, h, rfl, (hp.ex0 1 rfl).w hp⟩⟩, Nat.le_refl _, Nat.le_refl _⟩⟩
    obtain ⟨j, hj, rfl, rfl, rfl⟩ := h
    exact ⟨rfl, trivial, ⟨_, rfl, 0, Or.inl ⟨rfl, j, hj, rfl, rfl, F, z, Y, (hp.th 0).cut hj, fun _ _ => rfl, Keep.sI (P := fun c => 100 ≤ (F c).1) (Keep.sI (P := fun c => 100 ≤ (F c).1) Keep.rf hp.own) hp.own, by rw [mI_sI, if_neg (fun e => absurd e.1 (by decide)), mI_sI, if_pos ⟨rfl, rfl⟩]; rfl⟩⟩, Nat.le_refl _, Nat.le_refl _⟩
  · exact fun _ _ _ _ _ h => by cases h
theorem u_ren1 (l : Launch) (hlt : l.stackTraces = false) : UsX l yX14_end (Cond.codeWith yX14_end cX14_end 3 (some .int) [(5, 10, 11, 138)]) (some .int) 8 131 15 T_ren1 := by
  intro Rc Rs av S cs sl K Kx h
  unfold T_ren1 at h
  split at h
  · rename_i t_o x
    obtain ⟨t, rfl, h_1⟩ := pa_of h
    obtain ⟨F, z, Y, R, kz, hp, hc, hs, hk⟩ := h_1
    refine ⟨(sp_ren1 t x F z Y R kz), c_ren1 l hlt t x F z Y R kz, fun _ _ h9 => ⟨_, _, h9.1, (h9.2 0).1⟩, ⟨rfl, hp⟩, hc, hs, fun v9 S' h8 => by
      obtain ⟨v8, h7, h8⟩ := h8
      cases h7
      exact hk _ _ h8, fun _ _ q => q.elim⟩
  · exact h.elim
def I_an1 (t : Nat) (a p x : Int32) (Y : Nat → Nat → Nat) (R : Rb) (S : MM) (k : Nat) : KT := fun lo st S1 cs sl => ∃ i n j, k = 0 ∧ i < 8 ∧ a = nI i ∧ n < 4 ∧ p = nI n ∧ j ≤ visN (R.Q.G n) (R.Q.T n) ∧ x = nI j ∧ lo = [(0, .inr (.inr (some t))), (1, .inl (nI i)), (2, .inl (nI n)), (3, .inl (nI j)), (4, .inr (.inr (some (Y n 0)))), (5, .inl (nI (visN (R.Q.G n) (R.Q.T n))))] ∧ st = [] ∧ S = S1 ∧ cs = 3 ∧ sl = 18
def T_ran0 : TR := fun Rc Rs av S cs sl K Kx => match av with
  | [.inr (.inr t_o), .inl a, .inl p, .inl x] => pa t_o fun t => (∃ (F : Nat → Nat × Nat) (z : Nat → Nat) (Y : Nat → Nat → Nat) (R : Rb) (kz : Nat → Nat), (MD S F t z Y R kz) ∧ cs + 3 ≤ Rc ∧ sl + 18 ≤ Rs ∧ ((∀ (S' : MM), (∃ i n j, i < 8 ∧ a = nI i ∧ n < 4 ∧ p = nI n ∧ x = nI j ∧ ((j = visN (R.Q.G n) (R.Q.T n) ∧ mdQ S S' F t (R.sQ (R.Q.sAn (upF R.Q.ap i (some n)) (upF R.Q.an i none))) kz) ∨ ∃ k, TxN (R.Q.G n) (R.Q.T n) j k ∧ mdQ S S' F t (R.sQ (R.Q.sAn (upF R.Q.ap i (some n)) (upF R.Q.an i (some k)))) kz)) → K none S' (cs + 3) (sl + 18)) ∧ ((np 8 a ∨ np 4 p ∨ ∃ n, n < 4 ∧ p = nI n ∧ np (visN (R.Q.G n) (R.Q.T n) + 1) x) → Kx 1 S (cs + 3) (sl + 18))))
  | _ => False
def sp_ran0 (t : Nat) (a : Int32) (p : Int32) (x : Int32) (F : Nat → Nat × Nat) (z : Nat → Nat) (Y : Nat → Nat → Nat) (R : Rb) (kz : Nat → Nat) : Sp := (fun av S => av = [.inr (.inr (some t)), .inl a, .inl p, .inl x] ∧ (MD S F t z Y R kz), fun _ S => 3, fun _ S => 18, fun _ S rv S' => rv = none ∧ (∃ i n j, i < 8 ∧ a = nI i ∧ n < 4 ∧ p = nI n ∧ x = nI j ∧ ((j = visN (R.Q.G n) (R.Q.T n) ∧ mdQ S S' F t (R.sQ (R.Q.sAn (upF R.Q.ap i (some n)) (upF R.Q.an i none))) kz) ∨ ∃ k, TxN (R.Q.G n) (R.Q.T n) j k ∧ mdQ S S' F t (R.sQ (R.Q.sAn (upF R.Q.ap i (some n)) (upF R.Q.an i (some k)))) kz)), fun _ S E S' => (E = 1 ∧ (np 8 a ∨ np 4 p ∨ ∃ n, n < 4 ∧ p = nI n ∧ np (visN (R.Q.G n) (R.Q.T n) + 1) x) ∧ S' = S))
def tX14_anchor0 : CD := [(0, .iload_n 1), (1, .iconst 0), (2, .bipush 7), (4, .invokestatic 144), (7, .invokestatic 148), (10, .aload_n 0), (11, .iload_n 2), (12, .invokevirtual 203), (15, .astore 4), (17, .aload 4), (19, .invokevirtual 207), (22, .istore 5), (24, .iload_n 3), (25, .iconst 0), (26, .iload 5), (28, .invokestatic 144), (31, .invokestatic 148), (34, .aload_n 0), (35, .getfield 42), (38, .iload_n 1), (39, .iload_n 2), (40, .iastore), (41, .aload_n 0), (42, .getfield 45), (45, .iload_n 1), (46, .iload_n 3), (47, .iload 5), (49, .if_icmp .ne 7), (52, .iconst (-1)), (53, .goto 9), (56, .aload 4), (58, .iload_n 3), (59, .invokevirtual 262), (62, .iastore), (63, .return_)]
set_option maxRecDepth 100000 in
theorem kX14_anchor0 : chk cX14_anchor0 tX14_anchor0 = true := by decide +kernel
theorem vX14_anchor0_144 : ∀ w ∈ ([.methodLink RX14 144 yX14_in, .static yX14_in, .initialized yX14_in.cls, .code yX14_in cX14_in 3 (some .boolean)] : List Cond), w ∈ lw_good := List.forall_mem_cons.mpr ⟨mgd 1930 (by decide +kernel) (by decide +kernel), List.forall_mem_cons.mpr ⟨mgd 1931 (by decide +kernel) (by decide +kernel), List.forall_mem_cons.mpr ⟨mgd 136 (by decide +kernel) (by decide +kernel), List.forall_mem_cons.mpr ⟨mgd 1932 (by decide +kernel) (by decide +kernel), fun _ h => absurd h List.not_mem_nil⟩⟩⟩⟩
theorem vX14_anchor0_148 : ∀ w ∈ ([.methodLink RX14 148 yX14_check, .static yX14_check, .initialized yX14_check.cls, .code yX14_check cX14_check 1 none] : List Cond), w ∈ lw_good := List.forall_mem_cons.mpr ⟨mgd 1933 (by decide +kernel) (by decide +kernel), List.forall_mem_cons.mpr ⟨mgd 1934 (by decide +kernel) (by decide +kernel), List.forall_mem_cons.mpr ⟨mgd 136 (by decide +kernel) (by decide +kernel), List.forall_mem_cons.mpr ⟨mgd 1935 (by decide +kernel) (by decide +kernel), fun _ h => absurd h List.not_mem_nil⟩⟩⟩⟩
theorem vX14_anchor0_203 : ∀ w ∈ ([.methodLink RX14 203 yX14_graph, .instanceMethod yX14_graph, .selects yX14_graph.cls yX14_graph yX14_graph, .initialized yX14_graph.cls, .code yX14_graph cX14_graph 2 (some (.object "WeaveTextModel$Graph"))] : List Cond), w ∈ lw_good := List.forall_mem_cons.mpr ⟨mgd 1946 (by decide +kernel) (by decide +kernel), List.forall_mem_cons.mpr ⟨mgd 1948 (by decide +kernel) (by decide +kernel), List.forall_mem_cons.mpr ⟨mgd 52 (by decide +kernel) (by decide +kernel), List.forall_mem_cons.mpr ⟨mgd 136 (by decide +kernel) (by decide +kernel), List.forall_mem_cons.mpr ⟨mgd 1949 (by decide +kernel) (by decide +kernel), fun _ h => absurd h List.not_mem_nil⟩⟩⟩⟩⟩
theorem vX14_anchor0_207 : ∀ w ∈ ([.methodLink RX14 207 yX12_length, .instanceMethod yX12_length, .selects yX12_length.cls yX12_length yX12_length, .initialized yX12_length.cls, .code yX12_length cX12_length 3 (some .int)] : List Cond), w ∈ lw_good := List.forall_mem_cons.mpr ⟨mgd 1950 (by decide +kernel) (by decide +kernel), List.forall_mem_cons.mpr ⟨mgd 1951 (by decide +kernel) (by decide +kernel), List.forall_mem_cons.mpr ⟨mgd 1952 (by decide +kernel) (by decide +kernel), List.forall_mem_cons.mpr ⟨mgd 138 (by decide +kernel) (by decide +kernel), List.forall_mem_cons.mpr ⟨mgd 1953 (by decide +kernel) (by decide +kernel), fun _ h => absurd h List.not_mem_nil⟩⟩⟩⟩⟩
theorem vX14_anchor0_262 : ∀ w ∈ ([.methodLink RX14 262 yX12_shownAt, .instanceMethod yX12_shownAt, .selects yX12_shownAt.cls yX12_shownAt yX12_shownAt, .initialized yX12_shownAt.cls, .code yX12_shownAt cX12_shownAt 4 (some .int)] : List Cond), w ∈ lw_good := List.forall_mem_cons.mpr ⟨mgd 2095 (by decide +kernel) (by decide +kernel), List.forall_mem_cons.mpr ⟨mgd 2096 (by decide +kernel) (by decide +kernel), List.forall_mem_cons.mpr ⟨mgd 2097 (by decide +kernel) (by decide +kernel), List.forall_mem_cons.mpr ⟨mgd 138 (by decide +kernel) (by decide +kernel), List.forall_mem_cons.mpr ⟨mgd 2098 (by decide +kernel) (by decide +kernel), fun _ h => absurd h List.not_mem_nil⟩⟩⟩⟩⟩
set_option maxRecDepth 100000 in
set_option maxHeartbeats 2000000 in
theorem c_ran0 (l : Launch) (hlt : l.stackTraces = false) : ∀ (t : Nat) (a : Int32) (p : Int32) (x : Int32) (F : Nat → Nat × Nat) (z : Nat → Nat) (Y : Nat → Nat → Nat) (R : Rb) (kz : Nat → Nat), CtX l yX14_anchor0 (Cond.code yX14_anchor0 cX14_anchor0 6 none) none 8 130 (sp_ran0 t a p x F z Y R kz) := by
  intro t a p x F z Y R kz
  refine CtX.of hlt (fX14, nX14, aX14, iX14, lX14, [(144, 2, 3, 1, T_rin), (148, 2, 1, 0, T_rck), (203, 0, 2, 3, T_rgr), (207, 0, 1, 1, T_rln), (262, 0, 2, 1, T_rsha)], qX14, gX14, []) false tX14_anchor0 (fun _ S => look [(34, ([0,1,2,3,4,5], I_an1 t a p x Y R S))]) (by decide) (by decide) kX14_anchor0 ⟨_, _, rfl⟩ fX14_ok nX14_ok aX14_ok iX14_ok lX14_ok (fun p e R s m args below meth c Q D cy z r A C hR1 hR2 => List.forall_mem_cons.mpr ⟨cOK_use (fun _ _ _ _ _ _ _ _ h => let ⟨sp, h1, _, h3⟩ := u_rin l _ _ _ _ _ _ _ _ h; ⟨sp, cOK_S C h1 vX14_anchor0_144 ⟨by decide, by decide, by decide +kernel⟩ ⟨by rw [hR1]; decide, by rw [hR2]; decide⟩, h3⟩), List.forall_mem_cons.mpr ⟨cOK_use (fun _ _ _ _ _ _ _ _ h => let ⟨sp, h1, _, h3⟩ := u_rck l hlt _ _ _ _ _ _ _ _ h; ⟨sp, cOKx_S C h1 vX14_anchor0_148 ⟨by decide, by decide, by decide +kernel⟩ ⟨by rw [hR1]; decide, by rw [hR2]; decide⟩, h3⟩), List.forall_mem_cons.mpr ⟨cOK_use (fun _ _ _ _ _ _ _ _ h => let ⟨sp, h1, h2, h3⟩ := u_rgr l hlt _ _ _ _ _ _ _ _ h; ⟨sp, cOKx_V C h1 vX14_anchor0_203 ⟨by decide, by decide, by decide +kernel⟩ ⟨by rw [hR1]; decide, by rw [hR2]; decide⟩ (k := 15) (T := TX14) (N := 52) rfl (by decide) h2, h3⟩), List.forall_mem_cons.mpr ⟨cOK_use (fun _ _ _ _ _ _ _ _ h => let ⟨sp, h1, h2, h3⟩ := u_rln l _ _ _ _ _ _ _ _ h; ⟨sp, cOK_V C h1 vX14_anchor0_207 ⟨by decide, by decide, by decide +kernel⟩ ⟨by rw [hR1]; decide, by rw [hR2]; decide⟩ (k := 13) (T := TX12) (N := 27) rfl (by decide) h2, h3⟩), List.forall_mem_cons.mpr ⟨cOK_use (fun _ _ _ _ _ _ _ _ h => let ⟨sp, h1, h2, h3⟩ := u_rsha l _ _ _ _ _ _ _ _ h; ⟨sp, cOK_V C h1 vX14_anchor0_262 ⟨by decide, by decide, by decide +kernel⟩ ⟨by rw [hR1]; decide, by rw [hR2]; decide⟩ (k := 13) (T := TX12) (N := 27) rfl (by decide) h2, h3⟩), fun _ h => absurd h List.not_mem_nil⟩⟩⟩⟩⟩) qX14_ok gX14_ok (fun _ h => absurd h List.not_mem_nil) ?_ ?_
  · rintro _ S ⟨rfl, hp⟩
    refine ⟨Nat.le_of_ble_eq_true rfl, 300, ?_⟩
    show (2 = 2 ∧ (True ∧ 0 ≤ 3 ∧ 0 ≤ 18 ∧ ((2 = 2 ∧ (((tf ((0 : Int32) ≤ a ∧ a ≤ (7 : Int32))) = 0 ∨ (tf ((0 : Int32) ≤ a ∧ a ≤ (7 : Int32))) = 1) ∧ 0 + 1 ≤ 3 ∧ 0 + 6 ≤ 18 ∧ ((∀ (S_2 : MM), (S_2 = S ∧ (tf ((0 : Int32) ≤ a ∧ a ≤ (7 : Int32))) = 1) → (0 = 0 ∧ (∃ (F_3 : Nat → Nat × Nat) (z_4 : Nat → Nat) (Y_5 : Nat → Nat → Nat) (R_6 : Rb) (kz_7 : Nat → Nat), (MD S_2 F_3 t z_4 Y_5 R_6 kz_7) ∧ 0 + 1 + 1 ≤ 3 ∧ 0 + 6 + 6 ≤ 18 ∧ ((∀ (x_9 : Option Nat) (S_8 : MM), (S_8 = S_2 ∧ ∃ n, n < 4 ∧ p = nI n ∧ x_9 = some (Y_5 n 0)) → (0 = 0 ∧ ((pa x_9 fun a_10 => (∃ (F_11 : Nat → Nat × Nat) (i_12 : Nat) (y_13 : Nat → Nat) (G_14 : Gr) (T_15 : Tr), (a_10 = y_13 0 ∧ RG S_8 F_11 i_12 y_13 G_14 T_15) ∧ 0 + 1 + 1 ≤ 3 ∧ 0 + 6 + 6 ≤ 18 ∧ ((2 = 2 ∧ (True ∧ 0 + 1 + 1 ≤ 3 ∧ 0 + 6 + 6 ≤ 18 ∧ ((2 = 2 ∧ (((tf ((0 : Int32) ≤ x ∧ x ≤ (nI (T_15.od.filter (vis G_14)).length))) = 0 ∨ (tf ((0 : Int32) ≤ x ∧ x ≤ (nI (T_15.od.filter (vis G_14)).length))) = 1) ∧ 0 + 1 + 1 + 1 ≤ 3 ∧ 0 + 6 + 6 + 6 ≤ 18 ∧ ((∀ (S_18 : MM), (S_18 = S_8 ∧ (tf ((0 : Int32) ≤ x ∧ x ≤ (nI (T_15.od.filter (vis G_14)).length))) = 1) → (∃ k1, I_an1 t a p x Y R S k1 [(0, .inr (.inr (some t))), (1, .inl a), (2, .inl p), (3, .inl x), (4, .inr (.inr x_9)), (5, .inl (nI (T_15.od.filter (vis G_14)).length))] [] S_18 (0 + 1 + 1 + 1) (0 + 6 + 6 + 6))) ∧ (((tf ((0 : Int32) ≤ x ∧ x ≤ (nI (T_15.od.filter (vis G_14)).length))) = 0) → mthr (sp_ran0 t a p x F z Y R kz) [.inr (.inr (some t)), .inl a, .inl p, .inl x] S 1 S_8 (0 + 1 + 1 + 1) (0 + 6 + 6 + 6)))))))))))))) ∧ ((np 4 p) → mthr (sp_ran0 t a p x F z Y R kz) [.inr (.inr (some t)), .inl a, .inl p, .inl x] S 1 S_2 (0 + 1 + 1) (0 + 6 + 6)))))) ∧ (((tf ((0 : Int32) ≤ a ∧ a ≤ (7 : Int32))) = 0) → mthr (sp_ran0 t a p x F z Y R kz) [.inr (.inr (some t)), .inl a, .inl p, .inl x] S 1 S (0 + 1) (0 + 6))))))))
    refine ⟨rfl, trivial, by decide, by decide, rfl, tf_b _, by decide, by decide, fun S2 h => ?_, fun h => ⟨⟨rfl, Or.inl (in_0k (k := 7) (by decide) h), rfl⟩, Nat.le_of_ble_eq_true rfl, Nat.le_of_ble_eq_true rfl⟩⟩
    obtain ⟨rfl, h⟩ := h
    obtain ⟨i, hi, rfl⟩ := in_1k (k := 7) (by decide) h
    refine ⟨rfl, F, z, Y, R, kz, hp, by decide, by decide, fun v S3 h => ?_, fun h => ⟨⟨rfl, Or.inr (Or.inl h), rfl⟩, Nat.le_of_ble_eq_true rfl, Nat.le_of_ble_eq_true rfl⟩⟩
    obtain ⟨rfl, n, hn, rfl, rfl⟩ := h
    have g := (hp 2 n hn).2.1
    have hnm := g.nm
    have hol := g.odl
    have hfl : ((R.Q.T n).od.filter (vis (R.Q.G n))).length ≤ (R.Q.T n).od.length := List.length_filter_le _ _
    refine ⟨rfl, pa_i rfl ⟨F, 101 + n, Y n, R.Q.G n, R.Q.T n, ⟨rfl, g⟩, by decide, by decide, rfl, trivial, by decide, by decide, rfl, tf_b _, by decide, by decide, fun S4 h => ?_, fun h => ⟨⟨rfl, Or.inr (Or.inr ⟨n, hn, rfl, in_0k (k := ((R.Q.T n).od.filter (vis (R.Q.G n))).length) (by omega) h⟩), rfl⟩, Nat.le_of_ble_eq_true rfl, Nat.le_of_ble_eq_true rfl⟩⟩⟩
    obtain ⟨rfl, h⟩ := h
    obtain ⟨j, hj, rfl⟩ := in_1k (by omega) h
    exact ⟨0, i, n, j, rfl, hi, rfl, hn, rfl, Nat.le_of_lt_succ hj, rfl, rfl, rfl, rfl, rfl, rfl⟩
  · intro av S hpre pc I hI k lo st S1 cs sl h
    obtain ⟨rfl, hp⟩ := hpre
    have hm := look_in hI
    rw [List.mem_singleton] at hm
    cases hm
    obtain ⟨i, n, j, rfl, hi, ha, hn, hpn, hj, hx, rfl, rfl, rfl, rfl, rfl⟩ := h
    refine ⟨300, ?_⟩
    show (isO S 15 t ∧ (pa (mR S 1511 t) fun a_1 => isO S 17 a_1 ∧ inR S a_1 (nI i) ∧ (isO (rI S a_1 (upd (eI S a_1) (nI i).toNatClampNeg (nI n))) 15 t ∧ ((¬ (nI j) = (nI (visN (R.Q.G n) (R.Q.T n))) → (0 = 0 ∧ (∃ (ix_2 : Nat), nI j = nI ix_2 ∧ (∃ (F_3 : Nat → Nat × Nat) (i_4 : Nat) (y_5 : Nat → Nat) (G_6 : Gr) (T_7 : Tr), ((Y n 0) = y_5 0 ∧ RG (rI S a_1 (upd (eI S a_1) (nI i).toNatClampNeg (nI n))) F_3 i_4 y_5 G_6 T_7 ∧ ix_2 < (T_7.od.filter (vis G_6)).length) ∧ 3 ≤ 3 ∧ 18 ≤ 18 ∧ (∀ (x_9 : Int32), (∃ j, atP T_7.od (vis G_6) ix_2 j ∧ x_9 = nI (T_7.od.getD j 0 - 1)) → (pa (mR (rI S a_1 (upd (eI S a_1) (nI i).toNatClampNeg (nI n))) 1512 t) fun a_10 => isO (rI S a_1 (upd (eI S a_1) (nI i).toNatClampNeg (nI n))) 17 a_10 ∧ inR (rI S a_1 (upd (eI S a_1) (nI i).toNatClampNeg (nI n))) a_10 (nI i) ∧ (([] : List MV) = [] ∧ mret none (sp_ran0 t a p x F z Y R kz) [.inr (.inr (some t)), .inl a, .inl p, .inl x] S none (rI (rI S a_1 (upd (eI S a_1) (nI i).toNatClampNeg (nI n))) a_10 (upd (eI (rI S a_1 (upd (eI S a_1) (nI i).toNatClampNeg (nI n))) a_10) (nI i).toNatClampNeg x_9)) 3 18))))))) ∧ ((nI j) = (nI (visN (R.Q.G n) (R.Q.T n))) → (pa (mR (rI S a_1 (upd (eI S a_1) (nI i).toNatClampNeg (nI n))) 1512 t) fun a_11 => isO (rI S a_1 (upd (eI S a_1) (nI i).toNatClampNeg (nI n))) 17 a_11 ∧ inR (rI S a_1 (upd (eI S a_1) (nI i).toNatClampNeg (nI n))) a_11 (nI i) ∧ (([] : List MV) = [] ∧ mret none (sp_ran0 t a p x F z Y R kz) [.inr (.inr (some t)), .inl a, .inl p, .inl x] S none (rI (rI S a_1 (upd (eI S a_1) (nI i).toNatClampNeg (nI n))) a_11 (upd (eI (rI S a_1 (upd (eI S a_1) (nI i).toNatClampNeg (nI n))) a_11) (nI i).toNatClampNeg (-1 : Int32))) 3 18)))))))
    subst ha hpn hx
    have g := (hp 2 n hn).2.1
    have hnm := g.nm
    have hol := g.odl
    have hfl : visN (R.Q.G n) (R.Q.T n) ≤ (R.Q.T n).od.length := List.length_filter_le _ _
    have ci : (nI i).toNatClampNeg = i := nI_clamp (by omega)
    have r11 := hp 1 11 (by decide)
    have r12 := hp 1 12 (by decide)
    have ne1 : z 11 ≠ z 12 := fun e => by
      have h9 := r11.2.1
      rw [e, r12.2.1] at h9
      exact absurd h9 (by decide)
    have kp : ∀ v : Int32, Keep (fun c => c = t ∨ ∃ k, k ∈ [11, 12] ∧ c = z k) S (rI (rI S (z 11) (upd (eI S (z 11)) (nI i).toNatClampNeg (nI n))) (z 12) (upd (eI (rI S (z 11) (upd (eI S (z 11)) (nI i).toNatClampNeg (nI n))) (z 12)) (nI i).toNatClampNeg v)) := fun v => Keep.rI (P := fun c => c = t ∨ ∃ k, k ∈ [11, 12] ∧ c = z k) (Keep.rI (P := fun c => c = t ∨ ∃ k, k ∈ [11, 12] ∧ c = z k) Keep.rf (Or.inr ⟨11, by decide, rfl⟩)) (Or.inr ⟨12, by decide, rfl⟩)
    have fin : ∀ (v : Int32) (o : Option Nat), v = stI o → (∀ k, o = some k → k + 1 ∈ (R.Q.T n).od) → mdQ S (rI (rI S (z 11) (upd (eI S (z 11)) (nI i).toNatClampNeg (nI n))) (z 12) (upd (eI (rI S (z 11) (upd (eI S (z 11)) (nI i).toNatClampNeg (nI n))) (z 12)) (nI i).toNatClampNeg v)) F t (R.sQ (R.Q.sAn (upF R.Q.ap i (some n)) (upF R.Q.an i o))) kz := fun v o hv ho => ⟨F, z, Y, hp.anc hi hn ho (kp v) (by rw [eI_rI, if_neg ne1, eI_rI, if_pos rfl, ci]) (by rw [eI_rI, if_pos rfl, eI_rI, if_neg (fun e => ne1 e.symm), ci, hv]) (fun f => rfl) (fun f => rfl), fun _ _ => rfl, hp.wrQ [11, 12] (by decide) (kp v), rfl⟩
    refine ⟨(hp 0).1, pa_i r11.1 ⟨r11.2.2.1, inRn (N := 8) r11.2.2.2 hi (by decide), (hp 0).1, if_ne (by omega) (by omega) (fun w => ?_) (fun w => ?_)⟩⟩
    · have g' : RG (rI S (z 11) (upd (eI S (z 11)) (nI i).toNatClampNeg (nI n))) F (101 + n) (Y n) (R.Q.G n) (R.Q.T n) := g.keep (P := fun c => c = z 11) (Keep.rI Keep.rf rfl) (fun b hb e => by
        rw [e, r11.2.1] at hb
        have hb : 100 = 101 + n := hb
        omega)
      have hj' : j < ((R.Q.T n).od.filter (vis (R.Q.G n))).length := by
        have : j < visN (R.Q.G n) (R.Q.T n) := by omega
        exact this
      refine ⟨rfl, j, rfl, F, 101 + n, Y n, R.Q.G n, R.Q.T n, ⟨rfl, g', hj'⟩, Nat.le_refl _, Nat.le_refl _, fun v hv => ?_⟩
      obtain ⟨i', hi', rfl⟩ := hv
      obtain ⟨k, hk, hkn, hkc, hko⟩ := g.odn hi'.1
      exact pa_i r12.1 ⟨r12.2.2.1, inRn (N := 8) r12.2.2.2 hi (by decide), rfl, trivial, ⟨rfl, i, n, j, hi, rfl, hn, rfl, rfl, Or.inr ⟨k, atP_tx hi' hk, fin _ (some k) (by rw [hk]; rfl) (fun k' e => by cases e; exact hko)⟩⟩, Nat.le_refl _, Nat.le_refl _⟩
    · exact pa_i r12.1 ⟨r12.2.2.1, inRn (N := 8) r12.2.2.2 hi (by decide), rfl, trivial, ⟨rfl, i, n, j, hi, rfl, hn, rfl, rfl, Or.inl ⟨w, fin _ none rfl (fun k e => by cases e)⟩⟩, Nat.le_refl _, Nat.le_refl _⟩
theorem u_ran0 (l : Launch) (hlt : l.stackTraces = false) : UsX l yX14_anchor0 (Cond.code yX14_anchor0 cX14_anchor0 6 none) none 8 130 15 T_ran0 := by
  intro Rc Rs av S cs sl K Kx h
  unfold T_ran0 at h
  split at h
  · rename_i t_o a p x
    obtain ⟨t, rfl, h_1⟩ := pa_of h
    obtain ⟨F, z, Y, R, kz, hp, hc, hs, hk, hx0⟩ := h_1
    refine ⟨(sp_ran0 t a p x F z Y R kz), c_ran0 l hlt t a p x F z Y R kz, fun _ _ h9 => ⟨_, _, h9.1, (h9.2 0).1⟩, ⟨rfl, hp⟩, hc, hs, fun S' h8 => by
      obtain ⟨-, h8⟩ := h8
      exact hk _ h8, fun _ _ q => by
      rcases q with ⟨rfl, q⟩
      · obtain ⟨q, rfl⟩ := q
        exact hx0 q⟩
  · exact h.elim
def vwR (G : Gr) (W : Nat → Nat) (L : List Nat) : List Int32 := (L.filter (snW G W)).map (fun x => chI (G.ev (x - 1)).ch)
theorem vwR_s {G : Gr} {W : Nat → Nat} {L : List Nat} {j : Nat} (hj : j < L.length) : vwR G W (L.take (j + 1)) = vwR G W (L.take j) ++ if snW G W (L.getD j 0) = true then [chI (G.ev (L.getD j 0 - 1)).ch] else [] := by
  have e : L.take (j + 1) = L.take j ++ [L.getD j 0] := by
    rw [List.take_succ, List.getD_eq_getElem?_getD, List.getElem?_eq_getElem hj]; rfl
  rw [e]
  unfold vwR
  rw [List.filter_append, List.map_append]
  by_cases c : snW G W (L.getD j 0) = true
  · rw [if_pos c, List.filter_cons_of_pos c]; rfl
  · rw [if_neg c, List.filter_cons_of_neg c]; rfl
theorem vwR_l {G : Gr} {W : Nat → Nat} {L : List Nat} : (vwR G W L).length ≤ L.length := by
  unfold vwR
  rw [List.length_map]
  exact List.length_filter_le _ _
def I_vw1 (t : Nat) (b : Int32) (F : Nat → Nat × Nat) (z : Nat → Nat) (Y : Nat → Nat → Nat) (R : Rb) (kz : Nat → Nat) (S : MM) (k : Nat) : KT := fun lo st S1 cs sl => ∃ i n j, j + k = (R.Q.T n).od.length ∧ i < 8 ∧ b = nI i ∧ R.Q.mp i = some n ∧ n < 4 ∧ MD S1 F t z Y (R.sQ (R.Q.sVw (vwR (R.Q.G n) (R.M i) ((R.Q.T n).od.take j)))) kz ∧ Keep (fun c => 100 ≤ (F c).1) S S1 ∧ mI S1 1551 t = mI S 1551 t ∧ lo = [(0, .inr (.inr (some t))), (1, .inl (nI i)), (2, .inr (.inr (some (Y n 0)))), (3, .inl (nI j))] ∧ st = [] ∧ cs = 2 ∧ sl = 12
def T_rvi0 : TR := fun Rc Rs av S cs sl K Kx => match av with
  | [.inr (.inr t_o), .inl b] => pa t_o fun t => (∃ (F : Nat → Nat × Nat) (z : Nat → Nat) (Y : Nat → Nat → Nat) (R : Rb) (kz : Nat → Nat), (MD S F t z Y R kz) ∧ cs + 2 ≤ Rc ∧ sl + 12 ≤ Rs ∧ ((∀ (v : Int32) (S' : MM), (∃ i n, i < 8 ∧ b = nI i ∧ R.Q.mp i = some n ∧ v = nI (vwR (R.Q.G n) (R.M i) (R.Q.T n).od).length ∧ mdQ S S' F t (R.sQ (R.Q.sVw (vwR (R.Q.G n) (R.M i) (R.Q.T n).od))) kz) → K (some (.inl v)) S' (cs + 2) (sl + 12)) ∧ ((np 8 b) → Kx 1 S (cs + 2) (sl + 12)) ∧ ((∃ i, i < 8 ∧ b = nI i ∧ R.Q.mp i = none) → Kx 2 S (cs + 2) (sl + 12))))
  | _ => False
def sp_rvi0 (t : Nat) (b : Int32) (F : Nat → Nat × Nat) (z : Nat → Nat) (Y : Nat → Nat → Nat) (R : Rb) (kz : Nat → Nat) : Sp := (fun av S => av = [.inr (.inr (some t)), .inl b] ∧ (MD S F t z Y R kz), fun _ S => 2, fun _ S => 12, fun _ S rv S' => ∃ v, rv = (some (.inl v)) ∧ (∃ i n, i < 8 ∧ b = nI i ∧ R.Q.mp i = some n ∧ v = nI (vwR (R.Q.G n) (R.M i) (R.Q.T n).od).length ∧ mdQ S S' F t (R.sQ (R.Q.sVw (vwR (R.Q.G n) (R.M i) (R.Q.T n).od))) kz), fun _ S E S' => (E = 1 ∧ (np 8 b) ∧ S' = S) ∨ (E = 2 ∧ (∃ i, i < 8 ∧ b = nI i ∧ R.Q.mp i = none) ∧ S' = S))
def tX14_view0 : CD := [(0, .iload_n 1), (1, .iconst 0), (2, .bipush 7), (4, .invokestatic 144), (7, .invokestatic 148), (10, .aload_n 0), (11, .getfield 29), (14, .iload_n 1), (15, .iaload), (16, .ifCond .lt 7), (19, .iconst 1), (20, .goto 4), (23, .iconst 0), (24, .invokestatic 236), (27, .aload_n 0), (28, .getfield 11), (31, .aload_n 0), (32, .getfield 29), (35, .iload_n 1), (36, .iaload), (37, .aaload), (38, .astore_n 2), (39, .aload_n 0), (40, .iconst 0), (41, .putfield 294), (44, .iconst 0), (45, .istore_n 3), (46, .iload_n 3), (47, .aload_n 2), (48, .getfield 239), (51, .if_icmp .ge 63), (54, .aload_n 2), (55, .aload_n 0), (56, .getfield 32), (59, .bipush 16), (61, .iload_n 1), (62, .imul), (63, .aload_n 2), (64, .getfield 246), (67, .iload_n 3), (68, .iaload), (69, .invokevirtual 297), (72, .ifCond .ne 6), (75, .goto 33), (78, .aload_n 0), (79, .getfield 36), (82, .aload_n 0), (83, .getfield 294), (86, .aload_n 2), (87, .getfield 259), (90, .aload_n 2), (91, .getfield 246), (94, .iload_n 3), (95, .iaload), (96, .iaload), (97, .iastore), (98, .aload_n 0), (99, .dup), (100, .getfield 294), (103, .iconst 1), (104, .iadd), (105, .putfield 294), (108, .iinc 3 1), (111, .goto (-65)), (114, .aload_n 0), (115, .getfield 294), (118, .ireturn)]
set_option maxRecDepth 100000 in
theorem kX14_view0 : chk cX14_view0 tX14_view0 = true := by decide +kernel
theorem vX14_view0_144 : ∀ w ∈ ([.methodLink RX14 144 yX14_in, .static yX14_in, .initialized yX14_in.cls, .code yX14_in cX14_in 3 (some .boolean)] : List Cond), w ∈ lw_good := List.forall_mem_cons.mpr ⟨mgd 1930 (by decide +kernel) (by decide +kernel), List.forall_mem_cons.mpr ⟨mgd 1931 (by decide +kernel) (by decide +kernel), List.forall_mem_cons.mpr ⟨mgd 136 (by decide +kernel) (by decide +kernel), List.forall_mem_cons.mpr ⟨mgd 1932 (by decide +kernel) (by decide +kernel), fun _ h => absurd h List.not_mem_nil⟩⟩⟩⟩
theorem vX14_view0_148 : ∀ w ∈ ([.methodLink RX14 148 yX14_check, .static yX14_check, .initialized yX14_check.cls, .code yX14_check cX14_check 1 none] : List Cond), w ∈ lw_good := List.forall_mem_cons.mpr ⟨mgd 1933 (by decide +kernel) (by decide +kernel), List.forall_mem_cons.mpr ⟨mgd 1934 (by decide +kernel) (by decide +kernel), List.forall_mem_cons.mpr ⟨mgd 136 (by decide +kernel) (by decide +kernel), List.forall_mem_cons.mpr ⟨mgd 1935 (by decide +kernel) (by decide +kernel), fun _ h => absurd h List.not_mem_nil⟩⟩⟩⟩
theorem vX14_view0_236 : ∀ w ∈ ([.methodLink RX14 236 yX14_there, .static yX14_there, .initialized yX14_there.cls, .code yX14_there cX14_there 1 none] : List Cond), w ∈ lw_good := List.forall_mem_cons.mpr ⟨mgd 2066 (by decide +kernel) (by decide +kernel), List.forall_mem_cons.mpr ⟨mgd 2067 (by decide +kernel) (by decide +kernel), List.forall_mem_cons.mpr ⟨mgd 136 (by decide +kernel) (by decide +kernel), List.forall_mem_cons.mpr ⟨mgd 2068 (by decide +kernel) (by decide +kernel), fun _ h => absurd h List.not_mem_nil⟩⟩⟩⟩
theorem vX14_view0_297 : ∀ w ∈ ([.methodLink RX14 297 yX12_isSeen, .instanceMethod yX12_isSeen, .selects yX12_isSeen.cls yX12_isSeen yX12_isSeen, .initialized yX12_isSeen.cls, .code yX12_isSeen cX12_isSeen 5 (some .boolean)] : List Cond), w ∈ lw_good := List.forall_mem_cons.mpr ⟨mgd 2192 (by decide +kernel) (by decide +kernel), List.forall_mem_cons.mpr ⟨mgd 2006 (by decide +kernel) (by decide +kernel), List.forall_mem_cons.mpr ⟨mgd 2007 (by decide +kernel) (by decide +kernel), List.forall_mem_cons.mpr ⟨mgd 138 (by decide +kernel) (by decide +kernel), List.forall_mem_cons.mpr ⟨mgd 2008 (by decide +kernel) (by decide +kernel), fun _ h => absurd h List.not_mem_nil⟩⟩⟩⟩⟩
set_option maxRecDepth 100000 in
set_option maxHeartbeats 2000000 in
theorem c_rvi0 (l : Launch) (hlt : l.stackTraces = false) : ∀ (t : Nat) (b : Int32) (F : Nat → Nat × Nat) (z : Nat → Nat) (Y : Nat → Nat → Nat) (R : Rb) (kz : Nat → Nat), CtX l yX14_view0 (Cond.code yX14_view0 cX14_view0 4 (some .int)) (some .int) 7 109 (sp_rvi0 t b F z Y R kz) := by
  intro t b F z Y R kz
  refine CtX.of hlt (fX14, nX14, aX14, iX14, lX14, [(144, 2, 3, 1, T_rin), (148, 2, 1, 0, T_rck), (236, 2, 1, 0, T_rth), (297, 0, 4, 1, T_rsn)], qX14, gX14, []) false tX14_view0 (fun _ S => look [(46, ([0,1,2,3], I_vw1 t b F z Y R kz S))]) (by decide) (by decide) kX14_view0 ⟨_, _, rfl⟩ fX14_ok nX14_ok aX14_ok iX14_ok lX14_ok (fun p e R s m args below meth c Q D cy z r A C hR1 hR2 => List.forall_mem_cons.mpr ⟨cOK_use (fun _ _ _ _ _ _ _ _ h => let ⟨sp, h1, _, h3⟩ := u_rin l _ _ _ _ _ _ _ _ h; ⟨sp, cOK_S C h1 vX14_view0_144 ⟨by decide, by decide, by decide +kernel⟩ ⟨by rw [hR1]; decide, by rw [hR2]; decide⟩, h3⟩), List.forall_mem_cons.mpr ⟨cOK_use (fun _ _ _ _ _ _ _ _ h => let ⟨sp, h1, _, h3⟩ := u_rck l hlt _ _ _ _ _ _ _ _ h; ⟨sp, cOKx_S C h1 vX14_view0_148 ⟨by decide, by decide, by decide +kernel⟩ ⟨by rw [hR1]; decide, by rw [hR2]; decide⟩, h3⟩), List.forall_mem_cons.mpr ⟨cOK_use (fun _ _ _ _ _ _ _ _ h => let ⟨sp, h1, _, h3⟩ := u_rth l hlt _ _ _ _ _ _ _ _ h; ⟨sp, cOKx_S C h1 vX14_view0_236 ⟨by decide, by decide, by decide +kernel⟩ ⟨by rw [hR1]; decide, by rw [hR2]; decide⟩, h3⟩), List.forall_mem_cons.mpr ⟨cOK_use (fun _ _ _ _ _ _ _ _ h => let ⟨sp, h1, h2, h3⟩ := u_rsn l _ _ _ _ _ _ _ _ h; ⟨sp, cOK_V C h1 vX14_view0_297 ⟨by decide, by decide, by decide +kernel⟩ ⟨by rw [hR1]; decide, by rw [hR2]; decide⟩ (k := 13) (T := TX12) (N := 27) rfl (by decide) h2, h3⟩), fun _ h => absurd h List.not_mem_nil⟩⟩⟩⟩) qX14_ok gX14_ok (fun _ h => absurd h List.not_mem_nil) ?_ ?_
  · rintro _ S ⟨rfl, hp⟩
    refine ⟨Nat.le_of_ble_eq_true rfl, 300, ?_⟩
    show (2 = 2 ∧ (True ∧ 0 ≤ 2 ∧ 0 ≤ 12 ∧ ((2 = 2 ∧ (((tf ((0 : Int32) ≤ b ∧ b ≤ (7 : Int32))) = 0 ∨ (tf ((0 : Int32) ≤ b ∧ b ≤ (7 : Int32))) = 1) ∧ 0 + 1 ≤ 2 ∧ 0 + 6 ≤ 12 ∧ ((∀ (S_2 : MM), (S_2 = S ∧ (tf ((0 : Int32) ≤ b ∧ b ≤ (7 : Int32))) = 1) → (isO S_2 15 t ∧ (pa (mR S_2 1505 t) fun a_3 => ∃ v_4 : Int32, (isO S_2 17 a_3 ∧ inR S_2 a_3 b ∧ v_4 = eI S_2 a_3 b.toNatClampNeg ∨ a_3 = (mQ S_2).1 ∧ vp_in b 16 ∧ v_4 = mRem b.toNatClampNeg) ∧ ((v_4 < 0 → (2 = 2 ∧ (((0 : Int32) = 0 ∨ (0 : Int32) = 1) ∧ 0 + 1 + 1 ≤ 2 ∧ 0 + 6 + 6 ≤ 12 ∧ ((∀ (S_5 : MM), (S_5 = S_2 ∧ (0 : Int32) = 1) → (isO S_5 15 t ∧ (isO S_5 15 t ∧ (pa (mR S_5 1505 t) fun a_6 => ∃ v_7 : Int32, (isO S_5 17 a_6 ∧ inR S_5 a_6 b ∧ v_7 = eI S_5 a_6 b.toNatClampNeg ∨ a_6 = (mQ S_5).1 ∧ vp_in b 16 ∧ v_7 = mRem b.toNatClampNeg) ∧ (pa (mR S_5 1500 t) fun a_8 => a_8 ∈ mL S_5 ∧ ¬ mK S_5 a_8 < 21 ∧ mK S_5 a_8 < 29 ∧ inR S_5 a_8 v_7 ∧ (True ∧ (isO S_5 15 t ∧ (∃ k1, I_vw1 t b F z Y R kz S k1 [(0, .inr (.inr (some t))), (1, .inl b), (2, .inr (.inr (eR S_5 a_8 v_7.toNatClampNeg))), (3, .inl (0 : Int32))] [] (sI S_5 1508 t (0 : Int32)) (0 + 1 + 1) (0 + 6 + 6))))))))) ∧ (((0 : Int32) = 0) → mthr (sp_rvi0 t b F z Y R kz) [.inr (.inr (some t)), .inl b] S 2 S_2 (0 + 1 + 1) (0 + 6 + 6)))))) ∧ (¬ v_4 < 0 → (2 = 2 ∧ (((1 : Int32) = 0 ∨ (1 : Int32) = 1) ∧ 0 + 1 + 1 ≤ 2 ∧ 0 + 6 + 6 ≤ 12 ∧ ((∀ (S_10 : MM), (S_10 = S_2 ∧ (1 : Int32) = 1) → (isO S_10 15 t ∧ (isO S_10 15 t ∧ (pa (mR S_10 1505 t) fun a_11 => ∃ v_12 : Int32, (isO S_10 17 a_11 ∧ inR S_10 a_11 b ∧ v_12 = eI S_10 a_11 b.toNatClampNeg ∨ a_11 = (mQ S_10).1 ∧ vp_in b 16 ∧ v_12 = mRem b.toNatClampNeg) ∧ (pa (mR S_10 1500 t) fun a_13 => a_13 ∈ mL S_10 ∧ ¬ mK S_10 a_13 < 21 ∧ mK S_10 a_13 < 29 ∧ inR S_10 a_13 v_12 ∧ (True ∧ (isO S_10 15 t ∧ (∃ k1, I_vw1 t b F z Y R kz S k1 [(0, .inr (.inr (some t))), (1, .inl b), (2, .inr (.inr (eR S_10 a_13 v_12.toNatClampNeg))), (3, .inl (0 : Int32))] [] (sI S_10 1508 t (0 : Int32)) (0 + 1 + 1) (0 + 6 + 6))))))))) ∧ (((1 : Int32) = 0) → mthr (sp_rvi0 t b F z Y R kz) [.inr (.inr (some t)), .inl b] S 2 S_2 (0 + 1 + 1) (0 + 6 + 6)))))))))) ∧ (((tf ((0 : Int32) ≤ b ∧ b ≤ (7 : Int32))) = 0) → mthr (sp_rvi0 t b F z Y R kz) [.inr (.inr (some t)), .inl b] S 1 S (0 + 1) (0 + 6))))))))
    refine ⟨rfl, trivial, by decide, by decide, rfl, tf_b _, by decide, by decide, fun S2 h => ?_, fun h => ⟨Or.inl ⟨rfl, in_0k (k := 7) (by decide) h, rfl⟩, Nat.le_of_ble_eq_true rfl, Nat.le_of_ble_eq_true rfl⟩⟩
    obtain ⟨rfl, h⟩ := h
    obtain ⟨i, hi, rfl⟩ := in_1k (k := 7) (by decide) h
    obtain ⟨v1, v2⟩ := hp 5 i hi
    have ci : (nI i).toNatClampNeg = i := nI_clamp (by omega)
    have r5 := hp 1 5 (by decide)
    have r0 := hp 1 0 (by decide)
    have g5 : ∀ {P : Int32 → Prop}, P (stI (R.Q.mp i)) → pa (mR S2 1505 t) fun a => ∃ v : Int32, (isO S2 17 a ∧ inR S2 a (nI i) ∧ v = eI S2 a (nI i).toNatClampNeg ∨ a = (mQ S2).1 ∧ vp_in (nI i) 16 ∧ v = mRem (nI i).toNatClampNeg) ∧ P v := fun hP => rdI r5.1 r5.2.2.1 (inRn (N := 8) r5.2.2.2 hi (by decide)) (by rw [ci]; exact v1) hP
    refine ⟨(hp 0).1, g5 ?_⟩
    cases ha : R.Q.mp i with
    | none => exact ⟨fun _ => ⟨rfl, Or.inl rfl, by decide, by decide, fun S5 h => absurd h.2 (by decide), fun _ => ⟨Or.inr ⟨rfl, ⟨i, hi, rfl, ha⟩, rfl⟩, Nat.le_of_ble_eq_true rfl, Nat.le_of_ble_eq_true rfl⟩⟩, fun w => absurd (by decide : (-1 : Int32) < 0) w⟩
    | some n =>
      obtain ⟨hn, w1⟩ := v2 n ha
      obtain ⟨q1, q2⟩ := hp 2 n hn
      have er : eR S2 (z 0) (nI n).toNatClampNeg = some (Y n 0) := by rw [nI_clamp (by omega)]; exact q1
      refine ⟨fun w => absurd w (nI_pos (show n < 2147483648 by omega)), fun _ => ⟨rfl, Or.inr rfl, by decide, by decide, fun S5 h => ?_, fun h => absurd h (by decide)⟩⟩
      obtain ⟨rfl, -⟩ := h
      refine ⟨(hp 0).1, (hp 0).1, g5 ?_⟩
      rw [ha]
      exact pa_i r0.1 ⟨r0.2.2.1.1, by rw [r0.2.2.1.2]; decide, by rw [r0.2.2.1.2]; decide, inRn (N := 4) r0.2.2.2 hn (by decide), trivial, (hp 0).1, (R.Q.T n).od.length, i, n, 0, Nat.zero_add _, hi, rfl, ha, hn, hp.vew (v := []) (Nat.zero_le _) (Keep.sI (P := fun c => c = t ∨ ∃ k, k ∈ [7] ∧ c = z k) Keep.rf (Or.inl rfl)) (fun k hk => absurd hk (Nat.not_lt_zero k)) (by rw [mI_sI, if_pos ⟨rfl, rfl⟩]; rfl) (fun f hf => by rw [mI_sI, if_neg (fun e => hf e.1)]) (fun f => rfl), Keep.sI (P := fun c => 100 ≤ (F c).1) Keep.rf hp.own, by rw [mI_sI, if_neg (fun e => absurd e.1 (by decide))], by rw [show eR S5 (z 0) (stI (some n)).toNatClampNeg = some (Y n 0) from er]; rfl, rfl, rfl, rfl⟩
  · intro av S hpre pc I hI k lo st S1 cs sl h
    obtain ⟨rfl, hp⟩ := hpre
    have hm := look_in hI
    rw [List.mem_singleton] at hm
    cases hm
    obtain ⟨i, n, j, hj, hi, hb, ha, hn, hM, hK, h51, rfl, rfl, rfl, rfl⟩ := h
    refine ⟨300, ?_⟩
    show (isO S1 13 (Y n 0) ∧ (((mI S1 1302 (Y n 0)) ≤ (nI j) → (isO S1 15 t ∧ (([] : List MV) = [] ∧ mret (some .int) (sp_rvi0 t b F z Y R kz) [.inr (.inr (some t)), .inl b] S (some (.inl (mI S1 1508 t))) S1 2 12))) ∧ (¬ (mI S1 1302 (Y n 0)) ≤ (nI j) → (isO S1 15 t ∧ (isO S1 13 (Y n 0) ∧ (pa (mR S1 1321 (Y n 0)) fun a_1 => ∃ v_2 : Int32, (isO S1 17 a_1 ∧ inR S1 a_1 (nI j) ∧ v_2 = eI S1 a_1 (nI j).toNatClampNeg ∨ a_1 = (mQ S1).1 ∧ vp_in (nI j) 16 ∧ v_2 = mRem (nI j).toNatClampNeg) ∧ (0 = 0 ∧ ((pa (mR S1 1506 t) fun a_3 => (∃ (o_4 : Nat), (16 : Int32) * (nI i) = nI o_4 ∧ (∃ (nd_5 : Nat), v_2 = nI nd_5 ∧ (∃ (F_6 : Nat → Nat × Nat) (i_7 : Nat) (y_8 : Nat → Nat) (G_9 : Gr) (T_10 : Tr) (W_11 : Nat → Nat), ((Y n 0) = y_8 0 ∧ RG S1 F_6 i_7 y_8 G_9 T_10 ∧ StR S1 a_3 o_4 W_11 ∧ nd_5 < G_9.n) ∧ 2 ≤ 2 ∧ 12 ≤ 12 ∧ (((¬ (bI (snW G_9 W_11 (nd_5 + 1))) = 0 → (isO S1 15 t ∧ (isO S1 15 t ∧ (isO S1 13 (Y n 0) ∧ (isO S1 13 (Y n 0) ∧ (pa (mR S1 1321 (Y n 0)) fun a_13 => ∃ v_14 : Int32, (isO S1 17 a_13 ∧ inR S1 a_13 (nI j) ∧ v_14 = eI S1 a_13 (nI j).toNatClampNeg ∨ a_13 = (mQ S1).1 ∧ vp_in (nI j) 16 ∧ v_14 = mRem (nI j).toNatClampNeg) ∧ (pa (mR S1 1311 (Y n 0)) fun a_15 => ∃ v_16 : Int32, (isO S1 17 a_15 ∧ inR S1 a_15 v_14 ∧ v_16 = eI S1 a_15 v_14.toNatClampNeg ∨ a_15 = (mQ S1).1 ∧ vp_in v_14 16 ∧ v_16 = mRem v_14.toNatClampNeg) ∧ (pa (mR S1 1507 t) fun a_17 => isO S1 17 a_17 ∧ inR S1 a_17 (mI S1 1508 t) ∧ (isO (rI S1 a_17 (upd (eI S1 a_17) (mI S1 1508 t).toNatClampNeg v_16)) 15 t ∧ (True ∧ (isO (rI S1 a_17 (upd (eI S1 a_17) (mI S1 1508 t).toNatClampNeg v_16)) 15 t ∧ (∃ k1, k1 < k ∧ I_vw1 t b F z Y R kz S k1 [(0, .inr (.inr (some t))), (1, .inl (nI i)), (2, .inr (.inr (some (Y n 0)))), (3, .inl ((nI j) + (1 : Int32)))] [] (sI (rI S1 a_17 (upd (eI S1 a_17) (mI S1 1508 t).toNatClampNeg v_16)) 1508 t ((mI (rI S1 a_17 (upd (eI S1 a_17) (mI S1 1508 t).toNatClampNeg v_16)) 1508 t) + (1 : Int32))) 2 12)))))))))))) ∧ ((bI (snW G_9 W_11 (nd_5 + 1))) = 0 → (∃ k1, k1 < k ∧ I_vw1 t b F z Y R kz S k1 [(0, .inr (.inr (some t))), (1, .inl (nI i)), (2, .inr (.inr (some (Y n 0)))), (3, .inl ((nI j) + (1 : Int32)))] [] S1 2 12))))))))))))))))
    have g : RG S1 F (101 + n) (Y n) (R.Q.G n) (R.Q.T n) := (hM 2 n hn).2.1
    have hnm := g.nm
    have hol := g.odl
    have e1 : mI S1 1302 (Y n 0) = nI (R.Q.T n).od.length := (g 2).2.2
    obtain ⟨v8, v9, v10⟩ := hM 6
    have v8 : mI S1 1508 t = nI (vwR (R.Q.G n) (R.M i) ((R.Q.T n).od.take j)).length := v8
    have v10 : ∀ k, k < (vwR (R.Q.G n) (R.M i) ((R.Q.T n).od.take j)).length → eI S1 (z 7) k = (vwR (R.Q.G n) (R.M i) ((R.Q.T n).od.take j)).getD k 0 := v10
    have r6 := hM 1 6 (by decide)
    have r7 := hM 1 7 (by decide)
    have hSt : StR S1 (z 6) (16 * i) (R.M i) := ⟨r6.2.2.1, by rw [r6.2.2.2]; show 16 * i + 16 ≤ 128; omega, by rw [r6.2.2.2]; show 128 ≤ 131072; decide, fun s hs => by
      obtain ⟨q1, q2⟩ := ((hM 5 i hi).2 n ha).2 s hs
      have q2 : R.M i s ≤ (R.Q.G n).cn s := q2
      have := cn_le g.ok s
      exact ⟨q1, by omega⟩⟩
    rw [e1]
    refine ⟨(g 0).1, if_le (by omega) (by omega) (fun w => ?_) (fun w => ?_)⟩
    · have htk : (R.Q.T n).od.take j = (R.Q.T n).od := List.take_of_length_le w
      rw [htk] at hM v8
      exact ⟨(hM 0).1, rfl, trivial, ⟨_, rfl, i, n, hi, hb, ha, v8, F, z, Y, hM, fun _ _ => rfl, hK, h51⟩, Nat.le_refl _, Nat.le_refl _⟩
    · obtain ⟨x, hx, hxn, hxc, hxo⟩ := g.odn w
      have hs := vwR_s (G := R.Q.G n) (W := R.M i) w
      rw [hx] at hs
      have hvl : (vwR (R.Q.G n) (R.M i) ((R.Q.T n).od.take j)).length ≤ j := Nat.le_trans vwR_l (by rw [List.length_take]; omega)
      refine ⟨(hM 0).1, (g 0).1, g.g21 w ⟨rfl, pa_i r6.1 ⟨16 * i, nI_mul16, x, by rw [hx]; rfl, F, 101 + n, Y n, R.Q.G n, R.Q.T n, R.M i, ⟨rfl, g, hSt, hxn⟩, Nat.le_refl _, Nat.le_refl _, fun q => ?_, fun q => ?_⟩⟩⟩
      · rw [bI_0, Bool.not_eq_false] at q
        rw [if_pos q, Nat.add_sub_cancel] at hs
        obtain ⟨c, hc⟩ : ∃ c, ((R.Q.G n).ev x).ch = some c := by
          cases h9 : ((R.Q.G n).ev x).ch with
          | none => exact absurd h9 hxc
          | some c => exact ⟨c, rfl⟩
        have hc' : chI ((R.Q.G n).ev x).ch = nI c := by rw [hc]; rfl
        refine ⟨(hM 0).1, (hM 0).1, (g 0).1, (g 0).1, g.g21 w ?_⟩
        rw [hx, Nat.add_sub_cancel]
        refine rdI (v := nI c) g.r11.1 g.r11.2.1 (inRn g.r11.2.2 (by omega) (by decide)) (by rw [nI_clamp (by omega)]; exact ((g 6 x hxn).1 c hc).2) ?_
        rw [v8]
        have cv : (nI (vwR (R.Q.G n) (R.M i) ((R.Q.T n).od.take j)).length).toNatClampNeg = (vwR (R.Q.G n) (R.M i) ((R.Q.T n).od.take j)).length := nI_clamp (by omega)
        refine pa_i r7.1 ⟨r7.2.2.1, inRn (N := 8192) r7.2.2.2 (by omega) (by decide), (hM 0).1, trivial, (hM 0).1, k - 1, by omega, i, n, j + 1, by omega, hi, hb, ha, hn, ?_, ?_, ?_, by rw [nI_1], rfl, rfl, rfl⟩
        · rw [hs, hc', cv, mI_rI, v8, nI_1]
          refine hM.vew (v := vwR (R.Q.G n) (R.M i) ((R.Q.T n).od.take j) ++ [nI c]) (by rw [List.length_append]; show _ + 1 ≤ 8192; omega) (Keep.sI (P := fun c => c = t ∨ ∃ k, k ∈ [7] ∧ c = z k) (Keep.rI (P := fun c => c = t ∨ ∃ k, k ∈ [7] ∧ c = z k) Keep.rf (Or.inr ⟨7, by decide, rfl⟩)) (Or.inl rfl)) (fun k hk => ?_) (by rw [mI_sI, if_pos ⟨rfl, rfl⟩, List.length_append]; rfl) (fun f hf => by rw [mI_sI, if_neg (fun e => hf e.1)]; rfl) (fun f => rfl)
          show (eI (rI S1 (z 7) _) (z 7)) k = _
          rw [eI_rI, if_pos rfl, upd, List.getD_eq_getElem?_getD]
          rw [List.length_append] at hk
          have hk : k < (vwR (R.Q.G n) (R.M i) ((R.Q.T n).od.take j)).length + 1 := hk
          by_cases e : k = (vwR (R.Q.G n) (R.M i) ((R.Q.T n).od.take j)).length
          · rw [if_pos e, e, List.getElem?_append_right (Nat.le_refl _), Nat.sub_self]; rfl
          · rw [if_neg e, List.getElem?_append_left (by omega), ← List.getD_eq_getElem?_getD]
            exact v10 k (by omega)
        · exact Keep.sI (P := fun c => 100 ≤ (F c).1) (Keep.rI (P := fun c => 100 ≤ (F c).1) hK (by rw [r7.2.1]; exact Nat.le_refl _)) hp.own
        · rw [mI_sI, if_neg (fun e => absurd e.1 (by decide))]; exact h51
      · rw [bI_0] at q
        rw [if_neg (by rw [q]; decide), List.append_nil] at hs
        exact ⟨k - 1, by omega, i, n, j + 1, by omega, hi, hb, ha, hn, by rw [hs]; exact hM, hK, h51, by rw [nI_1], rfl, rfl, rfl⟩
theorem u_rvi0 (l : Launch) (hlt : l.stackTraces = false) : UsX l yX14_view0 (Cond.code yX14_view0 cX14_view0 4 (some .int)) (some .int) 7 109 15 T_rvi0 := by
  intro Rc Rs av S cs sl K Kx h
  unfold T_rvi0 at h
  split at h
  · rename_i t_o b
    obtain ⟨t, rfl, h_1⟩ := pa_of h
    obtain ⟨F, z, Y, R, kz, hp, hc, hs, hk, hx0, hx1⟩ := h_1
    refine ⟨(sp_rvi0 t b F z Y R kz), c_rvi0 l hlt t b F z Y R kz, fun _ _ h9 => ⟨_, _, h9.1, (h9.2 0).1⟩, ⟨rfl, hp⟩, hc, hs, fun v9 S' h8 => by
      obtain ⟨v8, h7, h8⟩ := h8
      cases h7
      exact hk _ _ h8, fun _ _ q => by
      rcases q with ⟨rfl, q⟩ | ⟨rfl, q⟩
      · obtain ⟨q, rfl⟩ := q
        exact hx0 q
      · obtain ⟨q, rfl⟩ := q
        exact hx1 q⟩
  · exact h.elim
def T_ran1 : TR := fun Rc Rs av S cs sl K _Kx => match av with
  | [.inr (.inr t_o), .inl a, .inl p, .inl x] => pa t_o fun t => (∃ (F : Nat → Nat × Nat) (z : Nat → Nat) (Y : Nat → Nat → Nat) (R : Rb) (kz : Nat → Nat), (MD S F t z Y R kz) ∧ cs + 3 ≤ Rc ∧ sl + 18 ≤ Rs ∧ (∀ (S' : MM), ((∃ i n j, i < 8 ∧ a = nI i ∧ n < 4 ∧ p = nI n ∧ x = nI j ∧ ((j = visN (R.Q.G n) (R.Q.T n) ∧ mdW S S' F t (R.sQ (R.Q.sAn (upF R.Q.ap i (some n)) (upF R.Q.an i none))) kz 0) ∨ ∃ k, TxN (R.Q.G n) (R.Q.T n) j k ∧ mdW S S' F t (R.sQ (R.Q.sAn (upF R.Q.ap i (some n)) (upF R.Q.an i (some k)))) kz 0)) ∨ ((np 8 a ∨ np 4 p ∨ ∃ n, n < 4 ∧ p = nI n ∧ np (visN (R.Q.G n) (R.Q.T n) + 1) x) ∧ mdW S S' F t R kz 1)) → K none S' (cs + 3) (sl + 18)))
  | _ => False
def sp_ran1 (t : Nat) (a : Int32) (p : Int32) (x : Int32) (F : Nat → Nat × Nat) (z : Nat → Nat) (Y : Nat → Nat → Nat) (R : Rb) (kz : Nat → Nat) : Sp := (fun av S => av = [.inr (.inr (some t)), .inl a, .inl p, .inl x] ∧ (MD S F t z Y R kz), fun _ S => 3, fun _ S => 18, fun _ S rv S' => rv = none ∧ ((∃ i n j, i < 8 ∧ a = nI i ∧ n < 4 ∧ p = nI n ∧ x = nI j ∧ ((j = visN (R.Q.G n) (R.Q.T n) ∧ mdW S S' F t (R.sQ (R.Q.sAn (upF R.Q.ap i (some n)) (upF R.Q.an i none))) kz 0) ∨ ∃ k, TxN (R.Q.G n) (R.Q.T n) j k ∧ mdW S S' F t (R.sQ (R.Q.sAn (upF R.Q.ap i (some n)) (upF R.Q.an i (some k)))) kz 0)) ∨ ((np 8 a ∨ np 4 p ∨ ∃ n, n < 4 ∧ p = nI n ∧ np (visN (R.Q.G n) (R.Q.T n) + 1) x) ∧ mdW S S' F t R kz 1)), fun _ _ _ _ => False)
def tX14_anchor : CD := [(0, .aload_n 0), (1, .iconst 0), (2, .putfield 512), (5, .aload_n 0), (6, .iload_n 1), (7, .iload_n 2), (8, .iload_n 3), (9, .invokevirtual 576), (12, .goto 10), (15, .astore 4), (17, .aload_n 0), (18, .iconst 1), (19, .putfield 512), (22, .return_)]
set_option maxRecDepth 100000 in
theorem kX14_anchor : chk cX14_anchor tX14_anchor = true := by decide +kernel
theorem vX14_anchor_576 : ∀ w ∈ ([.methodLink RX14 576 yX14_anchor0, .instanceMethod yX14_anchor0, .selects yX14_anchor0.cls yX14_anchor0 yX14_anchor0, .initialized yX14_anchor0.cls, .code yX14_anchor0 cX14_anchor0 6 none] : List Cond), w ∈ lw_good := List.forall_mem_cons.mpr ⟨mgd 2222 (by decide +kernel) (by decide +kernel), List.forall_mem_cons.mpr ⟨mgd 2224 (by decide +kernel) (by decide +kernel), List.forall_mem_cons.mpr ⟨mgd 81 (by decide +kernel) (by decide +kernel), List.forall_mem_cons.mpr ⟨mgd 136 (by decide +kernel) (by decide +kernel), List.forall_mem_cons.mpr ⟨mgd 2225 (by decide +kernel) (by decide +kernel), fun _ h => absurd h List.not_mem_nil⟩⟩⟩⟩⟩
set_option maxRecDepth 100000 in
set_option maxHeartbeats 2000000 in
theorem c_ran1 (l : Launch) (hlt : l.stackTraces = false) : ∀ (t : Nat) (a : Int32) (p : Int32) (x : Int32) (F : Nat → Nat × Nat) (z : Nat → Nat) (Y : Nat → Nat → Nat) (R : Rb) (kz : Nat → Nat), CtX l yX14_anchor (Cond.codeWith yX14_anchor cX14_anchor 5 none [(5, 12, 15, 138)]) none 9 155 (sp_ran1 t a p x F z Y R kz) := by
  intro t a p x F z Y R kz
  refine CtX.ofH hlt (fX14, nX14, aX14, iX14, lX14, [(576, 0, 4, 0, T_ran0)], qX14, gX14, []) false tX14_anchor [((5, 12, 15, 138), 1)] (fun _ _ _ => none) (by decide) (by decide) kX14_anchor ⟨_, _, rfl⟩ fX14_ok nX14_ok aX14_ok iX14_ok lX14_ok (fun p e R s m args below meth c Q D cy z r A C hR1 hR2 => List.forall_mem_cons.mpr ⟨cOK_use (fun _ _ _ _ _ _ _ _ h => let ⟨sp, h1, h2, h3⟩ := u_ran0 l hlt _ _ _ _ _ _ _ _ h; ⟨sp, cOKx_V C h1 vX14_anchor_576 ⟨by decide, by decide, by decide +kernel⟩ ⟨by rw [hR1]; decide, by rw [hR2]; decide⟩ (k := 15) (T := TX14) (N := 52) rfl (by decide) h2, h3⟩), fun _ h => absurd h List.not_mem_nil⟩) qX14_ok gX14_ok rfl (List.forall_mem_cons.mpr ⟨⟨by decide, mgd 1925 (by decide +kernel) (by decide +kernel)⟩, fun _ h => absurd h List.not_mem_nil⟩) (fun _ _ _ _ z => z) ?_ ?_
  · rintro _ S ⟨rfl, hp⟩
    refine ⟨Nat.le_of_ble_eq_true rfl, 300, ?_⟩
    show (True ∧ (isO S 15 t ∧ (0 = 0 ∧ (∃ (F_1 : Nat → Nat × Nat) (z_2 : Nat → Nat) (Y_3 : Nat → Nat → Nat) (R_4 : Rb) (kz_5 : Nat → Nat), (MD (sI S 1551 t (0 : Int32)) F_1 t z_2 Y_3 R_4 kz_5) ∧ 0 + 3 ≤ 3 ∧ 0 + 18 ≤ 18 ∧ ((∀ (S_6 : MM), (∃ i n j, i < 8 ∧ a = nI i ∧ n < 4 ∧ p = nI n ∧ x = nI j ∧ ((j = visN (R_4.Q.G n) (R_4.Q.T n) ∧ mdQ (sI S 1551 t (0 : Int32)) S_6 F_1 t (R_4.sQ (R_4.Q.sAn (upF R_4.Q.ap i (some n)) (upF R_4.Q.an i none))) kz_5) ∨ ∃ k, TxN (R_4.Q.G n) (R_4.Q.T n) j k ∧ mdQ (sI S 1551 t (0 : Int32)) S_6 F_1 t (R_4.sQ (R_4.Q.sAn (upF R_4.Q.ap i (some n)) (upF R_4.Q.an i (some k)))) kz_5)) → (([] : List MV) = [] ∧ mret none (sp_ran1 t a p x F z Y R kz) [.inr (.inr (some t)), .inl a, .inl p, .inl x] S none S_6 (0 + 3) (0 + 18))) ∧ ((np 8 a ∨ np 4 p ∨ ∃ n, n < 4 ∧ p = nI n ∧ np (visN (R_4.Q.G n) (R_4.Q.T n) + 1) x) → (∀ e_8, (True ∧ (isO (sI S 1551 t (0 : Int32)) 15 t ∧ (([] : List MV) = [] ∧ mret none (sp_ran1 t a p x F z Y R kz) [.inr (.inr (some t)), .inl a, .inl p, .inl x] S none (sI (sI S 1551 t (0 : Int32)) 1551 t (1 : Int32)) (0 + 3) (0 + 18)))))))))))
    refine ⟨trivial, (hp 0).1, rfl, F, z, Y, R, kz, hp.th 0, by decide, by decide, fun S3 h => ?_, fun h e => ⟨trivial, (hp 0).1, rfl, trivial, ⟨rfl, Or.inr ⟨h, (hp.ex0 1 rfl).w hp⟩⟩, Nat.le_refl _, Nat.le_refl _⟩⟩
    obtain ⟨i, n, j, h1, h2, h3, h4, h5, h6⟩ := h
    refine ⟨rfl, trivial, ⟨rfl, Or.inl ⟨i, n, j, h1, h2, h3, h4, h5, ?_⟩⟩, Nat.le_refl _, Nat.le_refl _⟩
    rcases h6 with ⟨q1, q2⟩ | ⟨k, q1, q2⟩
    · exact Or.inl ⟨q1, q2.ok hp⟩
    · exact Or.inr ⟨k, q1, q2.ok hp⟩
  · exact fun _ _ _ _ _ h => by cases h
theorem u_ran1 (l : Launch) (hlt : l.stackTraces = false) : UsX l yX14_anchor (Cond.codeWith yX14_anchor cX14_anchor 5 none [(5, 12, 15, 138)]) none 9 155 15 T_ran1 := by
  intro Rc Rs av S cs sl K Kx h
  unfold T_ran1 at h
  split at h
  · rename_i t_o a p x
    obtain ⟨t, rfl, h_1⟩ := pa_of h
    obtain ⟨F, z, Y, R, kz, hp, hc, hs, hk⟩ := h_1
    refine ⟨(sp_ran1 t a p x F z Y R kz), c_ran1 l hlt t a p x F z Y R kz, fun _ _ h9 => ⟨_, _, h9.1, (h9.2 0).1⟩, ⟨rfl, hp⟩, hc, hs, fun S' h8 => by
      obtain ⟨-, h8⟩ := h8
      exact hk _ h8, fun _ _ q => q.elim⟩
  · exact h.elim
def T_rvi1 : TR := fun Rc Rs av S cs sl K _Kx => match av with
  | [.inr (.inr t_o), .inl b] => pa t_o fun t => (∃ (F : Nat → Nat × Nat) (z : Nat → Nat) (Y : Nat → Nat → Nat) (R : Rb) (kz : Nat → Nat), (MD S F t z Y R kz) ∧ cs + 2 ≤ Rc ∧ sl + 12 ≤ Rs ∧ (∀ (v : Int32) (S' : MM), ((∃ i n, i < 8 ∧ b = nI i ∧ R.Q.mp i = some n ∧ v = nI (vwR (R.Q.G n) (R.M i) (R.Q.T n).od).length ∧ mdW S S' F t (R.sQ (R.Q.sVw (vwR (R.Q.G n) (R.M i) (R.Q.T n).od))) kz 0) ∨ (np 8 b ∧ v = 0 ∧ mdW S S' F t R kz 1) ∨ ((∃ i, i < 8 ∧ b = nI i ∧ R.Q.mp i = none) ∧ v = 0 ∧ mdW S S' F t R kz 2)) → K (some (.inl v)) S' (cs + 2) (sl + 12)))
  | _ => False
def sp_rvi1 (t : Nat) (b : Int32) (F : Nat → Nat × Nat) (z : Nat → Nat) (Y : Nat → Nat → Nat) (R : Rb) (kz : Nat → Nat) : Sp := (fun av S => av = [.inr (.inr (some t)), .inl b] ∧ (MD S F t z Y R kz), fun _ S => 2, fun _ S => 12, fun _ S rv S' => ∃ v, rv = (some (.inl v)) ∧ ((∃ i n, i < 8 ∧ b = nI i ∧ R.Q.mp i = some n ∧ v = nI (vwR (R.Q.G n) (R.M i) (R.Q.T n).od).length ∧ mdW S S' F t (R.sQ (R.Q.sVw (vwR (R.Q.G n) (R.M i) (R.Q.T n).od))) kz 0) ∨ (np 8 b ∧ v = 0 ∧ mdW S S' F t R kz 1) ∨ ((∃ i, i < 8 ∧ b = nI i ∧ R.Q.mp i = none) ∧ v = 0 ∧ mdW S S' F t R kz 2)), fun _ _ _ _ => False)
def tX14_view : CD := [(0, .aload_n 0), (1, .iconst 0), (2, .putfield 512), (5, .aload_n 0), (6, .iload_n 1), (7, .invokevirtual 564), (10, .ireturn), (11, .astore_n 2), (12, .aload_n 0), (13, .iconst 1), (14, .putfield 512), (17, .goto 9), (20, .astore_n 2), (21, .aload_n 0), (22, .iconst 2), (23, .putfield 512), (26, .iconst 0), (27, .ireturn)]
set_option maxRecDepth 100000 in
theorem kX14_view : chk cX14_view tX14_view = true := by decide +kernel
theorem vX14_view_564 : ∀ w ∈ ([.methodLink RX14 564 yX14_view0, .instanceMethod yX14_view0, .selects yX14_view0.cls yX14_view0 yX14_view0, .initialized yX14_view0.cls, .code yX14_view0 cX14_view0 4 (some .int)] : List Cond), w ∈ lw_good := List.forall_mem_cons.mpr ⟨mgd 2188 (by decide +kernel) (by decide +kernel), List.forall_mem_cons.mpr ⟨mgd 2190 (by decide +kernel) (by decide +kernel), List.forall_mem_cons.mpr ⟨mgd 77 (by decide +kernel) (by decide +kernel), List.forall_mem_cons.mpr ⟨mgd 136 (by decide +kernel) (by decide +kernel), List.forall_mem_cons.mpr ⟨mgd 2191 (by decide +kernel) (by decide +kernel), fun _ h => absurd h List.not_mem_nil⟩⟩⟩⟩⟩
set_option maxRecDepth 100000 in
set_option maxHeartbeats 2000000 in
theorem c_rvi1 (l : Launch) (hlt : l.stackTraces = false) : ∀ (t : Nat) (b : Int32) (F : Nat → Nat × Nat) (z : Nat → Nat) (Y : Nat → Nat → Nat) (R : Rb) (kz : Nat → Nat), CtX l yX14_view (Cond.codeWith yX14_view cX14_view 3 (some .int) [(5, 10, 11, 138), (5, 10, 20, 141)]) (some .int) 8 132 (sp_rvi1 t b F z Y R kz) := by
  intro t b F z Y R kz
  refine CtX.ofH hlt (fX14, nX14, aX14, iX14, lX14, [(564, 0, 2, 1, T_rvi0)], qX14, gX14, []) false tX14_view [((5, 10, 11, 138), 1), ((5, 10, 20, 141), 2)] (fun _ _ _ => none) (by decide) (by decide) kX14_view ⟨_, _, rfl⟩ fX14_ok nX14_ok aX14_ok iX14_ok lX14_ok (fun p e R s m args below meth c Q D cy z r A C hR1 hR2 => List.forall_mem_cons.mpr ⟨cOK_use (fun _ _ _ _ _ _ _ _ h => let ⟨sp, h1, h2, h3⟩ := u_rvi0 l hlt _ _ _ _ _ _ _ _ h; ⟨sp, cOKx_V C h1 vX14_view_564 ⟨by decide, by decide, by decide +kernel⟩ ⟨by rw [hR1]; decide, by rw [hR2]; decide⟩ (k := 15) (T := TX14) (N := 52) rfl (by decide) h2, h3⟩), fun _ h => absurd h List.not_mem_nil⟩) qX14_ok gX14_ok rfl (List.forall_mem_cons.mpr ⟨⟨by decide, mgd 1925 (by decide +kernel) (by decide +kernel)⟩, List.forall_mem_cons.mpr ⟨⟨by decide, mgd 2061 (by decide +kernel) (by decide +kernel)⟩, fun _ h => absurd h List.not_mem_nil⟩⟩) (fun _ _ _ _ z => z) ?_ ?_
  · rintro _ S ⟨rfl, hp⟩
    refine ⟨Nat.le_of_ble_eq_true rfl, 300, ?_⟩
    show (True ∧ (isO S 15 t ∧ (0 = 0 ∧ (∃ (F_1 : Nat → Nat × Nat) (z_2 : Nat → Nat) (Y_3 : Nat → Nat → Nat) (R_4 : Rb) (kz_5 : Nat → Nat), (MD (sI S 1551 t (0 : Int32)) F_1 t z_2 Y_3 R_4 kz_5) ∧ 0 + 2 ≤ 2 ∧ 0 + 12 ≤ 12 ∧ ((∀ (x_7 : Int32) (S_6 : MM), (∃ i n, i < 8 ∧ b = nI i ∧ R_4.Q.mp i = some n ∧ x_7 = nI (vwR (R_4.Q.G n) (R_4.M i) (R_4.Q.T n).od).length ∧ mdQ (sI S 1551 t (0 : Int32)) S_6 F_1 t (R_4.sQ (R_4.Q.sVw (vwR (R_4.Q.G n) (R_4.M i) (R_4.Q.T n).od))) kz_5) → (([] : List MV) = [] ∧ mret (some .int) (sp_rvi1 t b F z Y R kz) [.inr (.inr (some t)), .inl b] S (some (.inl x_7)) S_6 (0 + 2) (0 + 12))) ∧ ((np 8 b) → (∀ e_9, (True ∧ (isO (sI S 1551 t (0 : Int32)) 15 t ∧ (([] : List MV) = [] ∧ mret (some .int) (sp_rvi1 t b F z Y R kz) [.inr (.inr (some t)), .inl b] S (some (.inl (0 : Int32))) (sI (sI S 1551 t (0 : Int32)) 1551 t (1 : Int32)) (0 + 2) (0 + 12)))))) ∧ ((∃ i, i < 8 ∧ b = nI i ∧ R_4.Q.mp i = none) → (∀ e_11, (True ∧ (isO (sI S 1551 t (0 : Int32)) 15 t ∧ (([] : List MV) = [] ∧ mret (some .int) (sp_rvi1 t b F z Y R kz) [.inr (.inr (some t)), .inl b] S (some (.inl (0 : Int32))) (sI (sI S 1551 t (0 : Int32)) 1551 t (2 : Int32)) (0 + 2) (0 + 12)))))))))))
    refine ⟨trivial, (hp 0).1, rfl, F, z, Y, R, kz, hp.th 0, by decide, by decide, fun v S3 h => ?_, fun h e => ⟨trivial, (hp 0).1, rfl, trivial, ⟨_, rfl, Or.inr (Or.inl ⟨h, rfl, (hp.ex0 1 rfl).w hp⟩)⟩, Nat.le_refl _, Nat.le_refl _⟩, fun h e => ⟨trivial, (hp 0).1, rfl, trivial, ⟨_, rfl, Or.inr (Or.inr ⟨h, rfl, (hp.ex0 2 rfl).w hp⟩)⟩, Nat.le_refl _, Nat.le_refl _⟩⟩
    obtain ⟨i, n, h1, h2, h3, h4, h5⟩ := h
    exact ⟨rfl, trivial, ⟨_, rfl, Or.inl ⟨i, n, h1, h2, h3, h4, h5.ok hp⟩⟩, Nat.le_refl _, Nat.le_refl _⟩
  · exact fun _ _ _ _ _ h => by cases h
theorem u_rvi1 (l : Launch) (hlt : l.stackTraces = false) : UsX l yX14_view (Cond.codeWith yX14_view cX14_view 3 (some .int) [(5, 10, 11, 138), (5, 10, 20, 141)]) (some .int) 8 132 15 T_rvi1 := by
  intro Rc Rs av S cs sl K Kx h
  unfold T_rvi1 at h
  split at h
  · rename_i t_o b
    obtain ⟨t, rfl, h_1⟩ := pa_of h
    obtain ⟨F, z, Y, R, kz, hp, hc, hs, hk⟩ := h_1
    refine ⟨(sp_rvi1 t b F z Y R kz), c_rvi1 l hlt t b F z Y R kz, fun _ _ h9 => ⟨_, _, h9.1, (h9.2 0).1⟩, ⟨rfl, hp⟩, hc, hs, fun v9 S' h8 => by
      obtain ⟨v8, h7, h8⟩ := h8
      cases h7
      exact hk _ _ h8, fun _ _ q => q.elim⟩
  · exact h.elim
