/-! ===== THE REFERENCE'S GRAPH IN THE MEMORY ===== -/
def rgK (k : Nat) : Nat := if k = 5 ∨ k = 22 then 28 else if k = 8 then 19 else if k = 9 ∨ k = 16 ∨ k = 23 then 20 else 17
def rgN (k : Nat) : Nat := if k = 3 ∨ k = 4 ∨ k = 5 then 16 else if k = 8 then 131072 else if k = 22 then 4 else 8192
/-- a pointer: -1 for none, else the node's event -/
def pnI : Option Nat → Int32
  | none => -1
  | some x => nI (x - 1)
/-- who deleted a node, the latest first -/
def dls (G : Gr) (k : Nat) : List Nat := ((List.range G.n).filter (fun j => decide ((G.ev j).ch = none ∧ (G.ev j).tg = k))).reverse
def hdI : List Nat → Int32
  | [] => -1
  | k :: _ => nI k
/-- a list of deleters by pointers -/
def dlC (S : MM) (r : Nat) : List Nat → Prop
  | [] => True
  | k :: L => eI S r k = hdI L ∧ dlC S r L
/-- the size of the row of an agent's events -/
def rcp : Nat → Nat
  | 0 => 8
  | n + 1 => if rcp n = n then 2 * n else rcp n
theorem rcp_ge : ∀ n, n ≤ rcp n ∧ 8 ≤ rcp n
  | 0 => by decide
  | n + 1 => by
    have := rcp_ge n
    rw [rcp]
    split <;> omega
theorem rcp_le : ∀ n, rcp n ≤ 8 + 2 * n
  | 0 => by decide
  | n + 1 => by
    have := rcp_le n
    rw [rcp]
    split <;> omega
/-- an event that is added and not yet inserted or erased stands in G with ch none and tg 8192 -/
def RGf (S : MM) (F : Nat → Nat × Nat) (i : Nat) (y : Nat → Nat) (G : Gr) (T : Tr) : Nat → Prop
  | 0 => isO S 13 (y 0) ∧ F (y 0) = (i, 1)
  | 1 => ∀ k, 3 ≤ k → k ≤ 25 → k ≠ 17 → mR S (1300 + k) (y 0) = some (y k) ∧ F (y k) = (i, k) ∧ isO S (rgK k) (y k) ∧ mN S (y k) = rgN k
  | 2 => mI S 1300 (y 0) = nI G.n ∧ mI S 1301 (y 0) = nI G.m ∧ mI S 1302 (y 0) = nI T.od.length
  | 3 => ∀ s, s < G.m → eI S (y 3) s = nI (G.ag s) ∧ eI S (y 4) s = nI (G.cn s)
  | 4 => ∀ s, s < 16 → eR S (y 5) s = some (y (100 + s)) ∧ isO S 17 (y (100 + s)) ∧ F (y (100 + s)) = (i, 100 + s) ∧ G.cn s ≤ mN S (y (100 + s)) ∧ mN S (y (100 + s)) ≤ 16384 ∧ ∀ j, j < G.cn s → eI S (y (100 + s)) j = nI ((evL G s).getD j 0)
  | 5 => ∀ k, k < G.n → eI S (y 6) k = nI (G.ev k).sl ∧ eI S (y 7) k = nI (G.ev k).nu ∧ (∀ s, s < 16 → eI S (y 8) (16 * k + s) = nI ((G.ev k).pa s)) ∧ ((G.ev k).ch ≠ none ∨ (G.ev k).tg < 8192 → eI S (y 10) k = nI (G.ev k).ix)
  | 6 => ∀ k, k < G.n → (∀ c, (G.ev k).ch = some c → eI S (y 9) k = 1 ∧ eI S (y 11) k = nI c) ∧ ((G.ev k).ch = none → (G.ev k).tg < 8192 → eI S (y 9) k = 0 ∧ eI S (y 18) k = nI (G.ev k).tg)
  | 7 => ∀ j, j < T.od.length → eI S (y 21) j = nI (T.od.getD j 0 - 1)
  | 8 => (∀ x, x ∈ T.od → eI S (y 13) (x - 1) = pnI (T.sb x)) ∧ ∀ k, k < G.n → eI S (y 14) k = pnI (T.fl (k + 1)) ∧ eI S (y 15) k = pnI (T.fr (k + 1))
  | 9 => mI S 1317 (y 0) = pnI (T.fr 0)
  | 10 => ∀ k, k < G.n → eI S (y 20) k = hdI (dls G k) ∧ dlC S (y 19) (dls G k)
  | 11 => G.ok ∧ T.od.Nodup ∧ ∀ x, x ∈ T.od → ∃ k, x = k + 1 ∧ k < G.n ∧ (G.ev k).ch ≠ none
  | 12 => ∀ s, s < 16 → eI S (y 4) s = nI (G.cn s) ∧ mN S (y (100 + s)) = rcp (G.cn s)
  | _ => True
def RG (S : MM) (F : Nat → Nat × Nat) (i : Nat) (y : Nat → Nat) (G : Gr) (T : Tr) : Prop := ∀ j, RGf S F i y G T j
section RGS
variable {S S' : MM} {F F' : Nat → Nat × Nat} {i : Nat} {y : Nat → Nat} {G : Gr} {T : Tr} {P : Nat → Prop}
theorem RG.ok (h : RG S F i y G T) : G.ok := (h 11).1
theorem RG.tnd (h : RG S F i y G T) : T.od.Nodup := (h 11).2.1
theorem RG.ond (h : RG S F i y G T) {x : Nat} (hx : x ∈ T.od) : ∃ k, x = k + 1 ∧ k < G.n ∧ (G.ev k).ch ≠ none := (h 11).2.2 x hx
theorem RG.row (h : RG S F i y G T) {k : Nat} (h1 : 3 ≤ k) (h2 : k ≤ 25) (h3 : k ≠ 17) : mR S (1300 + k) (y 0) = some (y k) ∧ isO S (rgK k) (y k) ∧ mN S (y k) = rgN k := ⟨(h 1 k h1 h2 h3).1, (h 1 k h1 h2 h3).2.2.1, (h 1 k h1 h2 h3).2.2.2⟩
theorem RG.r3 (h : RG S F i y G T) : mR S 1303 (y 0) = some (y 3) ∧ isO S 17 (y 3) ∧ mN S (y 3) = 16 := h.row (k := 3) (by decide) (by decide) (by decide)
theorem RG.r4 (h : RG S F i y G T) : mR S 1304 (y 0) = some (y 4) ∧ isO S 17 (y 4) ∧ mN S (y 4) = 16 := h.row (k := 4) (by decide) (by decide) (by decide)
theorem RG.r5 (h : RG S F i y G T) : mR S 1305 (y 0) = some (y 5) ∧ isO S 28 (y 5) ∧ mN S (y 5) = 16 := h.row (k := 5) (by decide) (by decide) (by decide)
theorem RG.r6 (h : RG S F i y G T) : mR S 1306 (y 0) = some (y 6) ∧ isO S 17 (y 6) ∧ mN S (y 6) = 8192 := h.row (k := 6) (by decide) (by decide) (by decide)
theorem RG.r7 (h : RG S F i y G T) : mR S 1307 (y 0) = some (y 7) ∧ isO S 17 (y 7) ∧ mN S (y 7) = 8192 := h.row (k := 7) (by decide) (by decide) (by decide)
theorem RG.r8 (h : RG S F i y G T) : mR S 1308 (y 0) = some (y 8) ∧ isO S 19 (y 8) ∧ mN S (y 8) = 131072 := h.row (k := 8) (by decide) (by decide) (by decide)
theorem RG.r19 (h : RG S F i y G T) : mR S 1319 (y 0) = some (y 19) ∧ isO S 17 (y 19) ∧ mN S (y 19) = 8192 := h.row (k := 19) (by decide) (by decide) (by decide)
theorem RG.r20 (h : RG S F i y G T) : mR S 1320 (y 0) = some (y 20) ∧ isO S 17 (y 20) ∧ mN S (y 20) = 8192 := h.row (k := 20) (by decide) (by decide) (by decide)
theorem RG.r21 (h : RG S F i y G T) : mR S 1321 (y 0) = some (y 21) ∧ isO S 17 (y 21) ∧ mN S (y 21) = 8192 := h.row (k := 21) (by decide) (by decide) (by decide)
end RGS
/-- an agent's slot, as the reference tells it -/
def slR (G : Gr) (a : Nat) (v : Int32) : Prop := (v = -1 ∧ ∀ s, s < G.m → G.ag s ≠ a) ∨ ∃ s, s < G.m ∧ G.ag s = a ∧ v = nI s
def I_sl (g a : Nat) (G : Gr) (S : MM) (k : Nat) : KT := fun lo st S1 cs sl => ∃ j, j + k = G.m ∧ (∀ s, s < j → G.ag s ≠ a) ∧ lo = [(0, .inr (.inr (some g))), (1, .inl (nI a)), (2, .inl (nI j))] ∧ st = [] ∧ S = S1 ∧ cs = 0 ∧ sl = 0
def T_rsl : TR := fun Rc Rs av S cs sl K _Kx => match av with
  | [.inr (.inr g_o), .inl a_v] => pa g_o fun g => (∃ (a : Nat), a_v = nI a ∧ (∃ (F : Nat → Nat × Nat) (i : Nat) (y : Nat → Nat) (G : Gr) (T : Tr), (g = y 0 ∧ RG S F i y G T ∧ a < 256) ∧ cs ≤ Rc ∧ sl ≤ Rs ∧ (∀ (v : Int32), (slR G a v) → K (some (.inl v)) S cs sl)))
  | _ => False
def sp_rsl (g : Nat) (a : Nat) (F : Nat → Nat × Nat) (i : Nat) (y : Nat → Nat) (G : Gr) (T : Tr) : Sp := (fun av S => av = [.inr (.inr (some g)), .inl (nI a)] ∧ (g = y 0 ∧ RG S F i y G T ∧ a < 256), fun _ S => 0, fun _ S => 0, fun _ S rv S' => ∃ v, rv = (some (.inl v)) ∧ (slR G a v) ∧ S' = S, fun _ _ _ _ => False)
def tX12_slotOf : CD := [(0, .iconst 0), (1, .istore_n 2), (2, .iload_n 2), (3, .aload_n 0), (4, .getfield 87), (7, .if_icmp .ge 21), (10, .aload_n 0), (11, .getfield 9), (14, .iload_n 2), (15, .iaload), (16, .iload_n 1), (17, .if_icmp .ne 5), (20, .iload_n 2), (21, .ireturn), (22, .iinc 2 1), (25, .goto (-23)), (28, .iconst (-1)), (29, .ireturn)]
set_option maxRecDepth 100000 in
theorem kX12_slotOf : chk cX12_slotOf tX12_slotOf = true := by decide +kernel

set_option maxRecDepth 100000 in
set_option maxHeartbeats 2000000 in
theorem c_rsl (l : Launch) : ∀ (g : Nat) (a : Nat) (F : Nat → Nat × Nat) (i : Nat) (y : Nat → Nat) (G : Gr) (T : Tr), Ct l yX12_slotOf cX12_slotOf 3 (some .int) 0 0 (sp_rsl g a F i y G T) := by
  intro g a F i y G T
  refine Ct.of (fX12, nX12, aX12, iX12, lX12, [], qX12, gX12, []) false tX12_slotOf (fun _ S => look [(2, ([0,1,2], I_sl g a G S))]) (by decide) (by decide) kX12_slotOf ⟨_, _, rfl⟩ fX12_ok nX12_ok aX12_ok iX12_ok lX12_ok (fun _ _ _ _ _ _ _ _ _ _ _ _ _ _ _ _ _ _ => no_all) qX12_ok gX12_ok rfl ?_ ?_
  · rintro _ S ⟨rfl, hp⟩
    refine ⟨Nat.le_of_ble_eq_true rfl, 300, ?_⟩
    show (∃ k1, I_sl g a G S k1 [(0, .inr (.inr (some g))), (1, .inl (nI a)), (2, .inl (0 : Int32))] [] S 0 0)
    obtain ⟨rfl, h, ha⟩ := hp
    exact ⟨G.m, 0, by omega, fun s hs => absurd hs (Nat.not_lt_zero s), rfl, rfl, rfl, rfl, rfl⟩
  · intro av S hpre pc I hI k lo st S1 cs sl h
    obtain ⟨rfl, hp⟩ := hpre
    have hm := look_in hI
    rw [List.mem_singleton] at hm
    cases hm
    obtain ⟨j, hj, hn, rfl, rfl, rfl, rfl, rfl⟩ := h
    refine ⟨300, ?_⟩
    show (isO S 13 g ∧ (((mI S 1301 g) ≤ (nI j) → (([] : List MV) = [] ∧ mret (some .int) (sp_rsl g a F i y G T) [.inr (.inr (some g)), .inl (nI a)] S (some (.inl (-1 : Int32))) S 0 0)) ∧ (¬ (mI S 1301 g) ≤ (nI j) → (isO S 13 g ∧ (pa (mR S 1303 g) fun a_1 => ∃ v_2 : Int32, (isO S 17 a_1 ∧ inR S a_1 (nI j) ∧ v_2 = eI S a_1 (nI j).toNatClampNeg ∨ a_1 = (mQ S).1 ∧ vp_in (nI j) 16 ∧ v_2 = mRem (nI j).toNatClampNeg) ∧ ((¬ v_2 = (nI a) → (∃ k1, k1 < k ∧ I_sl g a G S k1 [(0, .inr (.inr (some g))), (1, .inl (nI a)), (2, .inl ((nI j) + (1 : Int32)))] [] S 0 0)) ∧ (v_2 = (nI a) → (([] : List MV) = [] ∧ mret (some .int) (sp_rsl g a F i y G T) [.inr (.inr (some g)), .inl (nI a)] S (some (.inl (nI j))) S 0 0))))))))
    obtain ⟨rfl, h, ha⟩ := hp
    have hm16 : G.m ≤ 16 := h.ok.2.1
    have m1 : mI S 1301 (y 0) = nI G.m := (h 2).2.1
    obtain ⟨a1, a2, a3⟩ := h.r3
    rw [m1]
    refine ⟨(h 0).1, if_le (by omega) (by omega) (fun q => ⟨rfl, trivial, ⟨_, rfl, Or.inl ⟨rfl, fun s hs => hn s (by omega)⟩, rfl⟩, Nat.le_refl _, Nat.le_refl _⟩) (fun q => ⟨(h 0).1, pa_i a1 ⟨_, Or.inl ⟨a2, inRn a3 (by omega) (by decide), rfl⟩, ?_⟩⟩)⟩
    rw [nI_clamp (by omega), (h 3 j q).1]
    have hag : G.ag j < 256 := h.ok.ag1 j q
    refine ⟨fun e => ⟨k - 1, by omega, j + 1, by omega, fun s hs => ?_, by rw [nI_1], rfl, rfl, rfl, rfl⟩, fun e => ⟨rfl, trivial, ⟨_, rfl, Or.inr ⟨j, q, (nI_eq (by omega) (by omega)).1 e, rfl⟩, rfl⟩, Nat.le_refl _, Nat.le_refl _⟩⟩
    by_cases c : s = j
    · subst c; exact fun w => e (by rw [w])
    · exact hn s (by omega)
theorem u_rsl (l : Launch) : Us l yX12_slotOf cX12_slotOf 3 (some .int) 0 0 13 T_rsl := by
  intro Rc Rs av S cs sl K Kx h
  unfold T_rsl at h
  split at h
  · rename_i g_o a_v
    obtain ⟨g, rfl, h_1⟩ := pa_of h
    obtain ⟨a, rfl, h_2⟩ := h_1
    obtain ⟨F, i, y, G, T, hp, hc, hs, hk⟩ := h_2
    refine ⟨(sp_rsl g a F i y G T), c_rsl l g a F i y G T, fun _ _ h9 => ⟨_, _, h9.1, (h9.2.1 ▸ (h9.2.2.1 0).1)⟩, ⟨rfl, hp⟩, hc, hs, fun v9 S' h8 => by
      obtain ⟨v8, h7, h8, h6⟩ := h8
      cases h7
      subst h6
      exact hk _ h8, fun _ _ q => q.elim⟩
  · exact h.elim
def T_rco : TR := fun Rc Rs av S cs sl K _Kx => match av with
  | [.inr (.inr g_o), .inl a_v] => pa g_o fun g => (∃ (a : Nat), a_v = nI a ∧ (∃ (F : Nat → Nat × Nat) (i : Nat) (y : Nat → Nat) (G : Gr) (T : Tr), (g = y 0 ∧ RG S F i y G T ∧ a < 256) ∧ cs ≤ Rc ∧ sl ≤ Rs ∧ (K (some (.inl (nI (agE G a).length))) S cs sl)))
  | _ => False
def sp_rco (g : Nat) (a : Nat) (F : Nat → Nat × Nat) (i : Nat) (y : Nat → Nat) (G : Gr) (T : Tr) : Sp := (fun av S => av = [.inr (.inr (some g)), .inl (nI a)] ∧ (g = y 0 ∧ RG S F i y G T ∧ a < 256), fun _ S => 0, fun _ S => 0, fun _ S rv S' => rv = (some (.inl (nI (agE G a).length))) ∧ S' = S, fun _ _ _ _ => False)
def tX12_countOf : CD := [(0, .aload_n 0), (1, .iload_n 1), (2, .invokevirtual 90), (5, .istore_n 2), (6, .iload_n 2), (7, .ifCond .ge 7), (10, .iconst 0), (11, .goto 9), (14, .aload_n 0), (15, .getfield 15), (18, .iload_n 2), (19, .iaload), (20, .ireturn)]
set_option maxRecDepth 100000 in
theorem kX12_countOf : chk cX12_countOf tX12_countOf = true := by decide +kernel
theorem vX12_countOf_90 : ∀ w ∈ ([.methodLink RX12 90 yX12_slotOf, .instanceMethod yX12_slotOf, .selects yX12_slotOf.cls yX12_slotOf yX12_slotOf, .initialized yX12_slotOf.cls, .code yX12_slotOf cX12_slotOf 3 (some .int)] : List Cond), w ∈ lw_good := List.forall_mem_cons.mpr ⟨mgd 1983 (by decide +kernel) (by decide +kernel), List.forall_mem_cons.mpr ⟨mgd 1976 (by decide +kernel) (by decide +kernel), List.forall_mem_cons.mpr ⟨mgd 1977 (by decide +kernel) (by decide +kernel), List.forall_mem_cons.mpr ⟨mgd 138 (by decide +kernel) (by decide +kernel), List.forall_mem_cons.mpr ⟨mgd 1978 (by decide +kernel) (by decide +kernel), fun _ h => absurd h List.not_mem_nil⟩⟩⟩⟩⟩
set_option maxRecDepth 100000 in
set_option maxHeartbeats 2000000 in
theorem c_rco (l : Launch) : ∀ (g : Nat) (a : Nat) (F : Nat → Nat × Nat) (i : Nat) (y : Nat → Nat) (G : Gr) (T : Tr), Ct l yX12_countOf cX12_countOf 3 (some .int) 1 22 (sp_rco g a F i y G T) := by
  intro g a F i y G T
  refine Ct.of (fX12, nX12, aX12, iX12, lX12, [(90, 0, 2, 1, T_rsl)], qX12, gX12, []) false tX12_countOf (fun _ _ _ => none) (by decide) (by decide) kX12_countOf ⟨_, _, rfl⟩ fX12_ok nX12_ok aX12_ok iX12_ok lX12_ok (fun p e R s m args below meth c Q D cy z r A C hR1 hR2 => List.forall_mem_cons.mpr ⟨cOK_use (fun _ _ _ _ _ _ _ _ h => let ⟨sp, h1, h2, h3⟩ := u_rsl l _ _ _ _ _ _ _ _ h; ⟨sp, cOK_V C h1 vX12_countOf_90 ⟨by decide, by decide, by decide +kernel⟩ ⟨by rw [hR1]; decide, by rw [hR2]; decide⟩ (k := 13) (T := TX12) (N := 27) rfl (by decide) h2, h3⟩), fun _ h => absurd h List.not_mem_nil⟩) qX12_ok gX12_ok rfl ?_ ?_
  · rintro _ S ⟨rfl, hp⟩
    refine ⟨Nat.le_of_ble_eq_true rfl, 300, ?_⟩
    show (0 = 0 ∧ (∃ (a_1 : Nat), nI a = nI a_1 ∧ (∃ (F_2 : Nat → Nat × Nat) (i_3 : Nat) (y_4 : Nat → Nat) (G_5 : Gr) (T_6 : Tr), (g = y_4 0 ∧ RG S F_2 i_3 y_4 G_5 T_6 ∧ a_1 < 256) ∧ 0 ≤ 0 ∧ 0 ≤ 0 ∧ (∀ (x_8 : Int32), (slR G_5 a_1 x_8) → ((0 ≤ x_8 → (isO S 13 g ∧ (pa (mR S 1304 g) fun a_9 => ∃ v_10 : Int32, (isO S 17 a_9 ∧ inR S a_9 x_8 ∧ v_10 = eI S a_9 x_8.toNatClampNeg ∨ a_9 = (mQ S).1 ∧ vp_in x_8 16 ∧ v_10 = mRem x_8.toNatClampNeg) ∧ (([] : List MV) = [] ∧ mret (some .int) (sp_rco g a F i y G T) [.inr (.inr (some g)), .inl (nI a)] S (some (.inl v_10)) S 0 0)))) ∧ (¬ 0 ≤ x_8 → (([] : List MV) = [] ∧ mret (some .int) (sp_rco g a F i y G T) [.inr (.inr (some g)), .inl (nI a)] S (some (.inl (0 : Int32))) S 0 0)))))))
    obtain ⟨rfl, h, ha⟩ := hp
    have hm := h.ok.hm
    refine ⟨rfl, a, rfl, F, i, y, G, T, ⟨rfl, h, ha⟩, Nat.le_refl _, Nat.le_refl _, fun v hv => ?_⟩
    rcases hv with ⟨rfl, hno⟩ | ⟨s, hs, hag, rfl⟩
    · refine ⟨fun w => absurd w (by decide), fun _ => ⟨rfl, trivial, ⟨by rw [agE_no h.ok (fun ⟨s, hs, e⟩ => hno s hs e)]; rfl, rfl⟩, Nat.le_refl _, Nat.le_refl _⟩⟩
    · subst hag
      obtain ⟨a1, a2, a3⟩ := h.r4
      refine ⟨fun _ => ⟨(h 0).1, pa_i a1 ⟨_, Or.inl ⟨a2, inRn a3 (by omega) (by decide), rfl⟩, rfl, trivial, ⟨?_, rfl⟩, Nat.le_refl _, Nat.le_refl _⟩⟩, fun w => absurd (nI_pos' (by omega)) w⟩
      rw [nI_clamp (by omega), (h 3 s hs).2, agE_sl h.ok hs, evL_len]
  · exact fun _ _ _ _ _ h => by cases h
theorem u_rco (l : Launch) : Us l yX12_countOf cX12_countOf 3 (some .int) 1 22 13 T_rco := by
  intro Rc Rs av S cs sl K Kx h
  unfold T_rco at h
  split at h
  · rename_i g_o a_v
    obtain ⟨g, rfl, h_1⟩ := pa_of h
    obtain ⟨a, rfl, h_2⟩ := h_1
    obtain ⟨F, i, y, G, T, hp, hc, hs, hk⟩ := h_2
    refine ⟨(sp_rco g a F i y G T), c_rco l g a F i y G T, fun _ _ h9 => ⟨_, _, h9.1, (h9.2.1 ▸ (h9.2.2.1 0).1)⟩, ⟨rfl, hp⟩, hc, hs, fun v9 S' h8 => by
      obtain ⟨h7, h8⟩ := h8
      cases h7
      subst h8
      exact hk, fun _ _ q => q.elim⟩
  · exact h.elim
def fnV (G : Gr) (a : Nat) (x : Int32) : Int32 := if x < 0 then -1 else match (agE G a)[x.toNatClampNeg]? with
  | none => -1
  | some e => nI e
theorem cn_le {G : Gr} (h : G.ok) (s : Nat) : G.cn s ≤ 8192 := by
  rw [← evL_len]
  exact Nat.le_trans (List.length_filter_le _ _) (by rw [List.length_range]; exact h.hn)
def T_rfn : TR := fun Rc Rs av S cs sl K _Kx => match av with
  | [.inr (.inr g_o), .inl a_v, .inl x] => pa g_o fun g => (∃ (a : Nat), a_v = nI a ∧ (∃ (F : Nat → Nat × Nat) (i : Nat) (y : Nat → Nat) (G : Gr) (T : Tr), (g = y 0 ∧ RG S F i y G T ∧ a < 256) ∧ cs ≤ Rc ∧ sl ≤ Rs ∧ (K (some (.inl (fnV G a x))) S cs sl)))
  | _ => False
def sp_rfn (g : Nat) (a : Nat) (x : Int32) (F : Nat → Nat × Nat) (i : Nat) (y : Nat → Nat) (G : Gr) (T : Tr) : Sp := (fun av S => av = [.inr (.inr (some g)), .inl (nI a), .inl x] ∧ (g = y 0 ∧ RG S F i y G T ∧ a < 256), fun _ S => 0, fun _ S => 0, fun _ S rv S' => rv = (some (.inl (fnV G a x))) ∧ S' = S, fun _ _ _ _ => False)
def tX12_find : CD := [(0, .aload_n 0), (1, .iload_n 1), (2, .invokevirtual 90), (5, .istore_n 3), (6, .iload_n 3), (7, .ifCond .lt 17), (10, .iload_n 2), (11, .ifCond .lt 13), (14, .iload_n 2), (15, .aload_n 0), (16, .getfield 15), (19, .iload_n 3), (20, .iaload), (21, .if_icmp .lt 7), (24, .iconst (-1)), (25, .goto 11), (28, .aload_n 0), (29, .getfield 20), (32, .iload_n 3), (33, .aaload), (34, .iload_n 2), (35, .iaload), (36, .ireturn)]
set_option maxRecDepth 100000 in
theorem kX12_find : chk cX12_find tX12_find = true := by decide +kernel
theorem vX12_find_90 : ∀ w ∈ ([.methodLink RX12 90 yX12_slotOf, .instanceMethod yX12_slotOf, .selects yX12_slotOf.cls yX12_slotOf yX12_slotOf, .initialized yX12_slotOf.cls, .code yX12_slotOf cX12_slotOf 3 (some .int)] : List Cond), w ∈ lw_good := List.forall_mem_cons.mpr ⟨mgd 1983 (by decide +kernel) (by decide +kernel), List.forall_mem_cons.mpr ⟨mgd 1976 (by decide +kernel) (by decide +kernel), List.forall_mem_cons.mpr ⟨mgd 1977 (by decide +kernel) (by decide +kernel), List.forall_mem_cons.mpr ⟨mgd 138 (by decide +kernel) (by decide +kernel), List.forall_mem_cons.mpr ⟨mgd 1978 (by decide +kernel) (by decide +kernel), fun _ h => absurd h List.not_mem_nil⟩⟩⟩⟩⟩
set_option maxRecDepth 100000 in
set_option maxHeartbeats 2000000 in
theorem c_rfn (l : Launch) : ∀ (g : Nat) (a : Nat) (x : Int32) (F : Nat → Nat × Nat) (i : Nat) (y : Nat → Nat) (G : Gr) (T : Tr), Ct l yX12_find cX12_find 4 (some .int) 1 22 (sp_rfn g a x F i y G T) := by
  intro g a x F i y G T
  refine Ct.of (fX12, nX12, aX12, iX12, lX12, [(90, 0, 2, 1, T_rsl)], qX12, gX12, []) false tX12_find (fun _ _ _ => none) (by decide) (by decide) kX12_find ⟨_, _, rfl⟩ fX12_ok nX12_ok aX12_ok iX12_ok lX12_ok (fun p e R s m args below meth c Q D cy z r A C hR1 hR2 => List.forall_mem_cons.mpr ⟨cOK_use (fun _ _ _ _ _ _ _ _ h => let ⟨sp, h1, h2, h3⟩ := u_rsl l _ _ _ _ _ _ _ _ h; ⟨sp, cOK_V C h1 vX12_find_90 ⟨by decide, by decide, by decide +kernel⟩ ⟨by rw [hR1]; decide, by rw [hR2]; decide⟩ (k := 13) (T := TX12) (N := 27) rfl (by decide) h2, h3⟩), fun _ h => absurd h List.not_mem_nil⟩) qX12_ok gX12_ok rfl ?_ ?_
  · rintro _ S ⟨rfl, hp⟩
    refine ⟨Nat.le_of_ble_eq_true rfl, 300, ?_⟩
    show (0 = 0 ∧ (∃ (a_1 : Nat), nI a = nI a_1 ∧ (∃ (F_2 : Nat → Nat × Nat) (i_3 : Nat) (y_4 : Nat → Nat) (G_5 : Gr) (T_6 : Tr), (g = y_4 0 ∧ RG S F_2 i_3 y_4 G_5 T_6 ∧ a_1 < 256) ∧ 0 ≤ 0 ∧ 0 ≤ 0 ∧ (∀ (x_8 : Int32), (slR G_5 a_1 x_8) → ((x_8 < 0 → (([] : List MV) = [] ∧ mret (some .int) (sp_rfn g a x F i y G T) [.inr (.inr (some g)), .inl (nI a), .inl x] S (some (.inl (-1 : Int32))) S 0 0)) ∧ (¬ x_8 < 0 → ((x < 0 → (([] : List MV) = [] ∧ mret (some .int) (sp_rfn g a x F i y G T) [.inr (.inr (some g)), .inl (nI a), .inl x] S (some (.inl (-1 : Int32))) S 0 0)) ∧ (¬ x < 0 → (isO S 13 g ∧ (pa (mR S 1304 g) fun a_9 => ∃ v_10 : Int32, (isO S 17 a_9 ∧ inR S a_9 x_8 ∧ v_10 = eI S a_9 x_8.toNatClampNeg ∨ a_9 = (mQ S).1 ∧ vp_in x_8 16 ∧ v_10 = mRem x_8.toNatClampNeg) ∧ ((x < v_10 → (isO S 13 g ∧ (pa (mR S 1305 g) fun a_11 => a_11 ∈ mL S ∧ ¬ mK S a_11 < 21 ∧ mK S a_11 < 29 ∧ inR S a_11 x_8 ∧ (pa (eR S a_11 x_8.toNatClampNeg) fun a_12 => ∃ v_13 : Int32, (isO S 17 a_12 ∧ inR S a_12 x ∧ v_13 = eI S a_12 x.toNatClampNeg ∨ a_12 = (mQ S).1 ∧ vp_in x 16 ∧ v_13 = mRem x.toNatClampNeg) ∧ (([] : List MV) = [] ∧ mret (some .int) (sp_rfn g a x F i y G T) [.inr (.inr (some g)), .inl (nI a), .inl x] S (some (.inl v_13)) S 0 0))))) ∧ (¬ x < v_10 → (([] : List MV) = [] ∧ mret (some .int) (sp_rfn g a x F i y G T) [.inr (.inr (some g)), .inl (nI a), .inl x] S (some (.inl (-1 : Int32))) S 0 0)))))))))))))
    obtain ⟨rfl, h, ha⟩ := hp
    have hm := h.ok.hm
    refine ⟨rfl, a, rfl, F, i, y, G, T, ⟨rfl, h, ha⟩, Nat.le_refl _, Nat.le_refl _, fun v hv => ?_⟩
    rcases hv with ⟨rfl, hno⟩ | ⟨s, hs, hag, rfl⟩
    · refine ⟨fun _ => ⟨rfl, trivial, ⟨?_, rfl⟩, Nat.le_refl _, Nat.le_refl _⟩, fun w => absurd (by decide : (-1 : Int32) < 0) w⟩
      unfold fnV
      rw [agE_no h.ok (fun ⟨s, hs, e⟩ => hno s hs e)]
      split <;> rfl
    · subst hag
      refine ⟨fun w => absurd w (nI_pos (by omega)), fun _ => ⟨fun x0 => ⟨rfl, trivial, ⟨by rw [fnV, if_pos x0], rfl⟩, Nat.le_refl _, Nat.le_refl _⟩, fun x0 => ?_⟩⟩
      obtain ⟨j, hj, rfl⟩ := nI_of x0
      obtain ⟨a1, a2, a3⟩ := h.r4
      obtain ⟨b1, b2, b3⟩ := h.r5
      obtain ⟨c1, c2, c3, c4, c5, c6⟩ := h 4 s (by omega)
      have cl := cn_le h.ok s
      refine ⟨(h 0).1, pa_i a1 ⟨_, Or.inl ⟨a2, inRn a3 (by omega) (by decide), rfl⟩, ?_⟩⟩
      rw [nI_clamp (show s < 2 ^ 31 by omega), (h 3 s hs).2]
      refine if_lt (by omega) (by omega) (fun q => ⟨(h 0).1, pa_i b1 ⟨b2.1, by rw [b2.2]; decide, by rw [b2.2]; decide, inRn b3 (by omega) (by decide), pa_i c1 ⟨_, Or.inl ⟨c2, inRn rfl (by omega) (by omega), rfl⟩, rfl, trivial, ⟨?_, rfl⟩, Nat.le_refl _, Nat.le_refl _⟩⟩⟩) (fun q => ⟨rfl, trivial, ⟨?_, rfl⟩, Nat.le_refl _, Nat.le_refl _⟩)
      · rw [nI_clamp hj, c6 j q, fnV, if_neg x0, nI_clamp hj, agE_sl h.ok hs, List.getElem?_eq_getElem (by rw [evL_len]; exact q), List.getD_eq_getElem?_getD, List.getElem?_eq_getElem (by rw [evL_len]; exact q)]
        rfl
      · rw [fnV, if_neg x0, nI_clamp hj, agE_sl h.ok hs, List.getElem?_eq_none (by rw [evL_len]; exact q)]
  · exact fun _ _ _ _ _ h => by cases h
theorem u_rfn (l : Launch) : Us l yX12_find cX12_find 4 (some .int) 1 22 13 T_rfn := by
  intro Rc Rs av S cs sl K Kx h
  unfold T_rfn at h
  split at h
  · rename_i g_o a_v x
    obtain ⟨g, rfl, h_1⟩ := pa_of h
    obtain ⟨a, rfl, h_2⟩ := h_1
    obtain ⟨F, i, y, G, T, hp, hc, hs, hk⟩ := h_2
    refine ⟨(sp_rfn g a x F i y G T), c_rfn l g a x F i y G T, fun _ _ h9 => ⟨_, _, h9.1, (h9.2.1 ▸ (h9.2.2.1 0).1)⟩, ⟨rfl, hp⟩, hc, hs, fun v9 S' h8 => by
      obtain ⟨h7, h8⟩ := h8
      cases h7
      subst h8
      exact hk, fun _ _ q => q.elim⟩
  · exact h.elim
def bI (b : Bool) : Int32 := if b = true then 1 else 0
theorem nI_mul16 {n : Nat} : (16 : Int32) * nI n = nI (16 * n) := by
  show nI 16 * nI n = nI (16 * n)
  unfold nI
  rw [Int32.ofNat_mul]
theorem nI_plus (a b : Nat) : nI a + nI b = nI (a + b) := by
  unfold nI
  rw [Int32.ofNat_add]
theorem pa_le {G : Gr} (h : G.ok) {k : Nat} (hk : k < G.n) (s : Nat) : (G.ev k).pa s ≤ 8192 := Nat.le_trans (h.pa2 k s hk) (Nat.le_trans (Gr.cnt_le k s) (by have := h.hn; omega))
theorem nu_le {G : Gr} (h : G.ok) {k : Nat} (hk : k < G.n) : (G.ev k).nu ≤ 8192 := by rw [← h.pa1 k hk]; exact pa_le h hk _
theorem bI_t : bI true = 1 := rfl
theorem bI_f : bI false = 0 := rfl
theorem rt0 : rtOK (some FieldType.boolean) (some (Sum.inl 0)) := Or.inl rfl
theorem rt1 : rtOK (some FieldType.boolean) (some (Sum.inl 1)) := Or.inr rfl
def T_rib : TR := fun Rc Rs av S cs sl K _Kx => match av with
  | [.inr (.inr g_o), .inl e_v, .inl f_v] => pa g_o fun g => (∃ (e : Nat), e_v = nI e ∧ (∃ (f : Nat), f_v = nI f ∧ (∃ (F : Nat → Nat × Nat) (i : Nat) (y : Nat → Nat) (G : Gr) (T : Tr), (g = y 0 ∧ RG S F i y G T ∧ e < G.n ∧ f < G.n) ∧ cs ≤ Rc ∧ sl ≤ Rs ∧ (K (some (.inl (bI (G.bef e f)))) S cs sl))))
  | _ => False
def sp_rib (g : Nat) (e : Nat) (f : Nat) (F : Nat → Nat × Nat) (i : Nat) (y : Nat → Nat) (G : Gr) (T : Tr) : Sp := (fun av S => av = [.inr (.inr (some g)), .inl (nI e), .inl (nI f)] ∧ (g = y 0 ∧ RG S F i y G T ∧ e < G.n ∧ f < G.n), fun _ S => 0, fun _ S => 0, fun _ S rv S' => rv = (some (.inl (bI (G.bef e f)))) ∧ S' = S, fun _ _ _ _ => False)
def tX12_isBefore : CD := [(0, .aload_n 0), (1, .getfield 26), (4, .iload_n 1), (5, .iaload), (6, .aload_n 0), (7, .getfield 30), (10, .bipush 16), (12, .iload_n 2), (13, .imul), (14, .aload_n 0), (15, .getfield 23), (18, .iload_n 1), (19, .iaload), (20, .iadd), (21, .saload), (22, .if_icmp .ge 7), (25, .iconst 1), (26, .goto 4), (29, .iconst 0), (30, .ireturn)]
set_option maxRecDepth 100000 in
theorem kX12_isBefore : chk cX12_isBefore tX12_isBefore = true := by decide +kernel

set_option maxRecDepth 100000 in
set_option maxHeartbeats 2000000 in
theorem c_rib (l : Launch) : ∀ (g : Nat) (e : Nat) (f : Nat) (F : Nat → Nat × Nat) (i : Nat) (y : Nat → Nat) (G : Gr) (T : Tr), Ct l yX12_isBefore cX12_isBefore 3 (some .boolean) 0 0 (sp_rib g e f F i y G T) := by
  intro g e f F i y G T
  refine Ct.of (fX12, nX12, aX12, iX12, lX12, [], qX12, gX12, []) false tX12_isBefore (fun _ _ _ => none) (by decide) (by decide) kX12_isBefore ⟨_, _, rfl⟩ fX12_ok nX12_ok aX12_ok iX12_ok lX12_ok (fun _ _ _ _ _ _ _ _ _ _ _ _ _ _ _ _ _ _ => no_all) qX12_ok gX12_ok rfl ?_ ?_
  · rintro _ S ⟨rfl, hp⟩
    refine ⟨Nat.le_of_ble_eq_true rfl, 300, ?_⟩
    show (isO S 13 g ∧ (pa (mR S 1307 g) fun a_1 => ∃ v_2 : Int32, (isO S 17 a_1 ∧ inR S a_1 (nI e) ∧ v_2 = eI S a_1 (nI e).toNatClampNeg ∨ a_1 = (mQ S).1 ∧ vp_in (nI e) 16 ∧ v_2 = mRem (nI e).toNatClampNeg) ∧ (isO S 13 g ∧ (isO S 13 g ∧ (pa (mR S 1306 g) fun a_3 => ∃ v_4 : Int32, (isO S 17 a_3 ∧ inR S a_3 (nI e) ∧ v_4 = eI S a_3 (nI e).toNatClampNeg ∨ a_3 = (mQ S).1 ∧ vp_in (nI e) 16 ∧ v_4 = mRem (nI e).toNatClampNeg) ∧ (pa (mR S 1308 g) fun a_5 => isO S 19 a_5 ∧ inR S a_5 (((16 : Int32) * (nI f)) + v_4) ∧ (((eI S a_5 (((16 : Int32) * (nI f)) + v_4).toNatClampNeg) ≤ v_2 → (([] : List MV) = [] ∧ mret (some .boolean) (sp_rib g e f F i y G T) [.inr (.inr (some g)), .inl (nI e), .inl (nI f)] S (some (.inl (0 : Int32))) S 0 0)) ∧ (¬ (eI S a_5 (((16 : Int32) * (nI f)) + v_4).toNatClampNeg) ≤ v_2 → (([] : List MV) = [] ∧ mret (some .boolean) (sp_rib g e f F i y G T) [.inr (.inr (some g)), .inl (nI e), .inl (nI f)] S (some (.inl (1 : Int32))) S 0 0)))))))))
    obtain ⟨rfl, h, he, hf⟩ := hp
    have hn := h.ok.hn
    have hm := h.ok.hm
    have s1 := h.ok.sl1 e he
    obtain ⟨a1, a2, a3⟩ := h.r7
    obtain ⟨b1, b2, b3⟩ := h.r6
    obtain ⟨c1, c2, c3⟩ := h.r8
    have e5 := h 5 e he
    have f5 := h 5 f hf
    refine ⟨(h 0).1, pa_i a1 ⟨_, Or.inl ⟨a2, inRn a3 (by omega) (by decide), rfl⟩, (h 0).1, (h 0).1, pa_i b1 ⟨_, Or.inl ⟨b2, inRn b3 (by omega) (by decide), rfl⟩, pa_i c1 ⟨c2, ?_⟩⟩⟩⟩
    rw [nI_clamp (by omega), e5.1, e5.2.1, nI_mul16, nI_plus]
    refine ⟨inRn c3 (by omega) (by decide), ?_⟩
    rw [nI_clamp (by omega), f5.2.2.1 _ (by omega)]
    have p1 := pa_le h.ok hf (G.ev e).sl
    have p2 := nu_le h.ok he
    refine if_le (by omega) (by omega) (fun q => ⟨rfl, rt0, ⟨?_, rfl⟩, Nat.le_refl _, Nat.le_refl _⟩) (fun q => ⟨rfl, rt1, ⟨?_, rfl⟩, Nat.le_refl _, Nat.le_refl _⟩)
    · rw [show G.bef e f = false from decide_eq_false (by omega)]; rfl
    · rw [show G.bef e f = true from decide_eq_true (by omega)]; rfl
  · exact fun _ _ _ _ _ h => by cases h
theorem u_rib (l : Launch) : Us l yX12_isBefore cX12_isBefore 3 (some .boolean) 0 0 13 T_rib := by
  intro Rc Rs av S cs sl K Kx h
  unfold T_rib at h
  split at h
  · rename_i g_o e_v f_v
    obtain ⟨g, rfl, h_1⟩ := pa_of h
    obtain ⟨e, rfl, h_2⟩ := h_1
    obtain ⟨f, rfl, h_3⟩ := h_2
    obtain ⟨F, i, y, G, T, hp, hc, hs, hk⟩ := h_3
    refine ⟨(sp_rib g e f F i y G T), c_rib l g e f F i y G T, fun _ _ h9 => ⟨_, _, h9.1, (h9.2.1 ▸ (h9.2.2.1 0).1)⟩, ⟨rfl, hp⟩, hc, hs, fun v9 S' h8 => by
      obtain ⟨h7, h8⟩ := h8
      cases h7
      subst h8
      exact hk, fun _ _ q => q.elim⟩
  · exact h.elim
/-- a set of counts in a row of shorts -/
def StR (S : MM) (r o : Nat) (W : Nat → Nat) : Prop := isO S 19 r ∧ o + 16 ≤ mN S r ∧ mN S r ≤ 131072 ∧ ∀ s, s < 16 → eI S r (o + s) = nI (W s) ∧ W s ≤ 8192
def T_rhas : TR := fun Rc Rs av S cs sl K _Kx => match av with
  | [.inr (.inr g_o), .inr (.inr r_o), .inl o_v, .inl e_v] => pa g_o fun g => (pa r_o fun r => (∃ (o : Nat), o_v = nI o ∧ (∃ (e : Nat), e_v = nI e ∧ (∃ (F : Nat → Nat × Nat) (i : Nat) (y : Nat → Nat) (G : Gr) (T : Tr) (W : Nat → Nat), (g = y 0 ∧ RG S F i y G T ∧ StR S r o W ∧ e < G.n) ∧ cs ≤ Rc ∧ sl ≤ Rs ∧ (K (some (.inl (bI (G.has W e)))) S cs sl)))))
  | _ => False
def sp_rhas (g : Nat) (r : Nat) (o : Nat) (e : Nat) (F : Nat → Nat × Nat) (i : Nat) (y : Nat → Nat) (G : Gr) (T : Tr) (W : Nat → Nat) : Sp := (fun av S => av = [.inr (.inr (some g)), .inr (.inr (some r)), .inl (nI o), .inl (nI e)] ∧ (g = y 0 ∧ RG S F i y G T ∧ StR S r o W ∧ e < G.n), fun _ S => 0, fun _ S => 0, fun _ S rv S' => rv = (some (.inl (bI (G.has W e)))) ∧ S' = S, fun _ _ _ _ => False)
def tX12_has : CD := [(0, .aload_n 0), (1, .getfield 26), (4, .iload_n 3), (5, .iaload), (6, .aload_n 1), (7, .iload_n 2), (8, .aload_n 0), (9, .getfield 23), (12, .iload_n 3), (13, .iaload), (14, .iadd), (15, .saload), (16, .if_icmp .ge 7), (19, .iconst 1), (20, .goto 4), (23, .iconst 0), (24, .ireturn)]
set_option maxRecDepth 100000 in
theorem kX12_has : chk cX12_has tX12_has = true := by decide +kernel

set_option maxRecDepth 100000 in
set_option maxHeartbeats 2000000 in
theorem c_rhas (l : Launch) : ∀ (g : Nat) (r : Nat) (o : Nat) (e : Nat) (F : Nat → Nat × Nat) (i : Nat) (y : Nat → Nat) (G : Gr) (T : Tr) (W : Nat → Nat), Ct l yX12_has cX12_has 4 (some .boolean) 0 0 (sp_rhas g r o e F i y G T W) := by
  intro g r o e F i y G T W
  refine Ct.of (fX12, nX12, aX12, iX12, lX12, [], qX12, gX12, []) false tX12_has (fun _ _ _ => none) (by decide) (by decide) kX12_has ⟨_, _, rfl⟩ fX12_ok nX12_ok aX12_ok iX12_ok lX12_ok (fun _ _ _ _ _ _ _ _ _ _ _ _ _ _ _ _ _ _ => no_all) qX12_ok gX12_ok rfl ?_ ?_
  · rintro _ S ⟨rfl, hp⟩
    refine ⟨Nat.le_of_ble_eq_true rfl, 300, ?_⟩
    show (isO S 13 g ∧ (pa (mR S 1307 g) fun a_1 => ∃ v_2 : Int32, (isO S 17 a_1 ∧ inR S a_1 (nI e) ∧ v_2 = eI S a_1 (nI e).toNatClampNeg ∨ a_1 = (mQ S).1 ∧ vp_in (nI e) 16 ∧ v_2 = mRem (nI e).toNatClampNeg) ∧ (isO S 13 g ∧ (pa (mR S 1306 g) fun a_3 => ∃ v_4 : Int32, (isO S 17 a_3 ∧ inR S a_3 (nI e) ∧ v_4 = eI S a_3 (nI e).toNatClampNeg ∨ a_3 = (mQ S).1 ∧ vp_in (nI e) 16 ∧ v_4 = mRem (nI e).toNatClampNeg) ∧ (isO S 19 r ∧ inR S r ((nI o) + v_4) ∧ (((eI S r ((nI o) + v_4).toNatClampNeg) ≤ v_2 → (([] : List MV) = [] ∧ mret (some .boolean) (sp_rhas g r o e F i y G T W) [.inr (.inr (some g)), .inr (.inr (some r)), .inl (nI o), .inl (nI e)] S (some (.inl (0 : Int32))) S 0 0)) ∧ (¬ (eI S r ((nI o) + v_4).toNatClampNeg) ≤ v_2 → (([] : List MV) = [] ∧ mret (some .boolean) (sp_rhas g r o e F i y G T W) [.inr (.inr (some g)), .inr (.inr (some r)), .inl (nI o), .inl (nI e)] S (some (.inl (1 : Int32))) S 0 0))))))))
    obtain ⟨rfl, h, ⟨w1, w2, w3, w4⟩, he⟩ := hp
    have hn := h.ok.hn
    have hm := h.ok.hm
    have s1 := h.ok.sl1 e he
    obtain ⟨a1, a2, a3⟩ := h.r7
    obtain ⟨b1, b2, b3⟩ := h.r6
    have e5 := h 5 e he
    refine ⟨(h 0).1, pa_i a1 ⟨_, Or.inl ⟨a2, inRn a3 (by omega) (by decide), rfl⟩, (h 0).1, pa_i b1 ⟨_, Or.inl ⟨b2, inRn b3 (by omega) (by decide), rfl⟩, w1, ?_⟩⟩⟩
    rw [nI_clamp (by omega), e5.1, e5.2.1, nI_plus]
    refine ⟨inRn rfl (by omega) (by omega), ?_⟩
    obtain ⟨w5, w6⟩ := w4 (G.ev e).sl (by omega)
    rw [nI_clamp (by omega), w5]
    have p2 := nu_le h.ok he
    refine if_le (by omega) (by omega) (fun q => ⟨rfl, rt0, ⟨?_, rfl⟩, Nat.le_refl _, Nat.le_refl _⟩) (fun q => ⟨rfl, rt1, ⟨?_, rfl⟩, Nat.le_refl _, Nat.le_refl _⟩)
    · rw [show G.has W e = false from decide_eq_false (by omega)]; rfl
    · rw [show G.has W e = true from decide_eq_true (by omega)]; rfl
  · exact fun _ _ _ _ _ h => by cases h
theorem u_rhas (l : Launch) : Us l yX12_has cX12_has 4 (some .boolean) 0 0 13 T_rhas := by
  intro Rc Rs av S cs sl K Kx h
  unfold T_rhas at h
  split at h
  · rename_i g_o r_o o_v e_v
    obtain ⟨g, rfl, h_1⟩ := pa_of h
    obtain ⟨r, rfl, h_2⟩ := pa_of h_1
    obtain ⟨o, rfl, h_3⟩ := h_2
    obtain ⟨e, rfl, h_4⟩ := h_3
    obtain ⟨F, i, y, G, T, W, hp, hc, hs, hk⟩ := h_4
    refine ⟨(sp_rhas g r o e F i y G T W), c_rhas l g r o e F i y G T W, fun _ _ h9 => ⟨_, _, h9.1, (h9.2.1 ▸ (h9.2.2.1 0).1)⟩, ⟨rfl, hp⟩, hc, hs, fun v9 S' h8 => by
      obtain ⟨h7, h8⟩ := h8
      cases h7
      subst h8
      exact hk, fun _ _ q => q.elim⟩
  · exact h.elim
theorem mem_dls {G : Gr} {k j : Nat} : j ∈ dls G k ↔ j < G.n ∧ (G.ev j).ch = none ∧ (G.ev j).tg = k := by
  unfold dls
  rw [List.mem_reverse, List.mem_filter, List.mem_range, decide_eq_true_eq]
theorem vis_dls {G : Gr} (k : Nat) : vis G (k + 1) = (dls G k).isEmpty := by
  rw [vis, Nat.add_sub_cancel, Bool.eq_iff_iff, decide_eq_true_eq, List.isEmpty_iff]
  constructor
  · intro h
    refine List.eq_nil_iff_forall_not_mem.2 (fun j hj => ?_)
    obtain ⟨a, b⟩ := mem_dls.1 hj
    exact List.find?_eq_none.1 h j (List.mem_range.2 a) (decide_eq_true b)
  · intro h
    refine List.find?_eq_none.2 (fun j hj z => ?_)
    have := mem_dls.2 ⟨List.mem_range.1 hj, of_decide_eq_true z⟩
    rw [h] at this
    cases this
def T_rish : TR := fun Rc Rs av S cs sl K _Kx => match av with
  | [.inr (.inr g_o), .inl k1_v] => pa g_o fun g => (∃ (k1 : Nat), k1_v = nI k1 ∧ (∃ (F : Nat → Nat × Nat) (i : Nat) (y : Nat → Nat) (G : Gr) (T : Tr), (g = y 0 ∧ RG S F i y G T ∧ k1 < G.n) ∧ cs ≤ Rc ∧ sl ≤ Rs ∧ (K (some (.inl (bI (vis G (k1 + 1))))) S cs sl)))
  | _ => False
def sp_rish (g : Nat) (k1 : Nat) (F : Nat → Nat × Nat) (i : Nat) (y : Nat → Nat) (G : Gr) (T : Tr) : Sp := (fun av S => av = [.inr (.inr (some g)), .inl (nI k1)] ∧ (g = y 0 ∧ RG S F i y G T ∧ k1 < G.n), fun _ S => 0, fun _ S => 0, fun _ S rv S' => rv = (some (.inl (bI (vis G (k1 + 1))))) ∧ S' = S, fun _ _ _ _ => False)
def tX12_isShown : CD := [(0, .aload_n 0), (1, .getfield 69), (4, .iload_n 1), (5, .iaload), (6, .ifCond .ge 7), (9, .iconst 1), (10, .goto 4), (13, .iconst 0), (14, .ireturn)]
set_option maxRecDepth 100000 in
theorem kX12_isShown : chk cX12_isShown tX12_isShown = true := by decide +kernel

set_option maxRecDepth 100000 in
set_option maxHeartbeats 2000000 in
theorem c_rish (l : Launch) : ∀ (g : Nat) (k1 : Nat) (F : Nat → Nat × Nat) (i : Nat) (y : Nat → Nat) (G : Gr) (T : Tr), Ct l yX12_isShown cX12_isShown 2 (some .boolean) 0 0 (sp_rish g k1 F i y G T) := by
  intro g k1 F i y G T
  refine Ct.of (fX12, nX12, aX12, iX12, lX12, [], qX12, gX12, []) false tX12_isShown (fun _ _ _ => none) (by decide) (by decide) kX12_isShown ⟨_, _, rfl⟩ fX12_ok nX12_ok aX12_ok iX12_ok lX12_ok (fun _ _ _ _ _ _ _ _ _ _ _ _ _ _ _ _ _ _ => no_all) qX12_ok gX12_ok rfl ?_ ?_
  · rintro _ S ⟨rfl, hp⟩
    refine ⟨Nat.le_of_ble_eq_true rfl, 300, ?_⟩
    show (isO S 13 g ∧ (pa (mR S 1320 g) fun a_1 => ∃ v_2 : Int32, (isO S 17 a_1 ∧ inR S a_1 (nI k1) ∧ v_2 = eI S a_1 (nI k1).toNatClampNeg ∨ a_1 = (mQ S).1 ∧ vp_in (nI k1) 16 ∧ v_2 = mRem (nI k1).toNatClampNeg) ∧ ((0 ≤ v_2 → (([] : List MV) = [] ∧ mret (some .boolean) (sp_rish g k1 F i y G T) [.inr (.inr (some g)), .inl (nI k1)] S (some (.inl (0 : Int32))) S 0 0)) ∧ (¬ 0 ≤ v_2 → (([] : List MV) = [] ∧ mret (some .boolean) (sp_rish g k1 F i y G T) [.inr (.inr (some g)), .inl (nI k1)] S (some (.inl (1 : Int32))) S 0 0)))))
    obtain ⟨rfl, h, hk1⟩ := hp
    have hn := h.ok.hn
    obtain ⟨a1, a2, a3⟩ := h.r20
    refine ⟨(h 0).1, pa_i a1 ⟨_, Or.inl ⟨a2, inRn a3 (by omega) (by decide), rfl⟩, ?_⟩⟩
    rw [nI_clamp (by omega), (h 10 k1 hk1).1]
    have hv := vis_dls (G := G) k1
    rcases e : dls G k1 with _ | ⟨j, L⟩ <;> rw [e] at hv
    · exact ⟨fun w => absurd w (by decide), fun _ => ⟨rfl, rt1, ⟨by rw [hv]; rfl, rfl⟩, Nat.le_refl _, Nat.le_refl _⟩⟩
    · have hj := (mem_dls.1 (by rw [e]; exact List.mem_cons_self : j ∈ dls G k1)).1
      exact ⟨fun _ => ⟨rfl, rt0, ⟨by rw [hv]; rfl, rfl⟩, Nat.le_refl _, Nat.le_refl _⟩, fun w => absurd (nI_pos' (show j < 2147483648 by omega)) w⟩
  · exact fun _ _ _ _ _ h => by cases h
theorem u_rish (l : Launch) : Us l yX12_isShown cX12_isShown 2 (some .boolean) 0 0 13 T_rish := by
  intro Rc Rs av S cs sl K Kx h
  unfold T_rish at h
  split at h
  · rename_i g_o k1_v
    obtain ⟨g, rfl, h_1⟩ := pa_of h
    obtain ⟨k1, rfl, h_2⟩ := h_1
    obtain ⟨F, i, y, G, T, hp, hc, hs, hk⟩ := h_2
    refine ⟨(sp_rish g k1 F i y G T), c_rish l g k1 F i y G T, fun _ _ h9 => ⟨_, _, h9.1, (h9.2.1 ▸ (h9.2.2.1 0).1)⟩, ⟨rfl, hp⟩, hc, hs, fun v9 S' h8 => by
      obtain ⟨h7, h8⟩ := h8
      cases h7
      subst h8
      exact hk, fun _ _ q => q.elim⟩
  · exact h.elim
