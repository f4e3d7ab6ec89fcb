/-! ===== The reference's calls: critical, place, related, head ===== -/
/-- what a call of the reference leaves -/
def mdQ (S S' : MM) (F : Nat → Nat × Nat) (t : Nat) (R' : Rb) (kz' : Nat → Nat) : Prop := ∃ F' z' Y', MD S' F' t z' Y' R' kz' ∧ (∀ b, b ∈ mL S → F' b = F b) ∧ Keep (fun c => 100 ≤ (F c).1) S S' ∧ mI S' 1551 t = mI S 1551 t
def mdW (S S' : MM) (F : Nat → Nat × Nat) (t : Nat) (R' : Rb) (kz' : Nat → Nat) (th : Nat) : Prop := ∃ F' z' Y', MD S' F' t z' Y' R' kz' ∧ (∀ b, b ∈ mL S → F' b = F b) ∧ Keep (fun c => 100 ≤ (F c).1) S S' ∧ mI S' 1551 t = nI th
section MDW
variable {S S' : MM} {F : Nat → Nat × Nat} {t : Nat} {z : Nat → Nat} {Y : Nat → Nat → Nat} {R R' : Rb} {kz kz' : Nat → Nat}
theorem MD.own (h : MD S F t z Y R kz) : 100 ≤ (F t).1 := by rw [(h 0).2]; exact Nat.le_refl _
theorem mdQ.ok (h : mdQ (sI S 1551 t 0) S' F t R' kz') (hp : MD S F t z Y R kz) : mdW S S' F t R' kz' 0 := by
  obtain ⟨F', z', Y', h1, h2, h3, h4⟩ := h
  exact ⟨F', z', Y', h1, h2, Keep.tr (Keep.sI (P := fun c => 100 ≤ (F c).1) Keep.rf hp.own) h3, h4.trans (by rw [mI_sI, if_pos ⟨rfl, rfl⟩]; rfl)⟩
theorem mdQ.ex (h : mdQ (sI S 1551 t 0) S' F t R' kz') (hp : MD S F t z Y R kz) (n : Nat) {v : Int32} (hv : v = nI n) : mdW S (sI S' 1551 t v) F t R' kz' n := by
  obtain ⟨F', z', Y', h1, h2, h3, h4⟩ := h
  exact ⟨F', z', Y', h1.th v, h2, Keep.tr (Keep.sI (P := fun c => 100 ≤ (F c).1) Keep.rf hp.own) (Keep.sI (P := fun c => 100 ≤ (F c).1) h3 hp.own), by rw [mI_sI, if_pos ⟨rfl, rfl⟩, hv]⟩
theorem thQ.w {n : Nat} (h : thQ S S' F t z Y R kz n) (hp : MD S F t z Y R kz) : mdW S S' F t R kz n := ⟨F, z, Y, h.1, fun _ _ => rfl, h.2.2.mono (fun b _ e => by rw [e]; exact hp.own), h.2.1⟩
end MDW
theorem crR_iff {G : Gr} (h : G.ok) {e : Nat} : crR G e G.m ↔ G.critR e := by
  constructor
  · intro c s hs j hj e1 e2
    have h1 : (evL G s)[fsN G e s]? = some j := (evL_at h).2 ⟨hj, e1, e2⟩
    have h2 : fsN G e s < G.cn s := by
      rw [← evL_len]
      exact (List.getElem?_eq_some_iff.1 h1).1
    have := c s hs h2
    rw [List.getD_eq_getElem?_getD, h1] at this
    exact this
  · intro c s hs h2
    have hl : fsN G e s < (evL G s).length := by rw [evL_len]; exact h2
    have h1 : (evL G s)[fsN G e s]? = some ((evL G s).getD (fsN G e s) 0) := by
      rw [List.getD_eq_getElem?_getD, List.getElem?_eq_getElem hl]; rfl
    obtain ⟨a, b, d⟩ := (evL_at h).1 h1
    exact c s hs _ a b d
theorem srt_split {f : Nat → Nat} {v : Nat} : ∀ {M : List Nat}, M.Pairwise (fun p q => f p < f q) → ∃ X Y, M = X ++ Y ∧ (∀ x, x ∈ X → f x < v) ∧ ∀ y, y ∈ Y → ¬ f y < v
  | [], _ => ⟨[], [], rfl, (fun x hx => by cases hx), (fun x hx => by cases hx)⟩
  | a :: M, h => by
    rw [List.pairwise_cons] at h
    by_cases c : f a < v
    · obtain ⟨X, Y, h1, h2, h3⟩ := srt_split (v := v) h.2
      refine ⟨a :: X, Y, by rw [h1]; rfl, fun x hx => ?_, h3⟩
      rcases List.mem_cons.1 hx with z | z
      · rw [z]; exact c
      · exact h2 x z
    · refine ⟨[], a :: M, rfl, (fun x hx => by cases hx), fun y hy => ?_⟩
      rcases List.mem_cons.1 hy with z | z
      · rw [z]; exact c
      · have := h.1 y z; omega
theorem tp_ex {G : Gr} {W : Nat → Nat} (h : G.ok) (hW : ∀ s, W s ≤ G.cn s) : ∀ n, n ≤ G.m → ∃ M, tpM G W n M
  | 0, _ => ⟨[], List.Pairwise.nil, fun k => ⟨fun z => (by cases z), fun ⟨s, z, _⟩ => absurd z (Nat.not_lt_zero s)⟩, Nat.le_refl _⟩
  | n + 1, hn => by
    obtain ⟨M, hM⟩ := tp_ex h hW n (by omega)
    by_cases c : 0 < W n ∧ tpS G W n G.m
    · obtain ⟨X, Y, rfl, h2, h3⟩ := srt_split (v := G.key (lsE G W n)) hM.1
      refine ⟨_, hM.ad h c.1 c.2 h2 (fun y hy => ?_)⟩
      obtain ⟨hl1, hl2⟩ := lsE_l h (hW n) c.1
      obtain ⟨q1, q2⟩ := hM.lt h hW (k := y) (by simp [hy])
      rcases Nat.lt_trichotomy (G.key y) (G.key (lsE G W n)) with a | a | a
      · exact absurd a (h3 y hy)
      · have := Gr.key_inj h q1 hl1.1 a
        rw [this, hl2] at q2
        exact absurd q2 (Nat.lt_irrefl _)
      · exact a
    · exact ⟨M, hM.sk c⟩
theorem hd_ex {G : Gr} (h : G.ok) : ∃ H, HdS G H ∧ (∀ k, k ∈ H ↔ G.Top G.cn k) ∧ H.length ≤ G.m := by
  obtain ⟨M, hM⟩ := tp_ex h (W := G.cn) (fun s => Nat.le_refl _) G.m (Nat.le_refl _)
  have ht := hM.top h (fun s => Nat.le_refl _)
  refine ⟨M, ⟨fun k => (ht k).trans ⟨fun ⟨a, b, c⟩ => ⟨a, fun j hj => c j hj ?_⟩, fun ⟨a, b⟩ => ⟨a, ?_, fun j hj _ => b j hj⟩⟩, hM.1⟩, ht, hM.2.2⟩
  · exact decide_eq_true (Gr.nu_cn h hj)
  · exact decide_eq_true (Gr.nu_cn h a)
theorem cfG_n (G : Gr) : ∀ L : List Nat, cfG G none L = (L.filter (vis G)).length
  | [] => rfl
  | x :: L => by
    rw [cfG, if_neg (fun z => by cases z), cfG_n G L, List.filter_cons]
    split
    · rw [List.length_cons]; omega
    · omega
theorem cfG_s (G : Gr) (k : Nat) : ∀ (L : List Nat) (p : Nat), L.Nodup → (∀ x, x ∈ L → 0 < x) → p < L.length → L.getD p 0 = k + 1 → cfG G (some k) L = ((L.take p).filter (vis G)).length
  | [], p, _, _, h, _ => absurd h (Nat.not_lt_zero p)
  | x :: L, 0, _, _, _, h => by
    have h : x = k + 1 := h
    rw [cfG, if_pos (by rw [h]; rfl)]; rfl
  | x :: L, p + 1, hn, h0, hp, h => by
    have h : L.getD p 0 = k + 1 := h
    have hp : p < L.length := Nat.lt_of_succ_lt_succ hp
    rw [List.nodup_cons] at hn
    have hx : k + 1 ∈ L := by
      rw [← h, List.getD_eq_getElem?_getD, List.getElem?_eq_getElem hp]
      exact List.getElem_mem hp
    have h1 := h0 x List.mem_cons_self
    rw [cfG, if_neg (fun z => by
      injection z with z
      exact hn.1 (by rw [show x = k + 1 by omega]; exact hx)), cfG_s G k L p hn.2 (fun y hy => h0 y (List.mem_cons_of_mem _ hy)) hp h, List.take_succ_cons, List.filter_cons]
    split
    · rw [List.length_cons]; omega
    · omega
def I_rcr0 (G : Gr) (g : Nat) (S : MM) (k : Nat) : KT := fun lo st S1 cs sl => ∃ e c, e + k = G.n ∧ c + crN G (G.n - e) = crN G G.n ∧ lo = [(2, .inr (.inr (some g))), (3, .inl (nI c)), (4, .inl (nI e))] ∧ st = [] ∧ S = S1 ∧ cs = 1 ∧ sl = 6
def I_rcr (p : Int32) (Y : Nat → Nat → Nat) (R : Rb) (S : MM) (k : Nat) : KT := fun lo st S1 cs sl => ∃ n, n < 4 ∧ p = nI n ∧ I_rcr0 (R.Q.G n) (Y n 0) S k lo st S1 cs sl
def T_rcr0 : TR := fun Rc Rs av S cs sl K Kx => match av with
  | [.inr (.inr t_o), .inl p] => pa t_o fun t => (∃ (F : Nat → Nat × Nat) (z : Nat → Nat) (Y : Nat → Nat → Nat) (R : Rb) (kz : Nat → Nat), (MD S F t z Y R kz) ∧ cs + 1 ≤ Rc ∧ sl + 6 ≤ Rs ∧ ((∀ (v : Int32) (S' : MM), (S' = S ∧ ∃ n, n < 4 ∧ p = nI n ∧ v = nI (crN (R.Q.G n) (R.Q.G n).n)) → K (some (.inl v)) S' (cs + 1) (sl + 6)) ∧ ((np 4 p) → Kx 1 S (cs + 1) (sl + 6))))
  | _ => False
def sp_rcr0 (t : Nat) (p : Int32) (F : Nat → Nat × Nat) (z : Nat → Nat) (Y : Nat → Nat → Nat) (R : Rb) (kz : Nat → Nat) : Sp := (fun av S => av = [.inr (.inr (some t)), .inl p] ∧ (MD S F t z Y R kz), fun _ S => 1, fun _ S => 6, fun _ S rv S' => ∃ v, rv = (some (.inl v)) ∧ (S' = S ∧ ∃ n, n < 4 ∧ p = nI n ∧ v = nI (crN (R.Q.G n) (R.Q.G n).n)), fun _ S E S' => (E = 1 ∧ (np 4 p) ∧ S' = S))
def tX14_critical0 : CD := [(0, .aload_n 0), (1, .iload_n 1), (2, .invokevirtual 203), (5, .astore_n 2), (6, .iconst 0), (7, .istore_n 3), (8, .iconst 0), (9, .istore 4), (11, .iload 4), (13, .aload_n 2), (14, .getfield 173), (17, .if_icmp .ge 21), (20, .aload_n 2), (21, .iload 4), (23, .invokevirtual 285), (26, .ifCond .eq 6), (29, .iinc 3 1), (32, .iinc 4 1), (35, .goto (-24)), (38, .iload_n 3), (39, .ireturn)]
set_option maxRecDepth 100000 in
theorem kX14_critical0 : chk cX14_critical0 tX14_critical0 = true := by decide +kernel
theorem vX14_critical0_203 : ∀ w ∈ ([.methodLink RX14 203 yX14_graph, .instanceMethod yX14_graph, .selects yX14_graph.cls yX14_graph yX14_graph, .initialized yX14_graph.cls, .code yX14_graph cX14_graph 2 (some (.object "WeaveTextModel$Graph"))] : List Cond), w ∈ lw_good := List.forall_mem_cons.mpr ⟨mgd 1946 (by decide +kernel) (by decide +kernel), List.forall_mem_cons.mpr ⟨mgd 1948 (by decide +kernel) (by decide +kernel), List.forall_mem_cons.mpr ⟨mgd 52 (by decide +kernel) (by decide +kernel), List.forall_mem_cons.mpr ⟨mgd 136 (by decide +kernel) (by decide +kernel), List.forall_mem_cons.mpr ⟨mgd 1949 (by decide +kernel) (by decide +kernel), fun _ h => absurd h List.not_mem_nil⟩⟩⟩⟩⟩
theorem vX14_critical0_285 : ∀ w ∈ ([.methodLink RX14 285 yX12_isCritical, .instanceMethod yX12_isCritical, .selects yX12_isCritical.cls yX12_isCritical yX12_isCritical, .initialized yX12_isCritical.cls, .code yX12_isCritical cX12_isCritical 4 (some .boolean)] : List Cond), w ∈ lw_good := List.forall_mem_cons.mpr ⟨mgd 2171 (by decide +kernel) (by decide +kernel), List.forall_mem_cons.mpr ⟨mgd 2172 (by decide +kernel) (by decide +kernel), List.forall_mem_cons.mpr ⟨mgd 2173 (by decide +kernel) (by decide +kernel), List.forall_mem_cons.mpr ⟨mgd 138 (by decide +kernel) (by decide +kernel), List.forall_mem_cons.mpr ⟨mgd 2174 (by decide +kernel) (by decide +kernel), fun _ h => absurd h List.not_mem_nil⟩⟩⟩⟩⟩
set_option maxRecDepth 100000 in
set_option maxHeartbeats 2000000 in
theorem c_rcr0 (l : Launch) (hlt : l.stackTraces = false) : ∀ (t : Nat) (p : Int32) (F : Nat → Nat × Nat) (z : Nat → Nat) (Y : Nat → Nat → Nat) (R : Rb) (kz : Nat → Nat), CtX l yX14_critical0 (Cond.code yX14_critical0 cX14_critical0 5 (some .int)) (some .int) 8 130 (sp_rcr0 t p F z Y R kz) := by
  intro t p F z Y R kz
  refine CtX.of hlt (fX14, nX14, aX14, iX14, lX14, [(203, 0, 2, 3, T_rgr), (285, 0, 2, 1, T_ric)], qX14, gX14, []) false tX14_critical0 (fun _ S => look [(11, ([2,3,4], I_rcr p Y R S))]) (by decide) (by decide) kX14_critical0 ⟨_, _, rfl⟩ fX14_ok nX14_ok aX14_ok iX14_ok lX14_ok (fun p e R s m args below meth c Q D cy z r A C hR1 hR2 => List.forall_mem_cons.mpr ⟨cOK_use (fun _ _ _ _ _ _ _ _ h => let ⟨sp, h1, h2, h3⟩ := u_rgr l hlt _ _ _ _ _ _ _ _ h; ⟨sp, cOKx_V C h1 vX14_critical0_203 ⟨by decide, by decide, by decide +kernel⟩ ⟨by rw [hR1]; decide, by rw [hR2]; decide⟩ (k := 15) (T := TX14) (N := 52) rfl (by decide) h2, h3⟩), List.forall_mem_cons.mpr ⟨cOK_use (fun _ _ _ _ _ _ _ _ h => let ⟨sp, h1, h2, h3⟩ := u_ric l _ _ _ _ _ _ _ _ h; ⟨sp, cOK_V C h1 vX14_critical0_285 ⟨by decide, by decide, by decide +kernel⟩ ⟨by rw [hR1]; decide, by rw [hR2]; decide⟩ (k := 13) (T := TX12) (N := 27) rfl (by decide) h2, h3⟩), fun _ h => absurd h List.not_mem_nil⟩⟩) qX14_ok gX14_ok (fun _ h => absurd h List.not_mem_nil) ?_ ?_
  · rintro _ S ⟨rfl, hp⟩
    refine ⟨Nat.le_of_ble_eq_true rfl, 300, ?_⟩
    show (0 = 0 ∧ (∃ (F_1 : Nat → Nat × Nat) (z_2 : Nat → Nat) (Y_3 : Nat → Nat → Nat) (R_4 : Rb) (kz_5 : Nat → Nat), (MD S F_1 t z_2 Y_3 R_4 kz_5) ∧ 0 + 1 ≤ 1 ∧ 0 + 6 ≤ 6 ∧ ((∀ (x_7 : Option Nat) (S_6 : MM), (S_6 = S ∧ ∃ n, n < 4 ∧ p = nI n ∧ x_7 = some (Y_3 n 0)) → (∃ k1, I_rcr p Y R S k1 [(2, .inr (.inr x_7)), (3, .inl (0 : Int32)), (4, .inl (0 : Int32))] [] S_6 (0 + 1) (0 + 6))) ∧ ((np 4 p) → mthr (sp_rcr0 t p F z Y R kz) [.inr (.inr (some t)), .inl p] S 1 S (0 + 1) (0 + 6)))))
    refine ⟨rfl, F, z, Y, R, kz, hp, by decide, by decide, fun v S3 h => ?_, fun h => ⟨⟨rfl, h, rfl⟩, Nat.le_refl _, Nat.le_refl _⟩⟩
    obtain ⟨rfl, n, hn, rfl, rfl⟩ := h
    exact ⟨(R.Q.G n).n, n, hn, rfl, 0, 0, by omega, Nat.zero_add _, rfl, rfl, rfl, rfl, rfl⟩
  · intro av S hpre pc I hI k lo st S1 cs sl h
    obtain ⟨rfl, hp⟩ := hpre
    have hm := look_in hI
    rw [List.mem_singleton] at hm
    cases hm
    obtain ⟨n, hn, hpn, e, c, he, hc, rfl, rfl, rfl, rfl, rfl⟩ := h
    refine ⟨300, ?_⟩
    show (isO S 13 (Y n 0) ∧ (((mI S 1300 (Y n 0)) ≤ (nI e) → (([] : List MV) = [] ∧ mret (some .int) (sp_rcr0 t p F z Y R kz) [.inr (.inr (some t)), .inl p] S (some (.inl (nI c))) S 1 6)) ∧ (¬ (mI S 1300 (Y n 0)) ≤ (nI e) → (0 = 0 ∧ (∃ (e_1 : Nat), nI e = nI e_1 ∧ (∃ (F_2 : Nat → Nat × Nat) (i_3 : Nat) (y_4 : Nat → Nat) (G_5 : Gr) (T_6 : Tr), ((Y n 0) = y_4 0 ∧ RG S F_2 i_3 y_4 G_5 T_6 ∧ e_1 < G_5.n) ∧ 1 ≤ 1 ∧ 6 ≤ 6 ∧ ((((tf (crR G_5 e_1 G_5.m)) = 0 → (∃ k1, k1 < k ∧ I_rcr p Y R S k1 [(2, .inr (.inr (some (Y n 0)))), (3, .inl (nI c)), (4, .inl ((nI e) + (1 : Int32)))] [] S 1 6)) ∧ (¬ (tf (crR G_5 e_1 G_5.m)) = 0 → (∃ k1, k1 < k ∧ I_rcr p Y R S k1 [(2, .inr (.inr (some (Y n 0)))), (3, .inl ((nI c) + (1 : Int32))), (4, .inl ((nI e) + (1 : Int32)))] [] S 1 6))))))))))
    subst hpn
    have g := (hp 2 n hn).2.1
    have hnm := g.nm
    have e1 : mI S 1300 (Y n 0) = nI (R.Q.G n).n := (g 2).1
    rw [e1]
    refine ⟨(g 0).1, if_le (by omega) (by omega) (fun w => ?_) (fun w => ?_)⟩
    · have hen : e = (R.Q.G n).n := by omega
      rw [hen, Nat.sub_self] at hc
      have hc : c + 0 = crN (R.Q.G n) (R.Q.G n).n := hc
      exact ⟨rfl, trivial, ⟨_, rfl, rfl, n, hn, rfl, by rw [← hc]; rfl⟩, Nat.le_refl _, Nat.le_refl _⟩
    · have cr : tf (crR (R.Q.G n) e (R.Q.G n).m) = tf ((R.Q.G n).crit e) := tf_c ((crR_iff g.ok).trans (Gr.crit_iff g.ok w).symm)
      refine ⟨rfl, e, rfl, F, 101 + n, Y n, R.Q.G n, R.Q.T n, ⟨rfl, g, w⟩, by decide, by decide, fun q => ?_, fun q => ?_⟩
      · rw [cr] at q
        have hcr : ¬ (R.Q.G n).crit e := fun z => by rw [tf_t z] at q; exact absurd q (by decide)
        rw [crN_f w hcr] at hc
        exact ⟨k - 1, by omega, n, hn, rfl, e + 1, c, by omega, hc, by rw [nI_1], rfl, rfl, rfl, rfl⟩
      · rw [cr] at q
        have hcr : (R.Q.G n).crit e := Classical.byContradiction (fun z => q (tf_f z))
        rw [crN_t w hcr] at hc
        exact ⟨k - 1, by omega, n, hn, rfl, e + 1, c + 1, by omega, by omega, by rw [nI_1, nI_1], rfl, rfl, rfl, rfl⟩
theorem u_rcr0 (l : Launch) (hlt : l.stackTraces = false) : UsX l yX14_critical0 (Cond.code yX14_critical0 cX14_critical0 5 (some .int)) (some .int) 8 130 15 T_rcr0 := by
  intro Rc Rs av S cs sl K Kx h
  unfold T_rcr0 at h
  split at h
  · rename_i t_o p
    obtain ⟨t, rfl, h_1⟩ := pa_of h
    obtain ⟨F, z, Y, R, kz, hp, hc, hs, hk, hx0⟩ := h_1
    refine ⟨(sp_rcr0 t p F z Y R kz), c_rcr0 l hlt t p F z Y R kz, fun _ _ h9 => ⟨_, _, h9.1, (h9.2 0).1⟩, ⟨rfl, hp⟩, hc, hs, fun v9 S' h8 => by
      obtain ⟨v8, h7, h8⟩ := h8
      cases h7
      exact hk _ _ h8, fun _ _ q => by
      rcases q with ⟨rfl, q⟩
      · obtain ⟨q, rfl⟩ := q
        exact hx0 q⟩
  · exact h.elim
def T_rpl0 : TR := fun Rc Rs av S cs sl K Kx => match av with
  | [.inr (.inr t_o), .inl a] => pa t_o fun t => (∃ (F : Nat → Nat × Nat) (z : Nat → Nat) (Y : Nat → Nat → Nat) (R : Rb) (kz : Nat → Nat), (MD S F t z Y R kz) ∧ cs + 2 ≤ Rc ∧ sl + 12 ≤ Rs ∧ ((∀ (v : Int32) (S' : MM), (S' = S ∧ ∃ i n, i < 8 ∧ a = nI i ∧ R.Q.ap i = some n ∧ v = nI (cfG (R.Q.G n) (R.Q.an i) (R.Q.T n).od)) → K (some (.inl v)) S' (cs + 2) (sl + 12)) ∧ ((np 8 a) → Kx 1 S (cs + 2) (sl + 12)) ∧ ((∃ i, i < 8 ∧ a = nI i ∧ R.Q.ap i = none) → Kx 2 S (cs + 2) (sl + 12))))
  | _ => False
def sp_rpl0 (t : Nat) (a : Int32) (F : Nat → Nat × Nat) (z : Nat → Nat) (Y : Nat → Nat → Nat) (R : Rb) (kz : Nat → Nat) : Sp := (fun av S => av = [.inr (.inr (some t)), .inl a] ∧ (MD S F t z Y R kz), fun _ S => 2, fun _ S => 12, fun _ S rv S' => ∃ v, rv = (some (.inl v)) ∧ (S' = S ∧ ∃ i n, i < 8 ∧ a = nI i ∧ R.Q.ap i = some n ∧ v = nI (cfG (R.Q.G n) (R.Q.an i) (R.Q.T n).od)), fun _ S E S' => (E = 1 ∧ (np 8 a) ∧ S' = S) ∨ (E = 2 ∧ (∃ i, i < 8 ∧ a = nI i ∧ R.Q.ap i = none) ∧ S' = S))
def tX14_place0 : CD := [(0, .iload_n 1), (1, .iconst 0), (2, .bipush 7), (4, .invokestatic 144), (7, .invokestatic 148), (10, .aload_n 0), (11, .getfield 42), (14, .iload_n 1), (15, .iaload), (16, .ifCond .lt 7), (19, .iconst 1), (20, .goto 4), (23, .iconst 0), (24, .invokestatic 236), (27, .aload_n 0), (28, .getfield 11), (31, .aload_n 0), (32, .getfield 42), (35, .iload_n 1), (36, .iaload), (37, .aaload), (38, .astore_n 2), (39, .aload_n 0), (40, .getfield 45), (43, .iload_n 1), (44, .iaload), (45, .ifCond .ge 10), (48, .aload_n 2), (49, .invokevirtual 207), (52, .goto 13), (55, .aload_n 2), (56, .aload_n 0), (57, .getfield 45), (60, .iload_n 1), (61, .iaload), (62, .invokevirtual 256), (65, .ireturn)]
set_option maxRecDepth 100000 in
theorem kX14_place0 : chk cX14_place0 tX14_place0 = true := by decide +kernel
theorem vX14_place0_144 : ∀ w ∈ ([.methodLink RX14 144 yX14_in, .static yX14_in, .initialized yX14_in.cls, .code yX14_in cX14_in 3 (some .boolean)] : List Cond), w ∈ lw_good := List.forall_mem_cons.mpr ⟨mgd 1930 (by decide +kernel) (by decide +kernel), List.forall_mem_cons.mpr ⟨mgd 1931 (by decide +kernel) (by decide +kernel), List.forall_mem_cons.mpr ⟨mgd 136 (by decide +kernel) (by decide +kernel), List.forall_mem_cons.mpr ⟨mgd 1932 (by decide +kernel) (by decide +kernel), fun _ h => absurd h List.not_mem_nil⟩⟩⟩⟩
theorem vX14_place0_148 : ∀ w ∈ ([.methodLink RX14 148 yX14_check, .static yX14_check, .initialized yX14_check.cls, .code yX14_check cX14_check 1 none] : List Cond), w ∈ lw_good := List.forall_mem_cons.mpr ⟨mgd 1933 (by decide +kernel) (by decide +kernel), List.forall_mem_cons.mpr ⟨mgd 1934 (by decide +kernel) (by decide +kernel), List.forall_mem_cons.mpr ⟨mgd 136 (by decide +kernel) (by decide +kernel), List.forall_mem_cons.mpr ⟨mgd 1935 (by decide +kernel) (by decide +kernel), fun _ h => absurd h List.not_mem_nil⟩⟩⟩⟩
theorem vX14_place0_236 : ∀ w ∈ ([.methodLink RX14 236 yX14_there, .static yX14_there, .initialized yX14_there.cls, .code yX14_there cX14_there 1 none] : List Cond), w ∈ lw_good := List.forall_mem_cons.mpr ⟨mgd 2066 (by decide +kernel) (by decide +kernel), List.forall_mem_cons.mpr ⟨mgd 2067 (by decide +kernel) (by decide +kernel), List.forall_mem_cons.mpr ⟨mgd 136 (by decide +kernel) (by decide +kernel), List.forall_mem_cons.mpr ⟨mgd 2068 (by decide +kernel) (by decide +kernel), fun _ h => absurd h List.not_mem_nil⟩⟩⟩⟩
theorem vX14_place0_207 : ∀ w ∈ ([.methodLink RX14 207 yX12_length, .instanceMethod yX12_length, .selects yX12_length.cls yX12_length yX12_length, .initialized yX12_length.cls, .code yX12_length cX12_length 3 (some .int)] : List Cond), w ∈ lw_good := List.forall_mem_cons.mpr ⟨mgd 1950 (by decide +kernel) (by decide +kernel), List.forall_mem_cons.mpr ⟨mgd 1951 (by decide +kernel) (by decide +kernel), List.forall_mem_cons.mpr ⟨mgd 1952 (by decide +kernel) (by decide +kernel), List.forall_mem_cons.mpr ⟨mgd 138 (by decide +kernel) (by decide +kernel), List.forall_mem_cons.mpr ⟨mgd 1953 (by decide +kernel) (by decide +kernel), fun _ h => absurd h List.not_mem_nil⟩⟩⟩⟩⟩
theorem vX14_place0_256 : ∀ w ∈ ([.methodLink RX14 256 yX12_shownBefore, .instanceMethod yX12_shownBefore, .selects yX12_shownBefore.cls yX12_shownBefore yX12_shownBefore, .initialized yX12_shownBefore.cls, .code yX12_shownBefore cX12_shownBefore 4 (some .int)] : List Cond), w ∈ lw_good := List.forall_mem_cons.mpr ⟨mgd 2075 (by decide +kernel) (by decide +kernel), List.forall_mem_cons.mpr ⟨mgd 2076 (by decide +kernel) (by decide +kernel), List.forall_mem_cons.mpr ⟨mgd 2077 (by decide +kernel) (by decide +kernel), List.forall_mem_cons.mpr ⟨mgd 138 (by decide +kernel) (by decide +kernel), List.forall_mem_cons.mpr ⟨mgd 2078 (by decide +kernel) (by decide +kernel), fun _ h => absurd h List.not_mem_nil⟩⟩⟩⟩⟩
set_option maxRecDepth 100000 in
set_option maxHeartbeats 2000000 in
theorem c_rpl0 (l : Launch) (hlt : l.stackTraces = false) : ∀ (t : Nat) (a : Int32) (F : Nat → Nat × Nat) (z : Nat → Nat) (Y : Nat → Nat → Nat) (R : Rb) (kz : Nat → Nat), CtX l yX14_place0 (Cond.code yX14_place0 cX14_place0 3 (some .int)) (some .int) 7 109 (sp_rpl0 t a F z Y R kz) := by
  intro t a F z Y R kz
  refine CtX.of hlt (fX14, nX14, aX14, iX14, lX14, [(144, 2, 3, 1, T_rin), (148, 2, 1, 0, T_rck), (236, 2, 1, 0, T_rth), (207, 0, 1, 1, T_rln), (256, 0, 2, 1, T_rsbf)], qX14, gX14, []) false tX14_place0 (fun _ _ _ => none) (by decide) (by decide) kX14_place0 ⟨_, _, rfl⟩ fX14_ok nX14_ok aX14_ok iX14_ok lX14_ok (fun p e R s m args below meth c Q D cy z r A C hR1 hR2 => List.forall_mem_cons.mpr ⟨cOK_use (fun _ _ _ _ _ _ _ _ h => let ⟨sp, h1, _, h3⟩ := u_rin l _ _ _ _ _ _ _ _ h; ⟨sp, cOK_S C h1 vX14_place0_144 ⟨by decide, by decide, by decide +kernel⟩ ⟨by rw [hR1]; decide, by rw [hR2]; decide⟩, h3⟩), List.forall_mem_cons.mpr ⟨cOK_use (fun _ _ _ _ _ _ _ _ h => let ⟨sp, h1, _, h3⟩ := u_rck l hlt _ _ _ _ _ _ _ _ h; ⟨sp, cOKx_S C h1 vX14_place0_148 ⟨by decide, by decide, by decide +kernel⟩ ⟨by rw [hR1]; decide, by rw [hR2]; decide⟩, h3⟩), List.forall_mem_cons.mpr ⟨cOK_use (fun _ _ _ _ _ _ _ _ h => let ⟨sp, h1, _, h3⟩ := u_rth l hlt _ _ _ _ _ _ _ _ h; ⟨sp, cOKx_S C h1 vX14_place0_236 ⟨by decide, by decide, by decide +kernel⟩ ⟨by rw [hR1]; decide, by rw [hR2]; decide⟩, h3⟩), List.forall_mem_cons.mpr ⟨cOK_use (fun _ _ _ _ _ _ _ _ h => let ⟨sp, h1, h2, h3⟩ := u_rln l _ _ _ _ _ _ _ _ h; ⟨sp, cOK_V C h1 vX14_place0_207 ⟨by decide, by decide, by decide +kernel⟩ ⟨by rw [hR1]; decide, by rw [hR2]; decide⟩ (k := 13) (T := TX12) (N := 27) rfl (by decide) h2, h3⟩), List.forall_mem_cons.mpr ⟨cOK_use (fun _ _ _ _ _ _ _ _ h => let ⟨sp, h1, h2, h3⟩ := u_rsbf l _ _ _ _ _ _ _ _ h; ⟨sp, cOK_V C h1 vX14_place0_256 ⟨by decide, by decide, by decide +kernel⟩ ⟨by rw [hR1]; decide, by rw [hR2]; decide⟩ (k := 13) (T := TX12) (N := 27) rfl (by decide) h2, h3⟩), fun _ h => absurd h List.not_mem_nil⟩⟩⟩⟩⟩) qX14_ok gX14_ok (fun _ h => absurd h List.not_mem_nil) ?_ ?_
  · rintro _ S ⟨rfl, hp⟩
    refine ⟨Nat.le_of_ble_eq_true rfl, 300, ?_⟩
    show (2 = 2 ∧ (True ∧ 0 ≤ 2 ∧ 0 ≤ 12 ∧ ((2 = 2 ∧ (((tf ((0 : Int32) ≤ a ∧ a ≤ (7 : Int32))) = 0 ∨ (tf ((0 : Int32) ≤ a ∧ a ≤ (7 : Int32))) = 1) ∧ 0 + 1 ≤ 2 ∧ 0 + 6 ≤ 12 ∧ ((∀ (S_2 : MM), (S_2 = S ∧ (tf ((0 : Int32) ≤ a ∧ a ≤ (7 : Int32))) = 1) → (isO S_2 15 t ∧ (pa (mR S_2 1511 t) fun a_3 => ∃ v_4 : Int32, (isO S_2 17 a_3 ∧ inR S_2 a_3 a ∧ v_4 = eI S_2 a_3 a.toNatClampNeg ∨ a_3 = (mQ S_2).1 ∧ vp_in a 16 ∧ v_4 = mRem a.toNatClampNeg) ∧ ((v_4 < 0 → (2 = 2 ∧ (((0 : Int32) = 0 ∨ (0 : Int32) = 1) ∧ 0 + 1 + 1 ≤ 2 ∧ 0 + 6 + 6 ≤ 12 ∧ ((∀ (S_5 : MM), (S_5 = S_2 ∧ (0 : Int32) = 1) → (isO S_5 15 t ∧ (isO S_5 15 t ∧ (pa (mR S_5 1511 t) fun a_6 => ∃ v_7 : Int32, (isO S_5 17 a_6 ∧ inR S_5 a_6 a ∧ v_7 = eI S_5 a_6 a.toNatClampNeg ∨ a_6 = (mQ S_5).1 ∧ vp_in a 16 ∧ v_7 = mRem a.toNatClampNeg) ∧ (pa (mR S_5 1500 t) fun a_8 => a_8 ∈ mL S_5 ∧ ¬ mK S_5 a_8 < 21 ∧ mK S_5 a_8 < 29 ∧ inR S_5 a_8 v_7 ∧ (isO S_5 15 t ∧ (pa (mR S_5 1512 t) fun a_9 => ∃ v_10 : Int32, (isO S_5 17 a_9 ∧ inR S_5 a_9 a ∧ v_10 = eI S_5 a_9 a.toNatClampNeg ∨ a_9 = (mQ S_5).1 ∧ vp_in a 16 ∧ v_10 = mRem a.toNatClampNeg) ∧ ((0 ≤ v_10 → (isO S_5 15 t ∧ (pa (mR S_5 1512 t) fun a_11 => ∃ v_12 : Int32, (isO S_5 17 a_11 ∧ inR S_5 a_11 a ∧ v_12 = eI S_5 a_11 a.toNatClampNeg ∨ a_11 = (mQ S_5).1 ∧ vp_in a 16 ∧ v_12 = mRem a.toNatClampNeg) ∧ (0 = 0 ∧ ((pa (eR S_5 a_8 v_7.toNatClampNeg) fun a_13 => (∃ (nd_14 : Nat), v_12 = nI nd_14 ∧ (∃ (F_15 : Nat → Nat × Nat) (i_16 : Nat) (y_17 : Nat → Nat) (G_18 : Gr) (T_19 : Tr) (pz_20 : Nat), (a_13 = y_17 0 ∧ RG S_5 F_15 i_16 y_17 G_18 T_19 ∧ pz_20 < T_19.od.length ∧ T_19.od.getD pz_20 0 = nd_14 + 1) ∧ 0 + 1 + 1 ≤ 2 ∧ 0 + 6 + 6 ≤ 12 ∧ ((([] : List MV) = [] ∧ mret (some .int) (sp_rpl0 t a F z Y R kz) [.inr (.inr (some t)), .inl a] S (some (.inl (nI ((T_19.od.take pz_20).filter (vis G_18)).length))) S_5 (0 + 1 + 1) (0 + 6 + 6))))))))))) ∧ (¬ 0 ≤ v_10 → (0 = 0 ∧ ((pa (eR S_5 a_8 v_7.toNatClampNeg) fun a_22 => (∃ (F_23 : Nat → Nat × Nat) (i_24 : Nat) (y_25 : Nat → Nat) (G_26 : Gr) (T_27 : Tr), (a_22 = y_25 0 ∧ RG S_5 F_23 i_24 y_25 G_26 T_27) ∧ 0 + 1 + 1 ≤ 2 ∧ 0 + 6 + 6 ≤ 12 ∧ ((([] : List MV) = [] ∧ mret (some .int) (sp_rpl0 t a F z Y R kz) [.inr (.inr (some t)), .inl a] S (some (.inl (nI (T_27.od.filter (vis G_26)).length))) S_5 (0 + 1 + 1) (0 + 6 + 6)))))))))))))))) ∧ (((0 : Int32) = 0) → mthr (sp_rpl0 t a F z Y R kz) [.inr (.inr (some t)), .inl a] S 2 S_2 (0 + 1 + 1) (0 + 6 + 6)))))) ∧ (¬ v_4 < 0 → (2 = 2 ∧ (((1 : Int32) = 0 ∨ (1 : Int32) = 1) ∧ 0 + 1 + 1 ≤ 2 ∧ 0 + 6 + 6 ≤ 12 ∧ ((∀ (S_30 : MM), (S_30 = S_2 ∧ (1 : Int32) = 1) → (isO S_30 15 t ∧ (isO S_30 15 t ∧ (pa (mR S_30 1511 t) fun a_31 => ∃ v_32 : Int32, (isO S_30 17 a_31 ∧ inR S_30 a_31 a ∧ v_32 = eI S_30 a_31 a.toNatClampNeg ∨ a_31 = (mQ S_30).1 ∧ vp_in a 16 ∧ v_32 = mRem a.toNatClampNeg) ∧ (pa (mR S_30 1500 t) fun a_33 => a_33 ∈ mL S_30 ∧ ¬ mK S_30 a_33 < 21 ∧ mK S_30 a_33 < 29 ∧ inR S_30 a_33 v_32 ∧ (isO S_30 15 t ∧ (pa (mR S_30 1512 t) fun a_34 => ∃ v_35 : Int32, (isO S_30 17 a_34 ∧ inR S_30 a_34 a ∧ v_35 = eI S_30 a_34 a.toNatClampNeg ∨ a_34 = (mQ S_30).1 ∧ vp_in a 16 ∧ v_35 = mRem a.toNatClampNeg) ∧ ((0 ≤ v_35 → (isO S_30 15 t ∧ (pa (mR S_30 1512 t) fun a_36 => ∃ v_37 : Int32, (isO S_30 17 a_36 ∧ inR S_30 a_36 a ∧ v_37 = eI S_30 a_36 a.toNatClampNeg ∨ a_36 = (mQ S_30).1 ∧ vp_in a 16 ∧ v_37 = mRem a.toNatClampNeg) ∧ (0 = 0 ∧ ((pa (eR S_30 a_33 v_32.toNatClampNeg) fun a_38 => (∃ (nd_39 : Nat), v_37 = nI nd_39 ∧ (∃ (F_40 : Nat → Nat × Nat) (i_41 : Nat) (y_42 : Nat → Nat) (G_43 : Gr) (T_44 : Tr) (pz_45 : Nat), (a_38 = y_42 0 ∧ RG S_30 F_40 i_41 y_42 G_43 T_44 ∧ pz_45 < T_44.od.length ∧ T_44.od.getD pz_45 0 = nd_39 + 1) ∧ 0 + 1 + 1 ≤ 2 ∧ 0 + 6 + 6 ≤ 12 ∧ ((([] : List MV) = [] ∧ mret (some .int) (sp_rpl0 t a F z Y R kz) [.inr (.inr (some t)), .inl a] S (some (.inl (nI ((T_44.od.take pz_45).filter (vis G_43)).length))) S_30 (0 + 1 + 1) (0 + 6 + 6))))))))))) ∧ (¬ 0 ≤ v_35 → (0 = 0 ∧ ((pa (eR S_30 a_33 v_32.toNatClampNeg) fun a_47 => (∃ (F_48 : Nat → Nat × Nat) (i_49 : Nat) (y_50 : Nat → Nat) (G_51 : Gr) (T_52 : Tr), (a_47 = y_50 0 ∧ RG S_30 F_48 i_49 y_50 G_51 T_52) ∧ 0 + 1 + 1 ≤ 2 ∧ 0 + 6 + 6 ≤ 12 ∧ ((([] : List MV) = [] ∧ mret (some .int) (sp_rpl0 t a F z Y R kz) [.inr (.inr (some t)), .inl a] S (some (.inl (nI (T_52.od.filter (vis G_51)).length))) S_30 (0 + 1 + 1) (0 + 6 + 6)))))))))))))))) ∧ (((1 : Int32) = 0) → mthr (sp_rpl0 t a F z Y R kz) [.inr (.inr (some t)), .inl a] S 2 S_2 (0 + 1 + 1) (0 + 6 + 6)))))))))) ∧ (((tf ((0 : Int32) ≤ a ∧ a ≤ (7 : Int32))) = 0) → mthr (sp_rpl0 t a F z Y R kz) [.inr (.inr (some t)), .inl a] S 1 S (0 + 1) (0 + 6))))))))
    refine ⟨rfl, trivial, by decide, by decide, rfl, tf_b _, by decide, by decide, fun S2 h => ?_, fun h => ⟨Or.inl ⟨rfl, in_0k (k := 7) (by decide) h, rfl⟩, Nat.le_of_ble_eq_true rfl, Nat.le_of_ble_eq_true rfl⟩⟩
    obtain ⟨rfl, h⟩ := h
    obtain ⟨i, hi, rfl⟩ := in_1k (k := 7) (by decide) h
    obtain ⟨v1, v2⟩ := hp 8 i hi
    have ci : (nI i).toNatClampNeg = i := nI_clamp (by omega)
    have r11 := hp 1 11 (by decide)
    have r12 := hp 1 12 (by decide)
    have r0 := hp 1 0 (by decide)
    have g11 : ∀ {P : Int32 → Prop}, P (stI (R.Q.ap i)) → pa (mR S2 1511 t) fun a => ∃ v : Int32, (isO S2 17 a ∧ inR S2 a (nI i) ∧ v = eI S2 a (nI i).toNatClampNeg ∨ a = (mQ S2).1 ∧ vp_in (nI i) 16 ∧ v = mRem (nI i).toNatClampNeg) ∧ P v := fun hP => rdI r11.1 r11.2.2.1 (inRn (N := 8) r11.2.2.2 hi (by decide)) (by rw [ci]; exact v1) hP
    refine ⟨(hp 0).1, g11 ?_⟩
    cases ha : R.Q.ap i with
    | none => exact ⟨fun _ => ⟨rfl, Or.inl rfl, by decide, by decide, fun S5 h => absurd h.2 (by decide), fun _ => ⟨Or.inr ⟨rfl, ⟨i, hi, rfl, ha⟩, rfl⟩, Nat.le_of_ble_eq_true rfl, Nat.le_of_ble_eq_true rfl⟩⟩, fun w => absurd (by decide : (-1 : Int32) < 0) w⟩
    | some n =>
      obtain ⟨hn, w1, w2⟩ := v2 n ha
      obtain ⟨q1, q2⟩ := hp 2 n hn
      have g := q2.1
      have cn : (nI n).toNatClampNeg = n := nI_clamp (by omega)
      have g12 : ∀ {P : Int32 → Prop}, P (stI (R.Q.an i)) → pa (mR S2 1512 t) fun a => ∃ v : Int32, (isO S2 17 a ∧ inR S2 a (nI i) ∧ v = eI S2 a (nI i).toNatClampNeg ∨ a = (mQ S2).1 ∧ vp_in (nI i) 16 ∧ v = mRem (nI i).toNatClampNeg) ∧ P v := fun hP => rdI r12.1 r12.2.2.1 (inRn (N := 8) r12.2.2.2 hi (by decide)) (by rw [ci]; exact w1) hP
      have er : eR S2 (z 0) (nI n).toNatClampNeg = some (Y n 0) := by rw [cn]; exact q1
      refine ⟨fun w => absurd w (nI_pos (show n < 2147483648 by omega)), fun _ => ⟨rfl, Or.inr rfl, by decide, by decide, fun S5 h => ?_, fun h => absurd h (by decide)⟩⟩
      obtain ⟨rfl, -⟩ := h
      refine ⟨(hp 0).1, (hp 0).1, g11 ?_⟩
      rw [ha]
      refine pa_i r0.1 ⟨r0.2.2.1.1, by rw [r0.2.2.1.2]; decide, by rw [r0.2.2.1.2]; decide, inRn (N := 4) r0.2.2.2 hn (by decide), (hp 0).1, g12 ?_⟩
      cases hb : R.Q.an i with
      | none => exact ⟨fun w => absurd w (by decide), fun _ => ⟨rfl, pa_i er ⟨F, 101 + n, Y n, R.Q.G n, R.Q.T n, ⟨rfl, g⟩, by decide, by decide, rfl, trivial, ⟨_, rfl, rfl, i, n, hi, rfl, ha, by rw [hb, cfG_n]⟩, Nat.le_refl _, Nat.le_refl _⟩⟩⟩
      | some k =>
        have hk := w2 k hb
        obtain ⟨k', ek, hkn, -⟩ := g.ond hk
        have hnm := g.nm
        obtain ⟨pz, hpz, hpe⟩ := List.getElem_of_mem hk
        have hpd : (R.Q.T n).od.getD pz 0 = k + 1 := by rw [List.getD_eq_getElem?_getD, List.getElem?_eq_getElem hpz, hpe]; rfl
        refine ⟨fun _ => ⟨(hp 0).1, g12 ?_⟩, fun w => absurd (nI_pos' (show k < 2147483648 by omega)) w⟩
        rw [hb]
        exact ⟨rfl, pa_i er ⟨k, rfl, F, 101 + n, Y n, R.Q.G n, R.Q.T n, pz, ⟨rfl, g, hpz, hpd⟩, by decide, by decide, rfl, trivial, ⟨_, rfl, rfl, i, n, hi, rfl, ha, by rw [hb, cfG_s _ k _ pz g.tnd (fun x hx => by obtain ⟨k9, rfl, _⟩ := g.ond hx; exact Nat.succ_pos _) hpz hpd]⟩, Nat.le_refl _, Nat.le_refl _⟩⟩
  · exact fun _ _ _ _ _ h => by cases h
theorem u_rpl0 (l : Launch) (hlt : l.stackTraces = false) : UsX l yX14_place0 (Cond.code yX14_place0 cX14_place0 3 (some .int)) (some .int) 7 109 15 T_rpl0 := by
  intro Rc Rs av S cs sl K Kx h
  unfold T_rpl0 at h
  split at h
  · rename_i t_o a
    obtain ⟨t, rfl, h_1⟩ := pa_of h
    obtain ⟨F, z, Y, R, kz, hp, hc, hs, hk, hx0, hx1⟩ := h_1
    refine ⟨(sp_rpl0 t a F z Y R kz), c_rpl0 l hlt t a F z Y R kz, fun _ _ h9 => ⟨_, _, h9.1, (h9.2 0).1⟩, ⟨rfl, hp⟩, hc, hs, fun v9 S' h8 => by
      obtain ⟨v8, h7, h8⟩ := h8
      cases h7
      exact hk _ _ h8, fun _ _ q => by
      rcases q with ⟨rfl, q⟩ | ⟨rfl, q⟩
      · obtain ⟨q, rfl⟩ := q
        exact hx0 q
      · obtain ⟨q, rfl⟩ := q
        exact hx1 q⟩
  · exact h.elim
theorem fnV_c {G : Gr} {a : Nat} {x : Int32} (hn : G.n ≤ 8192) : (fnV G a x = -1 ∧ lk0 G a x) ∨ ∃ k, fnV G a x = nI k ∧ k < G.n ∧ lk2 G a x k := by
  have hl : (agE G a).length ≤ 8192 := by
    have := List.length_filter_le (fun k => decide (G.ag (G.ev k).sl = a)) (List.range G.n)
    rw [List.length_range] at this
    exact Nat.le_trans this hn
  by_cases c : x < 0
  · exact Or.inl ⟨if_pos c, np_lo (by omega) c⟩
  · obtain ⟨j, hj, rfl⟩ := nI_of c
    cases h : (agE G a)[j]? with
    | none =>
      have e1 : fnV G a (nI j) = -1 := by
        unfold fnV
        rw [if_neg c, nI_clamp hj, h]
      refine Or.inl ⟨e1, fun n hn9 e => ?_⟩
      have := (nI_eq hj (show n < 2147483648 by omega)).1 e
      have := List.getElem?_eq_none_iff.1 h
      omega
    | some k =>
      have e1 : fnV G a (nI j) = nI k := by
        unfold fnV
        rw [if_neg c, nI_clamp hj, h]
      refine Or.inr ⟨k, e1, ?_, j, rfl, h⟩
      have := List.mem_of_getElem? h
      exact List.mem_range.1 (List.mem_filter.1 this).1
def I_rrl (p a x b y : Int32) (Y : Nat → Nat → Nat) (R : Rb) (S : MM) (k : Nat) : KT := fun lo st S1 cs sl => ∃ n a1 b1, k = 0 ∧ n < 4 ∧ p = nI n ∧ a1 < 256 ∧ a = nI a1 ∧ b1 < 256 ∧ b = nI b1 ∧ lo = [(6, .inr (.inr (some (Y n 0)))), (7, .inl (fnV (R.Q.G n) a1 x)), (8, .inl (fnV (R.Q.G n) b1 y))] ∧ st = [] ∧ S = S1 ∧ cs = 2 ∧ sl = 12
def T_rrl0 : TR := fun Rc Rs av S cs sl K Kx => match av with
  | [.inr (.inr t_o), .inl p, .inl a, .inl x, .inl b, .inl y] => pa t_o fun t => (∃ (F : Nat → Nat × Nat) (z : Nat → Nat) (Y : Nat → Nat → Nat) (R : Rb) (kz : Nat → Nat), (MD S F t z Y R kz) ∧ cs + 3 ≤ Rc ∧ sl + 18 ≤ Rs ∧ ((∀ (v : Int32) (S' : MM), (S' = S ∧ ∃ n a1 b1 e f, n < 4 ∧ p = nI n ∧ a1 < 256 ∧ a = nI a1 ∧ b1 < 256 ∧ b = nI b1 ∧ lk2 (R.Q.G n) a1 x e ∧ lk2 (R.Q.G n) b1 y f ∧ v = rlA (R.Q.G n) e f) → K (some (.inl v)) S' (cs + 3) (sl + 18)) ∧ ((np 4 p ∨ np 256 a ∨ np 256 b) → Kx 1 S (cs + 3) (sl + 18)) ∧ ((∃ n a1 b1, n < 4 ∧ p = nI n ∧ a1 < 256 ∧ a = nI a1 ∧ b1 < 256 ∧ b = nI b1 ∧ (lk0 (R.Q.G n) a1 x ∨ lk0 (R.Q.G n) b1 y)) → Kx 2 S (cs + 3) (sl + 18))))
  | _ => False
def sp_rrl0 (t : Nat) (p : Int32) (a : Int32) (x : Int32) (b : Int32) (y : Int32) (F : Nat → Nat × Nat) (z : Nat → Nat) (Y : Nat → Nat → Nat) (R : Rb) (kz : Nat → Nat) : Sp := (fun av S => av = [.inr (.inr (some t)), .inl p, .inl a, .inl x, .inl b, .inl y] ∧ (MD S F t z Y R kz), fun _ S => 3, fun _ S => 18, fun _ S rv S' => ∃ v, rv = (some (.inl v)) ∧ (S' = S ∧ ∃ n a1 b1 e f, n < 4 ∧ p = nI n ∧ a1 < 256 ∧ a = nI a1 ∧ b1 < 256 ∧ b = nI b1 ∧ lk2 (R.Q.G n) a1 x e ∧ lk2 (R.Q.G n) b1 y f ∧ v = rlA (R.Q.G n) e f), fun _ S E S' => (E = 1 ∧ (np 4 p ∨ np 256 a ∨ np 256 b) ∧ S' = S) ∨ (E = 2 ∧ (∃ n a1 b1, n < 4 ∧ p = nI n ∧ a1 < 256 ∧ a = nI a1 ∧ b1 < 256 ∧ b = nI b1 ∧ (lk0 (R.Q.G n) a1 x ∨ lk0 (R.Q.G n) b1 y)) ∧ S' = S))
def tX14_related0 : CD := [(0, .aload_n 0), (1, .iload_n 1), (2, .invokevirtual 203), (5, .astore 6), (7, .iload_n 2), (8, .iconst 0), (9, .sipush 255), (12, .invokestatic 144), (15, .ifCond .eq 19), (18, .iload 4), (20, .iconst 0), (21, .sipush 255), (24, .invokestatic 144), (27, .ifCond .eq 7), (30, .iconst 1), (31, .goto 4), (34, .iconst 0), (35, .invokestatic 148), (38, .aload 6), (40, .iload_n 2), (41, .iload_n 3), (42, .invokevirtual 242), (45, .istore 7), (47, .aload 6), (49, .iload 4), (51, .iload 5), (53, .invokevirtual 242), (56, .istore 8), (58, .iload 7), (60, .ifCond .lt 12), (63, .iload 8), (65, .ifCond .lt 7), (68, .iconst 1), (69, .goto 4), (72, .iconst 0), (73, .invokestatic 236), (76, .iload 7), (78, .iload 8), (80, .if_icmp .ne 7), (83, .iconst 0), (84, .goto 36), (87, .aload 6), (89, .iload 7), (91, .iload 8), (93, .invokevirtual 281), (96, .ifCond .eq 7), (99, .iconst 1), (100, .goto 20), (103, .aload 6), (105, .iload 8), (107, .iload 7), (109, .invokevirtual 281), (112, .ifCond .eq 7), (115, .iconst 2), (116, .goto 4), (119, .iconst 3), (120, .ireturn)]
set_option maxRecDepth 100000 in
theorem kX14_related0 : chk cX14_related0 tX14_related0 = true := by decide +kernel
theorem vX14_related0_203 : ∀ w ∈ ([.methodLink RX14 203 yX14_graph, .instanceMethod yX14_graph, .selects yX14_graph.cls yX14_graph yX14_graph, .initialized yX14_graph.cls, .code yX14_graph cX14_graph 2 (some (.object "WeaveTextModel$Graph"))] : List Cond), w ∈ lw_good := List.forall_mem_cons.mpr ⟨mgd 1946 (by decide +kernel) (by decide +kernel), List.forall_mem_cons.mpr ⟨mgd 1948 (by decide +kernel) (by decide +kernel), List.forall_mem_cons.mpr ⟨mgd 52 (by decide +kernel) (by decide +kernel), List.forall_mem_cons.mpr ⟨mgd 136 (by decide +kernel) (by decide +kernel), List.forall_mem_cons.mpr ⟨mgd 1949 (by decide +kernel) (by decide +kernel), fun _ h => absurd h List.not_mem_nil⟩⟩⟩⟩⟩
theorem vX14_related0_144 : ∀ w ∈ ([.methodLink RX14 144 yX14_in, .static yX14_in, .initialized yX14_in.cls, .code yX14_in cX14_in 3 (some .boolean)] : List Cond), w ∈ lw_good := List.forall_mem_cons.mpr ⟨mgd 1930 (by decide +kernel) (by decide +kernel), List.forall_mem_cons.mpr ⟨mgd 1931 (by decide +kernel) (by decide +kernel), List.forall_mem_cons.mpr ⟨mgd 136 (by decide +kernel) (by decide +kernel), List.forall_mem_cons.mpr ⟨mgd 1932 (by decide +kernel) (by decide +kernel), fun _ h => absurd h List.not_mem_nil⟩⟩⟩⟩
theorem vX14_related0_148 : ∀ w ∈ ([.methodLink RX14 148 yX14_check, .static yX14_check, .initialized yX14_check.cls, .code yX14_check cX14_check 1 none] : List Cond), w ∈ lw_good := List.forall_mem_cons.mpr ⟨mgd 1933 (by decide +kernel) (by decide +kernel), List.forall_mem_cons.mpr ⟨mgd 1934 (by decide +kernel) (by decide +kernel), List.forall_mem_cons.mpr ⟨mgd 136 (by decide +kernel) (by decide +kernel), List.forall_mem_cons.mpr ⟨mgd 1935 (by decide +kernel) (by decide +kernel), fun _ h => absurd h List.not_mem_nil⟩⟩⟩⟩
theorem vX14_related0_242 : ∀ w ∈ ([.methodLink RX14 242 yX12_find, .instanceMethod yX12_find, .selects yX12_find.cls yX12_find yX12_find, .initialized yX12_find.cls, .code yX12_find cX12_find 4 (some .int)] : List Cond), w ∈ lw_good := List.forall_mem_cons.mpr ⟨mgd 2070 (by decide +kernel) (by decide +kernel), List.forall_mem_cons.mpr ⟨mgd 2071 (by decide +kernel) (by decide +kernel), List.forall_mem_cons.mpr ⟨mgd 2072 (by decide +kernel) (by decide +kernel), List.forall_mem_cons.mpr ⟨mgd 138 (by decide +kernel) (by decide +kernel), List.forall_mem_cons.mpr ⟨mgd 2073 (by decide +kernel) (by decide +kernel), fun _ h => absurd h List.not_mem_nil⟩⟩⟩⟩⟩
theorem vX14_related0_236 : ∀ w ∈ ([.methodLink RX14 236 yX14_there, .static yX14_there, .initialized yX14_there.cls, .code yX14_there cX14_there 1 none] : List Cond), w ∈ lw_good := List.forall_mem_cons.mpr ⟨mgd 2066 (by decide +kernel) (by decide +kernel), List.forall_mem_cons.mpr ⟨mgd 2067 (by decide +kernel) (by decide +kernel), List.forall_mem_cons.mpr ⟨mgd 136 (by decide +kernel) (by decide +kernel), List.forall_mem_cons.mpr ⟨mgd 2068 (by decide +kernel) (by decide +kernel), fun _ h => absurd h List.not_mem_nil⟩⟩⟩⟩
theorem vX14_related0_281 : ∀ w ∈ ([.methodLink RX14 281 yX12_isBefore, .instanceMethod yX12_isBefore, .selects yX12_isBefore.cls yX12_isBefore yX12_isBefore, .initialized yX12_isBefore.cls, .code yX12_isBefore cX12_isBefore 3 (some .boolean)] : List Cond), w ∈ lw_good := List.forall_mem_cons.mpr ⟨mgd 2162 (by decide +kernel) (by decide +kernel), List.forall_mem_cons.mpr ⟨mgd 2151 (by decide +kernel) (by decide +kernel), List.forall_mem_cons.mpr ⟨mgd 2152 (by decide +kernel) (by decide +kernel), List.forall_mem_cons.mpr ⟨mgd 138 (by decide +kernel) (by decide +kernel), List.forall_mem_cons.mpr ⟨mgd 2153 (by decide +kernel) (by decide +kernel), fun _ h => absurd h List.not_mem_nil⟩⟩⟩⟩⟩
set_option maxRecDepth 100000 in
set_option maxHeartbeats 2000000 in
theorem c_rrl0 (l : Launch) (hlt : l.stackTraces = false) : ∀ (t : Nat) (p : Int32) (a : Int32) (x : Int32) (b : Int32) (y : Int32) (F : Nat → Nat × Nat) (z : Nat → Nat) (Y : Nat → Nat → Nat) (R : Rb) (kz : Nat → Nat), CtX l yX14_related0 (Cond.code yX14_related0 cX14_related0 9 (some .int)) (some .int) 8 130 (sp_rrl0 t p a x b y F z Y R kz) := by
  intro t p a x b y F z Y R kz
  refine CtX.of hlt (fX14, nX14, aX14, iX14, lX14, [(203, 0, 2, 3, T_rgr), (144, 2, 3, 1, T_rin), (148, 2, 1, 0, T_rck), (242, 0, 3, 1, T_rfn), (236, 2, 1, 0, T_rth), (281, 0, 3, 1, T_rib)], qX14, gX14, []) false tX14_related0 (fun _ S => look [(58, ([6,7,8], I_rrl p a x b y Y R S))]) (by decide) (by decide) kX14_related0 ⟨_, _, rfl⟩ fX14_ok nX14_ok aX14_ok iX14_ok lX14_ok (fun p e R s m args below meth c Q D cy z r A C hR1 hR2 => List.forall_mem_cons.mpr ⟨cOK_use (fun _ _ _ _ _ _ _ _ h => let ⟨sp, h1, h2, h3⟩ := u_rgr l hlt _ _ _ _ _ _ _ _ h; ⟨sp, cOKx_V C h1 vX14_related0_203 ⟨by decide, by decide, by decide +kernel⟩ ⟨by rw [hR1]; decide, by rw [hR2]; decide⟩ (k := 15) (T := TX14) (N := 52) rfl (by decide) h2, h3⟩), List.forall_mem_cons.mpr ⟨cOK_use (fun _ _ _ _ _ _ _ _ h => let ⟨sp, h1, _, h3⟩ := u_rin l _ _ _ _ _ _ _ _ h; ⟨sp, cOK_S C h1 vX14_related0_144 ⟨by decide, by decide, by decide +kernel⟩ ⟨by rw [hR1]; decide, by rw [hR2]; decide⟩, h3⟩), List.forall_mem_cons.mpr ⟨cOK_use (fun _ _ _ _ _ _ _ _ h => let ⟨sp, h1, _, h3⟩ := u_rck l hlt _ _ _ _ _ _ _ _ h; ⟨sp, cOKx_S C h1 vX14_related0_148 ⟨by decide, by decide, by decide +kernel⟩ ⟨by rw [hR1]; decide, by rw [hR2]; decide⟩, h3⟩), List.forall_mem_cons.mpr ⟨cOK_use (fun _ _ _ _ _ _ _ _ h => let ⟨sp, h1, h2, h3⟩ := u_rfn l _ _ _ _ _ _ _ _ h; ⟨sp, cOK_V C h1 vX14_related0_242 ⟨by decide, by decide, by decide +kernel⟩ ⟨by rw [hR1]; decide, by rw [hR2]; decide⟩ (k := 13) (T := TX12) (N := 27) rfl (by decide) h2, h3⟩), List.forall_mem_cons.mpr ⟨cOK_use (fun _ _ _ _ _ _ _ _ h => let ⟨sp, h1, _, h3⟩ := u_rth l hlt _ _ _ _ _ _ _ _ h; ⟨sp, cOKx_S C h1 vX14_related0_236 ⟨by decide, by decide, by decide +kernel⟩ ⟨by rw [hR1]; decide, by rw [hR2]; decide⟩, h3⟩), List.forall_mem_cons.mpr ⟨cOK_use (fun _ _ _ _ _ _ _ _ h => let ⟨sp, h1, h2, h3⟩ := u_rib l _ _ _ _ _ _ _ _ h; ⟨sp, cOK_V C h1 vX14_related0_281 ⟨by decide, by decide, by decide +kernel⟩ ⟨by rw [hR1]; decide, by rw [hR2]; decide⟩ (k := 13) (T := TX12) (N := 27) rfl (by decide) h2, h3⟩), fun _ h => absurd h List.not_mem_nil⟩⟩⟩⟩⟩⟩) qX14_ok gX14_ok (fun _ h => absurd h List.not_mem_nil) ?_ ?_
  · rintro _ S ⟨rfl, hp⟩
    refine ⟨Nat.le_of_ble_eq_true rfl, 300, ?_⟩
    show (0 = 0 ∧ (∃ (F_1 : Nat → Nat × Nat) (z_2 : Nat → Nat) (Y_3 : Nat → Nat → Nat) (R_4 : Rb) (kz_5 : Nat → Nat), (MD S F_1 t z_2 Y_3 R_4 kz_5) ∧ 0 + 1 ≤ 3 ∧ 0 + 6 ≤ 18 ∧ ((∀ (x_7 : Option Nat) (S_6 : MM), (S_6 = S ∧ ∃ n, n < 4 ∧ p = nI n ∧ x_7 = some (Y_3 n 0)) → (2 = 2 ∧ (True ∧ 0 + 1 ≤ 3 ∧ 0 + 6 ≤ 18 ∧ ((((tf ((0 : Int32) ≤ a ∧ a ≤ (255 : Int32))) = 0 → (2 = 2 ∧ (((0 : Int32) = 0 ∨ (0 : Int32) = 1) ∧ 0 + 1 + 1 ≤ 3 ∧ 0 + 6 + 6 ≤ 18 ∧ ((∀ (S_9 : MM), (S_9 = S_6 ∧ (0 : Int32) = 1) → (0 = 0 ∧ ((pa x_7 fun a_10 => (∃ (a_11 : Nat), a = nI a_11 ∧ (∃ (F_12 : Nat → Nat × Nat) (i_13 : Nat) (y_14 : Nat → Nat) (G_15 : Gr) (T_16 : Tr), (a_10 = y_14 0 ∧ RG S_9 F_12 i_13 y_14 G_15 T_16 ∧ a_11 < 256) ∧ 0 + 1 + 1 ≤ 3 ∧ 0 + 6 + 6 ≤ 18 ∧ ((0 = 0 ∧ ((pa x_7 fun a_18 => (∃ (a_19 : Nat), b = nI a_19 ∧ (∃ (F_20 : Nat → Nat × Nat) (i_21 : Nat) (y_22 : Nat → Nat) (G_23 : Gr) (T_24 : Tr), (a_18 = y_22 0 ∧ RG S_9 F_20 i_21 y_22 G_23 T_24 ∧ a_19 < 256) ∧ 0 + 1 + 1 ≤ 3 ∧ 0 + 6 + 6 ≤ 18 ∧ ((∃ k1, I_rrl p a x b y Y R S k1 [(6, .inr (.inr x_7)), (7, .inl (fnV G_15 a_11 x)), (8, .inl (fnV G_23 a_19 y))] [] S_9 (0 + 1 + 1) (0 + 6 + 6))))))))))))))) ∧ (((0 : Int32) = 0) → mthr (sp_rrl0 t p a x b y F z Y R kz) [.inr (.inr (some t)), .inl p, .inl a, .inl x, .inl b, .inl y] S 1 S_6 (0 + 1 + 1) (0 + 6 + 6)))))) ∧ (¬ (tf ((0 : Int32) ≤ a ∧ a ≤ (255 : Int32))) = 0 → (2 = 2 ∧ (True ∧ 0 + 1 ≤ 3 ∧ 0 + 6 ≤ 18 ∧ ((((tf ((0 : Int32) ≤ b ∧ b ≤ (255 : Int32))) = 0 → (2 = 2 ∧ (((0 : Int32) = 0 ∨ (0 : Int32) = 1) ∧ 0 + 1 + 1 ≤ 3 ∧ 0 + 6 + 6 ≤ 18 ∧ ((∀ (S_28 : MM), (S_28 = S_6 ∧ (0 : Int32) = 1) → (0 = 0 ∧ ((pa x_7 fun a_29 => (∃ (a_30 : Nat), a = nI a_30 ∧ (∃ (F_31 : Nat → Nat × Nat) (i_32 : Nat) (y_33 : Nat → Nat) (G_34 : Gr) (T_35 : Tr), (a_29 = y_33 0 ∧ RG S_28 F_31 i_32 y_33 G_34 T_35 ∧ a_30 < 256) ∧ 0 + 1 + 1 ≤ 3 ∧ 0 + 6 + 6 ≤ 18 ∧ ((0 = 0 ∧ ((pa x_7 fun a_37 => (∃ (a_38 : Nat), b = nI a_38 ∧ (∃ (F_39 : Nat → Nat × Nat) (i_40 : Nat) (y_41 : Nat → Nat) (G_42 : Gr) (T_43 : Tr), (a_37 = y_41 0 ∧ RG S_28 F_39 i_40 y_41 G_42 T_43 ∧ a_38 < 256) ∧ 0 + 1 + 1 ≤ 3 ∧ 0 + 6 + 6 ≤ 18 ∧ ((∃ k1, I_rrl p a x b y Y R S k1 [(6, .inr (.inr x_7)), (7, .inl (fnV G_34 a_30 x)), (8, .inl (fnV G_42 a_38 y))] [] S_28 (0 + 1 + 1) (0 + 6 + 6))))))))))))))) ∧ (((0 : Int32) = 0) → mthr (sp_rrl0 t p a x b y F z Y R kz) [.inr (.inr (some t)), .inl p, .inl a, .inl x, .inl b, .inl y] S 1 S_6 (0 + 1 + 1) (0 + 6 + 6)))))) ∧ (¬ (tf ((0 : Int32) ≤ b ∧ b ≤ (255 : Int32))) = 0 → (2 = 2 ∧ (((1 : Int32) = 0 ∨ (1 : Int32) = 1) ∧ 0 + 1 + 1 ≤ 3 ∧ 0 + 6 + 6 ≤ 18 ∧ ((∀ (S_46 : MM), (S_46 = S_6 ∧ (1 : Int32) = 1) → (0 = 0 ∧ ((pa x_7 fun a_47 => (∃ (a_48 : Nat), a = nI a_48 ∧ (∃ (F_49 : Nat → Nat × Nat) (i_50 : Nat) (y_51 : Nat → Nat) (G_52 : Gr) (T_53 : Tr), (a_47 = y_51 0 ∧ RG S_46 F_49 i_50 y_51 G_52 T_53 ∧ a_48 < 256) ∧ 0 + 1 + 1 ≤ 3 ∧ 0 + 6 + 6 ≤ 18 ∧ ((0 = 0 ∧ ((pa x_7 fun a_55 => (∃ (a_56 : Nat), b = nI a_56 ∧ (∃ (F_57 : Nat → Nat × Nat) (i_58 : Nat) (y_59 : Nat → Nat) (G_60 : Gr) (T_61 : Tr), (a_55 = y_59 0 ∧ RG S_46 F_57 i_58 y_59 G_60 T_61 ∧ a_56 < 256) ∧ 0 + 1 + 1 ≤ 3 ∧ 0 + 6 + 6 ≤ 18 ∧ ((∃ k1, I_rrl p a x b y Y R S k1 [(6, .inr (.inr x_7)), (7, .inl (fnV G_52 a_48 x)), (8, .inl (fnV G_60 a_56 y))] [] S_46 (0 + 1 + 1) (0 + 6 + 6))))))))))))))) ∧ (((1 : Int32) = 0) → mthr (sp_rrl0 t p a x b y F z Y R kz) [.inr (.inr (some t)), .inl p, .inl a, .inl x, .inl b, .inl y] S 1 S_6 (0 + 1 + 1) (0 + 6 + 6)))))))))))))))) ∧ ((np 4 p) → mthr (sp_rrl0 t p a x b y F z Y R kz) [.inr (.inr (some t)), .inl p, .inl a, .inl x, .inl b, .inl y] S 1 S (0 + 1) (0 + 6)))))
    refine ⟨rfl, F, z, Y, R, kz, hp, by decide, by decide, fun v S3 h => ?_, fun h => ⟨Or.inl ⟨rfl, Or.inl h, rfl⟩, Nat.le_of_ble_eq_true rfl, Nat.le_of_ble_eq_true rfl⟩⟩
    obtain ⟨rfl, n, hn, hpn, rfl⟩ := h
    have g := (hp 2 n hn).2.1
    refine ⟨rfl, trivial, by decide, by decide, fun ha => ⟨rfl, Or.inl rfl, by decide, by decide, fun S9 h => absurd h.2 (by decide), fun _ => ⟨Or.inl ⟨rfl, Or.inr (Or.inl (in_0k (k := 255) (by decide) ha)), rfl⟩, Nat.le_of_ble_eq_true rfl, Nat.le_of_ble_eq_true rfl⟩⟩, fun ha => ⟨rfl, trivial, by decide, by decide, fun hb => ⟨rfl, Or.inl rfl, by decide, by decide, fun S9 h => absurd h.2 (by decide), fun _ => ⟨Or.inl ⟨rfl, Or.inr (Or.inr (in_0k (k := 255) (by decide) hb)), rfl⟩, Nat.le_of_ble_eq_true rfl, Nat.le_of_ble_eq_true rfl⟩⟩, fun hb => ⟨rfl, Or.inr rfl, by decide, by decide, fun S9 h => ?_, fun h => absurd h (by decide)⟩⟩⟩
    obtain ⟨rfl, -⟩ := h
    obtain ⟨a1, ha1, rfl⟩ := in_1k (k := 255) (by decide) ((tf_b _).resolve_left ha)
    obtain ⟨b1, hb1, rfl⟩ := in_1k (k := 255) (by decide) ((tf_b _).resolve_left hb)
    exact ⟨rfl, pa_i rfl ⟨a1, rfl, F, 101 + n, Y n, R.Q.G n, R.Q.T n, ⟨rfl, g, ha1⟩, by decide, by decide, rfl, pa_i rfl ⟨b1, rfl, F, 101 + n, Y n, R.Q.G n, R.Q.T n, ⟨rfl, g, hb1⟩, by decide, by decide, 0, n, a1, b1, rfl, hn, hpn, ha1, rfl, hb1, rfl, rfl, rfl, rfl, rfl, rfl⟩⟩⟩
  · intro av S hpre pc I hI k lo st S1 cs sl h
    obtain ⟨rfl, hp⟩ := hpre
    have hm := look_in hI
    rw [List.mem_singleton] at hm
    cases hm
    obtain ⟨n, a1, b1, rfl, hn, hpn, ha1, hea, hb1, heb, rfl, rfl, rfl, rfl, rfl⟩ := h
    refine ⟨300, ?_⟩
    show (((fnV (R.Q.G n) a1 x) < 0 → (2 = 2 ∧ (((0 : Int32) = 0 ∨ (0 : Int32) = 1) ∧ 2 + 1 ≤ 3 ∧ 12 + 6 ≤ 18 ∧ ((∀ (S_1 : MM), (S_1 = S ∧ (0 : Int32) = 1) → ((¬ (fnV (R.Q.G n) a1 x) = (fnV (R.Q.G n) b1 y) → (0 = 0 ∧ (∃ (e_2 : Nat), fnV (R.Q.G n) a1 x = nI e_2 ∧ (∃ (f_3 : Nat), fnV (R.Q.G n) b1 y = nI f_3 ∧ (∃ (F_4 : Nat → Nat × Nat) (i_5 : Nat) (y_6 : Nat → Nat) (G_7 : Gr) (T_8 : Tr), ((Y n 0) = y_6 0 ∧ RG S_1 F_4 i_5 y_6 G_7 T_8 ∧ e_2 < G_7.n ∧ f_3 < G_7.n) ∧ 2 + 1 ≤ 3 ∧ 12 + 6 ≤ 18 ∧ ((((bI (G_7.bef e_2 f_3)) = 0 → (0 = 0 ∧ (∃ (e_10 : Nat), fnV (R.Q.G n) b1 y = nI e_10 ∧ (∃ (f_11 : Nat), fnV (R.Q.G n) a1 x = nI f_11 ∧ (∃ (F_12 : Nat → Nat × Nat) (i_13 : Nat) (y_14 : Nat → Nat) (G_15 : Gr) (T_16 : Tr), ((Y n 0) = y_14 0 ∧ RG S_1 F_12 i_13 y_14 G_15 T_16 ∧ e_10 < G_15.n ∧ f_11 < G_15.n) ∧ 2 + 1 ≤ 3 ∧ 12 + 6 ≤ 18 ∧ ((((bI (G_15.bef e_10 f_11)) = 0 → (([] : List MV) = [] ∧ mret (some .int) (sp_rrl0 t p a x b y F z Y R kz) [.inr (.inr (some t)), .inl p, .inl a, .inl x, .inl b, .inl y] S (some (.inl (3 : Int32))) S_1 (2 + 1) (12 + 6))) ∧ (¬ (bI (G_15.bef e_10 f_11)) = 0 → (([] : List MV) = [] ∧ mret (some .int) (sp_rrl0 t p a x b y F z Y R kz) [.inr (.inr (some t)), .inl p, .inl a, .inl x, .inl b, .inl y] S (some (.inl (2 : Int32))) S_1 (2 + 1) (12 + 6)))))))))) ∧ (¬ (bI (G_7.bef e_2 f_3)) = 0 → (([] : List MV) = [] ∧ mret (some .int) (sp_rrl0 t p a x b y F z Y R kz) [.inr (.inr (some t)), .inl p, .inl a, .inl x, .inl b, .inl y] S (some (.inl (1 : Int32))) S_1 (2 + 1) (12 + 6)))))))))) ∧ ((fnV (R.Q.G n) a1 x) = (fnV (R.Q.G n) b1 y) → (([] : List MV) = [] ∧ mret (some .int) (sp_rrl0 t p a x b y F z Y R kz) [.inr (.inr (some t)), .inl p, .inl a, .inl x, .inl b, .inl y] S (some (.inl (0 : Int32))) S_1 (2 + 1) (12 + 6))))) ∧ (((0 : Int32) = 0) → mthr (sp_rrl0 t p a x b y F z Y R kz) [.inr (.inr (some t)), .inl p, .inl a, .inl x, .inl b, .inl y] S 2 S (2 + 1) (12 + 6)))))) ∧ (¬ (fnV (R.Q.G n) a1 x) < 0 → (((fnV (R.Q.G n) b1 y) < 0 → (2 = 2 ∧ (((0 : Int32) = 0 ∨ (0 : Int32) = 1) ∧ 2 + 1 ≤ 3 ∧ 12 + 6 ≤ 18 ∧ ((∀ (S_19 : MM), (S_19 = S ∧ (0 : Int32) = 1) → ((¬ (fnV (R.Q.G n) a1 x) = (fnV (R.Q.G n) b1 y) → (0 = 0 ∧ (∃ (e_20 : Nat), fnV (R.Q.G n) a1 x = nI e_20 ∧ (∃ (f_21 : Nat), fnV (R.Q.G n) b1 y = nI f_21 ∧ (∃ (F_22 : Nat → Nat × Nat) (i_23 : Nat) (y_24 : Nat → Nat) (G_25 : Gr) (T_26 : Tr), ((Y n 0) = y_24 0 ∧ RG S_19 F_22 i_23 y_24 G_25 T_26 ∧ e_20 < G_25.n ∧ f_21 < G_25.n) ∧ 2 + 1 ≤ 3 ∧ 12 + 6 ≤ 18 ∧ ((((bI (G_25.bef e_20 f_21)) = 0 → (0 = 0 ∧ (∃ (e_28 : Nat), fnV (R.Q.G n) b1 y = nI e_28 ∧ (∃ (f_29 : Nat), fnV (R.Q.G n) a1 x = nI f_29 ∧ (∃ (F_30 : Nat → Nat × Nat) (i_31 : Nat) (y_32 : Nat → Nat) (G_33 : Gr) (T_34 : Tr), ((Y n 0) = y_32 0 ∧ RG S_19 F_30 i_31 y_32 G_33 T_34 ∧ e_28 < G_33.n ∧ f_29 < G_33.n) ∧ 2 + 1 ≤ 3 ∧ 12 + 6 ≤ 18 ∧ ((((bI (G_33.bef e_28 f_29)) = 0 → (([] : List MV) = [] ∧ mret (some .int) (sp_rrl0 t p a x b y F z Y R kz) [.inr (.inr (some t)), .inl p, .inl a, .inl x, .inl b, .inl y] S (some (.inl (3 : Int32))) S_19 (2 + 1) (12 + 6))) ∧ (¬ (bI (G_33.bef e_28 f_29)) = 0 → (([] : List MV) = [] ∧ mret (some .int) (sp_rrl0 t p a x b y F z Y R kz) [.inr (.inr (some t)), .inl p, .inl a, .inl x, .inl b, .inl y] S (some (.inl (2 : Int32))) S_19 (2 + 1) (12 + 6)))))))))) ∧ (¬ (bI (G_25.bef e_20 f_21)) = 0 → (([] : List MV) = [] ∧ mret (some .int) (sp_rrl0 t p a x b y F z Y R kz) [.inr (.inr (some t)), .inl p, .inl a, .inl x, .inl b, .inl y] S (some (.inl (1 : Int32))) S_19 (2 + 1) (12 + 6)))))))))) ∧ ((fnV (R.Q.G n) a1 x) = (fnV (R.Q.G n) b1 y) → (([] : List MV) = [] ∧ mret (some .int) (sp_rrl0 t p a x b y F z Y R kz) [.inr (.inr (some t)), .inl p, .inl a, .inl x, .inl b, .inl y] S (some (.inl (0 : Int32))) S_19 (2 + 1) (12 + 6))))) ∧ (((0 : Int32) = 0) → mthr (sp_rrl0 t p a x b y F z Y R kz) [.inr (.inr (some t)), .inl p, .inl a, .inl x, .inl b, .inl y] S 2 S (2 + 1) (12 + 6)))))) ∧ (¬ (fnV (R.Q.G n) b1 y) < 0 → (2 = 2 ∧ (((1 : Int32) = 0 ∨ (1 : Int32) = 1) ∧ 2 + 1 ≤ 3 ∧ 12 + 6 ≤ 18 ∧ ((∀ (S_37 : MM), (S_37 = S ∧ (1 : Int32) = 1) → ((¬ (fnV (R.Q.G n) a1 x) = (fnV (R.Q.G n) b1 y) → (0 = 0 ∧ (∃ (e_38 : Nat), fnV (R.Q.G n) a1 x = nI e_38 ∧ (∃ (f_39 : Nat), fnV (R.Q.G n) b1 y = nI f_39 ∧ (∃ (F_40 : Nat → Nat × Nat) (i_41 : Nat) (y_42 : Nat → Nat) (G_43 : Gr) (T_44 : Tr), ((Y n 0) = y_42 0 ∧ RG S_37 F_40 i_41 y_42 G_43 T_44 ∧ e_38 < G_43.n ∧ f_39 < G_43.n) ∧ 2 + 1 ≤ 3 ∧ 12 + 6 ≤ 18 ∧ ((((bI (G_43.bef e_38 f_39)) = 0 → (0 = 0 ∧ (∃ (e_46 : Nat), fnV (R.Q.G n) b1 y = nI e_46 ∧ (∃ (f_47 : Nat), fnV (R.Q.G n) a1 x = nI f_47 ∧ (∃ (F_48 : Nat → Nat × Nat) (i_49 : Nat) (y_50 : Nat → Nat) (G_51 : Gr) (T_52 : Tr), ((Y n 0) = y_50 0 ∧ RG S_37 F_48 i_49 y_50 G_51 T_52 ∧ e_46 < G_51.n ∧ f_47 < G_51.n) ∧ 2 + 1 ≤ 3 ∧ 12 + 6 ≤ 18 ∧ ((((bI (G_51.bef e_46 f_47)) = 0 → (([] : List MV) = [] ∧ mret (some .int) (sp_rrl0 t p a x b y F z Y R kz) [.inr (.inr (some t)), .inl p, .inl a, .inl x, .inl b, .inl y] S (some (.inl (3 : Int32))) S_37 (2 + 1) (12 + 6))) ∧ (¬ (bI (G_51.bef e_46 f_47)) = 0 → (([] : List MV) = [] ∧ mret (some .int) (sp_rrl0 t p a x b y F z Y R kz) [.inr (.inr (some t)), .inl p, .inl a, .inl x, .inl b, .inl y] S (some (.inl (2 : Int32))) S_37 (2 + 1) (12 + 6)))))))))) ∧ (¬ (bI (G_43.bef e_38 f_39)) = 0 → (([] : List MV) = [] ∧ mret (some .int) (sp_rrl0 t p a x b y F z Y R kz) [.inr (.inr (some t)), .inl p, .inl a, .inl x, .inl b, .inl y] S (some (.inl (1 : Int32))) S_37 (2 + 1) (12 + 6)))))))))) ∧ ((fnV (R.Q.G n) a1 x) = (fnV (R.Q.G n) b1 y) → (([] : List MV) = [] ∧ mret (some .int) (sp_rrl0 t p a x b y F z Y R kz) [.inr (.inr (some t)), .inl p, .inl a, .inl x, .inl b, .inl y] S (some (.inl (0 : Int32))) S_37 (2 + 1) (12 + 6))))) ∧ (((1 : Int32) = 0) → mthr (sp_rrl0 t p a x b y F z Y R kz) [.inr (.inr (some t)), .inl p, .inl a, .inl x, .inl b, .inl y] S 2 S (2 + 1) (12 + 6)))))))))
    have g := (hp 2 n hn).2.1
    have hnm := g.nm
    rcases fnV_c (a := a1) (x := x) hnm.1 with ⟨e1, l1⟩ | ⟨e, e1, he, l1⟩
    · rw [e1]
      exact ⟨fun _ => ⟨rfl, Or.inl rfl, by decide, by decide, fun S1 h => absurd h.2 (by decide), fun _ => ⟨Or.inr ⟨rfl, ⟨n, a1, b1, hn, hpn, ha1, hea, hb1, heb, Or.inl l1⟩, rfl⟩, Nat.le_of_ble_eq_true rfl, Nat.le_of_ble_eq_true rfl⟩⟩, fun w => absurd (by decide : (-1 : Int32) < 0) w⟩
    · rw [e1]
      refine ⟨fun w => absurd w (nI_pos (show e < 2147483648 by omega)), fun _ => ?_⟩
      rcases fnV_c (a := b1) (x := y) hnm.1 with ⟨e2, l2⟩ | ⟨f, e2, hf, l2⟩
      · rw [e2]
        exact ⟨fun _ => ⟨rfl, Or.inl rfl, by decide, by decide, fun S1 h => absurd h.2 (by decide), fun _ => ⟨Or.inr ⟨rfl, ⟨n, a1, b1, hn, hpn, ha1, hea, hb1, heb, Or.inr l2⟩, rfl⟩, Nat.le_of_ble_eq_true rfl, Nat.le_of_ble_eq_true rfl⟩⟩, fun w => absurd (by decide : (-1 : Int32) < 0) w⟩
      · rw [e2]
        refine ⟨fun w => absurd w (nI_pos (show f < 2147483648 by omega)), fun _ => ⟨rfl, Or.inr rfl, by decide, by decide, fun S1 h => ?_, fun h => absurd h (by decide)⟩⟩
        obtain ⟨rfl, -⟩ := h
        refine if_ne (by omega) (by omega) (fun w => ⟨rfl, e, rfl, f, rfl, F, 101 + n, Y n, R.Q.G n, R.Q.T n, ⟨rfl, g, he, hf⟩, by decide, by decide, fun q => ⟨rfl, f, rfl, e, rfl, F, 101 + n, Y n, R.Q.G n, R.Q.T n, ⟨rfl, g, hf, he⟩, by decide, by decide, fun q2 => ⟨rfl, trivial, ⟨_, rfl, rfl, n, a1, b1, e, f, hn, hpn, ha1, hea, hb1, heb, l1, l2, ?_⟩, Nat.le_refl _, Nat.le_refl _⟩, fun q2 => ⟨rfl, trivial, ⟨_, rfl, rfl, n, a1, b1, e, f, hn, hpn, ha1, hea, hb1, heb, l1, l2, ?_⟩, Nat.le_refl _, Nat.le_refl _⟩⟩, fun q => ⟨rfl, trivial, ⟨_, rfl, rfl, n, a1, b1, e, f, hn, hpn, ha1, hea, hb1, heb, l1, l2, ?_⟩, Nat.le_refl _, Nat.le_refl _⟩⟩) (fun w => ⟨rfl, trivial, ⟨_, rfl, rfl, n, a1, b1, e, f, hn, hpn, ha1, hea, hb1, heb, l1, l2, ?_⟩, Nat.le_refl _, Nat.le_refl _⟩)
        · rw [bI_0] at q q2
          rw [rlA, if_neg w, if_neg (by rw [q]; decide), if_neg (by rw [q2]; decide)]
        · rw [bI_0] at q
          rw [bI_0, Bool.not_eq_false] at q2
          rw [rlA, if_neg w, if_neg (by rw [q]; decide), if_pos q2]
        · rw [bI_0, Bool.not_eq_false] at q
          rw [rlA, if_neg w, if_pos q]
        · rw [rlA, if_pos w]
theorem u_rrl0 (l : Launch) (hlt : l.stackTraces = false) : UsX l yX14_related0 (Cond.code yX14_related0 cX14_related0 9 (some .int)) (some .int) 8 130 15 T_rrl0 := by
  intro Rc Rs av S cs sl K Kx h
  unfold T_rrl0 at h
  split at h
  · rename_i t_o p a x b y
    obtain ⟨t, rfl, h_1⟩ := pa_of h
    obtain ⟨F, z, Y, R, kz, hp, hc, hs, hk, hx0, hx1⟩ := h_1
    refine ⟨(sp_rrl0 t p a x b y F z Y R kz), c_rrl0 l hlt t p a x b y F z Y R kz, fun _ _ h9 => ⟨_, _, h9.1, (h9.2 0).1⟩, ⟨rfl, hp⟩, hc, hs, fun v9 S' h8 => by
      obtain ⟨v8, h7, h8⟩ := h8
      cases h7
      exact hk _ _ h8, fun _ _ q => by
      rcases q with ⟨rfl, q⟩ | ⟨rfl, q⟩
      · obtain ⟨q, rfl⟩ := q
        exact hx0 q
      · obtain ⟨q, rfl⟩ := q
        exact hx1 q⟩
  · exact h.elim
def T_rhd0 : TR := fun Rc Rs av S cs sl K Kx => match av with
  | [.inr (.inr t_o), .inl p, .inl x] => pa t_o fun t => (∃ (F : Nat → Nat × Nat) (z : Nat → Nat) (Y : Nat → Nat → Nat) (R : Rb) (kz : Nat → Nat), (MD S F t z Y R kz) ∧ cs + 2 ≤ Rc ∧ sl + 12 ≤ Rs ∧ ((∀ (v : Int64) (S' : MM), (mdQ S S' F t R kz ∧ ∃ n H j, n < 4 ∧ p = nI n ∧ HdS (R.Q.G n) H ∧ j < H.length ∧ x = nI j ∧ v = lN ((R.Q.G n).key (H.getD j 0))) → K (some (.inr (.inl v))) S' (cs + 2) (sl + 12)) ∧ ((np 4 p) → Kx 1 S (cs + 2) (sl + 12)) ∧ (∀ (S' : MM), (mdQ S S' F t R kz ∧ ∃ n H, n < 4 ∧ p = nI n ∧ HdS (R.Q.G n) H ∧ np H.length x) → Kx 2 S' (cs + 2) (sl + 12))))
  | _ => False
def sp_rhd0 (t : Nat) (p : Int32) (x : Int32) (F : Nat → Nat × Nat) (z : Nat → Nat) (Y : Nat → Nat → Nat) (R : Rb) (kz : Nat → Nat) : Sp := (fun av S => av = [.inr (.inr (some t)), .inl p, .inl x] ∧ (MD S F t z Y R kz), fun _ S => 2, fun _ S => 12, fun _ S rv S' => ∃ v, rv = (some (.inr (.inl v))) ∧ (mdQ S S' F t R kz ∧ ∃ n H j, n < 4 ∧ p = nI n ∧ HdS (R.Q.G n) H ∧ j < H.length ∧ x = nI j ∧ v = lN ((R.Q.G n).key (H.getD j 0))), fun _ S E S' => (E = 1 ∧ (np 4 p) ∧ S' = S) ∨ (E = 2 ∧ (mdQ S S' F t R kz ∧ ∃ n H, n < 4 ∧ p = nI n ∧ HdS (R.Q.G n) H ∧ np H.length x)))
def tX14_head0 : CD := [(0, .aload_n 0), (1, .iload_n 1), (2, .invokevirtual 203), (5, .astore_n 3), (6, .aload_n 3), (7, .aload_n 0), (8, .getfield 48), (11, .invokevirtual 182), (14, .aload_n 3), (15, .aload_n 0), (16, .getfield 48), (19, .iconst 0), (20, .aload_n 0), (21, .getfield 51), (24, .invokevirtual 278), (27, .istore 4), (29, .iload_n 2), (30, .iconst 0), (31, .iload 4), (33, .iconst 1), (34, .isub), (35, .invokestatic 144), (38, .invokestatic 236), (41, .aload_n 3), (42, .aload_n 0), (43, .getfield 51), (46, .iload_n 2), (47, .iaload), (48, .invokestatic 274), (51, .lreturn)]
set_option maxRecDepth 100000 in
theorem kX14_head0 : chk cX14_head0 tX14_head0 = true := by decide +kernel
theorem vX14_head0_203 : ∀ w ∈ ([.methodLink RX14 203 yX14_graph, .instanceMethod yX14_graph, .selects yX14_graph.cls yX14_graph yX14_graph, .initialized yX14_graph.cls, .code yX14_graph cX14_graph 2 (some (.object "WeaveTextModel$Graph"))] : List Cond), w ∈ lw_good := List.forall_mem_cons.mpr ⟨mgd 1946 (by decide +kernel) (by decide +kernel), List.forall_mem_cons.mpr ⟨mgd 1948 (by decide +kernel) (by decide +kernel), List.forall_mem_cons.mpr ⟨mgd 52 (by decide +kernel) (by decide +kernel), List.forall_mem_cons.mpr ⟨mgd 136 (by decide +kernel) (by decide +kernel), List.forall_mem_cons.mpr ⟨mgd 1949 (by decide +kernel) (by decide +kernel), fun _ h => absurd h List.not_mem_nil⟩⟩⟩⟩⟩
theorem vX14_head0_182 : ∀ w ∈ ([.methodLink RX14 182 yX12_all, .instanceMethod yX12_all, .selects yX12_all.cls yX12_all yX12_all, .initialized yX12_all.cls, .code yX12_all cX12_all 3 none] : List Cond), w ∈ lw_good := List.forall_mem_cons.mpr ⟨mgd 1988 (by decide +kernel) (by decide +kernel), List.forall_mem_cons.mpr ⟨mgd 1989 (by decide +kernel) (by decide +kernel), List.forall_mem_cons.mpr ⟨mgd 1990 (by decide +kernel) (by decide +kernel), List.forall_mem_cons.mpr ⟨mgd 138 (by decide +kernel) (by decide +kernel), List.forall_mem_cons.mpr ⟨mgd 1991 (by decide +kernel) (by decide +kernel), fun _ h => absurd h List.not_mem_nil⟩⟩⟩⟩⟩
theorem vX14_head0_278 : ∀ w ∈ ([.methodLink RX14 278 yX12_tops, .instanceMethod yX12_tops, .selects yX12_tops.cls yX12_tops yX12_tops, .initialized yX12_tops.cls, .code yX12_tops cX12_tops 9 (some .int)] : List Cond), w ∈ lw_good := List.forall_mem_cons.mpr ⟨mgd 2142 (by decide +kernel) (by decide +kernel), List.forall_mem_cons.mpr ⟨mgd 2143 (by decide +kernel) (by decide +kernel), List.forall_mem_cons.mpr ⟨mgd 2144 (by decide +kernel) (by decide +kernel), List.forall_mem_cons.mpr ⟨mgd 138 (by decide +kernel) (by decide +kernel), List.forall_mem_cons.mpr ⟨mgd 2145 (by decide +kernel) (by decide +kernel), fun _ h => absurd h List.not_mem_nil⟩⟩⟩⟩⟩
theorem vX14_head0_144 : ∀ w ∈ ([.methodLink RX14 144 yX14_in, .static yX14_in, .initialized yX14_in.cls, .code yX14_in cX14_in 3 (some .boolean)] : List Cond), w ∈ lw_good := List.forall_mem_cons.mpr ⟨mgd 1930 (by decide +kernel) (by decide +kernel), List.forall_mem_cons.mpr ⟨mgd 1931 (by decide +kernel) (by decide +kernel), List.forall_mem_cons.mpr ⟨mgd 136 (by decide +kernel) (by decide +kernel), List.forall_mem_cons.mpr ⟨mgd 1932 (by decide +kernel) (by decide +kernel), fun _ h => absurd h List.not_mem_nil⟩⟩⟩⟩
theorem vX14_head0_236 : ∀ w ∈ ([.methodLink RX14 236 yX14_there, .static yX14_there, .initialized yX14_there.cls, .code yX14_there cX14_there 1 none] : List Cond), w ∈ lw_good := List.forall_mem_cons.mpr ⟨mgd 2066 (by decide +kernel) (by decide +kernel), List.forall_mem_cons.mpr ⟨mgd 2067 (by decide +kernel) (by decide +kernel), List.forall_mem_cons.mpr ⟨mgd 136 (by decide +kernel) (by decide +kernel), List.forall_mem_cons.mpr ⟨mgd 2068 (by decide +kernel) (by decide +kernel), fun _ h => absurd h List.not_mem_nil⟩⟩⟩⟩
theorem vX14_head0_274 : ∀ w ∈ ([.methodLink RX14 274 yX14_id, .static yX14_id, .initialized yX14_id.cls, .code yX14_id cX14_id 2 (some .long)] : List Cond), w ∈ lw_good := List.forall_mem_cons.mpr ⟨mgd 2123 (by decide +kernel) (by decide +kernel), List.forall_mem_cons.mpr ⟨mgd 2124 (by decide +kernel) (by decide +kernel), List.forall_mem_cons.mpr ⟨mgd 136 (by decide +kernel) (by decide +kernel), List.forall_mem_cons.mpr ⟨mgd 2125 (by decide +kernel) (by decide +kernel), fun _ h => absurd h List.not_mem_nil⟩⟩⟩⟩
set_option maxRecDepth 100000 in
set_option maxHeartbeats 2000000 in
theorem c_rhd0 (l : Launch) (hlt : l.stackTraces = false) : ∀ (t : Nat) (p : Int32) (x : Int32) (F : Nat → Nat × Nat) (z : Nat → Nat) (Y : Nat → Nat → Nat) (R : Rb) (kz : Nat → Nat), CtX l yX14_head0 (Cond.code yX14_head0 cX14_head0 5 (some .long)) (some .long) 8 130 (sp_rhd0 t p x F z Y R kz) := by
  intro t p x F z Y R kz
  refine CtX.of hlt (fX14, nX14, aX14, iX14, lX14, [(203, 0, 2, 3, T_rgr), (182, 0, 2, 0, T_rall), (278, 0, 4, 1, T_rtp), (144, 2, 3, 1, T_rin), (236, 2, 1, 0, T_rth), (274, 2, 2, 2, T_rid)], qX14, gX14, []) false tX14_head0 (fun _ _ _ => none) (by decide) (by decide) kX14_head0 ⟨_, _, rfl⟩ fX14_ok nX14_ok aX14_ok iX14_ok lX14_ok (fun p e R s m args below meth c Q D cy z r A C hR1 hR2 => List.forall_mem_cons.mpr ⟨cOK_use (fun _ _ _ _ _ _ _ _ h => let ⟨sp, h1, h2, h3⟩ := u_rgr l hlt _ _ _ _ _ _ _ _ h; ⟨sp, cOKx_V C h1 vX14_head0_203 ⟨by decide, by decide, by decide +kernel⟩ ⟨by rw [hR1]; decide, by rw [hR2]; decide⟩ (k := 15) (T := TX14) (N := 52) rfl (by decide) h2, h3⟩), List.forall_mem_cons.mpr ⟨cOK_use (fun _ _ _ _ _ _ _ _ h => let ⟨sp, h1, h2, h3⟩ := u_rall l _ _ _ _ _ _ _ _ h; ⟨sp, cOK_V C h1 vX14_head0_182 ⟨by decide, by decide, by decide +kernel⟩ ⟨by rw [hR1]; decide, by rw [hR2]; decide⟩ (k := 13) (T := TX12) (N := 27) rfl (by decide) h2, h3⟩), List.forall_mem_cons.mpr ⟨cOK_use (fun _ _ _ _ _ _ _ _ h => let ⟨sp, h1, h2, h3⟩ := u_rtp l _ _ _ _ _ _ _ _ h; ⟨sp, cOK_V C h1 vX14_head0_278 ⟨by decide, by decide, by decide +kernel⟩ ⟨by rw [hR1]; decide, by rw [hR2]; decide⟩ (k := 13) (T := TX12) (N := 27) rfl (by decide) h2, h3⟩), List.forall_mem_cons.mpr ⟨cOK_use (fun _ _ _ _ _ _ _ _ h => let ⟨sp, h1, _, h3⟩ := u_rin l _ _ _ _ _ _ _ _ h; ⟨sp, cOK_S C h1 vX14_head0_144 ⟨by decide, by decide, by decide +kernel⟩ ⟨by rw [hR1]; decide, by rw [hR2]; decide⟩, h3⟩), List.forall_mem_cons.mpr ⟨cOK_use (fun _ _ _ _ _ _ _ _ h => let ⟨sp, h1, _, h3⟩ := u_rth l hlt _ _ _ _ _ _ _ _ h; ⟨sp, cOKx_S C h1 vX14_head0_236 ⟨by decide, by decide, by decide +kernel⟩ ⟨by rw [hR1]; decide, by rw [hR2]; decide⟩, h3⟩), List.forall_mem_cons.mpr ⟨cOK_use (fun _ _ _ _ _ _ _ _ h => let ⟨sp, h1, _, h3⟩ := u_rid l _ _ _ _ _ _ _ _ h; ⟨sp, cOK_S C h1 vX14_head0_274 ⟨by decide, by decide, by decide +kernel⟩ ⟨by rw [hR1]; decide, by rw [hR2]; decide⟩, h3⟩), fun _ h => absurd h List.not_mem_nil⟩⟩⟩⟩⟩⟩) qX14_ok gX14_ok (fun _ h => absurd h List.not_mem_nil) ?_ ?_
  · rintro _ S ⟨rfl, hp⟩
    refine ⟨Nat.le_of_ble_eq_true rfl, 300, ?_⟩
    show (0 = 0 ∧ (∃ (F_1 : Nat → Nat × Nat) (z_2 : Nat → Nat) (Y_3 : Nat → Nat → Nat) (R_4 : Rb) (kz_5 : Nat → Nat), (MD S F_1 t z_2 Y_3 R_4 kz_5) ∧ 0 + 1 ≤ 2 ∧ 0 + 6 ≤ 12 ∧ ((∀ (x_7 : Option Nat) (S_6 : MM), (S_6 = S ∧ ∃ n, n < 4 ∧ p = nI n ∧ x_7 = some (Y_3 n 0)) → (isO S_6 15 t ∧ (0 = 0 ∧ ((pa x_7 fun a_8 => ((pa (mR S_6 1515 t) fun a_9 => (∃ (F_10 : Nat → Nat × Nat) (i_11 : Nat) (y_12 : Nat → Nat) (G_13 : Gr) (T_14 : Tr), (a_8 = y_12 0 ∧ RG S_6 F_10 i_11 y_12 G_13 T_14 ∧ isO S_6 19 a_9 ∧ mN S_6 a_9 = 16 ∧ (F_10 a_9).1 ≠ i_11) ∧ 0 + 1 ≤ 2 ∧ 0 + 6 ≤ 12 ∧ (∀ (S_15 : MM), (StR S_15 a_9 0 G_13.cn ∧ Keep (fun c => c = a_9) S_6 S_15) → (isO S_15 15 t ∧ (isO S_15 15 t ∧ (0 = 0 ∧ ((pa x_7 fun a_16 => ((pa (mR S_15 1515 t) fun a_17 => ((pa (mR S_15 1516 t) fun a_18 => (∃ (o_19 : Nat), (0 : Int32) = nI o_19 ∧ (∃ (F_20 : Nat → Nat × Nat) (i_21 : Nat) (y_22 : Nat → Nat) (G_23 : Gr) (T_24 : Tr) (W_25 : Nat → Nat) (L_26 : List Nat), (a_16 = y_22 0 ∧ RG S_15 F_20 i_21 y_22 G_23 T_24 ∧ StR S_15 a_17 o_19 W_25 ∧ (∀ s, W_25 s ≤ G_23.cn s) ∧ isO S_15 17 a_18 ∧ mN S_15 a_18 = 16 ∧ (F_20 a_18).1 ≠ i_21 ∧ L_26.Pairwise (fun p q => G_23.key p < G_23.key q) ∧ (∀ k, k ∈ L_26 ↔ G_23.Top W_25 k)) ∧ 0 + 1 ≤ 2 ∧ 0 + 6 ≤ 12 ∧ (∀ (S_27 : MM), (tpQ S_15 S_27 a_18 L_26) → (2 = 2 ∧ (True ∧ 0 + 1 ≤ 2 ∧ 0 + 6 ≤ 12 ∧ ((2 = 2 ∧ (((tf ((0 : Int32) ≤ x ∧ x ≤ ((nI L_26.length) - (1 : Int32)))) = 0 ∨ (tf ((0 : Int32) ≤ x ∧ x ≤ ((nI L_26.length) - (1 : Int32)))) = 1) ∧ 0 + 1 + 1 ≤ 2 ∧ 0 + 6 + 6 ≤ 12 ∧ ((∀ (S_29 : MM), (S_29 = S_27 ∧ (tf ((0 : Int32) ≤ x ∧ x ≤ ((nI L_26.length) - (1 : Int32)))) = 1) → (isO S_29 15 t ∧ (pa (mR S_29 1516 t) fun a_30 => ∃ v_31 : Int32, (isO S_29 17 a_30 ∧ inR S_29 a_30 x ∧ v_31 = eI S_29 a_30 x.toNatClampNeg ∨ a_30 = (mQ S_29).1 ∧ vp_in x 16 ∧ v_31 = mRem x.toNatClampNeg) ∧ (2 = 2 ∧ ((pa x_7 fun a_32 => (∃ (e_33 : Nat), v_31 = nI e_33 ∧ (∃ (F_34 : Nat → Nat × Nat) (i_35 : Nat) (y_36 : Nat → Nat) (G_37 : Gr) (T_38 : Tr), (a_32 = y_36 0 ∧ RG S_29 F_34 i_35 y_36 G_37 T_38 ∧ e_33 < G_37.n) ∧ 0 + 1 + 1 ≤ 2 ∧ 0 + 6 + 6 ≤ 12 ∧ ((([] : List MV) = [] ∧ mret (some .long) (sp_rhd0 t p x F z Y R kz) [.inr (.inr (some t)), .inl p, .inl x] S (some (.inr (.inl (lN (G_37.key e_33))))) S_29 (0 + 1 + 1) (0 + 6 + 6))))))))))) ∧ (((tf ((0 : Int32) ≤ x ∧ x ≤ ((nI L_26.length) - (1 : Int32)))) = 0) → mthr (sp_rhd0 t p x F z Y R kz) [.inr (.inr (some t)), .inl p, .inl x] S 2 S_27 (0 + 1 + 1) (0 + 6 + 6))))))))))))))))))))))))))))) ∧ ((np 4 p) → mthr (sp_rhd0 t p x F z Y R kz) [.inr (.inr (some t)), .inl p, .inl x] S 1 S (0 + 1) (0 + 6)))))
    refine ⟨rfl, F, z, Y, R, kz, hp, by decide, by decide, fun v S3 h => ?_, fun h => ⟨Or.inl ⟨rfl, h, rfl⟩, Nat.le_of_ble_eq_true rfl, Nat.le_of_ble_eq_true rfl⟩⟩
    obtain ⟨rfl, n, hn, rfl, rfl⟩ := h
    have g := (hp 2 n hn).2.1
    have hnm := g.nm
    have r15 := hp 1 15 (by decide)
    have r16 := hp 1 16 (by decide)
    obtain ⟨H, hH, hHt, hHl⟩ := hd_ex g.ok
    refine ⟨(hp 0).1, rfl, pa_i rfl (pa_i r15.1 ⟨F, 101 + n, Y n, R.Q.G n, R.Q.T n, ⟨rfl, g, r15.2.2.1, r15.2.2.2, by rw [r15.2.1]; show 100 ≠ 101 + n; omega⟩, by decide, by decide, fun S15 h => ?_⟩)⟩
    obtain ⟨h1, h2⟩ := h
    have nt : ∀ k, k ∈ [15, 16] → ¬ t = z k := fun k hk e => by
      have h9 := (hp 0).2
      rw [e] at h9
      simp only [List.mem_cons, List.not_mem_nil, or_false] at hk
      rcases hk with rfl | rfl
      · rw [r15.2.1] at h9; exact absurd h9 (by decide)
      · rw [r16.2.1] at h9; exact absurd h9 (by decide)
    have kt := h2.2.1 t (hp 0).1.1 (nt 15 (by decide))
    have hp15 : MD S15 F t z Y R kz := hp.keep0 h2 (fun b hb => by
      rw [hb, r15.2.1]
      refine ⟨rfl, fun k hk q => ?_⟩
      injection q with _ q
      revert hk; rw [show k = 15 by omega]; decide) (fun f _ => kt.1 f) kt.2.1 (fun _ _ => rfl) (fun b hb => (h2.1 b (hp 12 b hb)).1)
    have g15 := (hp15 2 n hn).2.1
    have s15 := hp15 1 15 (by decide)
    have s16 := hp15 1 16 (by decide)
    refine ⟨(hp15 0).1, (hp15 0).1, rfl, pa_i rfl (pa_i s15.1 (pa_i s16.1 ⟨0, rfl, F, 101 + n, Y n, R.Q.G n, R.Q.T n, (R.Q.G n).cn, H, ⟨rfl, g15, h1, fun s => Nat.le_refl _, s16.2.2.1, s16.2.2.2, by rw [s16.2.1]; show 100 ≠ 101 + n; omega, hH.2, hHt⟩, by decide, by decide, fun S16 h => ?_⟩))⟩
    obtain ⟨f, rfl, hf⟩ := h
    have hk16 : Keep (fun c => c = z 16) S15 (rI S15 (z 16) f) := Keep.rI Keep.rf rfl
    have hp16 : MD (rI S15 (z 16) f) F t z Y R kz := hp15.keep0 hk16 (fun b hb => by
      rw [hb, s16.2.1]
      refine ⟨rfl, fun k hk q => ?_⟩
      injection q with _ q
      revert hk; rw [show k = 16 by omega]; decide) (fun f _ => rfl) (fun f => rfl) (fun _ _ => rfl) (hp15 12)
    have hQ : mdQ S3 (rI S15 (z 16) f) F t R kz := ⟨F, z, Y, hp16, fun _ _ => rfl, Keep.tr (h2.mono (fun b _ e => by rw [e, r15.2.1]; exact Nat.le_refl _)) (hk16.mono (fun b _ e => by rw [e, r16.2.1]; exact Nat.le_refl _)), kt.1 1551⟩
    have g16 := (hp16 2 n hn).2.1
    have t16 := hp16 1 16 (by decide)
    refine ⟨rfl, trivial, by decide, by decide, rfl, tf_b _, by decide, by decide, fun S29 h => ?_, fun h => ⟨Or.inr ⟨rfl, hQ, n, H, hn, rfl, hH, in_0m (by omega) h⟩, Nat.le_of_ble_eq_true rfl, Nat.le_of_ble_eq_true rfl⟩⟩
    obtain ⟨rfl, h⟩ := h
    obtain ⟨j, hj, rfl⟩ := in_1m (by omega) h
    have hm : H.getD j 0 ∈ H := by
      rw [List.getD_eq_getElem?_getD, List.getElem?_eq_getElem hj]
      exact List.getElem_mem hj
    have hlt := ((hH.1 _).1 hm).1
    exact ⟨(hp16 0).1, rdI (v := nI (H.getD j 0)) t16.1 t16.2.2.1 (inRn (N := 16) t16.2.2.2 (by omega) (by decide)) (by rw [eI_rI, if_pos rfl, nI_clamp (by omega)]; exact hf j hj) ⟨rfl, pa_i rfl ⟨H.getD j 0, rfl, F, 101 + n, Y n, R.Q.G n, R.Q.T n, ⟨rfl, g16, hlt⟩, by decide, by decide, rfl, trivial, ⟨_, rfl, hQ, n, H, j, hn, rfl, hH, hj, rfl, rfl⟩, Nat.le_refl _, Nat.le_refl _⟩⟩⟩
  · exact fun _ _ _ _ _ h => by cases h
theorem u_rhd0 (l : Launch) (hlt : l.stackTraces = false) : UsX l yX14_head0 (Cond.code yX14_head0 cX14_head0 5 (some .long)) (some .long) 8 130 15 T_rhd0 := by
  intro Rc Rs av S cs sl K Kx h
  unfold T_rhd0 at h
  split at h
  · rename_i t_o p x
    obtain ⟨t, rfl, h_1⟩ := pa_of h
    obtain ⟨F, z, Y, R, kz, hp, hc, hs, hk, hx0, hx1⟩ := h_1
    refine ⟨(sp_rhd0 t p x F z Y R kz), c_rhd0 l hlt t p x F z Y R kz, fun _ _ h9 => ⟨_, _, h9.1, (h9.2 0).1⟩, ⟨rfl, hp⟩, hc, hs, fun v9 S' h8 => by
      obtain ⟨v8, h7, h8⟩ := h8
      cases h7
      exact hk _ _ h8, fun _ _ q => by
      rcases q with ⟨rfl, q⟩ | ⟨rfl, q⟩
      · obtain ⟨q, rfl⟩ := q
        exact hx0 q
      · exact hx1 _ q⟩
  · exact h.elim
def T_rcr1 : TR := fun Rc Rs av S cs sl K _Kx => match av with
  | [.inr (.inr t_o), .inl p] => pa t_o fun t => (∃ (F : Nat → Nat × Nat) (z : Nat → Nat) (Y : Nat → Nat → Nat) (R : Rb) (kz : Nat → Nat), (MD S F t z Y R kz) ∧ cs + 1 ≤ Rc ∧ sl + 6 ≤ Rs ∧ (∀ (v : Int32) (S' : MM), (∃ th, mdW S S' F t R kz th ∧ ((th = 0 ∧ ∃ n, n < 4 ∧ p = nI n ∧ v = nI (crN (R.Q.G n) (R.Q.G n).n)) ∨ (th = 1 ∧ np 4 p ∧ v = 0))) → K (some (.inl v)) S' (cs + 1) (sl + 6)))
  | _ => False
def sp_rcr1 (t : Nat) (p : Int32) (F : Nat → Nat × Nat) (z : Nat → Nat) (Y : Nat → Nat → Nat) (R : Rb) (kz : Nat → Nat) : Sp := (fun av S => av = [.inr (.inr (some t)), .inl p] ∧ (MD S F t z Y R kz), fun _ S => 1, fun _ S => 6, fun _ S rv S' => ∃ v, rv = (some (.inl v)) ∧ (∃ th, mdW S S' F t R kz th ∧ ((th = 0 ∧ ∃ n, n < 4 ∧ p = nI n ∧ v = nI (crN (R.Q.G n) (R.Q.G n).n)) ∨ (th = 1 ∧ np 4 p ∧ v = 0))), fun _ _ _ _ => False)
def tX14_critical : CD := [(0, .aload_n 0), (1, .iconst 0), (2, .putfield 512), (5, .aload_n 0), (6, .iload_n 1), (7, .invokevirtual 558), (10, .ireturn), (11, .astore_n 2), (12, .aload_n 0), (13, .iconst 1), (14, .putfield 512), (17, .iconst 0), (18, .ireturn)]
set_option maxRecDepth 100000 in
theorem kX14_critical : chk cX14_critical tX14_critical = true := by decide +kernel
theorem vX14_critical_558 : ∀ w ∈ ([.methodLink RX14 558 yX14_critical0, .instanceMethod yX14_critical0, .selects yX14_critical0.cls yX14_critical0 yX14_critical0, .initialized yX14_critical0.cls, .code yX14_critical0 cX14_critical0 5 (some .int)] : List Cond), w ∈ lw_good := List.forall_mem_cons.mpr ⟨mgd 2167 (by decide +kernel) (by decide +kernel), List.forall_mem_cons.mpr ⟨mgd 2169 (by decide +kernel) (by decide +kernel), List.forall_mem_cons.mpr ⟨mgd 75 (by decide +kernel) (by decide +kernel), List.forall_mem_cons.mpr ⟨mgd 136 (by decide +kernel) (by decide +kernel), List.forall_mem_cons.mpr ⟨mgd 2170 (by decide +kernel) (by decide +kernel), fun _ h => absurd h List.not_mem_nil⟩⟩⟩⟩⟩
set_option maxRecDepth 100000 in
set_option maxHeartbeats 2000000 in
theorem c_rcr1 (l : Launch) (hlt : l.stackTraces = false) : ∀ (t : Nat) (p : Int32) (F : Nat → Nat × Nat) (z : Nat → Nat) (Y : Nat → Nat → Nat) (R : Rb) (kz : Nat → Nat), CtX l yX14_critical (Cond.codeWith yX14_critical cX14_critical 3 (some .int) [(5, 10, 11, 138)]) (some .int) 9 154 (sp_rcr1 t p F z Y R kz) := by
  intro t p F z Y R kz
  refine CtX.ofH hlt (fX14, nX14, aX14, iX14, lX14, [(558, 0, 2, 1, T_rcr0)], qX14, gX14, []) false tX14_critical [((5, 10, 11, 138), 1)] (fun _ _ _ => none) (by decide) (by decide) kX14_critical ⟨_, _, rfl⟩ fX14_ok nX14_ok aX14_ok iX14_ok lX14_ok (fun p e R s m args below meth c Q D cy z r A C hR1 hR2 => List.forall_mem_cons.mpr ⟨cOK_use (fun _ _ _ _ _ _ _ _ h => let ⟨sp, h1, h2, h3⟩ := u_rcr0 l hlt _ _ _ _ _ _ _ _ h; ⟨sp, cOKx_V C h1 vX14_critical_558 ⟨by decide, by decide, by decide +kernel⟩ ⟨by rw [hR1]; decide, by rw [hR2]; decide⟩ (k := 15) (T := TX14) (N := 52) rfl (by decide) h2, h3⟩), fun _ h => absurd h List.not_mem_nil⟩) qX14_ok gX14_ok rfl (List.forall_mem_cons.mpr ⟨⟨by decide, mgd 1925 (by decide +kernel) (by decide +kernel)⟩, fun _ h => absurd h List.not_mem_nil⟩) (fun _ _ _ _ z => z) ?_ ?_
  · rintro _ S ⟨rfl, hp⟩
    refine ⟨Nat.le_of_ble_eq_true rfl, 300, ?_⟩
    show (True ∧ (isO S 15 t ∧ (0 = 0 ∧ (∃ (F_1 : Nat → Nat × Nat) (z_2 : Nat → Nat) (Y_3 : Nat → Nat → Nat) (R_4 : Rb) (kz_5 : Nat → Nat), (MD (sI S 1551 t (0 : Int32)) F_1 t z_2 Y_3 R_4 kz_5) ∧ 0 + 1 ≤ 1 ∧ 0 + 6 ≤ 6 ∧ ((∀ (x_7 : Int32) (S_6 : MM), (S_6 = (sI S 1551 t (0 : Int32)) ∧ ∃ n, n < 4 ∧ p = nI n ∧ x_7 = nI (crN (R_4.Q.G n) (R_4.Q.G n).n)) → (([] : List MV) = [] ∧ mret (some .int) (sp_rcr1 t p F z Y R kz) [.inr (.inr (some t)), .inl p] S (some (.inl x_7)) S_6 (0 + 1) (0 + 6))) ∧ ((np 4 p) → (∀ e_9, (True ∧ (isO (sI S 1551 t (0 : Int32)) 15 t ∧ (([] : List MV) = [] ∧ mret (some .int) (sp_rcr1 t p F z Y R kz) [.inr (.inr (some t)), .inl p] S (some (.inl (0 : Int32))) (sI (sI S 1551 t (0 : Int32)) 1551 t (1 : Int32)) (0 + 1) (0 + 6)))))))))))
    refine ⟨trivial, (hp 0).1, rfl, F, z, Y, R, kz, hp.th 0, by decide, by decide, fun v S3 h => ?_, fun h e => ⟨trivial, (hp 0).1, rfl, trivial, ⟨_, rfl, 1, (hp.ex0 1 rfl).w hp, Or.inr ⟨rfl, h, rfl⟩⟩, Nat.le_refl _, Nat.le_refl _⟩⟩
    obtain ⟨rfl, h⟩ := h
    exact ⟨rfl, trivial, ⟨_, rfl, 0, hp.ok0.w hp, Or.inl ⟨rfl, h⟩⟩, Nat.le_refl _, Nat.le_refl _⟩
  · exact fun _ _ _ _ _ h => by cases h
theorem u_rcr1 (l : Launch) (hlt : l.stackTraces = false) : UsX l yX14_critical (Cond.codeWith yX14_critical cX14_critical 3 (some .int) [(5, 10, 11, 138)]) (some .int) 9 154 15 T_rcr1 := by
  intro Rc Rs av S cs sl K Kx h
  unfold T_rcr1 at h
  split at h
  · rename_i t_o p
    obtain ⟨t, rfl, h_1⟩ := pa_of h
    obtain ⟨F, z, Y, R, kz, hp, hc, hs, hk⟩ := h_1
    refine ⟨(sp_rcr1 t p F z Y R kz), c_rcr1 l hlt t p F z Y R kz, fun _ _ h9 => ⟨_, _, h9.1, (h9.2 0).1⟩, ⟨rfl, hp⟩, hc, hs, fun v9 S' h8 => by
      obtain ⟨v8, h7, h8⟩ := h8
      cases h7
      exact hk _ _ h8, fun _ _ q => q.elim⟩
  · exact h.elim
def T_rpl1 : TR := fun Rc Rs av S cs sl K _Kx => match av with
  | [.inr (.inr t_o), .inl a] => pa t_o fun t => (∃ (F : Nat → Nat × Nat) (z : Nat → Nat) (Y : Nat → Nat → Nat) (R : Rb) (kz : Nat → Nat), (MD S F t z Y R kz) ∧ cs + 2 ≤ Rc ∧ sl + 12 ≤ Rs ∧ (∀ (v : Int32) (S' : MM), (∃ th, mdW S S' F t R kz th ∧ ((th = 0 ∧ ∃ i n, i < 8 ∧ a = nI i ∧ R.Q.ap i = some n ∧ v = nI (cfG (R.Q.G n) (R.Q.an i) (R.Q.T n).od)) ∨ (th = 1 ∧ np 8 a ∧ v = 0) ∨ (th = 2 ∧ (∃ i, i < 8 ∧ a = nI i ∧ R.Q.ap i = none) ∧ v = 0))) → K (some (.inl v)) S' (cs + 2) (sl + 12)))
  | _ => False
def sp_rpl1 (t : Nat) (a : Int32) (F : Nat → Nat × Nat) (z : Nat → Nat) (Y : Nat → Nat → Nat) (R : Rb) (kz : Nat → Nat) : Sp := (fun av S => av = [.inr (.inr (some t)), .inl a] ∧ (MD S F t z Y R kz), fun _ S => 2, fun _ S => 12, fun _ S rv S' => ∃ v, rv = (some (.inl v)) ∧ (∃ th, mdW S S' F t R kz th ∧ ((th = 0 ∧ ∃ i n, i < 8 ∧ a = nI i ∧ R.Q.ap i = some n ∧ v = nI (cfG (R.Q.G n) (R.Q.an i) (R.Q.T n).od)) ∨ (th = 1 ∧ np 8 a ∧ v = 0) ∨ (th = 2 ∧ (∃ i, i < 8 ∧ a = nI i ∧ R.Q.ap i = none) ∧ v = 0))), fun _ _ _ _ => False)
def tX14_place : CD := [(0, .aload_n 0), (1, .iconst 0), (2, .putfield 512), (5, .aload_n 0), (6, .iload_n 1), (7, .invokevirtual 579), (10, .ireturn), (11, .astore_n 2), (12, .aload_n 0), (13, .iconst 1), (14, .putfield 512), (17, .goto 9), (20, .astore_n 2), (21, .aload_n 0), (22, .iconst 2), (23, .putfield 512), (26, .iconst 0), (27, .ireturn)]
set_option maxRecDepth 100000 in
theorem kX14_place : chk cX14_place tX14_place = true := by decide +kernel
theorem vX14_place_579 : ∀ w ∈ ([.methodLink RX14 579 yX14_place0, .instanceMethod yX14_place0, .selects yX14_place0.cls yX14_place0 yX14_place0, .initialized yX14_place0.cls, .code yX14_place0 cX14_place0 3 (some .int)] : List Cond), w ∈ lw_good := List.forall_mem_cons.mpr ⟨mgd 2230 (by decide +kernel) (by decide +kernel), List.forall_mem_cons.mpr ⟨mgd 2232 (by decide +kernel) (by decide +kernel), List.forall_mem_cons.mpr ⟨mgd 82 (by decide +kernel) (by decide +kernel), List.forall_mem_cons.mpr ⟨mgd 136 (by decide +kernel) (by decide +kernel), List.forall_mem_cons.mpr ⟨mgd 2233 (by decide +kernel) (by decide +kernel), fun _ h => absurd h List.not_mem_nil⟩⟩⟩⟩⟩
set_option maxRecDepth 100000 in
set_option maxHeartbeats 2000000 in
theorem c_rpl1 (l : Launch) (hlt : l.stackTraces = false) : ∀ (t : Nat) (a : Int32) (F : Nat → Nat × Nat) (z : Nat → Nat) (Y : Nat → Nat → Nat) (R : Rb) (kz : Nat → Nat), CtX l yX14_place (Cond.codeWith yX14_place cX14_place 3 (some .int) [(5, 10, 11, 138), (5, 10, 20, 141)]) (some .int) 8 131 (sp_rpl1 t a F z Y R kz) := by
  intro t a F z Y R kz
  refine CtX.ofH hlt (fX14, nX14, aX14, iX14, lX14, [(579, 0, 2, 1, T_rpl0)], qX14, gX14, []) false tX14_place [((5, 10, 11, 138), 1), ((5, 10, 20, 141), 2)] (fun _ _ _ => none) (by decide) (by decide) kX14_place ⟨_, _, rfl⟩ fX14_ok nX14_ok aX14_ok iX14_ok lX14_ok (fun p e R s m args below meth c Q D cy z r A C hR1 hR2 => List.forall_mem_cons.mpr ⟨cOK_use (fun _ _ _ _ _ _ _ _ h => let ⟨sp, h1, h2, h3⟩ := u_rpl0 l hlt _ _ _ _ _ _ _ _ h; ⟨sp, cOKx_V C h1 vX14_place_579 ⟨by decide, by decide, by decide +kernel⟩ ⟨by rw [hR1]; decide, by rw [hR2]; decide⟩ (k := 15) (T := TX14) (N := 52) rfl (by decide) h2, h3⟩), fun _ h => absurd h List.not_mem_nil⟩) qX14_ok gX14_ok rfl (List.forall_mem_cons.mpr ⟨⟨by decide, mgd 1925 (by decide +kernel) (by decide +kernel)⟩, List.forall_mem_cons.mpr ⟨⟨by decide, mgd 2061 (by decide +kernel) (by decide +kernel)⟩, fun _ h => absurd h List.not_mem_nil⟩⟩) (fun _ _ _ _ z => z) ?_ ?_
  · rintro _ S ⟨rfl, hp⟩
    refine ⟨Nat.le_of_ble_eq_true rfl, 300, ?_⟩
    show (True ∧ (isO S 15 t ∧ (0 = 0 ∧ (∃ (F_1 : Nat → Nat × Nat) (z_2 : Nat → Nat) (Y_3 : Nat → Nat → Nat) (R_4 : Rb) (kz_5 : Nat → Nat), (MD (sI S 1551 t (0 : Int32)) F_1 t z_2 Y_3 R_4 kz_5) ∧ 0 + 2 ≤ 2 ∧ 0 + 12 ≤ 12 ∧ ((∀ (x_7 : Int32) (S_6 : MM), (S_6 = (sI S 1551 t (0 : Int32)) ∧ ∃ i n, i < 8 ∧ a = nI i ∧ R_4.Q.ap i = some n ∧ x_7 = nI (cfG (R_4.Q.G n) (R_4.Q.an i) (R_4.Q.T n).od)) → (([] : List MV) = [] ∧ mret (some .int) (sp_rpl1 t a F z Y R kz) [.inr (.inr (some t)), .inl a] S (some (.inl x_7)) S_6 (0 + 2) (0 + 12))) ∧ ((np 8 a) → (∀ e_9, (True ∧ (isO (sI S 1551 t (0 : Int32)) 15 t ∧ (([] : List MV) = [] ∧ mret (some .int) (sp_rpl1 t a F z Y R kz) [.inr (.inr (some t)), .inl a] S (some (.inl (0 : Int32))) (sI (sI S 1551 t (0 : Int32)) 1551 t (1 : Int32)) (0 + 2) (0 + 12)))))) ∧ ((∃ i, i < 8 ∧ a = nI i ∧ R_4.Q.ap i = none) → (∀ e_11, (True ∧ (isO (sI S 1551 t (0 : Int32)) 15 t ∧ (([] : List MV) = [] ∧ mret (some .int) (sp_rpl1 t a F z Y R kz) [.inr (.inr (some t)), .inl a] S (some (.inl (0 : Int32))) (sI (sI S 1551 t (0 : Int32)) 1551 t (2 : Int32)) (0 + 2) (0 + 12)))))))))))
    refine ⟨trivial, (hp 0).1, rfl, F, z, Y, R, kz, hp.th 0, by decide, by decide, fun v S3 h => ?_, fun h e => ⟨trivial, (hp 0).1, rfl, trivial, ⟨_, rfl, 1, (hp.ex0 1 rfl).w hp, Or.inr (Or.inl ⟨rfl, h, rfl⟩)⟩, Nat.le_refl _, Nat.le_refl _⟩, fun h e => ⟨trivial, (hp 0).1, rfl, trivial, ⟨_, rfl, 2, (hp.ex0 2 rfl).w hp, Or.inr (Or.inr ⟨rfl, h, rfl⟩)⟩, Nat.le_refl _, Nat.le_refl _⟩⟩
    obtain ⟨rfl, h⟩ := h
    exact ⟨rfl, trivial, ⟨_, rfl, 0, hp.ok0.w hp, Or.inl ⟨rfl, h⟩⟩, Nat.le_refl _, Nat.le_refl _⟩
  · exact fun _ _ _ _ _ h => by cases h
theorem u_rpl1 (l : Launch) (hlt : l.stackTraces = false) : UsX l yX14_place (Cond.codeWith yX14_place cX14_place 3 (some .int) [(5, 10, 11, 138), (5, 10, 20, 141)]) (some .int) 8 131 15 T_rpl1 := by
  intro Rc Rs av S cs sl K Kx h
  unfold T_rpl1 at h
  split at h
  · rename_i t_o a
    obtain ⟨t, rfl, h_1⟩ := pa_of h
    obtain ⟨F, z, Y, R, kz, hp, hc, hs, hk⟩ := h_1
    refine ⟨(sp_rpl1 t a F z Y R kz), c_rpl1 l hlt t a F z Y R kz, fun _ _ h9 => ⟨_, _, h9.1, (h9.2 0).1⟩, ⟨rfl, hp⟩, hc, hs, fun v9 S' h8 => by
      obtain ⟨v8, h7, h8⟩ := h8
      cases h7
      exact hk _ _ h8, fun _ _ q => q.elim⟩
  · exact h.elim
def T_rrl1 : TR := fun Rc Rs av S cs sl K _Kx => match av with
  | [.inr (.inr t_o), .inl p, .inl a, .inl x, .inl b, .inl y] => pa t_o fun t => (∃ (F : Nat → Nat × Nat) (z : Nat → Nat) (Y : Nat → Nat → Nat) (R : Rb) (kz : Nat → Nat), (MD S F t z Y R kz) ∧ cs + 3 ≤ Rc ∧ sl + 18 ≤ Rs ∧ (∀ (v : Int32) (S' : MM), (∃ th, mdW S S' F t R kz th ∧ ((th = 0 ∧ ∃ n a1 b1 e f, n < 4 ∧ p = nI n ∧ a1 < 256 ∧ a = nI a1 ∧ b1 < 256 ∧ b = nI b1 ∧ lk2 (R.Q.G n) a1 x e ∧ lk2 (R.Q.G n) b1 y f ∧ v = rlA (R.Q.G n) e f) ∨ (th = 1 ∧ (np 4 p ∨ np 256 a ∨ np 256 b) ∧ v = 0) ∨ (th = 2 ∧ (∃ n a1 b1, n < 4 ∧ p = nI n ∧ a1 < 256 ∧ a = nI a1 ∧ b1 < 256 ∧ b = nI b1 ∧ (lk0 (R.Q.G n) a1 x ∨ lk0 (R.Q.G n) b1 y)) ∧ v = 0))) → K (some (.inl v)) S' (cs + 3) (sl + 18)))
  | _ => False
def sp_rrl1 (t : Nat) (p : Int32) (a : Int32) (x : Int32) (b : Int32) (y : Int32) (F : Nat → Nat × Nat) (z : Nat → Nat) (Y : Nat → Nat → Nat) (R : Rb) (kz : Nat → Nat) : Sp := (fun av S => av = [.inr (.inr (some t)), .inl p, .inl a, .inl x, .inl b, .inl y] ∧ (MD S F t z Y R kz), fun _ S => 3, fun _ S => 18, fun _ S rv S' => ∃ v, rv = (some (.inl v)) ∧ (∃ th, mdW S S' F t R kz th ∧ ((th = 0 ∧ ∃ n a1 b1 e f, n < 4 ∧ p = nI n ∧ a1 < 256 ∧ a = nI a1 ∧ b1 < 256 ∧ b = nI b1 ∧ lk2 (R.Q.G n) a1 x e ∧ lk2 (R.Q.G n) b1 y f ∧ v = rlA (R.Q.G n) e f) ∨ (th = 1 ∧ (np 4 p ∨ np 256 a ∨ np 256 b) ∧ v = 0) ∨ (th = 2 ∧ (∃ n a1 b1, n < 4 ∧ p = nI n ∧ a1 < 256 ∧ a = nI a1 ∧ b1 < 256 ∧ b = nI b1 ∧ (lk0 (R.Q.G n) a1 x ∨ lk0 (R.Q.G n) b1 y)) ∧ v = 0))), fun _ _ _ _ => False)
def tX14_related : CD := [(0, .aload_n 0), (1, .iconst 0), (2, .putfield 512), (5, .aload_n 0), (6, .iload_n 1), (7, .iload_n 2), (8, .iload_n 3), (9, .iload 4), (11, .iload 5), (13, .invokevirtual 554), (16, .ireturn), (17, .astore 6), (19, .aload_n 0), (20, .iconst 1), (21, .putfield 512), (24, .goto 10), (27, .astore 6), (29, .aload_n 0), (30, .iconst 2), (31, .putfield 512), (34, .iconst 0), (35, .ireturn)]
set_option maxRecDepth 100000 in
theorem kX14_related : chk cX14_related tX14_related = true := by decide +kernel
theorem vX14_related_554 : ∀ w ∈ ([.methodLink RX14 554 yX14_related0, .instanceMethod yX14_related0, .selects yX14_related0.cls yX14_related0 yX14_related0, .initialized yX14_related0.cls, .code yX14_related0 cX14_related0 9 (some .int)] : List Cond), w ∈ lw_good := List.forall_mem_cons.mpr ⟨mgd 2158 (by decide +kernel) (by decide +kernel), List.forall_mem_cons.mpr ⟨mgd 2160 (by decide +kernel) (by decide +kernel), List.forall_mem_cons.mpr ⟨mgd 74 (by decide +kernel) (by decide +kernel), List.forall_mem_cons.mpr ⟨mgd 136 (by decide +kernel) (by decide +kernel), List.forall_mem_cons.mpr ⟨mgd 2161 (by decide +kernel) (by decide +kernel), fun _ h => absurd h List.not_mem_nil⟩⟩⟩⟩⟩
set_option maxRecDepth 100000 in
set_option maxHeartbeats 2000000 in
theorem c_rrl1 (l : Launch) (hlt : l.stackTraces = false) : ∀ (t : Nat) (p : Int32) (a : Int32) (x : Int32) (b : Int32) (y : Int32) (F : Nat → Nat × Nat) (z : Nat → Nat) (Y : Nat → Nat → Nat) (R : Rb) (kz : Nat → Nat), CtX l yX14_related (Cond.codeWith yX14_related cX14_related 7 (some .int) [(5, 16, 17, 138), (5, 16, 27, 141)]) (some .int) 9 158 (sp_rrl1 t p a x b y F z Y R kz) := by
  intro t p a x b y F z Y R kz
  refine CtX.ofH hlt (fX14, nX14, aX14, iX14, lX14, [(554, 0, 6, 1, T_rrl0)], qX14, gX14, []) false tX14_related [((5, 16, 17, 138), 1), ((5, 16, 27, 141), 2)] (fun _ _ _ => none) (by decide) (by decide) kX14_related ⟨_, _, rfl⟩ fX14_ok nX14_ok aX14_ok iX14_ok lX14_ok (fun p e R s m args below meth c Q D cy z r A C hR1 hR2 => List.forall_mem_cons.mpr ⟨cOK_use (fun _ _ _ _ _ _ _ _ h => let ⟨sp, h1, h2, h3⟩ := u_rrl0 l hlt _ _ _ _ _ _ _ _ h; ⟨sp, cOKx_V C h1 vX14_related_554 ⟨by decide, by decide, by decide +kernel⟩ ⟨by rw [hR1]; decide, by rw [hR2]; decide⟩ (k := 15) (T := TX14) (N := 52) rfl (by decide) h2, h3⟩), fun _ h => absurd h List.not_mem_nil⟩) qX14_ok gX14_ok rfl (List.forall_mem_cons.mpr ⟨⟨by decide, mgd 1925 (by decide +kernel) (by decide +kernel)⟩, List.forall_mem_cons.mpr ⟨⟨by decide, mgd 2061 (by decide +kernel) (by decide +kernel)⟩, fun _ h => absurd h List.not_mem_nil⟩⟩) (fun _ _ _ _ z => z) ?_ ?_
  · rintro _ S ⟨rfl, hp⟩
    refine ⟨Nat.le_of_ble_eq_true rfl, 300, ?_⟩
    show (True ∧ (isO S 15 t ∧ (0 = 0 ∧ (∃ (F_1 : Nat → Nat × Nat) (z_2 : Nat → Nat) (Y_3 : Nat → Nat → Nat) (R_4 : Rb) (kz_5 : Nat → Nat), (MD (sI S 1551 t (0 : Int32)) F_1 t z_2 Y_3 R_4 kz_5) ∧ 0 + 3 ≤ 3 ∧ 0 + 18 ≤ 18 ∧ ((∀ (x_7 : Int32) (S_6 : MM), (S_6 = (sI S 1551 t (0 : Int32)) ∧ ∃ n a1 b1 e f, n < 4 ∧ p = nI n ∧ a1 < 256 ∧ a = nI a1 ∧ b1 < 256 ∧ b = nI b1 ∧ lk2 (R_4.Q.G n) a1 x e ∧ lk2 (R_4.Q.G n) b1 y f ∧ x_7 = rlA (R_4.Q.G n) e f) → (([] : List MV) = [] ∧ mret (some .int) (sp_rrl1 t p a x b y F z Y R kz) [.inr (.inr (some t)), .inl p, .inl a, .inl x, .inl b, .inl y] S (some (.inl x_7)) S_6 (0 + 3) (0 + 18))) ∧ ((np 4 p ∨ np 256 a ∨ np 256 b) → (∀ e_9, (True ∧ (isO (sI S 1551 t (0 : Int32)) 15 t ∧ (([] : List MV) = [] ∧ mret (some .int) (sp_rrl1 t p a x b y F z Y R kz) [.inr (.inr (some t)), .inl p, .inl a, .inl x, .inl b, .inl y] S (some (.inl (0 : Int32))) (sI (sI S 1551 t (0 : Int32)) 1551 t (1 : Int32)) (0 + 3) (0 + 18)))))) ∧ ((∃ n a1 b1, n < 4 ∧ p = nI n ∧ a1 < 256 ∧ a = nI a1 ∧ b1 < 256 ∧ b = nI b1 ∧ (lk0 (R_4.Q.G n) a1 x ∨ lk0 (R_4.Q.G n) b1 y)) → (∀ e_11, (True ∧ (isO (sI S 1551 t (0 : Int32)) 15 t ∧ (([] : List MV) = [] ∧ mret (some .int) (sp_rrl1 t p a x b y F z Y R kz) [.inr (.inr (some t)), .inl p, .inl a, .inl x, .inl b, .inl y] S (some (.inl (0 : Int32))) (sI (sI S 1551 t (0 : Int32)) 1551 t (2 : Int32)) (0 + 3) (0 + 18)))))))))))
    refine ⟨trivial, (hp 0).1, rfl, F, z, Y, R, kz, hp.th 0, by decide, by decide, fun v S3 h => ?_, fun h e => ⟨trivial, (hp 0).1, rfl, trivial, ⟨_, rfl, 1, (hp.ex0 1 rfl).w hp, Or.inr (Or.inl ⟨rfl, h, rfl⟩)⟩, Nat.le_refl _, Nat.le_refl _⟩, fun h e => ⟨trivial, (hp 0).1, rfl, trivial, ⟨_, rfl, 2, (hp.ex0 2 rfl).w hp, Or.inr (Or.inr ⟨rfl, h, rfl⟩)⟩, Nat.le_refl _, Nat.le_refl _⟩⟩
    obtain ⟨rfl, h⟩ := h
    exact ⟨rfl, trivial, ⟨_, rfl, 0, hp.ok0.w hp, Or.inl ⟨rfl, h⟩⟩, Nat.le_refl _, Nat.le_refl _⟩
  · exact fun _ _ _ _ _ h => by cases h
theorem u_rrl1 (l : Launch) (hlt : l.stackTraces = false) : UsX l yX14_related (Cond.codeWith yX14_related cX14_related 7 (some .int) [(5, 16, 17, 138), (5, 16, 27, 141)]) (some .int) 9 158 15 T_rrl1 := by
  intro Rc Rs av S cs sl K Kx h
  unfold T_rrl1 at h
  split at h
  · rename_i t_o p a x b y
    obtain ⟨t, rfl, h_1⟩ := pa_of h
    obtain ⟨F, z, Y, R, kz, hp, hc, hs, hk⟩ := h_1
    refine ⟨(sp_rrl1 t p a x b y F z Y R kz), c_rrl1 l hlt t p a x b y F z Y R kz, fun _ _ h9 => ⟨_, _, h9.1, (h9.2 0).1⟩, ⟨rfl, hp⟩, hc, hs, fun v9 S' h8 => by
      obtain ⟨v8, h7, h8⟩ := h8
      cases h7
      exact hk _ _ h8, fun _ _ q => q.elim⟩
  · exact h.elim
def T_rhd1 : TR := fun Rc Rs av S cs sl K _Kx => match av with
  | [.inr (.inr t_o), .inl p, .inl x] => pa t_o fun t => (∃ (F : Nat → Nat × Nat) (z : Nat → Nat) (Y : Nat → Nat → Nat) (R : Rb) (kz : Nat → Nat), (MD S F t z Y R kz) ∧ cs + 2 ≤ Rc ∧ sl + 12 ≤ Rs ∧ (∀ (v : Int64) (S' : MM), (∃ th, mdW S S' F t R kz th ∧ ((th = 0 ∧ ∃ n H j, n < 4 ∧ p = nI n ∧ HdS (R.Q.G n) H ∧ j < H.length ∧ x = nI j ∧ v = lN ((R.Q.G n).key (H.getD j 0))) ∨ (th = 1 ∧ np 4 p ∧ v = 0) ∨ (th = 2 ∧ (∃ n H, n < 4 ∧ p = nI n ∧ HdS (R.Q.G n) H ∧ np H.length x) ∧ v = 0))) → K (some (.inr (.inl v))) S' (cs + 2) (sl + 12)))
  | _ => False
def sp_rhd1 (t : Nat) (p : Int32) (x : Int32) (F : Nat → Nat × Nat) (z : Nat → Nat) (Y : Nat → Nat → Nat) (R : Rb) (kz : Nat → Nat) : Sp := (fun av S => av = [.inr (.inr (some t)), .inl p, .inl x] ∧ (MD S F t z Y R kz), fun _ S => 2, fun _ S => 12, fun _ S rv S' => ∃ v, rv = (some (.inr (.inl v))) ∧ (∃ th, mdW S S' F t R kz th ∧ ((th = 0 ∧ ∃ n H j, n < 4 ∧ p = nI n ∧ HdS (R.Q.G n) H ∧ j < H.length ∧ x = nI j ∧ v = lN ((R.Q.G n).key (H.getD j 0))) ∨ (th = 1 ∧ np 4 p ∧ v = 0) ∨ (th = 2 ∧ (∃ n H, n < 4 ∧ p = nI n ∧ HdS (R.Q.G n) H ∧ np H.length x) ∧ v = 0))), fun _ _ _ _ => False)
def tX14_head : CD := [(0, .aload_n 0), (1, .iconst 0), (2, .putfield 512), (5, .aload_n 0), (6, .iload_n 1), (7, .iload_n 2), (8, .invokevirtual 551), (11, .lreturn), (12, .astore_n 3), (13, .aload_n 0), (14, .iconst 1), (15, .putfield 512), (18, .goto 9), (21, .astore_n 3), (22, .aload_n 0), (23, .iconst 2), (24, .putfield 512), (27, .lconst 0), (28, .lreturn)]
set_option maxRecDepth 100000 in
theorem kX14_head : chk cX14_head tX14_head = true := by decide +kernel
theorem vX14_head_551 : ∀ w ∈ ([.methodLink RX14 551 yX14_head0, .instanceMethod yX14_head0, .selects yX14_head0.cls yX14_head0 yX14_head0, .initialized yX14_head0.cls, .code yX14_head0 cX14_head0 5 (some .long)] : List Cond), w ∈ lw_good := List.forall_mem_cons.mpr ⟨mgd 2138 (by decide +kernel) (by decide +kernel), List.forall_mem_cons.mpr ⟨mgd 2140 (by decide +kernel) (by decide +kernel), List.forall_mem_cons.mpr ⟨mgd 72 (by decide +kernel) (by decide +kernel), List.forall_mem_cons.mpr ⟨mgd 136 (by decide +kernel) (by decide +kernel), List.forall_mem_cons.mpr ⟨mgd 2141 (by decide +kernel) (by decide +kernel), fun _ h => absurd h List.not_mem_nil⟩⟩⟩⟩⟩
set_option maxRecDepth 100000 in
set_option maxHeartbeats 2000000 in
theorem c_rhd1 (l : Launch) (hlt : l.stackTraces = false) : ∀ (t : Nat) (p : Int32) (x : Int32) (F : Nat → Nat × Nat) (z : Nat → Nat) (Y : Nat → Nat → Nat) (R : Rb) (kz : Nat → Nat), CtX l yX14_head (Cond.codeWith yX14_head cX14_head 4 (some .long) [(5, 11, 12, 138), (5, 11, 21, 141)]) (some .long) 9 154 (sp_rhd1 t p x F z Y R kz) := by
  intro t p x F z Y R kz
  refine CtX.ofH hlt (fX14, nX14, aX14, iX14, lX14, [(551, 0, 3, 2, T_rhd0)], qX14, gX14, []) false tX14_head [((5, 11, 12, 138), 1), ((5, 11, 21, 141), 2)] (fun _ _ _ => none) (by decide) (by decide) kX14_head ⟨_, _, rfl⟩ fX14_ok nX14_ok aX14_ok iX14_ok lX14_ok (fun p e R s m args below meth c Q D cy z r A C hR1 hR2 => List.forall_mem_cons.mpr ⟨cOK_use (fun _ _ _ _ _ _ _ _ h => let ⟨sp, h1, h2, h3⟩ := u_rhd0 l hlt _ _ _ _ _ _ _ _ h; ⟨sp, cOKx_V C h1 vX14_head_551 ⟨by decide, by decide, by decide +kernel⟩ ⟨by rw [hR1]; decide, by rw [hR2]; decide⟩ (k := 15) (T := TX14) (N := 52) rfl (by decide) h2, h3⟩), fun _ h => absurd h List.not_mem_nil⟩) qX14_ok gX14_ok rfl (List.forall_mem_cons.mpr ⟨⟨by decide, mgd 1925 (by decide +kernel) (by decide +kernel)⟩, List.forall_mem_cons.mpr ⟨⟨by decide, mgd 2061 (by decide +kernel) (by decide +kernel)⟩, fun _ h => absurd h List.not_mem_nil⟩⟩) (fun _ _ _ _ z => z) ?_ ?_
  · rintro _ S ⟨rfl, hp⟩
    refine ⟨Nat.le_of_ble_eq_true rfl, 300, ?_⟩
    show (True ∧ (isO S 15 t ∧ (0 = 0 ∧ (∃ (F_1 : Nat → Nat × Nat) (z_2 : Nat → Nat) (Y_3 : Nat → Nat → Nat) (R_4 : Rb) (kz_5 : Nat → Nat), (MD (sI S 1551 t (0 : Int32)) F_1 t z_2 Y_3 R_4 kz_5) ∧ 0 + 2 ≤ 2 ∧ 0 + 12 ≤ 12 ∧ ((∀ (x_7 : Int64) (S_6 : MM), (mdQ (sI S 1551 t (0 : Int32)) S_6 F_1 t R_4 kz_5 ∧ ∃ n H j, n < 4 ∧ p = nI n ∧ HdS (R_4.Q.G n) H ∧ j < H.length ∧ x = nI j ∧ x_7 = lN ((R_4.Q.G n).key (H.getD j 0))) → (([] : List MV) = [] ∧ mret (some .long) (sp_rhd1 t p x F z Y R kz) [.inr (.inr (some t)), .inl p, .inl x] S (some (.inr (.inl x_7))) S_6 (0 + 2) (0 + 12))) ∧ ((np 4 p) → (∀ e_9, (True ∧ (isO (sI S 1551 t (0 : Int32)) 15 t ∧ (([] : List MV) = [] ∧ mret (some .long) (sp_rhd1 t p x F z Y R kz) [.inr (.inr (some t)), .inl p, .inl x] S (some (.inr (.inl (0 : Int64)))) (sI (sI S 1551 t (0 : Int32)) 1551 t (1 : Int32)) (0 + 2) (0 + 12)))))) ∧ (∀ (S_10 : MM), (mdQ (sI S 1551 t (0 : Int32)) S_10 F_1 t R_4 kz_5 ∧ ∃ n H, n < 4 ∧ p = nI n ∧ HdS (R_4.Q.G n) H ∧ np H.length x) → (∀ e_11, (True ∧ (isO S_10 15 t ∧ (([] : List MV) = [] ∧ mret (some .long) (sp_rhd1 t p x F z Y R kz) [.inr (.inr (some t)), .inl p, .inl x] S (some (.inr (.inl (0 : Int64)))) (sI S_10 1551 t (2 : Int32)) (0 + 2) (0 + 12)))))))))))
    refine ⟨trivial, (hp 0).1, rfl, F, z, Y, R, kz, hp.th 0, by decide, by decide, fun v S3 h => ?_, fun h e => ⟨trivial, (hp 0).1, rfl, trivial, ⟨_, rfl, 1, (hp.ex0 1 rfl).w hp, Or.inr (Or.inl ⟨rfl, h, rfl⟩)⟩, Nat.le_refl _, Nat.le_refl _⟩, ?_⟩
    · obtain ⟨h1, h2⟩ := h
      exact ⟨rfl, trivial, ⟨_, rfl, 0, h1.ok hp, Or.inl ⟨rfl, h2⟩⟩, Nat.le_refl _, Nat.le_refl _⟩
    · intro S10 h e
      obtain ⟨h1, h2⟩ := h
      have ho : isO S10 15 t := by
        obtain ⟨F', z', Y', q, -⟩ := h1
        exact (q 0).1
      exact ⟨trivial, ho, rfl, trivial, ⟨_, rfl, 2, h1.ex hp 2 rfl, Or.inr (Or.inr ⟨rfl, h2, rfl⟩)⟩, Nat.le_refl _, Nat.le_refl _⟩
  · exact fun _ _ _ _ _ h => by cases h
theorem u_rhd1 (l : Launch) (hlt : l.stackTraces = false) : UsX l yX14_head (Cond.codeWith yX14_head cX14_head 4 (some .long) [(5, 11, 12, 138), (5, 11, 21, 141)]) (some .long) 9 154 15 T_rhd1 := by
  intro Rc Rs av S cs sl K Kx h
  unfold T_rhd1 at h
  split at h
  · rename_i t_o p x
    obtain ⟨t, rfl, h_1⟩ := pa_of h
    obtain ⟨F, z, Y, R, kz, hp, hc, hs, hk⟩ := h_1
    refine ⟨(sp_rhd1 t p x F z Y R kz), c_rhd1 l hlt t p x F z Y R kz, fun _ _ h9 => ⟨_, _, h9.1, (h9.2 0).1⟩, ⟨rfl, hp⟩, hc, hs, fun v9 S' h8 => by
      obtain ⟨v8, h7, h8⟩ := h8
      cases h7
      exact hk _ _ h8, fun _ _ q => q.elim⟩
  · exact h.elim
