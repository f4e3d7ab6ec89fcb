/-! ===== Events of one id are alike, while nothing is forged ===== -/
theorem agE_at {G : Gr} (hG : G.ok) {a nu k : Nat} : (agE G a)[nu]? = some k ↔ k < G.n ∧ agI G k = a ∧ (G.ev k).nu = nu := by
  by_cases h : hasAg G a
  · obtain ⟨s, s1, rfl⟩ := h
    rw [agE_sl hG s1, evL_at hG]
    constructor
    · rintro ⟨k1, k2, k3⟩
      exact ⟨k1, by unfold agI; rw [k2], k3⟩
    · rintro ⟨k1, k2, k3⟩
      exact ⟨k1, hG.ag2 _ _ (hG.sl1 k k1) s1 k2, k3⟩
  · rw [agE_no hG h]
    constructor
    · intro q; cases q
    · rintro ⟨k1, k2, k3⟩
      exact absurd ⟨_, hG.sl1 k k1, k2⟩ h
/-- an id and whether it deletes, as its own peer has it -/
def Kid (Gs : Nat → Gr) (a nu : Nat) (d : Prop) : Prop := a < 4 ∧ ∃ j, (agE (Gs a) a)[nu]? = some j ∧ (((Gs a).ev j).ch = none ↔ d)
def KiG (Gs : Nat → Gr) : Prop := ∀ p, p < 4 → ∀ k, k < (Gs p).n → Kid Gs (agI (Gs p) k) ((Gs p).ev k).nu (((Gs p).ev k).ch = none)
def KiB (Gs : Nat → Gr) (B : List Nat) : Prop := framed B → bAt B 1 ≠ 2 → ∀ L E, rdM B L E → ∀ x, x ∈ E → Kid Gs x.1.1 (x.1.2.1 + x.2.1) (x.2.2 = none)
section KIN
variable {Gs : Nat → Gr} {n : Nat} {G' : Gr} {T T' : Tr}
theorem Kid.up {a nu : Nat} {d : Prop} (h : Kid Gs a nu d) (h1 : ∀ b, ∃ X, agE G' b = agE (Gs n) b ++ X) (h2 : ∀ k, k < (Gs n).n → G'.ev k = (Gs n).ev k) (hG : (Gs n).ok) : Kid (upF Gs n G') a nu d := by
  obtain ⟨a1, j, a2, a3⟩ := h
  refine ⟨a1, j, ?_⟩
  by_cases e : a = n
  · subst e
    rw [upF_s]
    obtain ⟨X, x1⟩ := h1 a
    have hl := (List.getElem?_eq_some_iff.1 a2).1
    rw [x1, List.getElem?_append_left hl, h2 j (agE_at hG |>.1 a2).1]
    exact ⟨a2, a3⟩
  · rw [upF_o e]; exact ⟨a2, a3⟩
theorem KiB.up {B : List Nat} (h : KiB Gs B) (h1 : ∀ b, ∃ X, agE G' b = agE (Gs n) b ++ X) (h2 : ∀ k, k < (Gs n).n → G'.ev k = (Gs n).ev k) (hG : (Gs n).ok) : KiB (upF Gs n G') B := fun f1 f2 L E hm x hx => (h f1 f2 L E hm x hx).up h1 h2 hG
theorem KiG.up (h : KiG Gs) (hg : GT (Gs n) T) {m : Nat} (hw : Gw m (Gs n) T G' T') (hnew : ∀ k, (Gs n).n ≤ k → k < G'.n → Kid (upF Gs n G') (agI G' k) (G'.ev k).nu ((G'.ev k).ch = none)) : KiG (upF Gs n G') := fun p hp k hk => by
  obtain ⟨k1, k2, k3, k4, k5, k6, k7, k8⟩ := hw.keep hg
  by_cases e : p = n
  · subst e
    rw [upF_s] at hk ⊢
    by_cases c : k < (Gs p).n
    · have := (h p hp k c).up k7 k4 hg.1
      have ea : agI G' k = agI (Gs p) k := by
        obtain ⟨X, x1⟩ := k7 (agI (Gs p) k)
        have q := (agE_at hg.1 (a := agI (Gs p) k) (nu := ((Gs p).ev k).nu) (k := k)).2 ⟨c, rfl, rfl⟩
        have q2 : (agE G' (agI (Gs p) k))[((Gs p).ev k).nu]? = some k := by
          rw [x1, List.getElem?_append_left (List.getElem?_eq_some_iff.1 q).1]; exact q
        exact ((agE_at k1.1).1 q2).2.1
      rw [ea, k4 k c]
      exact this
    · exact hnew k (by omega) hk
  · rw [upF_o e] at hk ⊢
    exact (h p hp k hk).up k7 k4 hg.1
/-- own events -/
theorem KiG.run (h : KiG Gs) (hn : n < 4) {s : Nat} {L : List (Option Nat × Nat)} (hg : GT (Gs n) T) (hs : L ≠ [] → OwSl (Gs n) n s) (hr : Run n s L (Gs n) T G' T') : KiG (upF Gs n G') := by
  have hw := hr.gw hs hg
  have kp := hw.keep hg
  have kn := kp.2.1
  refine h.up hg hw (fun k hk1 hk2 => ?_)
  have ea := hr.agE hs hg
  have hk : k ∈ agE G' n := by
    rw [ea]
    exact List.mem_append_right _ (List.mem_range'_1.2 ⟨hk1, by omega⟩)
  obtain ⟨j, hj⟩ := List.getElem?_of_mem hk
  obtain ⟨j1, j2, j3⟩ := (agE_at kp.1.1).1 hj
  rw [j2, j3]
  refine ⟨hn, k, ?_⟩
  rw [upF_s]
  exact ⟨hj, Iff.rfl⟩
/-- each event that was brought is one of the message's -/
theorem brR.new {L : List Nat} {f : Nat} {G' : Gr} {T' : Tr} : ∀ {E : List Ev3} {G : Gr} {T : Tr} {la : Option Nat}, brR L E G T la G' T' f → GT G T → ∀ k, G.n ≤ k → k < G'.n → ∃ x, x ∈ E ∧ agI G' k = x.1.1 ∧ (G'.ev k).nu = x.1.2.1 + x.2.1 ∧ (G'.ev k).ch = x.2.2
  | [], G, T, la, h, hg, k, k1, k2 => by
    obtain ⟨rfl, -, -⟩ := h
    omega
  | x :: E, G, T, la, h, hg, k, k1, k2 => by
    obtain ⟨G1, T1, la1, f1, hb, h⟩ := h
    have st : (G1 = G ∧ T1 = T) ∨ ((agE G x.1.1).length = x.1.2.1 + x.2.1 ∧ ∃ Q, StpE G T x.1.1 Q x.2.2 (thI x.1 x.2.1).toNat (slt G x.1.1) G1 T1) := by
      rcases hb with ⟨e, -, rfl, rfl, -⟩ | ⟨hk1, ⟨-, -, rfl, rfl⟩ | ⟨Q, hQ, ⟨-, -, rfl, rfl⟩ | ⟨-, -, ⟨-, rfl, rfl⟩ | ⟨-, hs, -⟩⟩⟩⟩
      · exact Or.inl ⟨rfl, rfl⟩
      · exact Or.inl ⟨rfl, rfl⟩
      · exact Or.inl ⟨rfl, rfl⟩
      · exact Or.inl ⟨rfl, rfl⟩
      · refine Or.inr ⟨?_, Q, hs⟩
        have h1 := lkE_iff.1 hk1
        unfold beO at hQ
        by_cases c : (agE G x.1.1).length < x.1.2.1 + x.2.1
        · rw [if_pos c] at hQ; cases hQ
        · omega
    have lift : ∀ (k : Nat), k < G1.n → GT G1 T1 → (∃ m, Gw m G1 T1 G' T') → agI G' k = agI G1 k ∧ G'.ev k = G1.ev k := fun k hk hg1 hw => by
      obtain ⟨m, hw⟩ := hw
      obtain ⟨b1, b2, b3, b4, b5, b6, b7, b8⟩ := hw.keep hg1
      refine ⟨?_, b4 k hk⟩
      obtain ⟨X, x1⟩ := b7 (agI G1 k)
      have q := (agE_at hg1.1 (a := agI G1 k) (nu := (G1.ev k).nu) (k := k)).2 ⟨hk, rfl, rfl⟩
      have q2 : (agE G' (agI G1 k))[(G1.ev k).nu]? = some k := by
        rw [x1, List.getElem?_append_left (List.getElem?_eq_some_iff.1 q).1]; exact q
      exact ((agE_at b1.1).1 q2).2.1
    rcases st with ⟨rfl, rfl⟩ | ⟨hl, Q, hs⟩
    · rcases h with ⟨-, -, rfl, rfl⟩ | ⟨-, h⟩
      · omega
      · obtain ⟨y, y1, y2⟩ := brR.new h hg k k1 k2
        exact ⟨y, List.mem_cons_of_mem _ y1, y2⟩
    · have hn1 := hs.cnt1
      have hg1 := hs.gt
      have hw : ∃ m, Gw m G1 T1 G' T' := by
        rcases h with ⟨-, -, rfl, rfl⟩ | ⟨-, h⟩
        · exact ⟨0, rfl, rfl⟩
        · exact brR.gw h hg1
      by_cases e : k = G.n
      · subst e
        obtain ⟨l1, l2⟩ := lift G.n (by omega) hg1 hw
        rw [l1, l2]
        have q := lkE_stp hg.1 hs
        obtain ⟨q1, q2, q3⟩ := (agE_at hg1.1).1 q
        refine ⟨x, List.mem_cons_self, q2, q3.trans hl, ?_⟩
        obtain ⟨e, e1, e2, e3, e4, e5, e6, e7, rfl, e8, -⟩ := hs
        have := Gr.push_new (G := eGr G (slt G x.1.1) x.1.1) (e := e) (m := (eGr G (slt G x.1.1) x.1.1).m) (ag := (eGr G (slt G x.1.1) x.1.1).ag)
        rw [(eGr_n G (slt G x.1.1) x.1.1).1] at this
        rw [this, e5]
      · rcases h with ⟨-, -, rfl, rfl⟩ | ⟨-, h⟩
        · omega
        · obtain ⟨y, y1, y2⟩ := brR.new h hg1 k (by omega) k2
          exact ⟨y, List.mem_cons_of_mem _ y1, y2⟩
theorem KiG.br (h : KiG Gs) {L : List Nat} {E : List Ev3} {f : Nat} (hg : GT (Gs n) T) (hb : brR L E (Gs n) T none G' T' f) (hE : ∀ x, x ∈ E → Kid Gs x.1.1 (x.1.2.1 + x.2.1) (x.2.2 = none)) : KiG (upF Gs n G') := by
  obtain ⟨m, hw⟩ := hb.gw hg
  have k := hw.keep hg
  refine h.up hg hw (fun i hi1 hi2 => ?_)
  obtain ⟨x, x1, x2, x3, x4⟩ := hb.new hg i hi1 hi2
  rw [x2, x3, x4]
  exact (hE x x1).up k.2.2.2.2.2.2.1 k.2.2.2.1 hg.1
/-- a message that is written -/
theorem KiB.sent (h : KiG Gs) (hn : n < 4) (hg : GT (Gs n) T) {Kn : Nat → Nat → Nat} {o : Option Nat} (hl : paT (Gs n) Kn o ≤ 32768) (hB : ∀ b ∈ rmA (paF (Gs n) Kn o) n, b < 256) : KiB Gs (rmA (paF (Gs n) Kn o) n) := fun _ _ L E hm x hx => by
  obtain ⟨j, j1, j2, j3, j4⟩ := rt_ev hg hl hB hm x hx
  have := h n hn j j1
  rw [j2, j3] at this
  obtain ⟨a1, i, a2, a3⟩ := this
  exact ⟨a1, i, a2, a3.trans j4⟩
/-- nodes of one id: twins insert, both -/
theorem KiG.tw (h : KiG Gs) {p q : Nat} (hp : p < 4) (hq : q < 4) (hg : GT (Gs p) T) (hG : (Gs q).ok) : twK (Gs p) T (Gs q) := fun x hx j hj => by
  obtain ⟨k, rfl, k1, k2⟩ := (hg.2.2.2.1 x).1 hx
  rw [Nat.add_sub_cancel] at hj
  unfold twin at hj
  obtain ⟨j1, j2, j3⟩ := (agE_at hG).1 hj
  obtain ⟨a1, i1, b1, c1⟩ := h p hp k k1
  obtain ⟨a2, i2, b2, c2⟩ := h q hq j j1
  have e2 : agI (Gs q) j = agI (Gs p) k := j2
  rw [e2, j3] at b2
  rw [e2] at c2
  rw [b1] at b2
  injection b2 with b2
  subst b2
  exact fun w => k2 (c1.1 (c2.2 w))
end KIN
