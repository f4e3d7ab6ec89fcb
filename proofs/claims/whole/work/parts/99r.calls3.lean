/-! ===== MORE CALLS ===== -/
section SFQ
variable {S S' : MM} {F F' : Nat → Nat × Nat} {t : Nat} {z : Nat → Nat} {P : Nat → Prop}
theorem SfA.kq (h : SfA S F t z) (hk : Keep P S S') (q1 : ¬ P t) (q2 : ¬ P (z 2)) (q3 : ¬ P (z 3)) (hf : ∀ b, b ∈ mL S → F' b = F b) : SfA S' F' t z := by
  obtain ⟨h1, h2, h3, ⟨a1, a2, a3, a4⟩, ⟨b1, b2, b3, b4⟩⟩ := h
  have ra := row_keep a1 a2 a3 hk hf
  have rb := row_keep b1 b2 b3 hk hf
  exact ⟨hk.isO h1, (hf t h1.1).trans h2, fun k k1 k2 k3 k4 => ((hk.2.1 t h1.1 q1).2.1 _).trans (h3 k k1 k2 k3 k4), ⟨ra.1, ra.2.1, ra.2.2, fun k hk9 => by rw [(hk.2.1 _ a1.1 q2).2.2.2.2.2]; exact a4 k hk9⟩, ⟨rb.1, rb.2.1, rb.2.2, fun k hk9 => by rw [(hk.2.1 _ b1.1 q3).2.2.2.2.2]; exact b4 k hk9⟩⟩
theorem SfB.kq {ft fo : Nat} {mp : Nat → Option Nat} {ms : Nat → Nat} (h : SfB S F t z ft fo mp ms) (ht : isO S 12 t) (hk : Keep P S S') (q1 : ¬ P t) (q2 : ¬ P (z 8)) (q3 : ¬ P (z 9)) (hf : ∀ b, b ∈ mL S → F' b = F b) : SfB S' F' t z ft fo mp ms := by
  obtain ⟨h1, h2, h3, h4, ⟨a1, a2, a3, a4⟩, ⟨b1, b2, b3, b4⟩, h5⟩ := h
  have ra := row_keep a1 a2 a3 hk hf
  have rb := row_keep b1 b2 b3 hk hf
  have kt := (hk.2.1 t ht.1 q1).1
  exact ⟨(kt _).trans h1, h2, (kt _).trans h3, h4, ⟨ra.1, ra.2.1, ra.2.2, fun k hk9 => by rw [(hk.2.1 _ a1.1 q2).2.2.2.1]; exact a4 k hk9⟩, ⟨rb.1, rb.2.1, rb.2.2, fun k hk9 hn => by rw [(hk.2.1 _ b1.1 q3).2.2.2.1]; exact b4 k hk9 hn⟩, h5⟩
theorem SfV.kq {vw : List Int32} {n : Nat} (h : SfV S F t z vw n) (ht : isO S 12 t) (hk : Keep P S S') (q1 : ¬ P t) (q2 : ¬ P (z 10)) (hf : ∀ b, b ∈ mL S → F' b = F b) : SfV S' F' t z vw n := by
  obtain ⟨h1, a1, a2, a3, h2, h3, h4, a4⟩ := h
  have ra := row_keep a1 a2 a3 hk hf
  exact ⟨((hk.2.1 t ht.1 q1).1 _).trans h1, ra.1, ra.2.1, ra.2.2, h2, h3, h4, fun k hk9 => by rw [(hk.2.1 _ a1.1 q2).2.2.2.1]; exact a4 k hk9⟩
theorem SfN.kq {X : Nat → GX} {G : Nat → Gr} {ap an : Nat → Option Nat} (h : SfN S F z X G ap an) (hk : Keep P S S') (q1 : ¬ P (z 13)) (q2 : ¬ P (z 14)) (hf : ∀ b, b ∈ mL S → F' b = F b) : SfN S' F' z X G ap an := by
  obtain ⟨⟨a1, a2, a3, a4⟩, ⟨b1, b2, b3, b4⟩, h5⟩ := h
  have ra := row_keep a1 a2 a3 hk hf
  have rb := row_keep b1 b2 b3 hk hf
  exact ⟨⟨ra.1, ra.2.1, ra.2.2, fun k hk9 => by rw [(hk.2.1 _ a1.1 q1).2.2.2.1]; exact a4 k hk9⟩, ⟨rb.1, rb.2.1, rb.2.2, fun k hk9 p hp => by rw [(hk.2.1 _ b1.1 q2).2.2.2.2.2]; exact b4 k hk9 p hp⟩, h5⟩
/-- the object's own things are apart -/
theorem Sf.ne {X : Nat → GX} {K : Nat → Nat} {Q : Ab} (h : Sf S F t z X K Q) : F t = (20, 1) ∧ F (z 2) = (20, 2) ∧ F (z 3) = (20, 3) ∧ F (z 8) = (20, 4) ∧ F (z 9) = (20, 5) ∧ F (z 10) = (20, 6) ∧ F (z 13) = (20, 7) ∧ F (z 14) = (20, 8) := ⟨h.1.2.1, h.1.2.2.2.1.2.2.1, h.1.2.2.2.2.2.2.1, h.2.1.2.2.2.2.1.2.2.1, h.2.1.2.2.2.2.2.1.2.2.1, h.2.2.1.2.2.2.1, h.2.2.2.1.2.2.1, h.2.2.2.2.1.2.2.1⟩
theorem F_ne {a b r s : Nat} (h1 : F a = (20, r)) (h2 : F b = (20, s)) (h : r ≠ s) : a ≠ b := fun e => by
  subst e
  rw [h1] at h2
  injection h2 with q1 q2
  exact h q2
theorem eI_upd {a : Nat} {f : Nat → Int32} {b : Nat} : eI (rI S a f) b = if b = a then f else eI S b := by
  show va_up (eI S) a f b = _
  by_cases e : b = a
  · rw [if_pos e, e, va_up_self]
  · rw [if_neg e, va_up_ne _ _ e]
/-- a mark is set -/
theorem Sf.mark {X : Nat → GX} {K : Nat → Nat} {Q : Ab} (h : Sf S F t z X K Q) {i n m : Nat} (hi : i < 8) (hn : n < 4) : Sf (rI (rI S (z 9) (upd (eI S (z 9)) i (nI m))) (z 8) (upd (eI (rI S (z 9) (upd (eI S (z 9)) i (nI m))) (z 8)) i (nI n))) F t z X K (Q.sMk (upF Q.mp i (some n)) (upF Q.ms i m)) := by
  obtain ⟨f1, f2, f3, f8, f9, f10, f13, f14⟩ := h.ne
  obtain ⟨h1, ⟨b1, b2, b3, b4, ⟨c1, c2, c3, c4⟩, ⟨d1, d2, d3, d4⟩, b5⟩, h3, h4⟩ := h
  have hk : Keep (fun b => b = z 9 ∨ b = z 8) S (rI (rI S (z 9) (upd (eI S (z 9)) i (nI m))) (z 8) (upd (eI (rI S (z 9) (upd (eI S (z 9)) i (nI m))) (z 8)) i (nI n))) := Keep.rI (P := fun b => b = z 9 ∨ b = z 8) (Keep.rI (P := fun b => b = z 9 ∨ b = z 8) Keep.rf (Or.inl rfl)) (Or.inr rfl)
  have n89 : z 8 ≠ z 9 := F_ne f8 f9 (by decide)
  have q : ∀ {b r}, F b = (20, r) → r ≠ 5 → r ≠ 4 → ¬ (b = z 9 ∨ b = z 8) := fun e r5 r4 w => w.elim (F_ne e f9 r5) (F_ne e f8 r4)
  have e8 : ∀ b, eI (rI (rI S (z 9) (upd (eI S (z 9)) i (nI m))) (z 8) (upd (eI (rI S (z 9) (upd (eI S (z 9)) i (nI m))) (z 8)) i (nI n))) (z 8) b = if b = i then nI n else eI S (z 8) b := fun b => by
    rw [eI_upd, if_pos rfl, eI_upd, if_neg n89]; rfl
  have e9 : ∀ b, eI (rI (rI S (z 9) (upd (eI S (z 9)) i (nI m))) (z 8) (upd (eI (rI S (z 9) (upd (eI S (z 9)) i (nI m))) (z 8)) i (nI n))) (z 9) b = if b = i then nI m else eI S (z 9) b := fun b => by
    rw [eI_upd, if_neg (Ne.symm n89), eI_upd, if_pos rfl]; rfl
  generalize rI (rI S (z 9) (upd (eI S (z 9)) i (nI m))) (z 8) (upd (eI (rI S (z 9) (upd (eI S (z 9)) i (nI m))) (z 8)) i (nI n)) = S9 at hk e8 e9 ⊢
  have kt := (hk.2.1 t h1.1.1 (q f1 (by decide) (by decide))).1
  have r8 := row_keep (F' := F) c1 c2 c3 hk (fun _ _ => rfl)
  have r9 := row_keep (F' := F) d1 d2 d3 hk (fun _ _ => rfl)
  refine ⟨h1.kq hk (q f1 (by decide) (by decide)) (q f2 (by decide) (by decide)) (q f3 (by decide) (by decide)) (fun _ _ => rfl), ⟨(kt _).trans b1, b2, (kt _).trans b3, b4, ⟨r8.1, r8.2.1, r8.2.2, fun b hb => ?_⟩, ⟨r9.1, r9.2.1, r9.2.2, fun b hb hm => ?_⟩, fun b hb p hp => ?_⟩, h3.kq h1.1 hk (q f1 (by decide) (by decide)) (q f10 (by decide) (by decide)) (fun _ _ => rfl), h4.kq hk (q f13 (by decide) (by decide)) (q f14 (by decide) (by decide)) (fun _ _ => rfl)⟩
  · rw [e8]
    show _ = stI (upF Q.mp i (some n) b)
    by_cases e : b = i
    · rw [if_pos e, e, upF_s]; rfl
    · rw [if_neg e, upF_o e]; exact c4 b hb
  · rw [e9]
    show _ = nI (upF Q.ms i m b)
    by_cases e : b = i
    · rw [if_pos e, e, upF_s]
    · rw [if_neg e, upF_o e]; exact d4 b hb (fun w => hm (by show upF Q.mp i (some n) b = none; rw [upF_o e]; exact w))
  · have hp : upF Q.mp i (some n) b = some p := hp
    by_cases e : b = i
    · rw [e, upF_s] at hp; cases hp; exact hn
    · rw [upF_o e] at hp; exact b5 b hb p hp
/-- an anchor is set -/
theorem Sf.anchor {X : Nat → GX} {K : Nat → Nat} {Q : Ab} (h : Sf S F t z X K Q) {P : Nat → Prop} {i n : Nat} {o : Option Nat} (hi : i < 8) (hn : n < 4) (ho : ∀ k, o = some k → k < (Q.G n).n) (hk : Keep P S S') (q1 : ¬ P t) (q2 : ¬ P (z 2)) (q3 : ¬ P (z 3)) (q8 : ¬ P (z 8)) (q9 : ¬ P (z 9)) (q10 : ¬ P (z 10)) (e13 : ∀ b, eI S' (z 13) b = if b = i then nI n else eI S (z 13) b) (e14 : ∀ b, eR S' (z 14) b = if b = i then o.map (X n).ad else eR S (z 14) b) : Sf S' F t z X K (Q.sAn (upF Q.ap i (some n)) (upF Q.an i o)) := by
  obtain ⟨h1, h2, h3, ⟨a1, a2, a3, a4⟩, ⟨b1, b2, b3, b4⟩, h5⟩ := h
  have r13 := row_keep (F' := F) a1 a2 a3 hk (fun _ _ => rfl)
  have r14 := row_keep (F' := F) b1 b2 b3 hk (fun _ _ => rfl)
  refine ⟨h1.kq hk q1 q2 q3 (fun _ _ => rfl), h2.kq h1.1 hk q1 q8 q9 (fun _ _ => rfl), h3.kq h1.1 hk q1 q10 (fun _ _ => rfl), ⟨r13.1, r13.2.1, r13.2.2, fun b hb => ?_⟩, ⟨r14.1, r14.2.1, r14.2.2, fun b hb p hp => ?_⟩, fun b hb p hp => ?_⟩
  · rw [e13]
    show _ = stI (upF Q.ap i (some n) b)
    by_cases e : b = i
    · rw [if_pos e, e, upF_s]; rfl
    · rw [if_neg e, upF_o e]; exact a4 b hb
  · rw [e14]
    have hp : upF Q.ap i (some n) b = some p := hp
    show _ = (upF Q.an i o b).map (X p).ad
    by_cases e : b = i
    · rw [e, upF_s] at hp; cases hp
      rw [if_pos e, e, upF_s]
    · rw [upF_o e] at hp
      rw [if_neg e, upF_o e]; exact b4 b hb p hp
  · have hp : upF Q.ap i (some n) b = some p := hp
    by_cases e : b = i
    · rw [e, upF_s] at hp; cases hp
      exact ⟨hn, fun k hk9 => by
        have hk9 : upF Q.an i o b = some k := hk9
        rw [e, upF_s] at hk9; exact ho k hk9⟩
    · rw [upF_o e] at hp
      exact ⟨(h5 b hb p hp).1, fun k hk9 => by
        have hk9 : upF Q.an i o b = some k := hk9
        rw [upF_o e] at hk9; exact (h5 b hb p hp).2 k hk9⟩
end SFQ
def rlA (G : Gr) (e f : Nat) : Int32 := if e = f then 0 else if G.bef e f = true then 1 else if G.bef f e = true then 2 else 3
def lk2 (G : Gr) (a : Nat) (x : Int32) (k : Nat) : Prop := ∃ j, x = nI j ∧ (agE G a)[j]? = some k
def lk0 (G : Gr) (a : Nat) (x : Int32) : Prop := np (agE G a).length x
def I_rl (t : Nat) (p a x b y : Int32) (F : Nat → Nat × Nat) (X : Nat → GX) (kz : Nat → Nat) (Q : Ab) (S : MM) (k : Nat) : KT := fun lo st S1 cs sl => ∃ c n z g, k = 0 ∧ WTz S F t z X kz Q ∧ n < 4 ∧ p = nI n ∧ mR S 1101 (z (30 + n)) = some g ∧ ((c = 1 ∧ (∃ a1, a1 < 256 ∧ a = nI a1) ∧ ∃ b1, b1 < 256 ∧ b = nI b1) ∨ (c = 0 ∧ (np 256 a ∨ np 256 b))) ∧ lo = [(0, .inr (.inr (some t))), (6, .inr (.inr (some g))), (1, .inl p), (2, .inl a), (3, .inl x), (4, .inl b), (5, .inl y)] ∧ st = [.inl c] ∧ S = S1 ∧ cs = 1 ∧ sl = 6
def T_wrl : TR := fun Rc Rs av S cs sl K Kx => match av with
  | [.inr (.inr t_o), .inl p, .inl a, .inl x, .inl b, .inl y] => pa t_o fun t => (∃ (F : Nat → Nat × Nat) (X : Nat → GX) (kz : Nat → Nat) (Q : Ab), (WT S F t X kz Q) ∧ cs + 3 ≤ Rc ∧ sl + 18 ≤ Rs ∧ ((∀ (v : Int32) (S' : MM), (S' = S ∧ ∃ n a1 b1 e f, n < 4 ∧ p = nI n ∧ a1 < 256 ∧ a = nI a1 ∧ b1 < 256 ∧ b = nI b1 ∧ lk2 (Q.G n) a1 x e ∧ lk2 (Q.G n) b1 y f ∧ v = rlA (Q.G n) e f) → K (some (.inl v)) S' (cs + 3) (sl + 18)) ∧ ((np 4 p ∨ np 256 a ∨ np 256 b) → Kx 1 S (cs + 3) (sl + 18)) ∧ ((∃ n a1 b1, n < 4 ∧ p = nI n ∧ a1 < 256 ∧ a = nI a1 ∧ b1 < 256 ∧ b = nI b1 ∧ (lk0 (Q.G n) a1 x ∨ lk0 (Q.G n) b1 y)) → Kx 2 S (cs + 3) (sl + 18))))
  | _ => False
def sp_wrl (t : Nat) (p : Int32) (a : Int32) (x : Int32) (b : Int32) (y : Int32) (F : Nat → Nat × Nat) (X : Nat → GX) (kz : Nat → Nat) (Q : Ab) : Sp := (fun av S => av = [.inr (.inr (some t)), .inl p, .inl a, .inl x, .inl b, .inl y] ∧ (WT S F t X kz Q), fun _ S => 3, fun _ S => 18, fun _ S rv S' => ∃ v, rv = (some (.inl v)) ∧ (S' = S ∧ ∃ n a1 b1 e f, n < 4 ∧ p = nI n ∧ a1 < 256 ∧ a = nI a1 ∧ b1 < 256 ∧ b = nI b1 ∧ lk2 (Q.G n) a1 x e ∧ lk2 (Q.G n) b1 y f ∧ v = rlA (Q.G n) e f), fun _ S E S' => (E = 1 ∧ (np 4 p ∨ np 256 a ∨ np 256 b) ∧ S' = S) ∨ (E = 2 ∧ (∃ n a1 b1, n < 4 ∧ p = nI n ∧ a1 < 256 ∧ a = nI a1 ∧ b1 < 256 ∧ b = nI b1 ∧ (lk0 (Q.G n) a1 x ∨ lk0 (Q.G n) b1 y)) ∧ S' = S))
def tX11_related : CD := [(0, .aload_n 0), (1, .iload_n 1), (2, .invokevirtual 108), (5, .getfield 112), (8, .astore 6), (10, .iload_n 2), (11, .ifCond .lt 27), (14, .iload_n 2), (15, .sipush 256), (18, .if_icmp .ge 20), (21, .iload 4), (23, .ifCond .lt 15), (26, .iload 4), (28, .sipush 256), (31, .if_icmp .ge 7), (34, .iconst 1), (35, .goto 4), (38, .iconst 0), (39, .invokestatic 104), (42, .aload 6), (44, .iload_n 2), (45, .iload_n 3), (46, .invokevirtual 198), (49, .astore 7), (51, .aload 6), (53, .iload 4), (55, .iload 5), (57, .invokevirtual 198), (60, .astore 8), (62, .aload 7), (64, .ifnull 8), (67, .aload 8), (69, .ifnonnull 11), (72, .new 147), (75, .dup), (76, .invokespecial 149), (79, .athrow), (80, .aload 7), (82, .aload 8), (84, .if_acmp .ne 5), (87, .iconst 0), (88, .ireturn), (89, .aload 8), (91, .aload 7), (93, .invokevirtual 201), (96, .ifCond .eq 7), (99, .iconst 1), (100, .goto 18), (103, .aload 7), (105, .aload 8), (107, .invokevirtual 201), (110, .ifCond .eq 7), (113, .iconst 2), (114, .goto 4), (117, .iconst 3), (118, .ireturn)]
set_option maxRecDepth 100000 in
theorem kX11_related : chk cX11_related tX11_related = true := by decide +kernel
theorem vX11_related_108 : ∀ w ∈ ([.methodLink RX11 108 yX11_peerOf, .instanceMethod yX11_peerOf, .selects yX11_peerOf.cls yX11_peerOf yX11_peerOf, .initialized yX11_peerOf.cls, .code yX11_peerOf cX11_peerOf 2 (some (.object "WeaveText$Peer"))] : List Cond), w ∈ lw_good := List.forall_mem_cons.mpr ⟨mgd 827 (by decide +kernel) (by decide +kernel), List.forall_mem_cons.mpr ⟨mgd 829 (by decide +kernel) (by decide +kernel), List.forall_mem_cons.mpr ⟨mgd 1 (by decide +kernel) (by decide +kernel), List.forall_mem_cons.mpr ⟨mgd 121 (by decide +kernel) (by decide +kernel), List.forall_mem_cons.mpr ⟨mgd 830 (by decide +kernel) (by decide +kernel), fun _ h => absurd h List.not_mem_nil⟩⟩⟩⟩⟩
theorem vX11_related_104 : ∀ w ∈ ([.methodLink RX11 104 yX11_require, .static yX11_require, .initialized yX11_require.cls, .code yX11_require cX11_require 1 none] : List Cond), w ∈ lw_good := List.forall_mem_cons.mpr ⟨mgd 801 (by decide +kernel) (by decide +kernel), List.forall_mem_cons.mpr ⟨mgd 802 (by decide +kernel) (by decide +kernel), List.forall_mem_cons.mpr ⟨mgd 121 (by decide +kernel) (by decide +kernel), List.forall_mem_cons.mpr ⟨mgd 803 (by decide +kernel) (by decide +kernel), fun _ h => absurd h List.not_mem_nil⟩⟩⟩⟩
theorem vX11_related_198 : ∀ w ∈ ([.methodLink RX11 198 yX5_lookup, .instanceMethod yX5_lookup, .selects yX5_lookup.cls yX5_lookup yX5_lookup, .initialized yX5_lookup.cls, .code yX5_lookup cX5_lookup 3 (some (.object "WeaveText$Event"))] : List Cond), w ∈ lw_good := List.forall_mem_cons.mpr ⟨mgd 1222 (by decide +kernel) (by decide +kernel), List.forall_mem_cons.mpr ⟨mgd 665 (by decide +kernel) (by decide +kernel), List.forall_mem_cons.mpr ⟨mgd 666 (by decide +kernel) (by decide +kernel), List.forall_mem_cons.mpr ⟨mgd 125 (by decide +kernel) (by decide +kernel), List.forall_mem_cons.mpr ⟨mgd 667 (by decide +kernel) (by decide +kernel), fun _ h => absurd h List.not_mem_nil⟩⟩⟩⟩⟩
theorem vX11_related_201 : ∀ w ∈ ([.methodLink RX11 201 yX4_follows, .instanceMethod yX4_follows, .selects yX4_follows.cls yX4_follows yX4_follows, .initialized yX4_follows.cls, .code yX4_follows cX4_follows 2 (some .boolean)] : List Cond), w ∈ lw_good := List.forall_mem_cons.mpr ⟨mgd 1223 (by decide +kernel) (by decide +kernel), List.forall_mem_cons.mpr ⟨mgd 1224 (by decide +kernel) (by decide +kernel), List.forall_mem_cons.mpr ⟨mgd 1225 (by decide +kernel) (by decide +kernel), List.forall_mem_cons.mpr ⟨mgd 126 (by decide +kernel) (by decide +kernel), List.forall_mem_cons.mpr ⟨mgd 1226 (by decide +kernel) (by decide +kernel), fun _ h => absurd h List.not_mem_nil⟩⟩⟩⟩⟩
set_option maxRecDepth 100000 in
set_option maxHeartbeats 2000000 in
theorem c_wrl (l : Launch) (hlt : l.stackTraces = false) : ∀ (t : Nat) (p : Int32) (a : Int32) (x : Int32) (b : Int32) (y : Int32) (F : Nat → Nat × Nat) (X : Nat → GX) (kz : Nat → Nat) (Q : Ab), CtX l yX11_related (Cond.code yX11_related cX11_related 9 (some .int)) (some .int) 8 130 (sp_wrl t p a x b y F X kz Q) := by
  intro t p a x b y F X kz Q
  refine CtX.of hlt (fX11, nX11, aX11, iX11, lX11, [(108, 0, 2, 3, T_wpo), (104, 2, 1, 0, T_wrq), (198, 0, 3, 3, T_glkp), (201, 0, 2, 1, T_fol)], qX11, gX11, thX11) false tX11_related (fun _ S => look [(39, ([0,6,1,2,3,4,5], I_rl t p a x b y F X kz Q S))]) (by decide) (by decide) kX11_related ⟨_, _, rfl⟩ fX11_ok nX11_ok aX11_ok iX11_ok lX11_ok (fun p e R s m args below meth c Q D cy z r A C hR1 hR2 => List.forall_mem_cons.mpr ⟨cOK_use (fun _ _ _ _ _ _ _ _ h => let ⟨sp, h1, h2, h3⟩ := u_wpo l hlt _ _ _ _ _ _ _ _ h; ⟨sp, cOKx_V C h1 vX11_related_108 ⟨by decide, by decide, by decide +kernel⟩ ⟨by rw [hR1]; decide, by rw [hR2]; decide⟩ (k := 12) (T := TX11) (N := 15) rfl (by decide) h2, h3⟩), List.forall_mem_cons.mpr ⟨cOK_use (fun _ _ _ _ _ _ _ _ h => let ⟨sp, h1, _, h3⟩ := u_wrq l hlt _ _ _ _ _ _ _ _ h; ⟨sp, cOKx_S C h1 vX11_related_104 ⟨by decide, by decide, by decide +kernel⟩ ⟨by rw [hR1]; decide, by rw [hR2]; decide⟩, h3⟩), List.forall_mem_cons.mpr ⟨cOK_use (fun _ _ _ _ _ _ _ _ h => let ⟨sp, h1, h2, h3⟩ := u_glkp l _ _ _ _ _ _ _ _ h; ⟨sp, cOK_V C h1 vX11_related_198 ⟨by decide, by decide, by decide +kernel⟩ ⟨by rw [hR1]; decide, by rw [hR2]; decide⟩ (k := 6) (T := TX5) (N := 12) rfl (by decide) h2, h3⟩), List.forall_mem_cons.mpr ⟨cOK_use (fun _ _ _ _ _ _ _ _ h => let ⟨sp, h1, h2, h3⟩ := u_fol l _ _ _ _ _ _ _ _ h; ⟨sp, cOK_V C h1 vX11_related_201 ⟨by decide, by decide, by decide +kernel⟩ ⟨by rw [hR1]; decide, by rw [hR2]; decide⟩ (k := 5) (T := TX4) (N := 16) rfl (by decide) h2, h3⟩), fun _ h => absurd h List.not_mem_nil⟩⟩⟩⟩) qX11_ok gX11_ok (fun q hq => ⟨thX11_ok q hq, by decide, by decide⟩) ?_ ?_
  · rintro _ S ⟨rfl, hp⟩
    refine ⟨Nat.le_of_ble_eq_true rfl, 300, ?_⟩
    show (0 = 0 ∧ (∃ (F_1 : Nat → Nat × Nat) (z_2 : Nat → Nat), (SfA S F_1 t z_2) ∧ 0 + 1 ≤ 3 ∧ 0 + 6 ≤ 18 ∧ ((∀ (x_4 : Option Nat) (S_3 : MM), (S_3 = S ∧ ∃ n, n < 4 ∧ p = nI n ∧ x_4 = some (z_2 (30 + n))) → (pa x_4 fun a_5 => isO S_3 11 a_5 ∧ ((a < 0 → (∃ k1, I_rl t p a x b y F X kz Q S k1 [(0, .inr (.inr (some t))), (6, .inr (.inr (mR S_3 1101 a_5))), (1, .inl p), (2, .inl a), (3, .inl x), (4, .inl b), (5, .inl y)] [.inl (0 : Int32)] S_3 (0 + 1) (0 + 6))) ∧ (¬ a < 0 → (((256 : Int32) ≤ a → (∃ k1, I_rl t p a x b y F X kz Q S k1 [(0, .inr (.inr (some t))), (6, .inr (.inr (mR S_3 1101 a_5))), (1, .inl p), (2, .inl a), (3, .inl x), (4, .inl b), (5, .inl y)] [.inl (0 : Int32)] S_3 (0 + 1) (0 + 6))) ∧ (¬ (256 : Int32) ≤ a → ((b < 0 → (∃ k1, I_rl t p a x b y F X kz Q S k1 [(0, .inr (.inr (some t))), (6, .inr (.inr (mR S_3 1101 a_5))), (1, .inl p), (2, .inl a), (3, .inl x), (4, .inl b), (5, .inl y)] [.inl (0 : Int32)] S_3 (0 + 1) (0 + 6))) ∧ (¬ b < 0 → (((256 : Int32) ≤ b → (∃ k1, I_rl t p a x b y F X kz Q S k1 [(0, .inr (.inr (some t))), (6, .inr (.inr (mR S_3 1101 a_5))), (1, .inl p), (2, .inl a), (3, .inl x), (4, .inl b), (5, .inl y)] [.inl (0 : Int32)] S_3 (0 + 1) (0 + 6))) ∧ (¬ (256 : Int32) ≤ b → (∃ k1, I_rl t p a x b y F X kz Q S k1 [(0, .inr (.inr (some t))), (6, .inr (.inr (mR S_3 1101 a_5))), (1, .inl p), (2, .inl a), (3, .inl x), (4, .inl b), (5, .inl y)] [.inl (1 : Int32)] S_3 (0 + 1) (0 + 6)))))))))))) ∧ ((np 4 p) → mthr (sp_wrl t p a x b y F X kz Q) [.inr (.inr (some t)), .inl p, .inl a, .inl x, .inl b, .inl y] S 1 S (0 + 1) (0 + 6)))))
    obtain ⟨z, hz⟩ := hp
    refine ⟨rfl, F, z, hz.1.1, by decide, by decide, fun v S3 h => ?_, fun h => ⟨Or.inl ⟨rfl, Or.inl h, rfl⟩, Nat.le_of_ble_eq_true rfl, Nat.le_of_ble_eq_true rfl⟩⟩
    obtain ⟨rfl, n, hn, rfl, rfl⟩ := h
    obtain ⟨A, H, W, r, a', d, ea, kn, kr, cu, hP⟩ := hz.2.1 n hn
    have r1 : mR S3 1101 (z (30 + n)) = some (A 0) := hP.1.2.2.2.1
    refine pa_i rfl ?_
    rw [r1]
    have bad : (np 256 a ∨ np 256 b) → ∃ k1, I_rl t (nI n) a x b y F X kz Q S3 k1 [(0, .inr (.inr (some t))), (6, .inr (.inr (some (A 0)))), (1, .inl (nI n)), (2, .inl a), (3, .inl x), (4, .inl b), (5, .inl y)] [.inl 0] S3 (0 + 1) (0 + 6) := fun q => ⟨0, 0, n, z, A 0, rfl, hz, hn, rfl, r1, Or.inr ⟨rfl, q⟩, rfl, rfl, rfl, rfl, rfl⟩
    exact ⟨hP.1.1, fun q => bad (Or.inl (np_lo (by decide) q)), fun a1 => ⟨fun q => bad (Or.inl (np_hi (by decide) q)), fun a2 => ⟨fun q => bad (Or.inr (np_lo (by decide) q)), fun a3 => ⟨fun q => bad (Or.inr (np_hi (by decide) q)), fun a4 => ⟨0, 1, n, z, A 0, rfl, hz, hn, rfl, r1, Or.inl ⟨rfl, rng (m := 256) (by decide) a1 a2, rng (m := 256) (by decide) a3 a4⟩, rfl, rfl, rfl, rfl, rfl⟩⟩⟩⟩⟩
  · intro av S hpre pc I hI k lo st S1 cs sl h
    obtain ⟨rfl, hp⟩ := hpre
    have hm := look_in hI
    rw [List.mem_singleton] at hm
    cases hm
    obtain ⟨c, n, z, g, rfl, hz, hn, hpn, r1, hc, rfl, rfl, rfl, rfl, rfl⟩ := h
    refine ⟨300, ?_⟩
    show (2 = 2 ∧ ((c = 0 ∨ c = 1) ∧ 1 + 1 ≤ 3 ∧ 6 + 6 ≤ 18 ∧ ((∀ (S_1 : MM), (S_1 = S ∧ c = 1) → (0 = 0 ∧ (∃ (i_2 : Nat), a = nI i_2 ∧ (∃ (ar_3 : Nat) (Lf_4 : Nat → List Nat), (AgT S_1 g ar_3 Lf_4 ∧ i_2 < 256) ∧ 1 + 1 ≤ 3 ∧ 6 + 6 ≤ 18 ∧ ((0 = 0 ∧ (∃ (i_6 : Nat), b = nI i_6 ∧ (∃ (ar_7 : Nat) (Lf_8 : Nat → List Nat), (AgT S_1 g ar_7 Lf_8 ∧ i_6 < 256) ∧ 1 + 1 ≤ 3 ∧ 6 + 6 ≤ 18 ∧ ((((lkp (Lf_4 i_2) x) = none → (mthr (sp_wrl t p a x b y F X kz Q) [.inr (.inr (some t)), .inl p, .inl a, .inl x, .inl b, .inl y] S 2 S_1 (1 + 1 + 1) (6 + 6 + 6))) ∧ (∀ w_10, (lkp (Lf_4 i_2) x) = some w_10 → ((∀ w_11, (lkp (Lf_8 i_6) y) = some w_11 → ((¬ (lkp (Lf_4 i_2) x) = (lkp (Lf_8 i_6) y) → (0 = 0 ∧ ((pa (lkp (Lf_8 i_6) y) fun a_12 => ((pa (lkp (Lf_4 i_2) x) fun a_13 => (∃ (g_14 b_15 h_16 : Nat), (isO S_1 5 a_12 ∧ isO S_1 5 a_13 ∧ mR S_1 500 a_13 = some h_16 ∧ isO S_1 1 h_16 ∧ mR S_1 500 a_12 = some g_14 ∧ isO S_1 1 g_14 ∧ mR S_1 504 a_12 = some b_15 ∧ isO S_1 17 b_15 ∧ (¬ mI S_1 101 h_16 = mI S_1 101 g_14 → inR S_1 b_15 (mI S_1 101 h_16))) ∧ 1 + 1 ≤ 3 ∧ 6 + 6 ≤ 18 ∧ ((((evFol S_1 a_12 g_14 b_15 a_13 h_16) = 0 → (0 = 0 ∧ ((pa (lkp (Lf_4 i_2) x) fun a_18 => ((pa (lkp (Lf_8 i_6) y) fun a_19 => (∃ (g_20 b_21 h_22 : Nat), (isO S_1 5 a_18 ∧ isO S_1 5 a_19 ∧ mR S_1 500 a_19 = some h_22 ∧ isO S_1 1 h_22 ∧ mR S_1 500 a_18 = some g_20 ∧ isO S_1 1 g_20 ∧ mR S_1 504 a_18 = some b_21 ∧ isO S_1 17 b_21 ∧ (¬ mI S_1 101 h_22 = mI S_1 101 g_20 → inR S_1 b_21 (mI S_1 101 h_22))) ∧ 1 + 1 ≤ 3 ∧ 6 + 6 ≤ 18 ∧ ((((evFol S_1 a_18 g_20 b_21 a_19 h_22) = 0 → (([] : List MV) = [] ∧ mret (some .int) (sp_wrl t p a x b y F X kz Q) [.inr (.inr (some t)), .inl p, .inl a, .inl x, .inl b, .inl y] S (some (.inl (3 : Int32))) S_1 (1 + 1) (6 + 6))) ∧ (¬ (evFol S_1 a_18 g_20 b_21 a_19 h_22) = 0 → (([] : List MV) = [] ∧ mret (some .int) (sp_wrl t p a x b y F X kz Q) [.inr (.inr (some t)), .inl p, .inl a, .inl x, .inl b, .inl y] S (some (.inl (2 : Int32))) S_1 (1 + 1) (6 + 6)))))))))))) ∧ (¬ (evFol S_1 a_12 g_14 b_15 a_13 h_16) = 0 → (([] : List MV) = [] ∧ mret (some .int) (sp_wrl t p a x b y F X kz Q) [.inr (.inr (some t)), .inl p, .inl a, .inl x, .inl b, .inl y] S (some (.inl (1 : Int32))) S_1 (1 + 1) (6 + 6)))))))))))) ∧ ((lkp (Lf_4 i_2) x) = (lkp (Lf_8 i_6) y) → (([] : List MV) = [] ∧ mret (some .int) (sp_wrl t p a x b y F X kz Q) [.inr (.inr (some t)), .inl p, .inl a, .inl x, .inl b, .inl y] S (some (.inl (0 : Int32))) S_1 (1 + 1) (6 + 6))))) ∧ ((lkp (Lf_8 i_6) y) = none → (mthr (sp_wrl t p a x b y F X kz Q) [.inr (.inr (some t)), .inl p, .inl a, .inl x, .inl b, .inl y] S 2 S_1 (1 + 1 + 1) (6 + 6 + 6))))))))))))))) ∧ ((c = 0) → mthr (sp_wrl t p a x b y F X kz Q) [.inr (.inr (some t)), .inl p, .inl a, .inl x, .inl b, .inl y] S 1 S (1 + 1) (6 + 6)))))
    refine ⟨rfl, hc.elim (fun q => Or.inr q.1) (fun q => Or.inl q.1), by decide, by decide, fun S3 h3 => ?_, fun h0 => ⟨Or.inl ⟨rfl, Or.inr (hc.elim (fun q => absurd (q.1.symm.trans h0) (by decide)) (fun q => q.2)), rfl⟩, Nat.le_of_ble_eq_true rfl, Nat.le_of_ble_eq_true rfl⟩⟩
    obtain ⟨rfl, rfl⟩ := h3
    obtain ⟨⟨a1, ha1, ea1⟩, ⟨b1, hb1, eb1⟩⟩ : (∃ a1, a1 < 256 ∧ a = nI a1) ∧ ∃ b1, b1 < 256 ∧ b = nI b1 := hc.elim (fun q => q.2) (fun q => absurd q.1 (by decide))
    obtain ⟨A, H, W, r, a', d, ea, kn, kr, cu, hP⟩ := hz.2.1 n hn
    have gi := hP.gi
    have e0 : g = A 0 := Option.some.inj (r1.symm.trans hP.1.2.2.2.1)
    subst e0
    have lkn : ∀ (a1 : Nat) (x : Int32), lkp ((agE (Q.G n) a1).map (X n).ad) x = none → lk0 (Q.G n) a1 x := fun a1 x e j hj w => by
      subst w
      have hl : (agE (Q.G n) a1).length ≤ 8192 := Nat.le_trans (List.length_filter_le _ _) (by rw [List.length_range]; exact gi.ok.hn)
      unfold lkp at e
      rw [if_neg (nI_pos (by omega)), nI_clamp (by omega), List.getElem?_eq_getElem (by rw [List.length_map]; exact hj)] at e
      cases e
    have lks : ∀ (a1 : Nat) (x : Int32) (w : Nat), lkp ((agE (Q.G n) a1).map (X n).ad) x = some w → ∃ e, lk2 (Q.G n) a1 x e ∧ e < (Q.G n).n ∧ w = (X n).ad e := fun a1 x w e => by
      unfold lkp at e
      by_cases h0 : x < 0
      · rw [if_pos h0] at e; cases e
      · rw [if_neg h0] at e
        obtain ⟨j, hj, rfl⟩ := nI_of h0
        rw [nI_clamp hj, List.getElem?_map] at e
        cases e2 : (agE (Q.G n) a1)[j]? with
        | none => rw [e2] at e; cases e
        | some q =>
          rw [e2] at e
          exact ⟨q, ⟨j, rfl, e2⟩, List.mem_range.1 (List.mem_filter.1 (List.mem_of_getElem? e2)).1, (Option.some.inj e).symm⟩
    refine ⟨rfl, a1, ea1, A 4, _, ⟨gi.agt, ha1⟩, by decide, by decide, rfl, b1, eb1, A 4, _, ⟨gi.agt, hb1⟩, by decide, by decide, fun q => ⟨Or.inr ⟨rfl, ⟨n, a1, b1, hn, hpn, ha1, ea1, hb1, eb1, Or.inl (lkn a1 x q)⟩, rfl⟩, Nat.le_of_ble_eq_true rfl, Nat.le_of_ble_eq_true rfl⟩, fun w1 q1 => ⟨fun w2 q2 => ?_, fun q => ⟨Or.inr ⟨rfl, ⟨n, a1, b1, hn, hpn, ha1, ea1, hb1, eb1, Or.inr (lkn b1 y q)⟩, rfl⟩, Nat.le_of_ble_eq_true rfl, Nat.le_of_ble_eq_true rfl⟩⟩⟩
    obtain ⟨e, l1, he, rfl⟩ := lks a1 x w1 q1
    obtain ⟨f, l2, hf, rfl⟩ := lks b1 y w2 q2
    have ev := gi.ev
    have q1 : lkp ((fun a => (agE (Q.G n) a).map (X n).ad) a1) x = some ((X n).ad e) := q1
    have q2 : lkp ((fun a => (agE (Q.G n) a).map (X n).ad) b1) y = some ((X n).ad f) := q2
    rw [q1, q2]
    have done : ∀ v, v = rlA (Q.G n) e f → mret (some .int) (sp_wrl t p a x b y F X kz Q) [.inr (.inr (some t)), .inl p, .inl a, .inl x, .inl b, .inl y] S3 (some (.inl v)) S3 (1 + 1) (6 + 6) := fun v hv => ⟨trivial, ⟨_, rfl, rfl, n, a1, b1, e, f, hn, hpn, ha1, ea1, hb1, eb1, l1, l2, hv⟩, Nat.le_of_ble_eq_true rfl, Nat.le_of_ble_eq_true rfl⟩
    refine ⟨fun nq => ?_, fun eq => ⟨rfl, done 0 ?_⟩⟩
    · have nef : e ≠ f := fun w => nq (by rw [w])
      refine ⟨rfl, (X n).aa ((Q.G n).ev f).sl, (X n).bf f, (X n).aa ((Q.G n).ev e).sl, ev.folP hf he, by decide, by decide, ?_⟩
      rw [ev.fol hf he]
      refine ⟨fun w0 => ⟨rfl, (X n).aa ((Q.G n).ev e).sl, (X n).bf e, (X n).aa ((Q.G n).ev f).sl, ev.folP he hf, by decide, by decide, ?_⟩, fun w1 => ⟨rfl, done 1 ?_⟩⟩
      · have c1 : ¬ (Q.G n).bef e f = true := fun w => by rw [if_pos w] at w0; exact absurd w0 (by decide)
        rw [ev.fol he hf]
        refine ⟨fun w2 => ⟨rfl, done 3 ?_⟩, fun w2 => ⟨rfl, done 2 ?_⟩⟩
        · have c2 : ¬ (Q.G n).bef f e = true := fun w => by rw [if_pos w] at w2; exact absurd w2 (by decide)
          rw [rlA, if_neg nef, if_neg c1, if_neg c2]
        · have c2 : (Q.G n).bef f e = true := Classical.byContradiction (fun w => by rw [if_neg w] at w2; exact absurd rfl w2)
          rw [rlA, if_neg nef, if_neg c1, if_pos c2]
      · have c1 : (Q.G n).bef e f = true := Classical.byContradiction (fun w => by rw [if_neg w] at w1; exact absurd rfl w1)
        rw [rlA, if_neg nef, if_pos c1]
    · have eef : e = f := ev.2.2.2 e f he hf (Option.some.inj eq)
      rw [rlA, if_pos eef]
theorem u_wrl (l : Launch) (hlt : l.stackTraces = false) : UsX l yX11_related (Cond.code yX11_related cX11_related 9 (some .int)) (some .int) 8 130 12 T_wrl := by
  intro Rc Rs av S cs sl K Kx h
  unfold T_wrl at h
  split at h
  · rename_i t_o p a x b y
    obtain ⟨t, rfl, h_1⟩ := pa_of h
    obtain ⟨F, X, kz, Q, hp, hc, hs, hk, hx0, hx1⟩ := h_1
    refine ⟨(sp_wrl t p a x b y F X kz Q), c_wrl l hlt t p a x b y F X kz Q, fun _ _ h9 => ⟨_, _, h9.1, h9.2.choose_spec.1.1.1⟩, ⟨rfl, hp⟩, hc, hs, fun v9 S' h8 => by
      obtain ⟨v8, h7, h8⟩ := h8
      cases h7
      exact hk _ _ h8, fun _ _ q => by
      rcases q with ⟨rfl, q⟩ | ⟨rfl, q⟩
      · obtain ⟨q, rfl⟩ := q
        exact hx0 q
      · obtain ⟨q, rfl⟩ := q
        exact hx1 q⟩
  · exact h.elim
def huV (q : Nat × Nat × Nat × Nat) (j : Nat) : Nat := if j = 0 then q.1 else if j = 1 then q.2.1 else if j = 2 then q.2.2.1 else q.2.2.2
def T_whk : TR := fun Rc Rs av S cs sl K Kx => match av with
  | [.inr (.inr t_o), .inl k1, .inl w] => pa t_o fun t => (∃ (F : Nat → Nat × Nat) (X : Nat → GX) (kz : Nat → Nat) (Q : Ab), (WT S F t X kz Q) ∧ cs + 2 ≤ Rc ∧ sl + 12 ≤ Rs ∧ ((∀ (v : Int32) (S' : MM), (S' = S ∧ ∃ i j, i < Q.hu.length ∧ k1 = nI i ∧ j < 4 ∧ w = nI j ∧ v = nI (huV (Q.hu.getD i (0, 0, 0, 0)) j)) → K (some (.inl v)) S' (cs + 2) (sl + 12)) ∧ ((np 4 w) → Kx 1 S (cs + 2) (sl + 12)) ∧ ((¬ np 4 w ∧ np Q.hu.length k1) → Kx 2 S (cs + 2) (sl + 12))))
  | _ => False
def sp_whk (t : Nat) (k1 : Int32) (w : Int32) (F : Nat → Nat × Nat) (X : Nat → GX) (kz : Nat → Nat) (Q : Ab) : Sp := (fun av S => av = [.inr (.inr (some t)), .inl k1, .inl w] ∧ (WT S F t X kz Q), fun _ S => 2, fun _ S => 12, fun _ S rv S' => ∃ v, rv = (some (.inl v)) ∧ (S' = S ∧ ∃ i j, i < Q.hu.length ∧ k1 = nI i ∧ j < 4 ∧ w = nI j ∧ v = nI (huV (Q.hu.getD i (0, 0, 0, 0)) j)), fun _ S E S' => (E = 1 ∧ (np 4 w) ∧ S' = S) ∨ (E = 2 ∧ (¬ np 4 w ∧ np Q.hu.length k1) ∧ S' = S))
def tX11_hunk : CD := [(0, .iload_n 2), (1, .ifCond .lt 12), (4, .iload_n 2), (5, .iconst 4), (6, .if_icmp .ge 7), (9, .iconst 1), (10, .goto 4), (13, .iconst 0), (14, .invokestatic 104), (17, .iload_n 1), (18, .ifCond .lt 14), (21, .iload_n 1), (22, .aload_n 0), (23, .getfield 53), (26, .getfield 228), (29, .if_icmp .lt 11), (32, .new 147), (35, .dup), (36, .invokespecial 149), (39, .athrow), (40, .aload_n 0), (41, .getfield 53), (44, .getfield 231), (47, .iconst 4), (48, .iload_n 1), (49, .imul), (50, .iload_n 2), (51, .iadd), (52, .iaload), (53, .ireturn)]
set_option maxRecDepth 100000 in
theorem kX11_hunk : chk cX11_hunk tX11_hunk = true := by decide +kernel
theorem vX11_hunk_104 : ∀ w ∈ ([.methodLink RX11 104 yX11_require, .static yX11_require, .initialized yX11_require.cls, .code yX11_require cX11_require 1 none] : List Cond), w ∈ lw_good := List.forall_mem_cons.mpr ⟨mgd 801 (by decide +kernel) (by decide +kernel), List.forall_mem_cons.mpr ⟨mgd 802 (by decide +kernel) (by decide +kernel), List.forall_mem_cons.mpr ⟨mgd 121 (by decide +kernel) (by decide +kernel), List.forall_mem_cons.mpr ⟨mgd 803 (by decide +kernel) (by decide +kernel), fun _ h => absurd h List.not_mem_nil⟩⟩⟩⟩
set_option maxRecDepth 100000 in
set_option maxHeartbeats 2000000 in
theorem c_whk (l : Launch) (hlt : l.stackTraces = false) : ∀ (t : Nat) (k1 : Int32) (w : Int32) (F : Nat → Nat × Nat) (X : Nat → GX) (kz : Nat → Nat) (Q : Ab), CtX l yX11_hunk (Cond.code yX11_hunk cX11_hunk 3 (some .int)) (some .int) 7 109 (sp_whk t k1 w F X kz Q) := by
  intro t k1 w F X kz Q
  refine CtX.of hlt (fX11, nX11, aX11, iX11, lX11, [(104, 2, 1, 0, T_wrq)], qX11, gX11, thX11) false tX11_hunk (fun _ _ _ => none) (by decide) (by decide) kX11_hunk ⟨_, _, rfl⟩ fX11_ok nX11_ok aX11_ok iX11_ok lX11_ok (fun p e R s m args below meth c Q D cy z r A C hR1 hR2 => List.forall_mem_cons.mpr ⟨cOK_use (fun _ _ _ _ _ _ _ _ h => let ⟨sp, h1, _, h3⟩ := u_wrq l hlt _ _ _ _ _ _ _ _ h; ⟨sp, cOKx_S C h1 vX11_hunk_104 ⟨by decide, by decide, by decide +kernel⟩ ⟨by rw [hR1]; decide, by rw [hR2]; decide⟩, h3⟩), fun _ h => absurd h List.not_mem_nil⟩) qX11_ok gX11_ok (fun q hq => ⟨thX11_ok q hq, by decide, by decide⟩) ?_ ?_
  · rintro _ S ⟨rfl, hp⟩
    refine ⟨Nat.le_of_ble_eq_true rfl, 300, ?_⟩
    show ((w < 0 → (2 = 2 ∧ (((0 : Int32) = 0 ∨ (0 : Int32) = 1) ∧ 0 + 1 ≤ 2 ∧ 0 + 6 ≤ 12 ∧ ((∀ (S_1 : MM), (S_1 = S ∧ (0 : Int32) = 1) → ((k1 < 0 → (mthr (sp_whk t k1 w F X kz Q) [.inr (.inr (some t)), .inl k1, .inl w] S 2 S_1 (0 + 1 + 1) (0 + 6 + 6))) ∧ (¬ k1 < 0 → (isO S_1 12 t ∧ (pa (mR S_1 1212 t) fun a_2 => isO S_1 7 a_2 ∧ ((k1 < (mI S_1 701 a_2) → (isO S_1 12 t ∧ (pa (mR S_1 1212 t) fun a_3 => isO S_1 7 a_3 ∧ (pa (mR S_1 700 a_3) fun a_4 => ∃ v_5 : Int32, (isO S_1 17 a_4 ∧ inR S_1 a_4 (((4 : Int32) * k1) + w) ∧ v_5 = eI S_1 a_4 (((4 : Int32) * k1) + w).toNatClampNeg ∨ a_4 = (mQ S_1).1 ∧ vp_in (((4 : Int32) * k1) + w) 16 ∧ v_5 = mRem (((4 : Int32) * k1) + w).toNatClampNeg) ∧ (([] : List MV) = [] ∧ mret (some .int) (sp_whk t k1 w F X kz Q) [.inr (.inr (some t)), .inl k1, .inl w] S (some (.inl v_5)) S_1 (0 + 1) (0 + 6)))))) ∧ (¬ k1 < (mI S_1 701 a_2) → (mthr (sp_whk t k1 w F X kz Q) [.inr (.inr (some t)), .inl k1, .inl w] S 2 S_1 (0 + 1 + 1) (0 + 6 + 6))))))))) ∧ (((0 : Int32) = 0) → mthr (sp_whk t k1 w F X kz Q) [.inr (.inr (some t)), .inl k1, .inl w] S 1 S (0 + 1) (0 + 6)))))) ∧ (¬ w < 0 → (((4 : Int32) ≤ w → (2 = 2 ∧ (((0 : Int32) = 0 ∨ (0 : Int32) = 1) ∧ 0 + 1 ≤ 2 ∧ 0 + 6 ≤ 12 ∧ ((∀ (S_7 : MM), (S_7 = S ∧ (0 : Int32) = 1) → ((k1 < 0 → (mthr (sp_whk t k1 w F X kz Q) [.inr (.inr (some t)), .inl k1, .inl w] S 2 S_7 (0 + 1 + 1) (0 + 6 + 6))) ∧ (¬ k1 < 0 → (isO S_7 12 t ∧ (pa (mR S_7 1212 t) fun a_8 => isO S_7 7 a_8 ∧ ((k1 < (mI S_7 701 a_8) → (isO S_7 12 t ∧ (pa (mR S_7 1212 t) fun a_9 => isO S_7 7 a_9 ∧ (pa (mR S_7 700 a_9) fun a_10 => ∃ v_11 : Int32, (isO S_7 17 a_10 ∧ inR S_7 a_10 (((4 : Int32) * k1) + w) ∧ v_11 = eI S_7 a_10 (((4 : Int32) * k1) + w).toNatClampNeg ∨ a_10 = (mQ S_7).1 ∧ vp_in (((4 : Int32) * k1) + w) 16 ∧ v_11 = mRem (((4 : Int32) * k1) + w).toNatClampNeg) ∧ (([] : List MV) = [] ∧ mret (some .int) (sp_whk t k1 w F X kz Q) [.inr (.inr (some t)), .inl k1, .inl w] S (some (.inl v_11)) S_7 (0 + 1) (0 + 6)))))) ∧ (¬ k1 < (mI S_7 701 a_8) → (mthr (sp_whk t k1 w F X kz Q) [.inr (.inr (some t)), .inl k1, .inl w] S 2 S_7 (0 + 1 + 1) (0 + 6 + 6))))))))) ∧ (((0 : Int32) = 0) → mthr (sp_whk t k1 w F X kz Q) [.inr (.inr (some t)), .inl k1, .inl w] S 1 S (0 + 1) (0 + 6)))))) ∧ (¬ (4 : Int32) ≤ w → (2 = 2 ∧ (((1 : Int32) = 0 ∨ (1 : Int32) = 1) ∧ 0 + 1 ≤ 2 ∧ 0 + 6 ≤ 12 ∧ ((∀ (S_13 : MM), (S_13 = S ∧ (1 : Int32) = 1) → ((k1 < 0 → (mthr (sp_whk t k1 w F X kz Q) [.inr (.inr (some t)), .inl k1, .inl w] S 2 S_13 (0 + 1 + 1) (0 + 6 + 6))) ∧ (¬ k1 < 0 → (isO S_13 12 t ∧ (pa (mR S_13 1212 t) fun a_14 => isO S_13 7 a_14 ∧ ((k1 < (mI S_13 701 a_14) → (isO S_13 12 t ∧ (pa (mR S_13 1212 t) fun a_15 => isO S_13 7 a_15 ∧ (pa (mR S_13 700 a_15) fun a_16 => ∃ v_17 : Int32, (isO S_13 17 a_16 ∧ inR S_13 a_16 (((4 : Int32) * k1) + w) ∧ v_17 = eI S_13 a_16 (((4 : Int32) * k1) + w).toNatClampNeg ∨ a_16 = (mQ S_13).1 ∧ vp_in (((4 : Int32) * k1) + w) 16 ∧ v_17 = mRem (((4 : Int32) * k1) + w).toNatClampNeg) ∧ (([] : List MV) = [] ∧ mret (some .int) (sp_whk t k1 w F X kz Q) [.inr (.inr (some t)), .inl k1, .inl w] S (some (.inl v_17)) S_13 (0 + 1) (0 + 6)))))) ∧ (¬ k1 < (mI S_13 701 a_14) → (mthr (sp_whk t k1 w F X kz Q) [.inr (.inr (some t)), .inl k1, .inl w] S 2 S_13 (0 + 1 + 1) (0 + 6 + 6))))))))) ∧ (((1 : Int32) = 0) → mthr (sp_whk t k1 w F X kz Q) [.inr (.inr (some t)), .inl k1, .inl w] S 1 S (0 + 1) (0 + 6)))))))))
    obtain ⟨z, hz⟩ := hp
    obtain ⟨r, f0, s0, hu, -⟩ := hz.2.2.2.2.2.2.2.1
    have r12 : mR S 1212 t = some (z 12) := hz.1.1.2.2.1 12 (by decide) (by decide) (by decide) (by decide)
    obtain ⟨h1, h2, h3, h4, h5, h6, h7, h8, h9, h10, h11, h12, h13, h14, h15, h16, h17, h18⟩ := hu
    refine ⟨fun h => ⟨rfl, Or.inl rfl, by decide, by decide, rq0 ⟨Or.inl ⟨rfl, np_lo (by decide) h, rfl⟩, Nat.le_of_ble_eq_true rfl, Nat.le_of_ble_eq_true rfl⟩⟩, fun q1 => ⟨fun h => ⟨rfl, Or.inl rfl, by decide, by decide, rq0 ⟨Or.inl ⟨rfl, np_hi (by decide) h, rfl⟩, Nat.le_of_ble_eq_true rfl, Nat.le_of_ble_eq_true rfl⟩⟩, fun q2 => ⟨rfl, Or.inr rfl, by decide, by decide, rq1 ?_⟩⟩⟩
    obtain ⟨j, hj, rfl⟩ := rng (m := 4) (by decide) q1 q2
    have nn : ¬ np 4 (nI j) := fun w => w j hj rfl
    refine ⟨fun h => ⟨Or.inr ⟨rfl, ⟨nn, np_lo (by omega) h⟩, rfl⟩, Nat.le_of_ble_eq_true rfl, Nat.le_of_ble_eq_true rfl⟩, fun q3 => ⟨hz.1.1.1, pa_i r12 ⟨h1, ?_⟩⟩⟩
    rw [h11]
    refine ⟨fun h => ?_, fun h => ⟨Or.inr ⟨rfl, ⟨nn, np_hi (by omega) (Int32.not_lt.1 h)⟩, rfl⟩, Nat.le_of_ble_eq_true rfl, Nat.le_of_ble_eq_true rfl⟩⟩
    obtain ⟨i, hi, rfl⟩ := rng (m := Q.hu.length) (by omega) q3 (fun w => absurd h (Int32.not_lt.2 w))
    have e4 : (4 : Int32) * nI i + nI j = nI (4 * i + j) := by rw [nI_mul4 (by omega), nI_add]
    rw [e4]
    refine ⟨hz.1.1.1, pa_i r12 ⟨h1, pa_i h3 ⟨_, Or.inl ⟨h4, inRn h6 (by omega) (by omega), rfl⟩, rfl, trivial, ⟨_, rfl, rfl, i, j, hi, rfl, hj, rfl, ?_⟩, Nat.le_of_ble_eq_true rfl, Nat.le_of_ble_eq_true rfl⟩⟩⟩
    rw [nI_clamp (by omega)]
    have q := h16 i hi
    unfold huV
    match j, hj with
    | 0, _ => exact q.1
    | 1, _ => exact q.2.1
    | 2, _ => exact q.2.2.1
    | 3, _ => exact q.2.2.2
  · exact fun _ _ _ _ _ h => by cases h
theorem u_whk (l : Launch) (hlt : l.stackTraces = false) : UsX l yX11_hunk (Cond.code yX11_hunk cX11_hunk 3 (some .int)) (some .int) 7 109 12 T_whk := by
  intro Rc Rs av S cs sl K Kx h
  unfold T_whk at h
  split at h
  · rename_i t_o k1 w
    obtain ⟨t, rfl, h_1⟩ := pa_of h
    obtain ⟨F, X, kz, Q, hp, hc, hs, hk, hx0, hx1⟩ := h_1
    refine ⟨(sp_whk t k1 w F X kz Q), c_whk l hlt t k1 w F X kz Q, fun _ _ h9 => ⟨_, _, h9.1, h9.2.choose_spec.1.1.1⟩, ⟨rfl, hp⟩, hc, hs, fun v9 S' h8 => by
      obtain ⟨v8, h7, h8⟩ := h8
      cases h7
      exact hk _ _ h8, fun _ _ q => by
      rcases q with ⟨rfl, q⟩ | ⟨rfl, q⟩
      · obtain ⟨q, rfl⟩ := q
        exact hx0 q
      · obtain ⟨q, rfl⟩ := q
        exact hx1 q⟩
  · exact h.elim
def T_wmk : TR := fun Rc Rs av S cs sl K Kx => match av with
  | [.inr (.inr t_o), .inl b, .inl p] => pa t_o fun t => (∃ (F : Nat → Nat × Nat) (X : Nat → GX) (kz : Nat → Nat) (Q : Ab), (WT S F t X kz Q) ∧ cs + 2 ≤ Rc ∧ sl + 12 ≤ Rs ∧ ((∀ (v : Int32) (S' : MM), (∃ i n, i < 8 ∧ b = nI i ∧ n < 4 ∧ p = nI n ∧ v = nI (Q.G n).n ∧ wtQ S S' F t X kz (Q.sMk (upF Q.mp i (some n)) (upF Q.ms i (Q.G n).n))) → K (some (.inl v)) S' (cs + 2) (sl + 12)) ∧ ((np 8 b ∨ np 4 p) → Kx 1 S (cs + 2) (sl + 12))))
  | _ => False
def sp_wmk (t : Nat) (b : Int32) (p : Int32) (F : Nat → Nat × Nat) (X : Nat → GX) (kz : Nat → Nat) (Q : Ab) : Sp := (fun av S => av = [.inr (.inr (some t)), .inl b, .inl p] ∧ (WT S F t X kz Q), fun _ S => 2, fun _ S => 12, fun _ S rv S' => ∃ v, rv = (some (.inl v)) ∧ (∃ i n, i < 8 ∧ b = nI i ∧ n < 4 ∧ p = nI n ∧ v = nI (Q.G n).n ∧ wtQ S S' F t X kz (Q.sMk (upF Q.mp i (some n)) (upF Q.ms i (Q.G n).n))), fun _ S E S' => (E = 1 ∧ (np 8 b ∨ np 4 p) ∧ S' = S))
def tX11_mark : CD := [(0, .iload_n 1), (1, .ifCond .lt 13), (4, .iload_n 1), (5, .bipush 8), (7, .if_icmp .ge 7), (10, .iconst 1), (11, .goto 4), (14, .iconst 0), (15, .invokestatic 104), (18, .aload_n 0), (19, .getfield 41), (22, .iload_n 1), (23, .aload_n 0), (24, .iload_n 2), (25, .invokevirtual 108), (28, .getfield 112), (31, .getfield 180), (34, .invokevirtual 184), (37, .iastore), (38, .aload_n 0), (39, .getfield 37), (42, .iload_n 1), (43, .iload_n 2), (44, .iastore), (45, .aload_n 0), (46, .getfield 41), (49, .iload_n 1), (50, .iaload), (51, .ireturn)]
set_option maxRecDepth 100000 in
theorem kX11_mark : chk cX11_mark tX11_mark = true := by decide +kernel
theorem vX11_mark_104 : ∀ w ∈ ([.methodLink RX11 104 yX11_require, .static yX11_require, .initialized yX11_require.cls, .code yX11_require cX11_require 1 none] : List Cond), w ∈ lw_good := List.forall_mem_cons.mpr ⟨mgd 801 (by decide +kernel) (by decide +kernel), List.forall_mem_cons.mpr ⟨mgd 802 (by decide +kernel) (by decide +kernel), List.forall_mem_cons.mpr ⟨mgd 121 (by decide +kernel) (by decide +kernel), List.forall_mem_cons.mpr ⟨mgd 803 (by decide +kernel) (by decide +kernel), fun _ h => absurd h List.not_mem_nil⟩⟩⟩⟩
theorem vX11_mark_108 : ∀ w ∈ ([.methodLink RX11 108 yX11_peerOf, .instanceMethod yX11_peerOf, .selects yX11_peerOf.cls yX11_peerOf yX11_peerOf, .initialized yX11_peerOf.cls, .code yX11_peerOf cX11_peerOf 2 (some (.object "WeaveText$Peer"))] : List Cond), w ∈ lw_good := List.forall_mem_cons.mpr ⟨mgd 827 (by decide +kernel) (by decide +kernel), List.forall_mem_cons.mpr ⟨mgd 829 (by decide +kernel) (by decide +kernel), List.forall_mem_cons.mpr ⟨mgd 1 (by decide +kernel) (by decide +kernel), List.forall_mem_cons.mpr ⟨mgd 121 (by decide +kernel) (by decide +kernel), List.forall_mem_cons.mpr ⟨mgd 830 (by decide +kernel) (by decide +kernel), fun _ h => absurd h List.not_mem_nil⟩⟩⟩⟩⟩
theorem vX11_mark_184 : ∀ w ∈ ([.methodLink RX11 184 yJx4a65c_size_8abf5, .instanceMethod yJx4a65c_size_8abf5, .selects yJx4a65c_size_8abf5.cls yJx4a65c_size_8abf5 yJx4a65c_size_8abf5, .initialized yJx4a65c_size_8abf5.cls, .code yJx4a65c_size_8abf5 cJx4a65c_size_8abf5 1 (some .int)] : List Cond), w ∈ lw_good := List.forall_mem_cons.mpr ⟨mgd 1205 (by decide +kernel) (by decide +kernel), List.forall_mem_cons.mpr ⟨mgd 673 (by decide +kernel) (by decide +kernel), List.forall_mem_cons.mpr ⟨mgd 674 (by decide +kernel) (by decide +kernel), List.forall_mem_cons.mpr ⟨mgd 130 (by decide +kernel) (by decide +kernel), List.forall_mem_cons.mpr ⟨mgd 675 (by decide +kernel) (by decide +kernel), fun _ h => absurd h List.not_mem_nil⟩⟩⟩⟩⟩
set_option maxRecDepth 100000 in
set_option maxHeartbeats 2000000 in
theorem c_wmk (l : Launch) (hlt : l.stackTraces = false) : ∀ (t : Nat) (b : Int32) (p : Int32) (F : Nat → Nat × Nat) (X : Nat → GX) (kz : Nat → Nat) (Q : Ab), CtX l yX11_mark (Cond.code yX11_mark cX11_mark 3 (some .int)) (some .int) 8 130 (sp_wmk t b p F X kz Q) := by
  intro t b p F X kz Q
  refine CtX.of hlt (fX11, nX11, aX11, iX11, lX11, [(104, 2, 1, 0, T_wrq), (108, 0, 2, 3, T_wpo), (184, 0, 1, 1, T_alsz)], qX11, gX11, []) false tX11_mark (fun _ _ _ => none) (by decide) (by decide) kX11_mark ⟨_, _, rfl⟩ fX11_ok nX11_ok aX11_ok iX11_ok lX11_ok (fun p e R s m args below meth c Q D cy z r A C hR1 hR2 => List.forall_mem_cons.mpr ⟨cOK_use (fun _ _ _ _ _ _ _ _ h => let ⟨sp, h1, _, h3⟩ := u_wrq l hlt _ _ _ _ _ _ _ _ h; ⟨sp, cOKx_S C h1 vX11_mark_104 ⟨by decide, by decide, by decide +kernel⟩ ⟨by rw [hR1]; decide, by rw [hR2]; decide⟩, h3⟩), List.forall_mem_cons.mpr ⟨cOK_use (fun _ _ _ _ _ _ _ _ h => let ⟨sp, h1, h2, h3⟩ := u_wpo l hlt _ _ _ _ _ _ _ _ h; ⟨sp, cOKx_V C h1 vX11_mark_108 ⟨by decide, by decide, by decide +kernel⟩ ⟨by rw [hR1]; decide, by rw [hR2]; decide⟩ (k := 12) (T := TX11) (N := 15) rfl (by decide) h2, h3⟩), List.forall_mem_cons.mpr ⟨cOK_use (fun _ _ _ _ _ _ _ _ h => let ⟨sp, h1, h2, h3⟩ := u_alsz l _ _ _ _ _ _ _ _ h; ⟨sp, cOK_V C h1 vX11_mark_184 ⟨by decide, by decide, by decide +kernel⟩ ⟨by rw [hR1]; decide, by rw [hR2]; decide⟩ (k := 0) (T := TJx4a65c) (N := 3) rfl (by decide) h2, h3⟩), fun _ h => absurd h List.not_mem_nil⟩⟩⟩) qX11_ok gX11_ok (fun _ h => absurd h List.not_mem_nil) ?_ ?_
  · rintro _ S ⟨rfl, hp⟩
    refine ⟨Nat.le_of_ble_eq_true rfl, 300, ?_⟩
    show ((b < 0 → (2 = 2 ∧ (((0 : Int32) = 0 ∨ (0 : Int32) = 1) ∧ 0 + 1 ≤ 2 ∧ 0 + 6 ≤ 12 ∧ ((∀ (S_1 : MM), (S_1 = S ∧ (0 : Int32) = 1) → (isO S_1 12 t ∧ (0 = 0 ∧ (∃ (F_2 : Nat → Nat × Nat) (z_3 : Nat → Nat), (SfA S_1 F_2 t z_3) ∧ 0 + 1 + 1 ≤ 2 ∧ 0 + 6 + 6 ≤ 12 ∧ ((∀ (x_5 : Option Nat) (S_4 : MM), (S_4 = S_1 ∧ ∃ n, n < 4 ∧ p = nI n ∧ x_5 = some (z_3 (30 + n))) → (pa x_5 fun a_6 => isO S_4 11 a_6 ∧ (pa (mR S_4 1101 a_6) fun a_7 => isO S_4 6 a_7 ∧ (0 = 0 ∧ ((pa (mR S_4 601 a_7) fun a_8 => (∃ (d_9 c_10 kk_11 : Nat) (L_12 : List Nat), (AL S_4 a_8 d_9 c_10 kk_11 L_12) ∧ 0 + 1 + 1 ≤ 2 ∧ 0 + 6 + 6 ≤ 12 ∧ ((pa (mR S_1 1209 t) fun a_14 => isO S_4 17 a_14 ∧ inR S_4 a_14 b ∧ (isO (rI S_4 a_14 (upd (eI S_4 a_14) b.toNatClampNeg (nI L_12.length))) 12 t ∧ (pa (mR (rI S_4 a_14 (upd (eI S_4 a_14) b.toNatClampNeg (nI L_12.length))) 1208 t) fun a_15 => isO (rI S_4 a_14 (upd (eI S_4 a_14) b.toNatClampNeg (nI L_12.length))) 17 a_15 ∧ inR (rI S_4 a_14 (upd (eI S_4 a_14) b.toNatClampNeg (nI L_12.length))) a_15 b ∧ (isO (rI (rI S_4 a_14 (upd (eI S_4 a_14) b.toNatClampNeg (nI L_12.length))) a_15 (upd (eI (rI S_4 a_14 (upd (eI S_4 a_14) b.toNatClampNeg (nI L_12.length))) a_15) b.toNatClampNeg p)) 12 t ∧ (pa (mR (rI (rI S_4 a_14 (upd (eI S_4 a_14) b.toNatClampNeg (nI L_12.length))) a_15 (upd (eI (rI S_4 a_14 (upd (eI S_4 a_14) b.toNatClampNeg (nI L_12.length))) a_15) b.toNatClampNeg p)) 1209 t) fun a_16 => ∃ v_17 : Int32, (isO (rI (rI S_4 a_14 (upd (eI S_4 a_14) b.toNatClampNeg (nI L_12.length))) a_15 (upd (eI (rI S_4 a_14 (upd (eI S_4 a_14) b.toNatClampNeg (nI L_12.length))) a_15) b.toNatClampNeg p)) 17 a_16 ∧ inR (rI (rI S_4 a_14 (upd (eI S_4 a_14) b.toNatClampNeg (nI L_12.length))) a_15 (upd (eI (rI S_4 a_14 (upd (eI S_4 a_14) b.toNatClampNeg (nI L_12.length))) a_15) b.toNatClampNeg p)) a_16 b ∧ v_17 = eI (rI (rI S_4 a_14 (upd (eI S_4 a_14) b.toNatClampNeg (nI L_12.length))) a_15 (upd (eI (rI S_4 a_14 (upd (eI S_4 a_14) b.toNatClampNeg (nI L_12.length))) a_15) b.toNatClampNeg p)) a_16 b.toNatClampNeg ∨ a_16 = (mQ (rI (rI S_4 a_14 (upd (eI S_4 a_14) b.toNatClampNeg (nI L_12.length))) a_15 (upd (eI (rI S_4 a_14 (upd (eI S_4 a_14) b.toNatClampNeg (nI L_12.length))) a_15) b.toNatClampNeg p))).1 ∧ vp_in b 16 ∧ v_17 = mRem b.toNatClampNeg) ∧ (([] : List MV) = [] ∧ mret (some .int) (sp_wmk t b p F X kz Q) [.inr (.inr (some t)), .inl b, .inl p] S (some (.inl v_17)) (rI (rI S_4 a_14 (upd (eI S_4 a_14) b.toNatClampNeg (nI L_12.length))) a_15 (upd (eI (rI S_4 a_14 (upd (eI S_4 a_14) b.toNatClampNeg (nI L_12.length))) a_15) b.toNatClampNeg p)) (0 + 1 + 1) (0 + 6 + 6))))))))))))))) ∧ ((np 4 p) → mthr (sp_wmk t b p F X kz Q) [.inr (.inr (some t)), .inl b, .inl p] S 1 S_1 (0 + 1 + 1) (0 + 6 + 6))))))) ∧ (((0 : Int32) = 0) → mthr (sp_wmk t b p F X kz Q) [.inr (.inr (some t)), .inl b, .inl p] S 1 S (0 + 1) (0 + 6)))))) ∧ (¬ b < 0 → (((8 : Int32) ≤ b → (2 = 2 ∧ (((0 : Int32) = 0 ∨ (0 : Int32) = 1) ∧ 0 + 1 ≤ 2 ∧ 0 + 6 ≤ 12 ∧ ((∀ (S_20 : MM), (S_20 = S ∧ (0 : Int32) = 1) → (isO S_20 12 t ∧ (0 = 0 ∧ (∃ (F_21 : Nat → Nat × Nat) (z_22 : Nat → Nat), (SfA S_20 F_21 t z_22) ∧ 0 + 1 + 1 ≤ 2 ∧ 0 + 6 + 6 ≤ 12 ∧ ((∀ (x_24 : Option Nat) (S_23 : MM), (S_23 = S_20 ∧ ∃ n, n < 4 ∧ p = nI n ∧ x_24 = some (z_22 (30 + n))) → (pa x_24 fun a_25 => isO S_23 11 a_25 ∧ (pa (mR S_23 1101 a_25) fun a_26 => isO S_23 6 a_26 ∧ (0 = 0 ∧ ((pa (mR S_23 601 a_26) fun a_27 => (∃ (d_28 c_29 kk_30 : Nat) (L_31 : List Nat), (AL S_23 a_27 d_28 c_29 kk_30 L_31) ∧ 0 + 1 + 1 ≤ 2 ∧ 0 + 6 + 6 ≤ 12 ∧ ((pa (mR S_20 1209 t) fun a_33 => isO S_23 17 a_33 ∧ inR S_23 a_33 b ∧ (isO (rI S_23 a_33 (upd (eI S_23 a_33) b.toNatClampNeg (nI L_31.length))) 12 t ∧ (pa (mR (rI S_23 a_33 (upd (eI S_23 a_33) b.toNatClampNeg (nI L_31.length))) 1208 t) fun a_34 => isO (rI S_23 a_33 (upd (eI S_23 a_33) b.toNatClampNeg (nI L_31.length))) 17 a_34 ∧ inR (rI S_23 a_33 (upd (eI S_23 a_33) b.toNatClampNeg (nI L_31.length))) a_34 b ∧ (isO (rI (rI S_23 a_33 (upd (eI S_23 a_33) b.toNatClampNeg (nI L_31.length))) a_34 (upd (eI (rI S_23 a_33 (upd (eI S_23 a_33) b.toNatClampNeg (nI L_31.length))) a_34) b.toNatClampNeg p)) 12 t ∧ (pa (mR (rI (rI S_23 a_33 (upd (eI S_23 a_33) b.toNatClampNeg (nI L_31.length))) a_34 (upd (eI (rI S_23 a_33 (upd (eI S_23 a_33) b.toNatClampNeg (nI L_31.length))) a_34) b.toNatClampNeg p)) 1209 t) fun a_35 => ∃ v_36 : Int32, (isO (rI (rI S_23 a_33 (upd (eI S_23 a_33) b.toNatClampNeg (nI L_31.length))) a_34 (upd (eI (rI S_23 a_33 (upd (eI S_23 a_33) b.toNatClampNeg (nI L_31.length))) a_34) b.toNatClampNeg p)) 17 a_35 ∧ inR (rI (rI S_23 a_33 (upd (eI S_23 a_33) b.toNatClampNeg (nI L_31.length))) a_34 (upd (eI (rI S_23 a_33 (upd (eI S_23 a_33) b.toNatClampNeg (nI L_31.length))) a_34) b.toNatClampNeg p)) a_35 b ∧ v_36 = eI (rI (rI S_23 a_33 (upd (eI S_23 a_33) b.toNatClampNeg (nI L_31.length))) a_34 (upd (eI (rI S_23 a_33 (upd (eI S_23 a_33) b.toNatClampNeg (nI L_31.length))) a_34) b.toNatClampNeg p)) a_35 b.toNatClampNeg ∨ a_35 = (mQ (rI (rI S_23 a_33 (upd (eI S_23 a_33) b.toNatClampNeg (nI L_31.length))) a_34 (upd (eI (rI S_23 a_33 (upd (eI S_23 a_33) b.toNatClampNeg (nI L_31.length))) a_34) b.toNatClampNeg p))).1 ∧ vp_in b 16 ∧ v_36 = mRem b.toNatClampNeg) ∧ (([] : List MV) = [] ∧ mret (some .int) (sp_wmk t b p F X kz Q) [.inr (.inr (some t)), .inl b, .inl p] S (some (.inl v_36)) (rI (rI S_23 a_33 (upd (eI S_23 a_33) b.toNatClampNeg (nI L_31.length))) a_34 (upd (eI (rI S_23 a_33 (upd (eI S_23 a_33) b.toNatClampNeg (nI L_31.length))) a_34) b.toNatClampNeg p)) (0 + 1 + 1) (0 + 6 + 6))))))))))))))) ∧ ((np 4 p) → mthr (sp_wmk t b p F X kz Q) [.inr (.inr (some t)), .inl b, .inl p] S 1 S_20 (0 + 1 + 1) (0 + 6 + 6))))))) ∧ (((0 : Int32) = 0) → mthr (sp_wmk t b p F X kz Q) [.inr (.inr (some t)), .inl b, .inl p] S 1 S (0 + 1) (0 + 6)))))) ∧ (¬ (8 : Int32) ≤ b → (2 = 2 ∧ (((1 : Int32) = 0 ∨ (1 : Int32) = 1) ∧ 0 + 1 ≤ 2 ∧ 0 + 6 ≤ 12 ∧ ((∀ (S_39 : MM), (S_39 = S ∧ (1 : Int32) = 1) → (isO S_39 12 t ∧ (0 = 0 ∧ (∃ (F_40 : Nat → Nat × Nat) (z_41 : Nat → Nat), (SfA S_39 F_40 t z_41) ∧ 0 + 1 + 1 ≤ 2 ∧ 0 + 6 + 6 ≤ 12 ∧ ((∀ (x_43 : Option Nat) (S_42 : MM), (S_42 = S_39 ∧ ∃ n, n < 4 ∧ p = nI n ∧ x_43 = some (z_41 (30 + n))) → (pa x_43 fun a_44 => isO S_42 11 a_44 ∧ (pa (mR S_42 1101 a_44) fun a_45 => isO S_42 6 a_45 ∧ (0 = 0 ∧ ((pa (mR S_42 601 a_45) fun a_46 => (∃ (d_47 c_48 kk_49 : Nat) (L_50 : List Nat), (AL S_42 a_46 d_47 c_48 kk_49 L_50) ∧ 0 + 1 + 1 ≤ 2 ∧ 0 + 6 + 6 ≤ 12 ∧ ((pa (mR S_39 1209 t) fun a_52 => isO S_42 17 a_52 ∧ inR S_42 a_52 b ∧ (isO (rI S_42 a_52 (upd (eI S_42 a_52) b.toNatClampNeg (nI L_50.length))) 12 t ∧ (pa (mR (rI S_42 a_52 (upd (eI S_42 a_52) b.toNatClampNeg (nI L_50.length))) 1208 t) fun a_53 => isO (rI S_42 a_52 (upd (eI S_42 a_52) b.toNatClampNeg (nI L_50.length))) 17 a_53 ∧ inR (rI S_42 a_52 (upd (eI S_42 a_52) b.toNatClampNeg (nI L_50.length))) a_53 b ∧ (isO (rI (rI S_42 a_52 (upd (eI S_42 a_52) b.toNatClampNeg (nI L_50.length))) a_53 (upd (eI (rI S_42 a_52 (upd (eI S_42 a_52) b.toNatClampNeg (nI L_50.length))) a_53) b.toNatClampNeg p)) 12 t ∧ (pa (mR (rI (rI S_42 a_52 (upd (eI S_42 a_52) b.toNatClampNeg (nI L_50.length))) a_53 (upd (eI (rI S_42 a_52 (upd (eI S_42 a_52) b.toNatClampNeg (nI L_50.length))) a_53) b.toNatClampNeg p)) 1209 t) fun a_54 => ∃ v_55 : Int32, (isO (rI (rI S_42 a_52 (upd (eI S_42 a_52) b.toNatClampNeg (nI L_50.length))) a_53 (upd (eI (rI S_42 a_52 (upd (eI S_42 a_52) b.toNatClampNeg (nI L_50.length))) a_53) b.toNatClampNeg p)) 17 a_54 ∧ inR (rI (rI S_42 a_52 (upd (eI S_42 a_52) b.toNatClampNeg (nI L_50.length))) a_53 (upd (eI (rI S_42 a_52 (upd (eI S_42 a_52) b.toNatClampNeg (nI L_50.length))) a_53) b.toNatClampNeg p)) a_54 b ∧ v_55 = eI (rI (rI S_42 a_52 (upd (eI S_42 a_52) b.toNatClampNeg (nI L_50.length))) a_53 (upd (eI (rI S_42 a_52 (upd (eI S_42 a_52) b.toNatClampNeg (nI L_50.length))) a_53) b.toNatClampNeg p)) a_54 b.toNatClampNeg ∨ a_54 = (mQ (rI (rI S_42 a_52 (upd (eI S_42 a_52) b.toNatClampNeg (nI L_50.length))) a_53 (upd (eI (rI S_42 a_52 (upd (eI S_42 a_52) b.toNatClampNeg (nI L_50.length))) a_53) b.toNatClampNeg p))).1 ∧ vp_in b 16 ∧ v_55 = mRem b.toNatClampNeg) ∧ (([] : List MV) = [] ∧ mret (some .int) (sp_wmk t b p F X kz Q) [.inr (.inr (some t)), .inl b, .inl p] S (some (.inl v_55)) (rI (rI S_42 a_52 (upd (eI S_42 a_52) b.toNatClampNeg (nI L_50.length))) a_53 (upd (eI (rI S_42 a_52 (upd (eI S_42 a_52) b.toNatClampNeg (nI L_50.length))) a_53) b.toNatClampNeg p)) (0 + 1 + 1) (0 + 6 + 6))))))))))))))) ∧ ((np 4 p) → mthr (sp_wmk t b p F X kz Q) [.inr (.inr (some t)), .inl b, .inl p] S 1 S_39 (0 + 1 + 1) (0 + 6 + 6))))))) ∧ (((1 : Int32) = 0) → mthr (sp_wmk t b p F X kz Q) [.inr (.inr (some t)), .inl b, .inl p] S 1 S (0 + 1) (0 + 6)))))))))
    obtain ⟨z, hz⟩ := hp
    have r8 : mR S 1208 t = some (z 8) := hz.1.1.2.2.1 8 (by decide) (by decide) (by decide) (by decide)
    have r9 : mR S 1209 t = some (z 9) := hz.1.1.2.2.1 9 (by decide) (by decide) (by decide) (by decide)
    obtain ⟨c1, c2, c3, c4⟩ := hz.1.2.1.2.2.2.2.1
    obtain ⟨d1, d2, d3, d4⟩ := hz.1.2.1.2.2.2.2.2.1
    refine ⟨fun h => ⟨rfl, Or.inl rfl, by decide, by decide, rq0 ⟨⟨rfl, Or.inl (np_lo (by decide) h), rfl⟩, Nat.le_of_ble_eq_true rfl, Nat.le_of_ble_eq_true rfl⟩⟩, fun q1 => ⟨fun h => ⟨rfl, Or.inl rfl, by decide, by decide, rq0 ⟨⟨rfl, Or.inl (np_hi (by decide) h), rfl⟩, Nat.le_of_ble_eq_true rfl, Nat.le_of_ble_eq_true rfl⟩⟩, fun q2 => ⟨rfl, Or.inr rfl, by decide, by decide, rq1 ?_⟩⟩⟩
    obtain ⟨i, hi, rfl⟩ := rng (m := 8) (by decide) q1 q2
    have ci : (nI i).toNatClampNeg = i := nI_clamp (by omega)
    refine ⟨hz.1.1.1, rfl, F, z, hz.1.1, by decide, by decide, fun v S3 h => ?_, fun h => ⟨⟨rfl, Or.inr h, rfl⟩, Nat.le_of_ble_eq_true rfl, Nat.le_of_ble_eq_true rfl⟩⟩
    obtain ⟨rfl, n, hn, rfl, rfl⟩ := h
    obtain ⟨A, H, W, r, a', d, ea, kn, kr, cu, hP⟩ := hz.2.1 n hn
    have g := hP.gi
    have r1 : mR S3 1101 (z (30 + n)) = some (A 0) := hP.1.2.2.2.1
    have el : ((List.range (Q.G n).n).map (X n).ad).length = (Q.G n).n := by rw [List.length_map, List.length_range]
    have w := hz.1.mark (m := (Q.G n).n) hi hn
    have hk : Keep (fun b => b = z 9 ∨ b = z 8) S3 (rI (rI S3 (z 9) (upd (eI S3 (z 9)) i (nI (Q.G n).n))) (z 8) (upd (eI (rI S3 (z 9) (upd (eI S3 (z 9)) i (nI (Q.G n).n))) (z 8)) i (nI n))) := Keep.rI (P := fun b => b = z 9 ∨ b = z 8) (Keep.rI (P := fun b => b = z 9 ∨ b = z 8) Keep.rf (Or.inl rfl)) (Or.inr rfl)
    have k20 : Keep (fun b => (F b).1 = 20) S3 (rI (rI S3 (z 9) (upd (eI S3 (z 9)) i (nI (Q.G n).n))) (z 8) (upd (eI (rI S3 (z 9) (upd (eI S3 (z 9)) i (nI (Q.G n).n))) (z 8)) i (nI n))) := hk.mono (fun b _ w => by
      rcases w with w | w <;> rw [w]
      · rw [d3]
      · rw [c3])
    refine ⟨hP.1.1, pa_i r1 ⟨(g 0).1, rfl, pa_i (g 2).1 ⟨_, _, _, _, (g 2).2.2.2, by decide, by decide, pa_i r9 ⟨d1, inRn d2 hi (by decide), hz.1.1.1, pa_i r8 ⟨c1, inRn (S := rI S3 (z 9) _) c2 hi (by decide), hz.1.1.1, pa_i r9 ⟨_, Or.inl ⟨d1, inRn (S := rI (rI S3 (z 9) _) (z 8) _) d2 hi (by decide), rfl⟩, ?_⟩⟩⟩⟩⟩⟩
    rw [ci, el]
    refine ⟨rfl, trivial, ⟨_, rfl, i, n, hi, rfl, hn, rfl, ?_, F, ⟨z, hz.self w (fun _ _ => rfl) rfl rfl rfl rfl rfl rfl rfl k20 (fun _ _ => rfl) (fun b hb => (k20.1 b (hz.fo b hb)).1)⟩, fun _ _ => rfl, k20.mono (fun b _ e => by show cO (F b).1; rw [e]; exact ⟨by decide, by decide⟩)⟩, Nat.le_of_ble_eq_true rfl, Nat.le_of_ble_eq_true rfl⟩
    rw [eI_upd, if_neg (F_ne d3 c3 (by decide)), eI_upd, if_pos rfl]
    exact if_pos rfl
  · exact fun _ _ _ _ _ h => by cases h
theorem u_wmk (l : Launch) (hlt : l.stackTraces = false) : UsX l yX11_mark (Cond.code yX11_mark cX11_mark 3 (some .int)) (some .int) 8 130 12 T_wmk := by
  intro Rc Rs av S cs sl K Kx h
  unfold T_wmk at h
  split at h
  · rename_i t_o b p
    obtain ⟨t, rfl, h_1⟩ := pa_of h
    obtain ⟨F, X, kz, Q, hp, hc, hs, hk, hx0⟩ := h_1
    refine ⟨(sp_wmk t b p F X kz Q), c_wmk l hlt t b p F X kz Q, fun _ _ h9 => ⟨_, _, h9.1, h9.2.choose_spec.1.1.1⟩, ⟨rfl, hp⟩, hc, hs, fun v9 S' h8 => by
      obtain ⟨v8, h7, h8⟩ := h8
      cases h7
      exact hk _ _ h8, fun _ _ q => by
      rcases q with ⟨rfl, q⟩
      · obtain ⟨q, rfl⟩ := q
        exact hx0 q⟩
  · exact h.elim
def I_an (t : Nat) (a p x : Int32) (F : Nat → Nat × Nat) (X : Nat → GX) (kz : Nat → Nat) (Q : Ab) (S : MM) (k : Nat) : KT := fun lo st S1 cs sl => ∃ c i n z g, k = 0 ∧ WTz S F t z X kz Q ∧ i < 8 ∧ a = nI i ∧ n < 4 ∧ p = nI n ∧ mR S 1101 (z (30 + n)) = some g ∧ ((c = 1 ∧ ∃ j, j ≤ visN (Q.G n) (Q.T n) ∧ x = nI j) ∨ (c = 0 ∧ np (visN (Q.G n) (Q.T n) + 1) x)) ∧ lo = [(0, .inr (.inr (some t))), (1, .inl a), (2, .inl p), (3, .inl x), (4, .inr (.inr (some g)))] ∧ st = [.inl c] ∧ S = S1 ∧ cs = 2 ∧ sl = 12
theorem Pe.mv2 {S S' : MM} {F F' : Nat → Nat × Nat} {P : Nat → Prop} {p b : Nat} {A A' : Nat → Nat} {X X' : GX} {G G' : Gr} {T T' : Tr} {H H' : List Nat} {W W' : Nat → Nat} {r a d c : Nat} {E : List (Nat × Nat)} {ea : Nat → Nat} {kn : Nat} {kr : Nat → Nat} {Kn : Nat → Nat → Nat} {cu : Nat} (h : Pe S F p b A X G T H W r a d c E ea kn kr Kn cu) (hG : GI S' F' (p + 1) A' X' G' T' H' W') (h0 : A' 0 = A 0) (hk : Keep P S S') (q : ∀ b x, F b = (p + 11, x) → ¬ P b) (q3 : ∀ b x, F b = (p + 31, x) → ¬ P b) (hf : ∀ b, b ∈ mL S → F' b = F b) (hFO : FO S' F') : Pe S' F' p b A' X' G' T' H' W' r a d c E ea kn kr Kn cu := by
  obtain ⟨⟨w1, w2, w3, w4, w5, w6, w7, w8, w9, w10, w11, w12, w13⟩, h2, h3, h4, h5, h6, h7, h8, h9⟩ := h
  have kb := hk.2.1 b w1.1 (q _ _ w2)
  exact ⟨⟨hk.isO w1, (hf b w1.1).trans w2, (kb.1 _).trans w3, by rw [h0]; exact (kb.2.1 _).trans w4, (kb.2.1 _).trans w5, hk.isO w6, (hk.1 r w6.1).2.2.trans w7, (hf r w6.1).trans w8, hG, hFO, w11, w12, w13⟩, (kb.2.1 _).trans h2, h3.keep hk (q _ _ h3.2.1) (fun e => q _ _ (h3.2.2.1 e)) (fun l hl => q _ _ (h3.2.2.2 l hl).2.1) hf, h4.keep w1.1 hk (q _ _ w2) (q3 _ _ h7) (fun o ho => q3 _ _ (h8 o ho)), (kb.2.1 _).trans h5, hk.isO h6, (hf kn h4.2.1.1).trans h7, fun o ho => (hf _ (h4.2.2.2 o ho).2.1.1).trans (h8 o ho), (hf cu h6.1).trans h9⟩
def T_wan : TR := fun Rc Rs av S cs sl K Kx => match av with
  | [.inr (.inr t_o), .inl a, .inl p, .inl x] => pa t_o fun t => (∃ (F : Nat → Nat × Nat) (X : Nat → GX) (kz : Nat → Nat) (Q : Ab), (WT S F t X kz Q) ∧ cs + 3 ≤ Rc ∧ sl + 18 ≤ Rs ∧ ((∀ (S' : MM), (∃ i n j, i < 8 ∧ a = nI i ∧ n < 4 ∧ p = nI n ∧ x = nI j ∧ ((j = visN (Q.G n) (Q.T n) ∧ wtQ S S' F t X kz (Q.sAn (upF Q.ap i (some n)) (upF Q.an i none))) ∨ ∃ k, TxN (Q.G n) (Q.T n) j k ∧ wtQ S S' F t X kz (Q.sAn (upF Q.ap i (some n)) (upF Q.an i (some k))))) → K none S' (cs + 3) (sl + 18)) ∧ ((np 8 a ∨ np 4 p ∨ ∃ n, n < 4 ∧ p = nI n ∧ np (visN (Q.G n) (Q.T n) + 1) x) → Kx 1 S (cs + 3) (sl + 18))))
  | _ => False
def sp_wan (t : Nat) (a : Int32) (p : Int32) (x : Int32) (F : Nat → Nat × Nat) (X : Nat → GX) (kz : Nat → Nat) (Q : Ab) : Sp := (fun av S => av = [.inr (.inr (some t)), .inl a, .inl p, .inl x] ∧ (WT S F t X kz Q), fun _ S => 3, fun _ S => 18, fun _ S rv S' => rv = none ∧ (∃ i n j, i < 8 ∧ a = nI i ∧ n < 4 ∧ p = nI n ∧ x = nI j ∧ ((j = visN (Q.G n) (Q.T n) ∧ wtQ S S' F t X kz (Q.sAn (upF Q.ap i (some n)) (upF Q.an i none))) ∨ ∃ k, TxN (Q.G n) (Q.T n) j k ∧ wtQ S S' F t X kz (Q.sAn (upF Q.ap i (some n)) (upF Q.an i (some k))))), fun _ S E S' => (E = 1 ∧ (np 8 a ∨ np 4 p ∨ ∃ n, n < 4 ∧ p = nI n ∧ np (visN (Q.G n) (Q.T n) + 1) x) ∧ S' = S))
def tX11_anchor : CD := [(0, .iload_n 1), (1, .ifCond .lt 13), (4, .iload_n 1), (5, .bipush 8), (7, .if_icmp .ge 7), (10, .iconst 1), (11, .goto 4), (14, .iconst 0), (15, .invokestatic 104), (18, .aload_n 0), (19, .iload_n 2), (20, .invokevirtual 108), (23, .getfield 112), (26, .astore 4), (28, .iload_n 3), (29, .ifCond .lt 16), (32, .iload_n 3), (33, .aload 4), (35, .getfield 116), (38, .if_icmp .gt 7), (41, .iconst 1), (42, .goto 4), (45, .iconst 0), (46, .invokestatic 104), (49, .aload_n 0), (50, .getfield 57), (53, .iload_n 1), (54, .iload_n 2), (55, .iastore), (56, .aload_n 0), (57, .getfield 62), (60, .iload_n 1), (61, .iload_n 3), (62, .aload 4), (64, .getfield 116), (67, .if_icmp .ne 7), (70, .aconst_null), (71, .goto 9), (74, .aload 4), (76, .iload_n 3), (77, .invokevirtual 234), (80, .aastore), (81, .return_)]
set_option maxRecDepth 100000 in
theorem kX11_anchor : chk cX11_anchor tX11_anchor = true := by decide +kernel
theorem vX11_anchor_104 : ∀ w ∈ ([.methodLink RX11 104 yX11_require, .static yX11_require, .initialized yX11_require.cls, .code yX11_require cX11_require 1 none] : List Cond), w ∈ lw_good := List.forall_mem_cons.mpr ⟨mgd 801 (by decide +kernel) (by decide +kernel), List.forall_mem_cons.mpr ⟨mgd 802 (by decide +kernel) (by decide +kernel), List.forall_mem_cons.mpr ⟨mgd 121 (by decide +kernel) (by decide +kernel), List.forall_mem_cons.mpr ⟨mgd 803 (by decide +kernel) (by decide +kernel), fun _ h => absurd h List.not_mem_nil⟩⟩⟩⟩
theorem vX11_anchor_108 : ∀ w ∈ ([.methodLink RX11 108 yX11_peerOf, .instanceMethod yX11_peerOf, .selects yX11_peerOf.cls yX11_peerOf yX11_peerOf, .initialized yX11_peerOf.cls, .code yX11_peerOf cX11_peerOf 2 (some (.object "WeaveText$Peer"))] : List Cond), w ∈ lw_good := List.forall_mem_cons.mpr ⟨mgd 827 (by decide +kernel) (by decide +kernel), List.forall_mem_cons.mpr ⟨mgd 829 (by decide +kernel) (by decide +kernel), List.forall_mem_cons.mpr ⟨mgd 1 (by decide +kernel) (by decide +kernel), List.forall_mem_cons.mpr ⟨mgd 121 (by decide +kernel) (by decide +kernel), List.forall_mem_cons.mpr ⟨mgd 830 (by decide +kernel) (by decide +kernel), fun _ h => absurd h List.not_mem_nil⟩⟩⟩⟩⟩
theorem vX11_anchor_234 : ∀ w ∈ ([.methodLink RX11 234 yX5_textNode, .instanceMethod yX5_textNode, .selects yX5_textNode.cls yX5_textNode yX5_textNode, .initialized yX5_textNode.cls, .code yX5_textNode cX5_textNode 2 (some (.object "WeaveText$Event"))] : List Cond), w ∈ lw_good := List.forall_mem_cons.mpr ⟨mgd 1154 (by decide +kernel) (by decide +kernel), List.forall_mem_cons.mpr ⟨mgd 1155 (by decide +kernel) (by decide +kernel), List.forall_mem_cons.mpr ⟨mgd 1156 (by decide +kernel) (by decide +kernel), List.forall_mem_cons.mpr ⟨mgd 125 (by decide +kernel) (by decide +kernel), List.forall_mem_cons.mpr ⟨mgd 1157 (by decide +kernel) (by decide +kernel), fun _ h => absurd h List.not_mem_nil⟩⟩⟩⟩⟩
set_option maxRecDepth 100000 in
set_option maxHeartbeats 2000000 in
theorem c_wan (l : Launch) (hlt : l.stackTraces = false) : ∀ (t : Nat) (a : Int32) (p : Int32) (x : Int32) (F : Nat → Nat × Nat) (X : Nat → GX) (kz : Nat → Nat) (Q : Ab), CtX l yX11_anchor (Cond.code yX11_anchor cX11_anchor 5 none) none 8 151 (sp_wan t a p x F X kz Q) := by
  intro t a p x F X kz Q
  refine CtX.of hlt (fX11, nX11, aX11, iX11, lX11, [(104, 2, 1, 0, T_wrq), (108, 0, 2, 3, T_wpo), (234, 0, 2, 3, T_gtn)], qX11, gX11, []) false tX11_anchor (fun _ S => look [(46, ([0,1,2,3,4], I_an t a p x F X kz Q S))]) (by decide) (by decide) kX11_anchor ⟨_, _, rfl⟩ fX11_ok nX11_ok aX11_ok iX11_ok lX11_ok (fun p e R s m args below meth c Q D cy z r A C hR1 hR2 => List.forall_mem_cons.mpr ⟨cOK_use (fun _ _ _ _ _ _ _ _ h => let ⟨sp, h1, _, h3⟩ := u_wrq l hlt _ _ _ _ _ _ _ _ h; ⟨sp, cOKx_S C h1 vX11_anchor_104 ⟨by decide, by decide, by decide +kernel⟩ ⟨by rw [hR1]; decide, by rw [hR2]; decide⟩, h3⟩), List.forall_mem_cons.mpr ⟨cOK_use (fun _ _ _ _ _ _ _ _ h => let ⟨sp, h1, h2, h3⟩ := u_wpo l hlt _ _ _ _ _ _ _ _ h; ⟨sp, cOKx_V C h1 vX11_anchor_108 ⟨by decide, by decide, by decide +kernel⟩ ⟨by rw [hR1]; decide, by rw [hR2]; decide⟩ (k := 12) (T := TX11) (N := 15) rfl (by decide) h2, h3⟩), List.forall_mem_cons.mpr ⟨cOK_use (fun _ _ _ _ _ _ _ _ h => let ⟨sp, h1, h2, h3⟩ := u_gtn l _ _ _ _ _ _ _ _ h; ⟨sp, cOK_V C h1 vX11_anchor_234 ⟨by decide, by decide, by decide +kernel⟩ ⟨by rw [hR1]; decide, by rw [hR2]; decide⟩ (k := 6) (T := TX5) (N := 12) rfl (by decide) h2, h3⟩), fun _ h => absurd h List.not_mem_nil⟩⟩⟩) qX11_ok gX11_ok (fun _ h => absurd h List.not_mem_nil) ?_ ?_
  · rintro _ S ⟨rfl, hp⟩
    refine ⟨Nat.le_of_ble_eq_true rfl, 300, ?_⟩
    show ((a < 0 → (2 = 2 ∧ (((0 : Int32) = 0 ∨ (0 : Int32) = 1) ∧ 0 + 1 ≤ 3 ∧ 0 + 6 ≤ 18 ∧ ((∀ (S_1 : MM), (S_1 = S ∧ (0 : Int32) = 1) → (0 = 0 ∧ (∃ (F_2 : Nat → Nat × Nat) (z_3 : Nat → Nat), (SfA S_1 F_2 t z_3) ∧ 0 + 1 + 1 ≤ 3 ∧ 0 + 6 + 6 ≤ 18 ∧ ((∀ (x_5 : Option Nat) (S_4 : MM), (S_4 = S_1 ∧ ∃ n, n < 4 ∧ p = nI n ∧ x_5 = some (z_3 (30 + n))) → (pa x_5 fun a_6 => isO S_4 11 a_6 ∧ ((x < 0 → (∃ k1, I_an t a p x F X kz Q S k1 [(0, .inr (.inr (some t))), (1, .inl a), (2, .inl p), (3, .inl x), (4, .inr (.inr (mR S_4 1101 a_6)))] [.inl (0 : Int32)] S_4 (0 + 1 + 1) (0 + 6 + 6))) ∧ (¬ x < 0 → (pa (mR S_4 1101 a_6) fun a_7 => isO S_4 6 a_7 ∧ (((mI S_4 605 a_7) < x → (∃ k1, I_an t a p x F X kz Q S k1 [(0, .inr (.inr (some t))), (1, .inl a), (2, .inl p), (3, .inl x), (4, .inr (.inr (mR S_4 1101 a_6)))] [.inl (0 : Int32)] S_4 (0 + 1 + 1) (0 + 6 + 6))) ∧ (¬ (mI S_4 605 a_7) < x → (∃ k1, I_an t a p x F X kz Q S k1 [(0, .inr (.inr (some t))), (1, .inl a), (2, .inl p), (3, .inl x), (4, .inr (.inr (mR S_4 1101 a_6)))] [.inl (1 : Int32)] S_4 (0 + 1 + 1) (0 + 6 + 6))))))))) ∧ ((np 4 p) → mthr (sp_wan t a p x F X kz Q) [.inr (.inr (some t)), .inl a, .inl p, .inl x] S 1 S_1 (0 + 1 + 1) (0 + 6 + 6)))))) ∧ (((0 : Int32) = 0) → mthr (sp_wan t a p x F X kz Q) [.inr (.inr (some t)), .inl a, .inl p, .inl x] S 1 S (0 + 1) (0 + 6)))))) ∧ (¬ a < 0 → (((8 : Int32) ≤ a → (2 = 2 ∧ (((0 : Int32) = 0 ∨ (0 : Int32) = 1) ∧ 0 + 1 ≤ 3 ∧ 0 + 6 ≤ 18 ∧ ((∀ (S_10 : MM), (S_10 = S ∧ (0 : Int32) = 1) → (0 = 0 ∧ (∃ (F_11 : Nat → Nat × Nat) (z_12 : Nat → Nat), (SfA S_10 F_11 t z_12) ∧ 0 + 1 + 1 ≤ 3 ∧ 0 + 6 + 6 ≤ 18 ∧ ((∀ (x_14 : Option Nat) (S_13 : MM), (S_13 = S_10 ∧ ∃ n, n < 4 ∧ p = nI n ∧ x_14 = some (z_12 (30 + n))) → (pa x_14 fun a_15 => isO S_13 11 a_15 ∧ ((x < 0 → (∃ k1, I_an t a p x F X kz Q S k1 [(0, .inr (.inr (some t))), (1, .inl a), (2, .inl p), (3, .inl x), (4, .inr (.inr (mR S_13 1101 a_15)))] [.inl (0 : Int32)] S_13 (0 + 1 + 1) (0 + 6 + 6))) ∧ (¬ x < 0 → (pa (mR S_13 1101 a_15) fun a_16 => isO S_13 6 a_16 ∧ (((mI S_13 605 a_16) < x → (∃ k1, I_an t a p x F X kz Q S k1 [(0, .inr (.inr (some t))), (1, .inl a), (2, .inl p), (3, .inl x), (4, .inr (.inr (mR S_13 1101 a_15)))] [.inl (0 : Int32)] S_13 (0 + 1 + 1) (0 + 6 + 6))) ∧ (¬ (mI S_13 605 a_16) < x → (∃ k1, I_an t a p x F X kz Q S k1 [(0, .inr (.inr (some t))), (1, .inl a), (2, .inl p), (3, .inl x), (4, .inr (.inr (mR S_13 1101 a_15)))] [.inl (1 : Int32)] S_13 (0 + 1 + 1) (0 + 6 + 6))))))))) ∧ ((np 4 p) → mthr (sp_wan t a p x F X kz Q) [.inr (.inr (some t)), .inl a, .inl p, .inl x] S 1 S_10 (0 + 1 + 1) (0 + 6 + 6)))))) ∧ (((0 : Int32) = 0) → mthr (sp_wan t a p x F X kz Q) [.inr (.inr (some t)), .inl a, .inl p, .inl x] S 1 S (0 + 1) (0 + 6)))))) ∧ (¬ (8 : Int32) ≤ a → (2 = 2 ∧ (((1 : Int32) = 0 ∨ (1 : Int32) = 1) ∧ 0 + 1 ≤ 3 ∧ 0 + 6 ≤ 18 ∧ ((∀ (S_19 : MM), (S_19 = S ∧ (1 : Int32) = 1) → (0 = 0 ∧ (∃ (F_20 : Nat → Nat × Nat) (z_21 : Nat → Nat), (SfA S_19 F_20 t z_21) ∧ 0 + 1 + 1 ≤ 3 ∧ 0 + 6 + 6 ≤ 18 ∧ ((∀ (x_23 : Option Nat) (S_22 : MM), (S_22 = S_19 ∧ ∃ n, n < 4 ∧ p = nI n ∧ x_23 = some (z_21 (30 + n))) → (pa x_23 fun a_24 => isO S_22 11 a_24 ∧ ((x < 0 → (∃ k1, I_an t a p x F X kz Q S k1 [(0, .inr (.inr (some t))), (1, .inl a), (2, .inl p), (3, .inl x), (4, .inr (.inr (mR S_22 1101 a_24)))] [.inl (0 : Int32)] S_22 (0 + 1 + 1) (0 + 6 + 6))) ∧ (¬ x < 0 → (pa (mR S_22 1101 a_24) fun a_25 => isO S_22 6 a_25 ∧ (((mI S_22 605 a_25) < x → (∃ k1, I_an t a p x F X kz Q S k1 [(0, .inr (.inr (some t))), (1, .inl a), (2, .inl p), (3, .inl x), (4, .inr (.inr (mR S_22 1101 a_24)))] [.inl (0 : Int32)] S_22 (0 + 1 + 1) (0 + 6 + 6))) ∧ (¬ (mI S_22 605 a_25) < x → (∃ k1, I_an t a p x F X kz Q S k1 [(0, .inr (.inr (some t))), (1, .inl a), (2, .inl p), (3, .inl x), (4, .inr (.inr (mR S_22 1101 a_24)))] [.inl (1 : Int32)] S_22 (0 + 1 + 1) (0 + 6 + 6))))))))) ∧ ((np 4 p) → mthr (sp_wan t a p x F X kz Q) [.inr (.inr (some t)), .inl a, .inl p, .inl x] S 1 S_19 (0 + 1 + 1) (0 + 6 + 6)))))) ∧ (((1 : Int32) = 0) → mthr (sp_wan t a p x F X kz Q) [.inr (.inr (some t)), .inl a, .inl p, .inl x] S 1 S (0 + 1) (0 + 6)))))))))
    obtain ⟨z, hz⟩ := hp
    refine ⟨fun h => ⟨rfl, Or.inl rfl, by decide, by decide, rq0 ⟨⟨rfl, Or.inl (np_lo (by decide) h), rfl⟩, Nat.le_of_ble_eq_true rfl, Nat.le_of_ble_eq_true rfl⟩⟩, fun q1 => ⟨fun h => ⟨rfl, Or.inl rfl, by decide, by decide, rq0 ⟨⟨rfl, Or.inl (np_hi (by decide) h), rfl⟩, Nat.le_of_ble_eq_true rfl, Nat.le_of_ble_eq_true rfl⟩⟩, fun q2 => ⟨rfl, Or.inr rfl, by decide, by decide, rq1 ?_⟩⟩⟩
    obtain ⟨i, hi, rfl⟩ := rng (m := 8) (by decide) q1 q2
    refine ⟨rfl, F, z, hz.1.1, by decide, by decide, fun v S3 h => ?_, fun h => ⟨⟨rfl, Or.inr (Or.inl h), rfl⟩, Nat.le_of_ble_eq_true rfl, Nat.le_of_ble_eq_true rfl⟩⟩
    obtain ⟨rfl, n, hn, rfl, rfl⟩ := h
    obtain ⟨A, H, W, r, a', d, ea, kn, kr, cu, hP⟩ := hz.2.1 n hn
    have g := hP.gi
    have r1 : mR S3 1101 (z (30 + n)) = some (A 0) := hP.1.2.2.2.1
    have m5 : mI S3 605 (A 0) = nI (visN (Q.G n) (Q.T n)) := g 6
    have vl := g.vl
    refine pa_i rfl ?_
    rw [r1]
    have bad : np (visN (Q.G n) (Q.T n) + 1) x → ∃ k1, I_an t (nI i) (nI n) x F X kz Q S3 k1 [(0, .inr (.inr (some t))), (1, .inl (nI i)), (2, .inl (nI n)), (3, .inl x), (4, .inr (.inr (some (A 0))))] [.inl 0] S3 (0 + 1 + 1) (0 + 6 + 6) := fun q => ⟨0, 0, i, n, z, A 0, rfl, hz, hi, rfl, hn, rfl, r1, Or.inr ⟨rfl, q⟩, rfl, rfl, rfl, rfl, rfl⟩
    refine ⟨hP.1.1, fun q => bad (np_lo (by omega) q), fun q3 => ⟨(g 0).1, ?_⟩⟩
    rw [m5]
    obtain ⟨j, hj, rfl⟩ := nI_of q3
    refine ⟨fun q => bad (fun j2 hj2 e => ?_), fun q => ⟨0, 1, i, n, z, A 0, rfl, hz, hi, rfl, hn, rfl, r1, Or.inl ⟨rfl, j, ?_, rfl⟩, rfl, rfl, rfl, rfl, rfl⟩⟩
    · have := (nI_ltI (by omega) hj).1 q
      have := (nI_eq hj (by omega)).1 e
      omega
    · exact Nat.le_of_not_lt (fun w => q ((nI_ltI (by omega) hj).2 w))
  · intro av S hpre pc I hI k lo st S1 cs sl h
    obtain ⟨rfl, hp⟩ := hpre
    have hm := look_in hI
    rw [List.mem_singleton] at hm
    cases hm
    obtain ⟨c, i, n, z, g, rfl, hz, hi, hai, hn, hpn, r1, hc, rfl, rfl, rfl, rfl, rfl⟩ := h
    refine ⟨300, ?_⟩
    show (2 = 2 ∧ ((c = 0 ∨ c = 1) ∧ 2 + 1 ≤ 3 ∧ 12 + 6 ≤ 18 ∧ ((∀ (S_1 : MM), (S_1 = S ∧ c = 1) → (isO S_1 12 t ∧ (pa (mR S_1 1213 t) fun a_2 => isO S_1 17 a_2 ∧ inR S_1 a_2 a ∧ (isO (rI S_1 a_2 (upd (eI S_1 a_2) a.toNatClampNeg p)) 12 t ∧ (isO (rI S_1 a_2 (upd (eI S_1 a_2) a.toNatClampNeg p)) 6 g ∧ ((¬ x = (mI (rI S_1 a_2 (upd (eI S_1 a_2) a.toNatClampNeg p)) 605 g) → (0 = 0 ∧ (∃ (x_3 : Nat), x = nI x_3 ∧ (∃ (F_4 : Nat → Nat × Nat) (i_5 : Nat) (A_6 : Nat → Nat) (X_7 : GX) (G_8 : Gr) (T_9 : Tr) (H_10 : List Nat) (W_11 : Nat → Nat), (g = A_6 0 ∧ GI (rI S_1 a_2 (upd (eI S_1 a_2) a.toNatClampNeg p)) F_4 i_5 A_6 X_7 G_8 T_9 H_10 W_11 ∧ x_3 < visN G_8 T_9) ∧ 2 + 1 ≤ 3 ∧ 12 + 6 ≤ 18 ∧ (∀ (x_13 : Option Nat) (S_12 : MM), (tnP (rI S_1 a_2 (upd (eI S_1 a_2) a.toNatClampNeg p)) S_12 F_4 i_5 A_6 X_7 G_8 T_9 H_10 x_3 x_13) → (pa (mR (rI S_1 a_2 (upd (eI S_1 a_2) a.toNatClampNeg p)) 1214 t) fun a_14 => a_14 ∈ mL S_12 ∧ ¬ mK S_12 a_14 < 21 ∧ mK S_12 a_14 < 29 ∧ inR S_12 a_14 a ∧ (∀ w_15, x_13 = some w_15 → w_15 ∈ mL S_12 ∧ (mK S_12 a_14 = 21 ∧ mK S_12 w_15 = 1 ∨ mK S_12 a_14 = 22 ∧ mK S_12 w_15 = 2 ∨ mK S_12 a_14 = 23 ∧ mK S_12 w_15 = 5 ∨ mK S_12 a_14 = 24 ∧ mK S_12 w_15 = 11 ∨ mK S_12 a_14 = 25 ∧ mK S_12 w_15 = 13 ∨ mK S_12 a_14 = 26 ∧ (mK S_12 w_15 = 4 ∨ mK S_12 w_15 = 5) ∨ mK S_12 a_14 = 27 ∧ mK S_12 w_15 = 16 ∨ mK S_12 a_14 = 28 ∧ mK S_12 w_15 = 17)) ∧ (([] : List MV) = [] ∧ mret none (sp_wan t a p x F X kz Q) [.inr (.inr (some t)), .inl a, .inl p, .inl x] S none (rR S_12 a_14 (va_up (eR S_12 a_14) a.toNatClampNeg x_13)) (2 + 1) (12 + 6)))))))) ∧ (x = (mI (rI S_1 a_2 (upd (eI S_1 a_2) a.toNatClampNeg p)) 605 g) → (pa (mR (rI S_1 a_2 (upd (eI S_1 a_2) a.toNatClampNeg p)) 1214 t) fun a_16 => a_16 ∈ mL (rI S_1 a_2 (upd (eI S_1 a_2) a.toNatClampNeg p)) ∧ ¬ mK (rI S_1 a_2 (upd (eI S_1 a_2) a.toNatClampNeg p)) a_16 < 21 ∧ mK (rI S_1 a_2 (upd (eI S_1 a_2) a.toNatClampNeg p)) a_16 < 29 ∧ inR (rI S_1 a_2 (upd (eI S_1 a_2) a.toNatClampNeg p)) a_16 a ∧ (∀ w_17, none = some w_17 → w_17 ∈ mL (rI S_1 a_2 (upd (eI S_1 a_2) a.toNatClampNeg p)) ∧ (mK (rI S_1 a_2 (upd (eI S_1 a_2) a.toNatClampNeg p)) a_16 = 21 ∧ mK (rI S_1 a_2 (upd (eI S_1 a_2) a.toNatClampNeg p)) w_17 = 1 ∨ mK (rI S_1 a_2 (upd (eI S_1 a_2) a.toNatClampNeg p)) a_16 = 22 ∧ mK (rI S_1 a_2 (upd (eI S_1 a_2) a.toNatClampNeg p)) w_17 = 2 ∨ mK (rI S_1 a_2 (upd (eI S_1 a_2) a.toNatClampNeg p)) a_16 = 23 ∧ mK (rI S_1 a_2 (upd (eI S_1 a_2) a.toNatClampNeg p)) w_17 = 5 ∨ mK (rI S_1 a_2 (upd (eI S_1 a_2) a.toNatClampNeg p)) a_16 = 24 ∧ mK (rI S_1 a_2 (upd (eI S_1 a_2) a.toNatClampNeg p)) w_17 = 11 ∨ mK (rI S_1 a_2 (upd (eI S_1 a_2) a.toNatClampNeg p)) a_16 = 25 ∧ mK (rI S_1 a_2 (upd (eI S_1 a_2) a.toNatClampNeg p)) w_17 = 13 ∨ mK (rI S_1 a_2 (upd (eI S_1 a_2) a.toNatClampNeg p)) a_16 = 26 ∧ (mK (rI S_1 a_2 (upd (eI S_1 a_2) a.toNatClampNeg p)) w_17 = 4 ∨ mK (rI S_1 a_2 (upd (eI S_1 a_2) a.toNatClampNeg p)) w_17 = 5) ∨ mK (rI S_1 a_2 (upd (eI S_1 a_2) a.toNatClampNeg p)) a_16 = 27 ∧ mK (rI S_1 a_2 (upd (eI S_1 a_2) a.toNatClampNeg p)) w_17 = 16 ∨ mK (rI S_1 a_2 (upd (eI S_1 a_2) a.toNatClampNeg p)) a_16 = 28 ∧ mK (rI S_1 a_2 (upd (eI S_1 a_2) a.toNatClampNeg p)) w_17 = 17)) ∧ (([] : List MV) = [] ∧ mret none (sp_wan t a p x F X kz Q) [.inr (.inr (some t)), .inl a, .inl p, .inl x] S none (rR (rI S_1 a_2 (upd (eI S_1 a_2) a.toNatClampNeg p)) a_16 (va_up (eR (rI S_1 a_2 (upd (eI S_1 a_2) a.toNatClampNeg p)) a_16) a.toNatClampNeg none)) (2 + 1) (12 + 6)))))))))) ∧ ((c = 0) → mthr (sp_wan t a p x F X kz Q) [.inr (.inr (some t)), .inl a, .inl p, .inl x] S 1 S (2 + 1) (12 + 6)))))
    refine ⟨rfl, hc.elim (fun q => Or.inr q.1) (fun q => Or.inl q.1), by decide, by decide, fun S3 h3 => ?_, fun h0 => ⟨⟨rfl, Or.inr (Or.inr ⟨n, hn, hpn, hc.elim (fun q => absurd (q.1.symm.trans h0) (by decide)) (fun q => q.2)⟩), rfl⟩, Nat.le_of_ble_eq_true rfl, Nat.le_of_ble_eq_true rfl⟩⟩
    obtain ⟨rfl, rfl⟩ := h3
    obtain ⟨j, hj, exj⟩ : ∃ j, j ≤ visN (Q.G n) (Q.T n) ∧ x = nI j := hc.elim (fun q => q.2) (fun q => absurd q.1 (by decide))
    obtain ⟨A, H, W, r, a', d, ea, kn, kr, cu, hP⟩ := hz.2.1 n hn
    have gi := hP.gi
    have e0 : g = A 0 := Option.some.inj (r1.symm.trans hP.1.2.2.2.1)
    subst e0
    have vl := gi.vl
    have r13 : mR S3 1213 t = some (z 13) := hz.1.1.2.2.1 13 (by decide) (by decide) (by decide) (by decide)
    have r14 : mR S3 1214 t = some (z 14) := hz.1.1.2.2.1 14 (by decide) (by decide) (by decide) (by decide)
    obtain ⟨f1, f2, f3, f8, f9, f10, f13, f14⟩ := hz.1.ne
    obtain ⟨⟨a1, a2, a3, a4⟩, ⟨b1, b2, b3, b4⟩, n5⟩ := hz.1.2.2.2
    have n34 : z 13 ≠ z 14 := F_ne f13 f14 (by decide)
    have ci : a.toNatClampNeg = i := by rw [hai]; exact nI_clamp (by omega)
    have ir : ∀ {S9 : MM} {b : Nat}, mN S9 b = 8 → inR S9 b a := fun {S9 b} h => by rw [hai]; exact inRn h hi (by decide)
    rw [ci]
    have k1 : Keep (fun b => b = z 13) S3 (rI S3 (z 13) (upd (eI S3 (z 13)) i p)) := Keep.rI (P := fun b => b = z 13) Keep.rf rfl
    have q13 : ∀ o : Nat, o ≠ 20 → ∀ b, (F b).1 = o → ¬ b = z 13 := fun o ho b e w => ho (by rw [← e, w, f13])
    have g1 : GI (rI S3 (z 13) (upd (eI S3 (z 13)) i p)) F (n + 1) A (X n) (Q.G n) (Q.T n) H W := gi.keep k1 (q13 (n + 1) (by omega)) hz.fo (by omega) (fun _ _ => rfl)
    have m5 : mI (rI S3 (z 13) (upd (eI S3 (z 13)) i p)) 605 (A 0) = nI (visN (Q.G n) (Q.T n)) := gi 6
    have fin : ∀ (S9 : MM) (o : Option Nat), (∀ k, o = some k → k < (Q.G n).n) → Keep (fun b => b = z 13 ∨ b = z 14 ∨ (F b).1 = n + 1) S3 S9 → (∀ b, eI S9 (z 13) b = if b = i then nI n else eI S3 (z 13) b) → (∀ b, eR S9 (z 14) b = if b = i then o.map (X n).ad else eR S3 (z 14) b) → (∃ H' W', GI S9 F (n + 1) A (X n) (Q.G n) (Q.T n) H' W') → wtQ S3 S9 F t X kz (Q.sAn (upF Q.ap i (some n)) (upF Q.an i o)) := fun S9 o ho hk9 e13 e14 hg => by
      have q : ∀ {b r}, F b = (20, r) → r ≠ 7 → r ≠ 8 → ¬ (b = z 13 ∨ b = z 14 ∨ (F b).1 = n + 1) := fun {b r} e r7 r8 w => by
        rcases w with w | w | w
        · exact F_ne e f13 r7 w
        · exact F_ne e f14 r8 w
        · rw [e] at w; have w : 20 = n + 1 := w; omega
      have s9 := hz.1.anchor hi hn ho hk9 (q f1 (by decide) (by decide)) (q f2 (by decide) (by decide)) (q f3 (by decide) (by decide)) (q f8 (by decide) (by decide)) (q f9 (by decide) (by decide)) (q f10 (by decide) (by decide)) e13 e14
      have kO : Keep (fun b => (F b).1 = 20 ∨ (F b).1 = n + 1) S3 S9 := hk9.mono (fun b _ w => by
        rcases w with w | w | w
        · rw [w, f13]; exact Or.inl rfl
        · rw [w, f14]; exact Or.inl rfl
        · exact Or.inr w)
      have fo9 : FO S9 F := fun b hb => (kO.1 b (hz.fo b hb)).1
      obtain ⟨H', W', hg⟩ := hg
      refine ⟨F, ⟨z, hz.mv (O := fun o => o = 20 ∨ o = n + 1) kO (fun _ _ => rfl) fo9 s9 (fun p9 hp9 => ?_) (Or.inr ⟨(fun w => by replace w : 21 = 20 ∨ 21 = n + 1 := w; omega), rfl, rfl⟩) (Or.inr ⟨(fun w => by replace w : 22 = 20 ∨ 22 = n + 1 := w; omega), rfl⟩) (fun k hk => Or.inr ⟨(fun w => by replace w : 50 + k = 20 ∨ 50 + k = n + 1 := w; omega), rfl, rfl⟩) (Or.inr ⟨(fun w => by replace w : 23 = 20 ∨ 23 = n + 1 := w; omega), fun _ _ _ => rfl⟩) (Or.inr (fun w => by replace w : 24 = 20 ∨ 24 = n + 1 := w; omega)) (Or.inr ⟨(fun w => by replace w : 25 = 20 ∨ 25 = n + 1 := w; omega), rfl, rfl⟩)⟩, fun _ _ => rfl, kO.mono (fun b _ e => ?_)⟩
      · by_cases e : p9 = n
        · subst e
          refine Or.inl ⟨A, H', W', r, a', d, ea, kn, kr, cu, ?_⟩
          have kp : Keep (fun b => b = z 13 ∨ b = z 14 ∨ (F b).1 = p9 + 1) S3 S9 := hk9
          exact hP.mv2 hg rfl kp (fun b x e w => by
            rcases w with w | w | w
            · rw [w, f13] at e; injection e with e1 _; omega
            · rw [w, f14] at e; injection e with e1 _; omega
            · rw [e] at w; have w : p9 + 11 = p9 + 1 := w; omega) (fun b x e w => by
            rcases w with w | w | w
            · rw [w, f13] at e; injection e with e1 _; omega
            · rw [w, f14] at e; injection e with e1 _; omega
            · rw [e] at w; have w : p9 + 31 = p9 + 1 := w; omega) (fun _ _ => rfl) fo9
        · exact Or.inr ⟨(fun w => by replace w : p9 + 1 = 20 ∨ p9 + 1 = n + 1 := w; omega), (fun w => by replace w : p9 + 11 = 20 ∨ p9 + 11 = n + 1 := w; omega), (fun w => by replace w : p9 + 31 = 20 ∨ p9 + 31 = n + 1 := w; omega), rfl, rfl, rfl, rfl, rfl, rfl⟩
      · show cO (F b).1
        rcases e with e | e <;> rw [e]
        · exact ⟨by decide, by decide⟩
        · exact cO_g hn
    have e13a : ∀ b, eI (rI S3 (z 13) (upd (eI S3 (z 13)) i p)) (z 13) b = if b = i then nI n else eI S3 (z 13) b := fun b => by
      rw [eI_upd, if_pos rfl, hpn]; rfl
    refine ⟨hz.1.1.1, pa_i r13 ⟨a1, ir a2, hz.1.1.1, (gi 0).1, ?_⟩⟩
    rw [m5]
    refine ⟨fun nj => ?_, fun ej => ?_⟩
    · have hj2 : j < visN (Q.G n) (Q.T n) := by
        rcases Nat.lt_or_ge j (visN (Q.G n) (Q.T n)) with w | w
        · exact w
        · exact absurd (by rw [exj, show j = visN (Q.G n) (Q.T n) by omega]) nj
      refine ⟨rfl, j, exj, F, n + 1, A, X n, Q.G n, Q.T n, H, W, ⟨rfl, g1, hj2⟩, by decide, by decide, fun v S4 h4 => ?_⟩
      obtain ⟨k, rfl, t1, t2, t3, t4⟩ := h4
      have o14 : isO S4 23 (z 14) := t4.isO (k1.isO b1)
      have n14 : mN S4 (z 14) = 8 := (t4.1 _ (k1.isO b1).1).2.2.trans b2
      have q4 : ∀ {b r}, F b = (20, r) → ¬ (F b).1 = n + 1 := fun {b r} e w => by rw [e] at w; have w : 20 = n + 1 := w; omega
      have k9 : Keep (fun b => b = z 13 ∨ b = z 14 ∨ (F b).1 = n + 1) S3 (rR S4 (z 14) (va_up (eR S4 (z 14)) i (some ((X n).ad k)))) := Keep.rR (P := fun b => b = z 13 ∨ b = z 14 ∨ (F b).1 = n + 1) ((k1.mono (fun b _ w => Or.inl w)).tr (t4.mono (fun b _ w => Or.inr (Or.inr w)))) (Or.inr (Or.inl rfl))
      have kz9 : Keep (fun b => b = z 14) S4 (rR S4 (z 14) (va_up (eR S4 (z 14)) i (some ((X n).ad k)))) := Keep.rR (P := fun b => b = z 14) Keep.rf rfl
      have ok : isO S4 5 ((X n).ad k) := (t3.ev.2.1 k t2).1
      refine pa_i r14 ⟨o14.1, by rw [o14.2]; decide, by rw [o14.2]; decide, ir n14, fun w hw => ?_, rfl, trivial, ⟨rfl, i, n, j, hi, hai, hn, hpn, exj, Or.inr ⟨k, t1, fin _ (some k) (fun k2 e => by cases e; exact t2) k9 (fun b => ?_) (fun b => ?_) ⟨H, _, t3.keep kz9 (fun b e w => q4 f14 (by rw [← w]; exact e)) (fun b hb => (t4.1 b (hz.fo b hb)).1) (by omega) (fun _ _ => rfl)⟩⟩⟩, Nat.le_of_ble_eq_true rfl, Nat.le_of_ble_eq_true rfl⟩
      · cases hw
        exact ⟨ok.1, Or.inr (Or.inr (Or.inl ⟨o14.2, ok.2⟩))⟩
      · rw [show eI (rR S4 (z 14) (va_up (eR S4 (z 14)) i (some ((X n).ad k)))) (z 13) = eI S4 (z 13) from rfl, (t4.2.1 _ (k1.isO a1).1 (q4 f13)).2.2.2.1]
        exact e13a b
      · show va_up (eR S4) (z 14) (va_up (eR S4 (z 14)) i (some ((X n).ad k))) (z 14) b = _
        rw [va_up_self, (t4.2.1 _ (k1.isO b1).1 (q4 f14)).2.2.2.2.2]
        by_cases e : b = i
        · rw [if_pos e, e, va_up_self]; rfl
        · rw [if_neg e, va_up_ne _ _ e]; rfl
    · have ejn : j = visN (Q.G n) (Q.T n) := (nI_eq (by omega) (by omega)).1 (exj.symm.trans ej)
      have k9 : Keep (fun b => b = z 13 ∨ b = z 14 ∨ (F b).1 = n + 1) S3 (rR (rI S3 (z 13) (upd (eI S3 (z 13)) i p)) (z 14) (va_up (eR (rI S3 (z 13) (upd (eI S3 (z 13)) i p)) (z 14)) i none)) := Keep.rR (P := fun b => b = z 13 ∨ b = z 14 ∨ (F b).1 = n + 1) (k1.mono (fun b _ w => Or.inl w)) (Or.inr (Or.inl rfl))
      have kz9 : Keep (fun b => b = z 14) (rI S3 (z 13) (upd (eI S3 (z 13)) i p)) (rR (rI S3 (z 13) (upd (eI S3 (z 13)) i p)) (z 14) (va_up (eR (rI S3 (z 13) (upd (eI S3 (z 13)) i p)) (z 14)) i none)) := Keep.rR (P := fun b => b = z 14) Keep.rf rfl
      have o14 : isO (rI S3 (z 13) (upd (eI S3 (z 13)) i p)) 23 (z 14) := k1.isO b1
      refine pa_i r14 ⟨o14.1, by rw [o14.2]; decide, by rw [o14.2]; decide, ir ((k1.1 _ b1.1).2.2.trans b2), (fun w hw => by cases hw), rfl, trivial, ⟨rfl, i, n, j, hi, hai, hn, hpn, exj, Or.inl ⟨ejn, fin _ none (fun k2 e => by cases e) k9 (fun b => e13a b) (fun b => ?_) ⟨H, W, g1.keep kz9 (fun b e w => by rw [w, f14] at e; have e : 20 = n + 1 := e; omega) (fun b hb => (k1.1 b (hz.fo b hb)).1) (by omega) (fun _ _ => rfl)⟩⟩⟩, Nat.le_of_ble_eq_true rfl, Nat.le_of_ble_eq_true rfl⟩
      show va_up (eR S3) (z 14) (va_up (eR S3 (z 14)) i none) (z 14) b = _
      rw [va_up_self]
      by_cases e : b = i
      · rw [if_pos e, e, va_up_self]; rfl
      · rw [if_neg e, va_up_ne _ _ e]
theorem u_wan (l : Launch) (hlt : l.stackTraces = false) : UsX l yX11_anchor (Cond.code yX11_anchor cX11_anchor 5 none) none 8 151 12 T_wan := by
  intro Rc Rs av S cs sl K Kx h
  unfold T_wan at h
  split at h
  · rename_i t_o a p x
    obtain ⟨t, rfl, h_1⟩ := pa_of h
    obtain ⟨F, X, kz, Q, hp, hc, hs, hk, hx0⟩ := h_1
    refine ⟨(sp_wan t a p x F X kz Q), c_wan l hlt t a p x F X kz Q, fun _ _ h9 => ⟨_, _, h9.1, h9.2.choose_spec.1.1.1⟩, ⟨rfl, hp⟩, hc, hs, fun S' h8 => by
      obtain ⟨-, h8⟩ := h8
      exact hk _ h8, fun _ _ q => by
      rcases q with ⟨rfl, q⟩
      · obtain ⟨q, rfl⟩ := q
        exact hx0 q⟩
  · exact h.elim
def T_wpl9 : TR := fun Rc Rs av S cs sl K Kx => match av with
  | [.inr (.inr t_o), .inl a] => pa t_o fun t => (∃ (F : Nat → Nat × Nat) (X : Nat → GX) (kz : Nat → Nat) (Q : Ab), (WT S F t X kz Q) ∧ cs + 2 ≤ Rc ∧ sl + 12 ≤ Rs ∧ ((∀ (v : Int32) (S' : MM), (S' = S ∧ ∃ i n, i < 8 ∧ a = nI i ∧ Q.ap i = some n ∧ v = nI (cfG (Q.G n) (Q.an i) (Q.T n).od)) → K (some (.inl v)) S' (cs + 2) (sl + 12)) ∧ ((np 8 a) → Kx 1 S (cs + 2) (sl + 12)) ∧ ((∃ i, i < 8 ∧ a = nI i ∧ Q.ap i = none) → Kx 2 S (cs + 2) (sl + 12))))
  | _ => False
def sp_wpl9 (t : Nat) (a : Int32) (F : Nat → Nat × Nat) (X : Nat → GX) (kz : Nat → Nat) (Q : Ab) : Sp := (fun av S => av = [.inr (.inr (some t)), .inl a] ∧ (WT S F t X kz Q), fun _ S => 2, fun _ S => 12, fun _ S rv S' => ∃ v, rv = (some (.inl v)) ∧ (S' = S ∧ ∃ i n, i < 8 ∧ a = nI i ∧ Q.ap i = some n ∧ v = nI (cfG (Q.G n) (Q.an i) (Q.T n).od)), fun _ S E S' => (E = 1 ∧ (np 8 a) ∧ S' = S) ∨ (E = 2 ∧ (∃ i, i < 8 ∧ a = nI i ∧ Q.ap i = none) ∧ S' = S))
def tX11_place : CD := [(0, .iload_n 1), (1, .ifCond .lt 13), (4, .iload_n 1), (5, .bipush 8), (7, .if_icmp .ge 7), (10, .iconst 1), (11, .goto 4), (14, .iconst 0), (15, .invokestatic 104), (18, .aload_n 0), (19, .getfield 57), (22, .iload_n 1), (23, .iaload), (24, .iconst (-1)), (25, .if_icmp .ne 11), (28, .new 147), (31, .dup), (32, .invokespecial 149), (35, .athrow), (36, .aload_n 0), (37, .getfield 25), (40, .aload_n 0), (41, .getfield 57), (44, .iload_n 1), (45, .iaload), (46, .aaload), (47, .getfield 112), (50, .aload_n 0), (51, .getfield 62), (54, .iload_n 1), (55, .aaload), (56, .invokevirtual 238), (59, .ireturn)]
set_option maxRecDepth 100000 in
theorem kX11_place : chk cX11_place tX11_place = true := by decide +kernel
theorem vX11_place_104 : ∀ w ∈ ([.methodLink RX11 104 yX11_require, .static yX11_require, .initialized yX11_require.cls, .code yX11_require cX11_require 1 none] : List Cond), w ∈ lw_good := List.forall_mem_cons.mpr ⟨mgd 801 (by decide +kernel) (by decide +kernel), List.forall_mem_cons.mpr ⟨mgd 802 (by decide +kernel) (by decide +kernel), List.forall_mem_cons.mpr ⟨mgd 121 (by decide +kernel) (by decide +kernel), List.forall_mem_cons.mpr ⟨mgd 803 (by decide +kernel) (by decide +kernel), fun _ h => absurd h List.not_mem_nil⟩⟩⟩⟩
theorem vX11_place_238 : ∀ w ∈ ([.methodLink RX11 238 yX5_countInFrontOf, .instanceMethod yX5_countInFrontOf, .selects yX5_countInFrontOf.cls yX5_countInFrontOf yX5_countInFrontOf, .initialized yX5_countInFrontOf.cls, .code yX5_countInFrontOf cX5_countInFrontOf 4 (some .int)] : List Cond), w ∈ lw_good := List.forall_mem_cons.mpr ⟨mgd 1316 (by decide +kernel) (by decide +kernel), List.forall_mem_cons.mpr ⟨mgd 1317 (by decide +kernel) (by decide +kernel), List.forall_mem_cons.mpr ⟨mgd 1318 (by decide +kernel) (by decide +kernel), List.forall_mem_cons.mpr ⟨mgd 125 (by decide +kernel) (by decide +kernel), List.forall_mem_cons.mpr ⟨mgd 1319 (by decide +kernel) (by decide +kernel), fun _ h => absurd h List.not_mem_nil⟩⟩⟩⟩⟩
set_option maxRecDepth 100000 in
set_option maxHeartbeats 2000000 in
theorem c_wpl9 (l : Launch) (hlt : l.stackTraces = false) : ∀ (t : Nat) (a : Int32) (F : Nat → Nat × Nat) (X : Nat → GX) (kz : Nat → Nat) (Q : Ab), CtX l yX11_place (Cond.code yX11_place cX11_place 2 (some .int)) (some .int) 7 109 (sp_wpl9 t a F X kz Q) := by
  intro t a F X kz Q
  refine CtX.of hlt (fX11, nX11, aX11, iX11, lX11, [(104, 2, 1, 0, T_wrq), (238, 0, 2, 1, T_gci)], qX11, gX11, thX11) false tX11_place (fun _ _ _ => none) (by decide) (by decide) kX11_place ⟨_, _, rfl⟩ fX11_ok nX11_ok aX11_ok iX11_ok lX11_ok (fun p e R s m args below meth c Q D cy z r A C hR1 hR2 => List.forall_mem_cons.mpr ⟨cOK_use (fun _ _ _ _ _ _ _ _ h => let ⟨sp, h1, _, h3⟩ := u_wrq l hlt _ _ _ _ _ _ _ _ h; ⟨sp, cOKx_S C h1 vX11_place_104 ⟨by decide, by decide, by decide +kernel⟩ ⟨by rw [hR1]; decide, by rw [hR2]; decide⟩, h3⟩), List.forall_mem_cons.mpr ⟨cOK_use (fun _ _ _ _ _ _ _ _ h => let ⟨sp, h1, h2, h3⟩ := u_gci l _ _ _ _ _ _ _ _ h; ⟨sp, cOK_V C h1 vX11_place_238 ⟨by decide, by decide, by decide +kernel⟩ ⟨by rw [hR1]; decide, by rw [hR2]; decide⟩ (k := 6) (T := TX5) (N := 12) rfl (by decide) h2, h3⟩), fun _ h => absurd h List.not_mem_nil⟩⟩) qX11_ok gX11_ok (fun q hq => ⟨thX11_ok q hq, by decide, by decide⟩) ?_ ?_
  · rintro _ S ⟨rfl, hp⟩
    refine ⟨Nat.le_of_ble_eq_true rfl, 300, ?_⟩
    show ((a < 0 → (2 = 2 ∧ (((0 : Int32) = 0 ∨ (0 : Int32) = 1) ∧ 0 + 1 ≤ 2 ∧ 0 + 6 ≤ 12 ∧ ((∀ (S_1 : MM), (S_1 = S ∧ (0 : Int32) = 1) → (isO S_1 12 t ∧ (pa (mR S_1 1213 t) fun a_2 => ∃ v_3 : Int32, (isO S_1 17 a_2 ∧ inR S_1 a_2 a ∧ v_3 = eI S_1 a_2 a.toNatClampNeg ∨ a_2 = (mQ S_1).1 ∧ vp_in a 16 ∧ v_3 = mRem a.toNatClampNeg) ∧ ((¬ v_3 = (-1 : Int32) → (isO S_1 12 t ∧ (isO S_1 12 t ∧ (pa (mR S_1 1213 t) fun a_4 => ∃ v_5 : Int32, (isO S_1 17 a_4 ∧ inR S_1 a_4 a ∧ v_5 = eI S_1 a_4 a.toNatClampNeg ∨ a_4 = (mQ S_1).1 ∧ vp_in a 16 ∧ v_5 = mRem a.toNatClampNeg) ∧ (pa (mR S_1 1203 t) fun a_6 => a_6 ∈ mL S_1 ∧ ¬ mK S_1 a_6 < 21 ∧ mK S_1 a_6 < 29 ∧ inR S_1 a_6 v_5 ∧ (pa (eR S_1 a_6 v_5.toNatClampNeg) fun a_7 => isO S_1 11 a_7 ∧ (isO S_1 12 t ∧ (pa (mR S_1 1214 t) fun a_8 => a_8 ∈ mL S_1 ∧ ¬ mK S_1 a_8 < 21 ∧ mK S_1 a_8 < 29 ∧ inR S_1 a_8 a ∧ (0 = 0 ∧ ((pa (mR S_1 1101 a_7) fun a_9 => (∃ (rt_10 : Nat) (R_11 : List Nat), (GCh S_1 a_9 rt_10 R_11) ∧ 0 + 1 ≤ 2 ∧ 0 + 6 ≤ 12 ∧ ((([] : List MV) = [] ∧ mret (some .int) (sp_wpl9 t a F X kz Q) [.inr (.inr (some t)), .inl a] S (some (.inl (nI (cif S_1 (eR S_1 a_8 a.toNatClampNeg) R_11)))) S_1 (0 + 1) (0 + 6))))))))))))))) ∧ (v_3 = (-1 : Int32) → (mthr (sp_wpl9 t a F X kz Q) [.inr (.inr (some t)), .inl a] S 2 S_1 (0 + 1 + 1) (0 + 6 + 6))))))) ∧ (((0 : Int32) = 0) → mthr (sp_wpl9 t a F X kz Q) [.inr (.inr (some t)), .inl a] S 1 S (0 + 1) (0 + 6)))))) ∧ (¬ a < 0 → (((8 : Int32) ≤ a → (2 = 2 ∧ (((0 : Int32) = 0 ∨ (0 : Int32) = 1) ∧ 0 + 1 ≤ 2 ∧ 0 + 6 ≤ 12 ∧ ((∀ (S_14 : MM), (S_14 = S ∧ (0 : Int32) = 1) → (isO S_14 12 t ∧ (pa (mR S_14 1213 t) fun a_15 => ∃ v_16 : Int32, (isO S_14 17 a_15 ∧ inR S_14 a_15 a ∧ v_16 = eI S_14 a_15 a.toNatClampNeg ∨ a_15 = (mQ S_14).1 ∧ vp_in a 16 ∧ v_16 = mRem a.toNatClampNeg) ∧ ((¬ v_16 = (-1 : Int32) → (isO S_14 12 t ∧ (isO S_14 12 t ∧ (pa (mR S_14 1213 t) fun a_17 => ∃ v_18 : Int32, (isO S_14 17 a_17 ∧ inR S_14 a_17 a ∧ v_18 = eI S_14 a_17 a.toNatClampNeg ∨ a_17 = (mQ S_14).1 ∧ vp_in a 16 ∧ v_18 = mRem a.toNatClampNeg) ∧ (pa (mR S_14 1203 t) fun a_19 => a_19 ∈ mL S_14 ∧ ¬ mK S_14 a_19 < 21 ∧ mK S_14 a_19 < 29 ∧ inR S_14 a_19 v_18 ∧ (pa (eR S_14 a_19 v_18.toNatClampNeg) fun a_20 => isO S_14 11 a_20 ∧ (isO S_14 12 t ∧ (pa (mR S_14 1214 t) fun a_21 => a_21 ∈ mL S_14 ∧ ¬ mK S_14 a_21 < 21 ∧ mK S_14 a_21 < 29 ∧ inR S_14 a_21 a ∧ (0 = 0 ∧ ((pa (mR S_14 1101 a_20) fun a_22 => (∃ (rt_23 : Nat) (R_24 : List Nat), (GCh S_14 a_22 rt_23 R_24) ∧ 0 + 1 ≤ 2 ∧ 0 + 6 ≤ 12 ∧ ((([] : List MV) = [] ∧ mret (some .int) (sp_wpl9 t a F X kz Q) [.inr (.inr (some t)), .inl a] S (some (.inl (nI (cif S_14 (eR S_14 a_21 a.toNatClampNeg) R_24)))) S_14 (0 + 1) (0 + 6))))))))))))))) ∧ (v_16 = (-1 : Int32) → (mthr (sp_wpl9 t a F X kz Q) [.inr (.inr (some t)), .inl a] S 2 S_14 (0 + 1 + 1) (0 + 6 + 6))))))) ∧ (((0 : Int32) = 0) → mthr (sp_wpl9 t a F X kz Q) [.inr (.inr (some t)), .inl a] S 1 S (0 + 1) (0 + 6)))))) ∧ (¬ (8 : Int32) ≤ a → (2 = 2 ∧ (((1 : Int32) = 0 ∨ (1 : Int32) = 1) ∧ 0 + 1 ≤ 2 ∧ 0 + 6 ≤ 12 ∧ ((∀ (S_27 : MM), (S_27 = S ∧ (1 : Int32) = 1) → (isO S_27 12 t ∧ (pa (mR S_27 1213 t) fun a_28 => ∃ v_29 : Int32, (isO S_27 17 a_28 ∧ inR S_27 a_28 a ∧ v_29 = eI S_27 a_28 a.toNatClampNeg ∨ a_28 = (mQ S_27).1 ∧ vp_in a 16 ∧ v_29 = mRem a.toNatClampNeg) ∧ ((¬ v_29 = (-1 : Int32) → (isO S_27 12 t ∧ (isO S_27 12 t ∧ (pa (mR S_27 1213 t) fun a_30 => ∃ v_31 : Int32, (isO S_27 17 a_30 ∧ inR S_27 a_30 a ∧ v_31 = eI S_27 a_30 a.toNatClampNeg ∨ a_30 = (mQ S_27).1 ∧ vp_in a 16 ∧ v_31 = mRem a.toNatClampNeg) ∧ (pa (mR S_27 1203 t) fun a_32 => a_32 ∈ mL S_27 ∧ ¬ mK S_27 a_32 < 21 ∧ mK S_27 a_32 < 29 ∧ inR S_27 a_32 v_31 ∧ (pa (eR S_27 a_32 v_31.toNatClampNeg) fun a_33 => isO S_27 11 a_33 ∧ (isO S_27 12 t ∧ (pa (mR S_27 1214 t) fun a_34 => a_34 ∈ mL S_27 ∧ ¬ mK S_27 a_34 < 21 ∧ mK S_27 a_34 < 29 ∧ inR S_27 a_34 a ∧ (0 = 0 ∧ ((pa (mR S_27 1101 a_33) fun a_35 => (∃ (rt_36 : Nat) (R_37 : List Nat), (GCh S_27 a_35 rt_36 R_37) ∧ 0 + 1 ≤ 2 ∧ 0 + 6 ≤ 12 ∧ ((([] : List MV) = [] ∧ mret (some .int) (sp_wpl9 t a F X kz Q) [.inr (.inr (some t)), .inl a] S (some (.inl (nI (cif S_27 (eR S_27 a_34 a.toNatClampNeg) R_37)))) S_27 (0 + 1) (0 + 6))))))))))))))) ∧ (v_29 = (-1 : Int32) → (mthr (sp_wpl9 t a F X kz Q) [.inr (.inr (some t)), .inl a] S 2 S_27 (0 + 1 + 1) (0 + 6 + 6))))))) ∧ (((1 : Int32) = 0) → mthr (sp_wpl9 t a F X kz Q) [.inr (.inr (some t)), .inl a] S 1 S (0 + 1) (0 + 6)))))))))
    obtain ⟨z, hz⟩ := hp
    obtain ⟨⟨a1, a2, a3, a4⟩, ⟨b1, b2, b3, b4⟩, n5⟩ := hz.1.2.2.2
    have r13 : mR S 1213 t = some (z 13) := hz.1.1.2.2.1 13 (by decide) (by decide) (by decide) (by decide)
    have r14 : mR S 1214 t = some (z 14) := hz.1.1.2.2.1 14 (by decide) (by decide) (by decide) (by decide)
    have r3 : mR S 1203 t = some (z 3) := hz.1.1.2.2.1 3 (by decide) (by decide) (by decide) (by decide)
    refine ⟨fun h => ⟨rfl, Or.inl rfl, by decide, by decide, rq0 ⟨Or.inl ⟨rfl, np_lo (by decide) h, rfl⟩, Nat.le_of_ble_eq_true rfl, Nat.le_of_ble_eq_true rfl⟩⟩, fun q1 => ⟨fun h => ⟨rfl, Or.inl rfl, by decide, by decide, rq0 ⟨Or.inl ⟨rfl, np_hi (by decide) h, rfl⟩, Nat.le_of_ble_eq_true rfl, Nat.le_of_ble_eq_true rfl⟩⟩, fun q2 => ⟨rfl, Or.inr rfl, by decide, by decide, rq1 ?_⟩⟩⟩
    obtain ⟨i, hi, rfl⟩ := rng (m := 8) (by decide) q1 q2
    have ci : (nI i).toNatClampNeg = i := nI_clamp (by omega)
    refine ⟨hz.1.1.1, pa_i r13 ⟨_, Or.inl ⟨a1, inRn a2 hi (by decide), rfl⟩, ?_⟩⟩
    rw [ci, a4 i hi]
    cases e : Q.ap i with
    | none => exact ⟨fun w => absurd rfl w, fun _ => ⟨Or.inr ⟨rfl, ⟨i, hi, rfl, e⟩, rfl⟩, Nat.le_of_ble_eq_true rfl, Nat.le_of_ble_eq_true rfl⟩⟩
    | some n =>
      obtain ⟨hn, hk⟩ := n5 i hi n e
      obtain ⟨A, H, W, r, a', d, ea, kn, kr, cu, hP⟩ := hz.2.1 n hn
      have g := hP.gi
      have r1 : mR S 1101 (z (30 + n)) = some (A 0) := hP.1.2.2.2.1
      obtain ⟨c1, c2, c3, c4⟩ := hz.1.1.2.2.2.2
      refine ⟨fun _ => ⟨hz.1.1.1, hz.1.1.1, pa_i r13 ⟨_, Or.inl ⟨a1, inRn a2 hi (by decide), rfl⟩, pa_i r3 ⟨c1.1, by rw [c1.2]; decide, by rw [c1.2]; decide, ?_, ?_⟩⟩⟩, fun w => absurd w ?_⟩
      · rw [a4 i hi, e]; exact inRn c2 hn (by decide)
      · rw [a4 i hi, e, show stI (some n) = nI n from rfl, nI_clamp (show n < 2 ^ 31 by omega), c4 n hn]
        refine ⟨hP.1.1, hz.1.1.1, pa_i r14 ⟨b1.1, by rw [b1.2]; decide, by rw [b1.2]; decide, inRn b2 hi (by decide), rfl, pa_i r1 ⟨_, _, g.gch, by decide, by decide, rfl, trivial, ⟨_, rfl, rfl, i, n, hi, rfl, e, ?_⟩, Nat.le_of_ble_eq_true rfl, Nat.le_of_ble_eq_true rfl⟩⟩⟩
        rw [b4 i hi n e, cif_xa g hk]
      · show ¬ nI n = -1
        intro w
        exact absurd (show nI n < 0 by rw [w]; decide) (nI_pos (by omega))
  · exact fun _ _ _ _ _ h => by cases h
theorem u_wpl9 (l : Launch) (hlt : l.stackTraces = false) : UsX l yX11_place (Cond.code yX11_place cX11_place 2 (some .int)) (some .int) 7 109 12 T_wpl9 := by
  intro Rc Rs av S cs sl K Kx h
  unfold T_wpl9 at h
  split at h
  · rename_i t_o a
    obtain ⟨t, rfl, h_1⟩ := pa_of h
    obtain ⟨F, X, kz, Q, hp, hc, hs, hk, hx0, hx1⟩ := h_1
    refine ⟨(sp_wpl9 t a F X kz Q), c_wpl9 l hlt t a F X kz Q, fun _ _ h9 => ⟨_, _, h9.1, h9.2.choose_spec.1.1.1⟩, ⟨rfl, hp⟩, hc, hs, fun v9 S' h8 => by
      obtain ⟨v8, h7, h8⟩ := h8
      cases h7
      exact hk _ _ h8, fun _ _ q => by
      rcases q with ⟨rfl, q⟩ | ⟨rfl, q⟩
      · obtain ⟨q, rfl⟩ := q
        exact hx0 q
      · obtain ⟨q, rfl⟩ := q
        exact hx1 q⟩
  · exact h.elim
