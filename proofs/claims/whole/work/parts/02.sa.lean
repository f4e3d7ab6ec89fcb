/-! ===== arrays of arrays: the tables' word, made and stored into ===== -/
def va_AOA (t : FieldType) (U : State) : Prop := (Cond.arrayOver (.array t)).before #[] U = true
theorem va_AOA.use {t : FieldType} {A : Array Value} {U : State} (h : va_AOA t U) : (Cond.arrayOver (.array t)).before A U = true := h
theorem va_AOA.moved {t : FieldType} {u U : State} (hvm : u.vm.Alike U.vm) (h : va_AOA t u) : va_AOA t U := Jvm.Stand.arrayOver_alikeB hvm h
/-- the array's class and its element's, by the tables' word -/
theorem va_AOA.at {t : FieldType} {U : State} (h : va_AOA t U) : ∃ comp c k, U.vm.findClass (FieldType.array t).toString = some comp ∧ U.vm.classes[c]? = some k ∧ k.kind = .array comp (.array t) ∧ U.vm.findClass ("[" ++ (FieldType.array t).toString) = some c := by
  obtain ⟨comp, c, k, h1, -, h3, h4, h5⟩ := Jvm.Stand.arrayOver_specB h
  exact ⟨comp, c, k, h1, h3, h4, h5⟩
section ROWSA
variable {p : Program} {l : Launch} {e : Env} {R : Room} {s : State} {m : MethodId} {args : Array Value} {below : List Frame} {meth : Method} {c : Code} {H : Heap} {locs : List Loc} {cells slots : Nat} {Q : State → Prop}
variable {cc : ByteArray} {pc : Nat} {ls : Array Slot} {rest : List Value} {D : va_G} {cl : List vw_C} {A : Nat → Prop} {a : Nat} {tys : List (ClassId × FieldType)} {ws : va_W} {H0 : Heap}
theorem vp_cell_vm (cA : ClassId) (x : vp_A) : (vp_cell cA x).vm = .none := by
  obtain ⟨n, f | f | f | f | f⟩ := x <;> rfl
theorem vp_cell_cls (cA : ClassId) (x : vp_A) : (vp_cell cA x).cls = cA := by
  obtain ⟨n, f | f | f | f | f⟩ := x <;> rfl
/-- 'aastore' into an array of arrays: of null, or of an array of the element's class -/
theorem va_astG (hexec : p.tables.exec = Jvm.exec) (hb : c.code = cc) (hP : va_P D cl ws H) (hD : va_D A ws) (hS : va_S A H0 H locs) (q0 : Nat) {cA comp : ClassId} {kA kc : Class} {t : FieldType} {n : Nat} {f : Nat → Option Nat} {x : Option Nat} (ha : ws[q0]? = some (a, .inl (cA, n, .inr (.inr (.inr (.inr f)))))) (k1 : s.vm.classes[cA]? = some kA) (k2 : kA.kind = .array comp (.array t)) (k3 : s.vm.classes[comp]? = some kc) (hv : ∀ v, x = some v → ∃ (qk : Nat) (z : vp_A), ws[qk]? = some (v, .inl (comp, z))) {i : Int32} (hin : vp_in i n) (hdg : decode cc pc = .ok (.aastore, 1))
    (kk : ∀ (H1 : Heap) (locs1 : List Loc), va_P D cl (ws.set q0 (a, .inl (cA, n, .inr (.inr (.inr (.inr (va_up f i.toNatClampNeg x))))))) H1 → va_D A (ws.set q0 (a, .inl (cA, n, .inr (.inr (.inr (.inr (va_up f i.toNatClampNeg x))))))) → va_S A H0 H1 locs1 → W p l e R s m args below meth c H1 locs1 cells slots Q (F0 m (pc + 1) ls rest)) : W p l e R s m args below meth c H locs cells slots Q (F0 m pc ls (va_rf x :: .int i :: .ref a :: rest)) := by
  have hlt : i.toNatClampNeg < n := Nat.not_le.mp fun q => hin (Or.inr q)
  have h0 : ¬ i < 0 := fun q => hin (Or.inl q)
  have hsz : i.toNatClampNeg < (arrV cA n (fun j => va_rf (f j))).slots.size := by rw [arrV_size]; exact hlt
  have hend : ∀ (H1 : Heap) (v : Value), H1[a]? = some ((arrV cA n (fun j => va_rf (f j))).setSlot i.toNatClampNeg v) → v = va_rf x → H1[a]? = some (vp_cell cA (n, .inr (.inr (.inr (.inr (va_up f i.toNatClampNeg x)))))) := by
    intro H1 v e1 e2
    rw [e1, vp_cell_q, arrV_store, e2]
    congr 2
    funext q
    by_cases hq : q = i.toNatClampNeg
    · subst hq
      simp [updV, va_up]
    · simp [updV, va_up, hq]
  have hc : H[a]? = some (arrV cA n (fun j => va_rf (f j))) := by
    have h9 := hP q0 _ ha
    rw [← vp_cell_q]
    exact h9
  cases x with
  | none =>
    intro T hT X
    have hT' : T.heap[a]? = some (arrV cA n (fun j => va_rf (f j))) := by rw [hT]; exact hc
    obtain ⟨X', st⟩ := X.aastoreNullInK hexec hT' (fun q h => by cases h) (fun h => by cases h) k1 k2 rfl ⟨h0, hsz⟩ (g := F0 m pc ls (.null :: .int i :: .ref a :: rest)) rfl (rest := rest) rfl (by rw [hb]; exact hdg)
    have hlt9 : a < T.heap.size := (Array.getElem?_eq_some_iff.mp hT').1
    obtain ⟨t', a1, b1⟩ := kk (T.setCell a ((arrV cA n (fun j => va_rf (f j))).setSlot i.toNatClampNeg .null)).heap _ (hP.set hD ha (hend _ _ (heapAt_setCell_self _ hlt9) rfl) (fun q hq => by rw [heapAt_setCell_ne _ (Ne.symm hq), hT])) (hD.set ha) (hS.put (by rw [size_setCell, hT]) (fun q hq => by rw [heapAt_setCell_ne _ (Ne.symm hq), hT]) (hD.2 q0 _ ha)) (T.setCell a ((arrV cA n (fun j => va_rf (f j))).setSlot i.toNatClampNeg .null)) rfl X'
    exact ⟨t', st t' a1, b1⟩
  | some v =>
    obtain ⟨qk, z, hz⟩ := hv v rfl
    have g1 := hP qk _ hz
    refine W.aast hexec hb hc (fun q h => by cases h) (fun h => by cases h) k1 k2 rfl k3 ⟨h0, hsz⟩ g1 (fun q h => by rw [vp_cell_vm] at h; cases h) (by rw [vp_cell_cls]; exact k3) (by rw [vp_cell_cls]; exact va_asg _ _) rfl rfl hdg fun H1 e z9 oq => ?_
    exact kk H1 _ (hP.set hD ha (hend _ _ e rfl) oq) (hD.set ha) (hS.put z9 oq (hD.2 q0 _ ha))
/-- 'anewarray' of an array type -/
theorem va_newG (hexec : p.tables.exec = Jvm.exec) (hb : c.code = cc) {own : String} {t : FieldType} {index : Nat} (hown : s.vm.findClass own = some m.cls) (hclink : (Cond.classLink own index (FieldType.array t).toString).before args s = true) (hover : va_AOA t s) (hP : va_P D cl ws H) (hD : va_D A ws) (hS : va_S A H0 H locs) (hA : ∀ q, H0.size ≤ q → A q)
    {n : Int32} (hn : ¬ n < 0) (hbytes : n.toNatClampNeg * 4 ≤ 536870912) (hcells : cells + 1 ≤ R.cells) (hslots : slots + n.toNatClampNeg ≤ R.slots) (hdg : decode cc pc = .ok (.anewarray index, 3))
    (kk : ∀ (q : Nat) (cA : ClassId) (H1 : Heap), s.vm.findClass ("[" ++ (FieldType.array t).toString) = some cA → va_P D cl (ws ++ [(q, .inl (cA, n.toNatClampNeg, .inr (.inr (.inr (.inr (fun _ => none))))))]) H1 → va_D A (ws ++ [(q, .inl (cA, n.toNatClampNeg, .inr (.inr (.inr (.inr (fun _ => none))))))]) → va_S A H0 H1 locs →
      W p l e R s m args below meth c H1 locs (cells + 1) (slots + n.toNatClampNeg) Q (F0 m (pc + 3) ls (.ref q :: rest))) : W p l e R s m args below meth c H locs cells slots Q (F0 m pc ls (.int n :: rest)) := by
  intro T hT X
  obtain ⟨vm₁, cA, kA, comp, hW, f1, f2, f3, f4, X', st⟩ := X.anewarrayArrK hexec hown hclink (va_AOA.use hover) (g := F0 m pc ls (.int n :: rest)) rfl (by rw [hb]; exact hdg) rfl hn hbytes hcells hslots
  have hTH : ((T.setVm vm₁).pushCell { cls := cA, slots := Array.replicate n.toNatClampNeg .null, vm := .none }).heap = H.push ({ cls := cA, slots := Array.replicate n.toNatClampNeg .null, vm := .none } : Cell) := by
    rw [← hT]
    rfl
  generalize hH1 : H.push ({ cls := cA, slots := Array.replicate n.toNatClampNeg .null, vm := .none } : Cell) = H1 at hTH
  have z1 : H1.size = H.size + 1 := by rw [← hH1, Array.size_push]
  have e1 : H1[H.size]? = some (arrV cA n.toNatClampNeg (fun _ => .null)) := by rw [← hH1, Array.getElem?_push_size, ← arrV_new]
  have o1 : ∀ q : Nat, q < H.size → H1[q]? = H[q]? := fun q hq => by rw [← hH1, Array.getElem?_push, if_neg (Nat.ne_of_lt hq)]
  have hk : ∀ (k : Nat) (x : Nat × va_E), ws[k]? = some x → H1[x.1]? = H[x.1]? := fun k x hx => o1 x.1 ((hP k x hx).lt)
  obtain ⟨t2, a1, b1⟩ := kk H.size cA H1 f1 ((hP.kept hk).app (fun k x hx => by
    have hz : k < 1 := (List.getElem?_eq_some_iff.mp hx).1
    rw [show k = 0 by omega] at hx
    cases hx
    show H1[H.size]? = some (vp_cell _ _)
    rw [vp_cell_q]
    exact e1)) (hD.push hP rfl (hA _ hS.1)) ⟨Nat.le_trans hS.1 (by omega), fun x h1 h2 => (o1 x (Nat.lt_of_lt_of_le h1 hS.1)).trans (hS.2.1 x h1 h2), hS.2.2⟩ _ hTH X'
  refine ⟨t2, st t2 ?_, b1⟩
  have e9 : T.heap.size = H.size := by rw [hT]
  rw [e9]
  exact a1
end ROWSA
