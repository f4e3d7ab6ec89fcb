/-! ===== The law class's entries ===== -/
def fLw : List (Nat × Nat × Nat × Nat) := []
theorem fLw_ok : ∀ q ∈ fLw, fOK RL q.1 q.2 := fun _ h => absurd h List.not_mem_nil
theorem nLw_8 : nOK RL 8 12 := ⟨RX11, TX11, 15, tyX11, rfl, by decide, igX11, tyX11_ok, rfl, by decide +kernel, mgd 152 (by decide +kernel) (by decide +kernel), mgd 153 (by decide +kernel) (by decide +kernel), mgd 121 (by decide +kernel) (by decide +kernel)⟩
theorem nLw_109 : nOK RL 109 15 := ⟨RX14, TX14, 52, tyX14, rfl, by decide, igX14, tyX14_ok, rfl, by decide +kernel, mgd 1614 (by decide +kernel) (by decide +kernel), mgd 1615 (by decide +kernel) (by decide +kernel), mgd 136 (by decide +kernel) (by decide +kernel)⟩
def nLw : List (Nat × Nat) := [(8, 12), (109, 15)]
theorem nLw_ok : ∀ q ∈ nLw, nOK RL q.1 q.2 := List.forall_mem_cons.mpr ⟨nLw_8, List.forall_mem_cons.mpr ⟨nLw_109, fun _ h => absurd h List.not_mem_nil⟩⟩
def aLw : List (Nat × Nat) := []
theorem aLw_ok : ∀ q ∈ aLw, aOK RL q.1 q.2 := fun _ h => absurd h List.not_mem_nil
def qLw : List (Nat × Nat) := []
theorem qLw_ok : ∀ q ∈ qLw, kOK RL q.1 q.2 := fun _ h => absurd h List.not_mem_nil
def iLw : List (Nat × Int32) := []
theorem iLw_ok : ∀ q ∈ iLw, Cond.constant RL q.1 q.2 ∈ lw_good := fun _ h => absurd h List.not_mem_nil
def lLw : List (Nat × Int64) := []
theorem lLw_ok : ∀ q ∈ lLw, Cond.constantLong RL q.1 q.2 ∈ lw_good := fun _ h => absurd h List.not_mem_nil
def gLw : List (Nat × Nat) := []
theorem gLw_ok : ∀ q ∈ gLw, gOK RL q.1 q.2 := fun _ h => absurd h List.not_mem_nil
