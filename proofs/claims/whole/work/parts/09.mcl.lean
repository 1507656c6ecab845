/-! the memory of a closure of the class -/
def dS (μ : Mem) (c : Nat) : CS := (μ 17 c, μ 18 c, μ 16 c 2)
def mcl (μ : Mem) (c : Nat) (S : CS) : Mem := fun f i => if f = 17 ∧ i = c then S.1 else if f = 18 ∧ i = c then S.2.1 else if f = 16 ∧ i = c then upd (μ 16 c) 2 S.2.2 else μ f i
theorem mcl_17 (μ : Mem) (c : Nat) (S : CS) : mcl μ c S 17 c = S.1 := by simp [mcl]
theorem mcl_18 (μ : Mem) (c : Nat) (S : CS) : mcl μ c S 18 c = S.2.1 := by simp [mcl]
theorem mcl_16 (μ : Mem) (c : Nat) (S : CS) : mcl μ c S 16 c 2 = S.2.2 := by simp [mcl, upd]
theorem mcl_f {μ : Mem} {c f : Nat} {S : CS} (h : f ≠ 16 ∧ f ≠ 17 ∧ f ≠ 18) : mcl μ c S f = μ f := by
  funext i
  simp [mcl, h.1, h.2.1, h.2.2]
theorem mcl_i {μ : Mem} {c f i : Nat} {S : CS} (h : i ≠ c) : mcl μ c S f i = μ f i := by simp [mcl, h]
theorem upd_upd (f : Nat → Int32) (k : Nat) (x y : Int32) : upd (upd f k x) k y = upd f k y := by
  funext j
  by_cases h : j = k <;> simp [upd, h]
theorem upd_id (f : Nat → Int32) (k : Nat) : upd f k (f k) = f := by
  funext j
  by_cases h : j = k <;> simp [upd, h]
theorem mset_mcl17 (μ : Mem) (c t : Nat) (x : Int32) (S : CS) : mset (mcl μ c S) 17 c t x = mcl μ c (upd S.1 t x, S.2.1, S.2.2) := by
  funext f i
  by_cases h : f = 17 ∧ i = c
  · obtain ⟨rfl, rfl⟩ := h
    rw [mset_same, mcl_17, mcl_17]
  · rw [mset_ne h]
    simp [mcl, h]
theorem mset_mcl18 (μ : Mem) (c t : Nat) (x : Int32) (S : CS) : mset (mcl μ c S) 18 c t x = mcl μ c (S.1, upd S.2.1 t x, S.2.2) := by
  funext f i
  by_cases h : f = 18 ∧ i = c
  · obtain ⟨rfl, rfl⟩ := h
    rw [mset_same, mcl_18, mcl_18]
  · rw [mset_ne h]
    simp [mcl, h]
theorem mset_mcl16 (μ : Mem) (c : Nat) (x : Int32) (S : CS) : mset (mcl μ c S) 16 c 2 x = mcl μ c (S.1, S.2.1, x) := by
  funext f i
  by_cases h : f = 16 ∧ i = c
  · obtain ⟨rfl, rfl⟩ := h
    rw [mset_same]
    simp [mcl, upd_upd]
  · rw [mset_ne h]
    simp [mcl, h]
theorem mcl_dS (μ : Mem) (c : Nat) : mcl μ c (dS μ c) = μ := by
  funext f i
  unfold mcl dS
  by_cases h : f = 17 ∧ i = c
  · obtain ⟨rfl, rfl⟩ := h; simp
  · by_cases h1 : f = 18 ∧ i = c
    · obtain ⟨rfl, rfl⟩ := h1; simp
    · by_cases h2 : f = 16 ∧ i = c
      · obtain ⟨rfl, rfl⟩ := h2; simp [upd_id]
      · rw [if_neg h, if_neg h1, if_neg h2]
theorem mcl_mcl (μ : Mem) (c : Nat) (S S' : CS) : mcl (mcl μ c S) c S' = mcl μ c S' := by
  funext f i
  unfold mcl
  by_cases h : f = 17 ∧ i = c
  · rw [if_pos h, if_pos h]
  · by_cases h1 : f = 18 ∧ i = c
    · rw [if_neg h, if_pos h1, if_neg h, if_pos h1]
    · by_cases h2 : f = 16 ∧ i = c
      · rw [if_neg h, if_neg h1, if_pos h2, if_neg h, if_neg h1, if_pos h2]
        simp [upd_upd]
      · rw [if_neg h, if_neg h1, if_neg h2, if_neg h, if_neg h1, if_neg h2, if_neg h, if_neg h1, if_neg h2]
theorem dS_mcl (μ : Mem) (c : Nat) (S : CS) : dS (mcl μ c S) c = S := by
  unfold dS
  rw [mcl_17, mcl_18, mcl_16]
theorem dS_mcl_ne {μ : Mem} {c c' : Nat} {S : CS} (h : c' ≠ c) : dS (mcl μ c S) c' = dS μ c' := by
  unfold dS
  rw [mcl_i h, mcl_i h, mcl_i h]
theorem mcl_put (μ : Mem) (c t : Nat) (v : Int32) (S : CS) : mcl μ c (pput t v S) = (if S.1 t = 0 then mset (mset (mcl μ c S) 17 c t 1) 18 c t v else if S.2.1 t = v then mcl μ c S else mset (mcl μ c S) 16 c 2 1) := by
  unfold pput
  split
  · rw [mset_mcl17, mset_mcl18]
  · split
    · rfl
    · rw [mset_mcl16]
