theorem sw_out (n : Nat) {x : Int32} {hi : Int} (h : ∀ k, k < n → ¬ x = Int32.ofNat k) (hh : (n : Int) = hi + 1 := by decide) : x.toInt < 0 ∨ hi < x.toInt := by
  by_cases q : x < 0
  · left
    have := Int32.lt_iff_toInt_lt.mp q
    simpa using this
  · obtain ⟨j, hj, e⟩ := nI_of q
    right
    have e2 : x.toInt = (j : Int) := by rw [e]; exact nI_toInt hj
    have : ¬ j < n := fun z => h j z e
    omega
