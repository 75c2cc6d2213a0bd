/-! sets of shelves by bits -/
section BT
variable {N : Nat} {z : Nat × Nat}
theorem bq_0 : ∀ a, a < 16 → ∀ b, b < 16 → ∀ i, i < 8 → (iN (16 * a + b) >>> (iN i &&& 31)) &&& 1 = iN ((16 * a + b) / 2 ^ i % 2) := by decide
theorem bq_n {s i : Nat} (hs : s < 256) (hi : i < 8) : (iN s >>> (iN i &&& 31)) &&& 1 = iN (s / 2 ^ i % 2) := by
  have := bq_0 (s / 16) (by omega) (s % 16) (by omega) i hi
  rwa [show 16 * (s / 16) + s % 16 = s from by omega] at this
theorem or_n (a b : Nat) : iN a ||| iN b = iN (a ||| b) := by
  unfold iN
  rw [← Int32.toBitVec_inj]
  simp [BitVec.ofNat_or]
theorem and_n (a b : Nat) : iN a &&& iN b = iN (a &&& b) := by
  unfold iN
  rw [← Int32.toBitVec_inj]
  simp [BitVec.ofNat_and]
theorem shl_n : ∀ i, i < 8 → (1 : Int32) <<< (iN i &&& 31) = iN (2 ^ i) := by decide
theorem land_ne {a b : Nat} (ha : a < 256) : a &&& b ≠ 0 ↔ ∃ i, i < 8 ∧ a.testBit i = true ∧ b.testBit i = true := by
  constructor
  · intro h
    obtain ⟨i, hi⟩ := Nat.exists_testBit_of_ne_zero h
    rw [Nat.testBit_and, Bool.and_eq_true] at hi
    refine ⟨i, ?_, hi⟩
    refine Classical.byContradiction fun w => ?_
    have : a.testBit i = false := Nat.testBit_lt_two_pow (Nat.lt_of_lt_of_le ha (Nat.pow_le_pow_right (n := 2) (i := 8) (by omega) (by omega)))
    rw [this] at hi
    exact absurd hi.1 (by decide)
  · rintro ⟨i, _, h1, h2⟩ e
    have : (a &&& b).testBit i = true := by rw [Nat.testBit_and, h1, h2]; rfl
    rw [e] at this
    simp at this
theorem tb_n (s i : Nat) : s.testBit i = decide (s / 2 ^ i % 2 = 1) := Nat.testBit_eq_decide_div_mod_eq
theorem bit_c {s k : Nat} (hs : s < 256) (hk : k < 8) (h : s / 2 ^ k % 2 = 1) : ∃ u, u < s ∧ ∀ i, i < 8 → u / 2 ^ i % 2 = if i = k then 0 else s / 2 ^ i % 2 := by
  refine ⟨s - 2 ^ k, ?_, fun i hi => ?_⟩
  · have : 0 < 2 ^ k := Nat.pow_pos (by omega)
    have : 2 ^ k ≤ s := by
      refine Classical.byContradiction fun w => ?_
      rw [Nat.div_eq_of_lt (by omega)] at h
      omega
    omega
  · rcases k with _ | _ | _ | _ | _ | _ | _ | _ | k <;> rcases i with _ | _ | _ | _ | _ | _ | _ | _ | i <;> simp at * <;> omega
/-- the sum of the numbers whose bits are set -/
def sBt (v : Nat → Int32) (s : Nat) : Nat → Int32
  | 0 => 0
  | i + 1 => sBt v s i + iN (s / 2 ^ i % 2) * v i
theorem sBt_s (v : Nat → Int32) (s i : Nat) : sBt v s (i + 1) = sBt v s i + iN (s / 2 ^ i % 2) * v i := rfl
theorem m2 (s : Nat) (v : Int32) : iN (s % 2) * v = if s % 2 = 1 then v else 0 := by
  rcases Nat.mod_two_eq_zero_or_one s with e | e
  · rw [e, if_neg (by omega)]
    show (0 : Int32) * v = 0
    rw [Int32.zero_mul]
  · rw [e, if_pos rfl]
    show (1 : Int32) * v = v
    rw [Int32.one_mul]
theorem sBt_cg {v w : Nat → Int32} {s : Nat} : ∀ {k : Nat}, (∀ i, i < k → v i = w i) → sBt v s k = sBt w s k
  | 0, _ => rfl
  | k + 1, h => by rw [sBt_s, sBt_s, sBt_cg (k := k) (fun i hi => h i (by omega)), h k (by omega)]
theorem sBt_0 (v : Nat → Int32) : ∀ k, sBt v 0 k = 0
  | 0 => rfl
  | k + 1 => by
    rw [sBt_s, sBt_0 v k, Nat.zero_div, m2, if_neg (by omega)]
    rfl
/-- a worthless one taken away -/
theorem sBt_u {v : Nat → Int32} {s u k : Nat} (hu : ∀ i, i < 8 → u / 2 ^ i % 2 = if i = k then 0 else s / 2 ^ i % 2) (hv : v k = 0) : ∀ j, j ≤ 8 → sBt v u j = sBt v s j
  | 0, _ => rfl
  | j + 1, hj => by
    rw [sBt_s, sBt_s, sBt_u hu hv j (by omega), hu j (by omega)]
    by_cases e : j = k
    · subst e
      rw [if_pos rfl, hv, Int32.mul_zero, Int32.mul_zero]
    · rw [if_neg e]
theorem sBt_n {v : Nat → Int32} {t : Nat → Nat} {s : Nat} : ∀ {k : Nat}, (∀ i, i < k → v i = iN (t i)) → sBt v s k = iN (su (fun i => s / 2 ^ i % 2 * t i) k)
  | 0, _ => rfl
  | k + 1, h => by rw [sBt_s, su_s, sBt_n (k := k) (fun i hi => h i (by omega)), h k (by omega), iN_mul, iN_add]
theorem su_u {t : Nat → Nat} {s u k : Nat} (hu : ∀ i, i < 8 → u / 2 ^ i % 2 = if i = k then 0 else s / 2 ^ i % 2) (hs : s / 2 ^ k % 2 = 1) : ∀ j, j ≤ 8 → su (fun i => u / 2 ^ i % 2 * t i) j + (if k < j then t k else 0) = su (fun i => s / 2 ^ i % 2 * t i) j
  | 0, _ => by rw [if_neg (by omega)]; rfl
  | j + 1, hj => by
    have ih := su_u (t := t) hu hs j (by omega)
    rw [su_s, su_s, hu j (by omega)]
    by_cases e : j = k
    · subst e
      rw [if_neg (by omega)] at ih
      rw [if_pos rfl, if_pos (by omega), hs]
      omega
    · rw [if_neg e]
      by_cases q : k < j
      · rw [if_pos q] at ih
        rw [if_pos (by omega)]
        omega
      · rw [if_neg q] at ih
        rw [if_neg (by omega)]
        omega
theorem su_60 {t : Nat → Nat} {s : Nat} (ht : ∀ i, i < 8 → t i ≤ 60) : ∀ j, j ≤ 8 → su (fun i => s / 2 ^ i % 2 * t i) j ≤ 60 * j
  | 0, _ => Nat.le_refl _
  | j + 1, hj => by
    have ih := su_60 (s := s) ht j (by omega)
    have h1 := ht j (by omega)
    rw [su_s]
    have : s / 2 ^ j % 2 * t j ≤ 1 * t j := Nat.mul_le_mul_right _ (by omega)
    omega
/-- the search: the best set so far, its worth, its minutes -/
def stp (W : Nat → Int32) (T : Nat → Nat) (m : Nat) : Nat → Nat × Int32 × Nat
  | 0 => (0, 0, 0)
  | i + 1 => if T (i + 1) ≤ m ∧ ((stp W T m i).2.1 < W (i + 1) ∨ (W (i + 1) = (stp W T m i).2.1 ∧ T (i + 1) < (stp W T m i).2.2)) then (i + 1, W (i + 1), T (i + 1)) else stp W T m i
theorem stp_s (W : Nat → Int32) (T : Nat → Nat) (m i : Nat) : stp W T m (i + 1) = if T (i + 1) ≤ m ∧ ((stp W T m i).2.1 < W (i + 1) ∨ (W (i + 1) = (stp W T m i).2.1 ∧ T (i + 1) < (stp W T m i).2.2)) then (i + 1, W (i + 1), T (i + 1)) else stp W T m i := rfl
theorem stp_d {W : Nat → Int32} {T : Nat → Nat} {m : Nat} (h0 : W 0 = 0) (h1 : T 0 = 0) : ∀ i u, u ≤ i → T u ≤ m → W u < (stp W T m i).2.1 ∨ (W u = (stp W T m i).2.1 ∧ (stp W T m i).2.2 ≤ T u)
  | 0, u, hu, _ => by
    have : u = 0 := by omega
    subst this
    exact Or.inr ⟨h0, by rw [h1]; exact Nat.le_refl _⟩
  | i + 1, u, hu, ht => by
    rw [stp_s]
    split
    · rename_i w
      by_cases e : u = i + 1
      · subst e
        exact Or.inr ⟨rfl, Nat.le_refl _⟩
      · have ih := stp_d (m := m) h0 h1 i u (by omega) ht
        obtain ⟨_, w⟩ := w
        show W u < W (i + 1) ∨ (W u = W (i + 1) ∧ T (i + 1) ≤ T u)
        rcases ih with q | ⟨q1, q2⟩
        · rcases w with r | ⟨r1, r2⟩
          · left
            rw [Int32.lt_iff_toInt_lt] at *
            omega
          · left
            rw [r1]
            exact q
        · rcases w with r | ⟨r1, r2⟩
          · left
            rw [q1]
            exact r
          · right
            exact ⟨q1.trans r1.symm, by omega⟩
    · rename_i w
      by_cases e : u = i + 1
      · subst e
        by_cases q : W (i + 1) < (stp W T m i).2.1
        · exact Or.inl q
        · right
          have q2 : ¬ (stp W T m i).2.1 < W (i + 1) := fun r => w ⟨ht, Or.inl r⟩
          have q3 : W (i + 1) = (stp W T m i).2.1 := by
            rw [Int32.lt_iff_toInt_lt] at q q2
            rw [← Int32.toInt_inj]
            omega
          refine ⟨q3, ?_⟩
          refine Classical.byContradiction fun r => w ⟨ht, Or.inr ⟨q3, by omega⟩⟩
      · exact stp_d h0 h1 i u (by omega) ht
theorem stp_k {W : Nat → Int32} {T : Nat → Nat} {m i u : Nat} (h0 : W 0 = 0) (h1 : T 0 = 0) (hu : u < i + 1) (e1 : W u = W (i + 1)) (e2 : T u < T (i + 1)) : stp W T m (i + 1) = stp W T m i := by
  rw [stp_s, if_neg]
  rintro ⟨w1, w2⟩
  rcases stp_d (m := m) h0 h1 i u (by omega) (by omega) with q | ⟨q1, q2⟩
  · rw [e1] at q
    rcases w2 with r | ⟨r1, r2⟩
    · rw [Int32.lt_iff_toInt_lt] at *
      omega
    · rw [r1] at q
      rw [Int32.lt_iff_toInt_lt] at q
      omega
  · rw [e1] at q1
    rcases w2 with r | ⟨r1, r2⟩
    · rw [q1, Int32.lt_iff_toInt_lt] at r
      omega
    · omega
theorem stp_b {W : Nat → Int32} {T : Nat → Nat} {m : Nat} (h0 : W 0 = 0) (hT : ∀ i, T i ≤ 480) : ∀ i, (stp W T m i).1 ≤ i ∧ (stp W T m i).2.1 = W (stp W T m i).1 ∧ (stp W T m i).2.2 ≤ 480
  | 0 => ⟨Nat.le_refl _, h0.symm, Nat.zero_le _⟩
  | i + 1 => by
    have ih := stp_b (m := m) h0 hT i
    rw [stp_s]
    split
    · exact ⟨Nat.le_refl _, rfl, hT _⟩
    · exact ⟨by omega, ih.2⟩
/-- the bits of those that are worth nothing -/
def uB (v : Nat → Int32) : Nat → Nat
  | 0 => 0
  | i + 1 => uB v i ||| (if v i = 0 then 2 ^ i else 0)
theorem uB_s (v : Nat → Int32) (i : Nat) : uB v (i + 1) = uB v i ||| (if v i = 0 then 2 ^ i else 0) := rfl
theorem uB_t (v : Nat → Int32) (j : Nat) : ∀ i, (uB v i).testBit j = (decide (j < i) && decide (v j = 0))
  | 0 => by
    show (0 : Nat).testBit j = _
    rw [Nat.zero_testBit, decide_eq_false (by omega)]
    rfl
  | i + 1 => by
    rw [uB_s, Nat.testBit_or, uB_t v j i]
    by_cases e : j = i
    · subst e
      rw [decide_eq_false (by omega), decide_eq_true (show j < j + 1 by omega)]
      by_cases w : v j = 0
      · rw [if_pos w, Nat.testBit_two_pow, decide_eq_true rfl, decide_eq_true w]
        rfl
      · rw [if_neg w, Nat.zero_testBit, decide_eq_false w]
        rfl
    · have e2 : (if v i = 0 then 2 ^ i else 0).testBit j = false := by
        split
        · rw [Nat.testBit_two_pow, decide_eq_false (fun h => e h.symm)]
        · exact Nat.zero_testBit _
      rw [e2, Bool.or_false]
      by_cases w : j < i
      · rw [decide_eq_true w, decide_eq_true (show j < i + 1 by omega)]
      · rw [decide_eq_false w, decide_eq_false (show ¬ j < i + 1 by omega)]
theorem uB_l (v : Nat → Int32) : ∀ i, i ≤ 8 → uB v i < 2 ^ 8
  | 0, _ => (by decide : 0 < 2 ^ 8)
  | i + 1, hi => by
    rw [uB_s]
    refine Nat.or_lt_two_pow (uB_l v i (by omega)) ?_
    split
    · exact Nat.pow_lt_pow_right (by omega) (by omega)
    · decide
end BT
