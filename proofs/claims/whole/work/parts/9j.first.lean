/-! the invariant at the start -/
section FS
variable {x N : Nat} {z : Nat × Nat} {h : XH}
set_option maxRecDepth 100000 in
theorem e_T : ∀ j, j < 115 → rsT rm_E j = shTl.getD j (0, 0) := by decide +kernel
set_option maxRecDepth 100000 in
theorem e_R : ∀ p ∈ shAl, rsR rm_E p.1 p.2.1 = some (some p.2.2) := by decide +kernel
set_option maxRecDepth 100000 in
theorem e_L : ∀ j, j < 7 → rsR rm_E (lof j) 1 = some none := by decide +kernel
set_option maxRecDepth 100000 in
theorem e_N : rsN rm_E = 115 ∧ rsS rm_E ≤ 30000 := by decide +kernel
set_option maxRecDepth 100000 in
theorem e_X : rsR rm_E 9 2 = some (some 11) ∧ rsR rm_E 9 3 = some (some 12) := by decide +kernel
set_option maxRecDepth 100000 in
theorem e_f : rsI rm_E 0 14 = rsI rm_E 65 12 ∧ rsI rm_E 0 15 = rsI rm_E 65 0 ∧ rsI rm_E 0 16 = rsI rm_E 65 2 ∧ rsJ rm_E 0 17 = rsJ rm_E 65 3 ∧ rsJ rm_E 0 18 = rsJ rm_E 65 4 ∧ rsI rm_E 0 19 = rsI rm_E 65 59 ∧ rsI rm_E 0 20 = rsI rm_E 65 60 := by decide +kernel
set_option maxRecDepth 100000 in
theorem e_p : (∀ f, f < 3 → rsI rm_E 42 f = rsI rm_E 94 f) ∧ (∀ f, f < 3 → rsI rm_E 43 f = rsI rm_E 95 f) ∧ (∀ f, f < 6 → rsI rm_E 44 f = rsI rm_E 66 f) ∧ (∀ f, f < 3 → rsI rm_E 94 f = iN 1) ∧ (∀ f, f < 3 → rsI rm_E 95 f = iN 0) := by decide +kernel
set_option maxRecDepth 100000 in
theorem e_r : (∀ r, r < 6 → rsI rm_E (45 + 2 * r) 0 = rsI rm_E 67 r ∧ rsI rm_E 67 r = -1) ∧ (∀ r, r < 4 → rsI rm_E (45 + 2 * (6 + r)) 0 = rsI rm_E 70 r ∧ rsI rm_E 70 r = -1) := by decide +kernel
set_option maxRecDepth 100000 in
theorem e_q : (∀ r, r < 6 → ∀ i, i < 40 → rsI rm_E (46 + 2 * r) i = rsI rm_E 68 (40 * r + i)) ∧ (∀ r, r < 4 → ∀ i, i < 40 → rsI rm_E (46 + 2 * (6 + r)) i = rsI rm_E 71 (40 * r + i)) := by decide +kernel
set_option maxRecDepth 100000 in
theorem e_c : rsI rm_E 3 2 = 0 ∧ rsI rm_E 4 2 = 0 ∧ rsI rm_E 5 2 = 0 ∧ rsI rm_E 6 2 = 0 ∧ rsI rm_E 7 2 = 0 ∧ rsI rm_E 8 2 = 0 ∧ rsI rm_E 10 2 = 0 ∧ rsI rm_E 65 13 = 0 ∧ rsI rm_E 65 32 = 0 ∧ rsI rm_E 65 27 = 0 ∧ rsI rm_E 65 41 = 0 ∧ rsI rm_E 65 22 = 0 ∧ rsI rm_E 65 64 = 0 ∧ rsI rm_E 65 49 = 0 ∧ rsI rm_E 65 62 = 0 ∧ rsI rm_E 21 0 = 0 ∧ rsI rm_E 65 12 = 0 ∧ rsI rm_E 65 59 = 0 ∧ rsI rm_E 65 60 = 0 := by decide +kernel
set_option maxRecDepth 100000 in
theorem e_b : ∀ b, b < 24 → rsI rm_E 75 b = 0 ∧ rsI rm_E 76 b = 0 := by decide +kernel
theorem sq_in {s c t d : Nat} (hc : c ≤ s) (hd : d ≤ t) (e : s * s + c = t * t + d) : s = t := by
  rcases Nat.lt_trichotomy s t with q | q | q
  · have : (s + 1) * (s + 1) ≤ t * t := Nat.mul_le_mul q q
    rw [Nat.add_mul, Nat.mul_add] at this
    omega
  · exact q
  · have : (t + 1) * (t + 1) ≤ s * s := Nat.mul_le_mul q q
    rw [Nat.add_mul, Nat.mul_add] at this
    omega
def A0 (x c i : Nat) : Nat := x + 115 + ((c + i) * (c + i) + c)
theorem A0_i (x c i c' i' : Nat) (e : A0 x c i = A0 x c' i') : c = c' ∧ i = i' := by
  unfold A0 at e
  have := sq_in (s := c + i) (c := c) (t := c' + i') (d := c') (by omega) (by omega) (by omega)
  rw [this] at e
  omega
theorem hb_hh : hb x z.1 h rm_E = hh x (hb x z.1 h rm_E) (fun j i => rsI rm_E j i) (fun j i => rsI rm_E (65 + j) i) (fun j i => rsJ rm_E j i) (fun j i => rsJ rm_E (65 + j) i) := by
  refine hh_ext _ (fun a i => ?_) (fun a i => ?_) rfl rfl rfl rfl
  · show (if x ≤ a then rsI rm_E (a - x) i else xI h a i) = if x ≤ a ∧ a < x + 65 then rsI rm_E (a - x) i else if x + 65 ≤ a ∧ a < x + 115 then rsI rm_E (65 + (a - x - 65)) i else if x ≤ a then rsI rm_E (a - x) i else xI h a i
    by_cases e : x ≤ a ∧ a < x + 65
    · rw [if_pos e, if_pos e.1]
    · rw [if_neg e]
      by_cases e2 : x + 65 ≤ a ∧ a < x + 115
      · rw [if_pos e2, if_pos (by omega), show 65 + (a - x - 65) = a - x from by omega]
      · rw [if_neg e2]
  · show (if x ≤ a then rsJ rm_E (a - x) i else xJ h a i) = if x ≤ a ∧ a < x + 65 then rsJ rm_E (a - x) i else if x + 65 ≤ a ∧ a < x + 115 then rsJ rm_E (65 + (a - x - 65)) i else if x ≤ a then rsJ rm_E (a - x) i else xJ h a i
    by_cases e : x ≤ a ∧ a < x + 65
    · rw [if_pos e, if_pos e.1]
    · rw [if_neg e]
      by_cases e2 : x + 65 ≤ a ∧ a < x + 115
      · rw [if_pos e2, if_pos (by omega), show 65 + (a - x - 65) = a - x from by omega]
      · rw [if_neg e2]
theorem inv_0 (hz : z.1 < x) (hz2 : xT h z.1 = (205, 0)) : Inv x z (A0 x) (hb x z.1 h rm_E) (fun j i => rsI rm_E j i) (fun j i => rsI rm_E (65 + j) i) (fun j i => rsJ rm_E j i) (fun j i => rsJ rm_E (65 + j) i) (fun _ => 0) 0 := by
  obtain ⟨f1, f2, f3, f4, f5, f6, f7⟩ := e_f
  obtain ⟨p1, p2, p3, p4, p5⟩ := e_p
  obtain ⟨c1, c2, c3, c4, c5, c6, c7, c8, c9, c10, c11, c12, c13, c14, c15, c16, c17, c18, c19⟩ := e_c
  have zi : (0 : Int32) = iN 0 := rfl
  refine ⟨⟨fun j hj => (hb_T rm_E j).trans (e_T j hj), fun p hp => ?_⟩, ⟨A0_i x, fun c i => ?_, fun c i _ hi => absurd hi (Nat.not_lt_zero _), fun j hj => ⟨Nat.le_refl _, Or.inr ⟨rfl, ?_⟩⟩, hz, ?_, ?_⟩, ⟨f1, f2, f3, f4, f5, f6, f7, p1, p2, p3⟩, ⟨fun r hr => (e_r.1 r hr).1, fun r i hr hi => e_q.1 r hr i hi, fun r hr => (e_r.2 r hr).1, fun r i hr hi => e_q.2 r hr i hi, fun r hr => Or.inl (e_r.1 r hr).2, fun r hr => Or.inl (e_r.2 r hr).2⟩, ⟨c1, c8, Nat.zero_le _, c2, c9, Nat.zero_le _, c3, c10, Nat.zero_le _, c4, c11, Nat.zero_le _, c5, c12, Nat.zero_le _, c6, c13, Nat.zero_le _, c7, c14, Nat.zero_le _, rfl⟩, fun b hb => absurd hb (Nat.not_lt_zero _), fun b hb => absurd hb (Nat.not_lt_zero _), fun b hb => absurd hb (Nat.not_lt_zero _), fun b hb => absurd hb (Nat.not_lt_zero _), fun b hb => absurd hb (Nat.not_lt_zero _), fun b hb => absurd hb (Nat.not_lt_zero _), fun b hb => absurd hb (Nat.not_lt_zero _), fun b hb => absurd hb (Nat.not_lt_zero _), ⟨0, by omega, c15, c16, fun i hi => absurd hi (by omega)⟩, Or.inl ⟨?_, ?_⟩, ⟨⟨0, by omega, c17⟩, fun b hb => absurd hb (Nat.not_lt_zero _), fun b b2 hb => absurd hb (Nat.not_lt_zero _), fun b _ hb => e_b b hb, fun b hb => absurd hb (Nat.not_lt_zero _), fun f hf => ⟨1, by omega, by omega, p4 f hf⟩, fun f hf => ⟨0, by omega, p5 f hf⟩, ⟨0, 0, c18, c19, by omega, by omega⟩⟩⟩
  · rw [hb_A, e_R p hp]
    rfl
  · unfold A0
    omega
  · rw [hb_A, e_L j hj]
    rfl
  · show (if x ≤ z.1 then _ else xT h z.1) = _
    rw [if_neg (by omega)]
    exact hz2
  · show x + 115 ≤ x + rsN rm_E
    rw [e_N.1]
    omega
  · rw [hb_A, e_X.1]
    rfl
  · rw [hb_A, e_X.2]
    rfl
end FS
