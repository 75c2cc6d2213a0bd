/-! what the class's gathering leaves -/
section GA
variable {x N : Nat} {z : Nat × Nat} {h : XH} {C M : Nat → Nat → Int32} {P Q : Nat → Nat → Int64} {A : Nat → Nat → Nat} {n : Nat → Nat} {c : Nat}
def q_fl (M : Nat → Nat → Int32) (s : Nat) : Int32 := M 8 (M 25 s).toNatClampNeg / 2
def q_fv (M : Nat → Nat → Int32) (l : Nat) : Int32 := oMax (M 30 l - M 0 12) 0
def Lx (F : Nat → Int32) (a b : Nat) : Prop := F a < F b ∨ (F a = F b ∧ a < b)
def GI (M C D : Nat → Nat → Int32) (i : Nat) : Prop := (∀ j l, j < 13 ∨ 20 < j → D j l = C j l) ∧ D 13 3 = iN (q_wn M i) ∧ (∀ l, l < 3 → D 14 l = M 29 l) ∧ (∀ l, l < 3 → D 15 l = q_fv M l) ∧ (∀ s, s < i → M 23 s = 0 → D 17 (q_wn M s) = q_fl M s) ∧ ∃ o : Nat → Nat, (∀ k, k < q_wn M i → o k < q_wn M i ∧ D 18 k = iN (o k)) ∧ ∀ k l, k < l → l < q_wn M i → Lx (D 17) (o k) (o l)
theorem GI.f {D : Nat → Nat → Int32} {i : Nat} (g : GI M C D i) : ∀ j l, j < 13 ∨ 20 < j → D j l = C j l := g.1
theorem GI.ct {D : Nat → Nat → Int32} {i : Nat} (g : GI M C D i) : D 13 3 = iN (q_wn M i) := g.2.1
theorem GI.p {D : Nat → Nat → Int32} {i : Nat} (g : GI M C D i) : ∀ l, l < 3 → D 14 l = M 29 l := g.2.2.1
theorem GI.r {D : Nat → Nat → Int32} {i : Nat} (g : GI M C D i) : ∀ l, l < 3 → D 15 l = q_fv M l := g.2.2.2.1
theorem GI.v {D : Nat → Nat → Int32} {i : Nat} (g : GI M C D i) : ∀ s, s < i → M 23 s = 0 → D 17 (q_wn M s) = q_fl M s := g.2.2.2.2.1
theorem GI.o {D : Nat → Nat → Int32} {i : Nat} (g : GI M C D i) : ∃ o : Nat → Nat, (∀ k, k < q_wn M i → o k < q_wn M i ∧ D 18 k = iN (o k)) ∧ ∀ k l, k < l → l < q_wn M i → Lx (D 17) (o k) (o l) := g.2.2.2.2.2
theorem wn_lt (M : Nat → Nat → Int32) {s : Nat} (h0 : M 23 s = 0) : ∀ b, s < b → q_wn M s < q_wn M b
  | 0, hb => absurd hb (by omega)
  | b + 1, hb => by
    rw [wn_s]
    by_cases e2 : s = b
    · subst e2
      rw [if_pos h0]
      omega
    · have := wn_lt M h0 b (by omega)
      split <;> omega
theorem qu_17 {D : Nat → Nat → Int32} {p w a : Nat} {v : Int32} (ha : a < w) : quC D p w v 17 a = D 17 a := by
  unfold quC
  rw [u2_n _ _ (by omega), u2_n _ _ (by omega), u2_n _ _ (by omega), shC_n _ (by omega)]
theorem qu_17w {D : Nat → Nat → Int32} {p w : Nat} {v : Int32} : quC D p w v 17 w = v := by
  unfold quC
  rw [u2_n _ _ (by omega), u2_s]
theorem qu_n {D : Nat → Nat → Int32} {p w j l : Nat} {v : Int32} (h1 : j ≠ 17) (h2 : j ≠ 18) (h3 : j ≠ 13) : quC D p w v j l = D j l := by
  unfold quC
  rw [u2_n _ _ (by omega), u2_n _ _ (by omega), u2_n _ _ (by omega), shC_n _ (by omega)]
theorem GI.skip {D : Nat → Nat → Int32} {i : Nat} (g : GI M C D i) (h0 : M 23 i ≠ 0) : GI M C D (i + 1) := by
  have e : q_wn M (i + 1) = q_wn M i := by rw [wn_s, if_neg h0]
  refine ⟨g.f, by rw [e]; exact g.ct, g.p, g.r, fun s hs h1 => ?_, by rw [e]; exact g.o⟩
  by_cases e2 : s = i
  · subst e2; exact absurd h1 h0
  · exact g.v s (by omega) h1
theorem GI.add {D : Nat → Nat → Int32} {i p : Nat} (g : GI M C D i) (h0 : M 23 i = 0) {o : Nat → Nat} (ho : ∀ k, k < q_wn M i → o k < q_wn M i ∧ D 18 k = iN (o k)) (hs : ∀ k l, k < l → l < q_wn M i → Lx (D 17) (o k) (o l)) (p1 : p ≤ q_wn M i) (p2 : ∀ k, p ≤ k → k < q_wn M i → q_fl M i < D 17 (o k)) (p3 : p = 0 ∨ ¬ q_fl M i < D 17 (o (p - 1))) : GI M C (quC D p (q_wn M i) (q_fl M i)) (i + 1) := by
  have e : q_wn M (i + 1) = q_wn M i + 1 := by rw [wn_s, if_pos h0]
  generalize hw : q_wn M i = w at *
  refine ⟨fun j l hj => ?_, by rw [e]; exact u2_s _ _ _ _, fun l hl => ?_, fun l hl => ?_, fun s hs h1 => ?_, ⟨fun k => if k < p then o k else if k = p then w else o (k - 1), fun k hk => ?_, fun k l hkl hl => ?_⟩⟩
  · rw [qu_n (by omega) (by omega) (by omega)]
    exact g.f j l hj
  · rw [qu_n (by omega) (by omega) (by omega)]
    exact g.p l hl
  · rw [qu_n (by omega) (by omega) (by omega)]
    exact g.r l hl
  · by_cases e2 : s = i
    · subst e2
      rw [hw]
      exact qu_17w
    · have := wn_lt M h1 i (by omega)
      rw [qu_17 (by omega)]
      exact g.v s (by omega) h1
  · rw [e] at hk ⊢
    by_cases k1 : k < p
    · have := ho k (by omega)
      simp only [if_pos k1]
      refine ⟨by omega, ?_⟩
      unfold quC
      rw [u2_n _ _ (by omega), u2_n _ _ (by omega), u2_n _ _ (by omega), shC_n _ (by omega)]
      exact this.2
    · by_cases k2 : k = p
      · subst k2
        simp only [Nat.lt_irrefl, if_false, if_true]
        refine ⟨by omega, ?_⟩
        unfold quC
        rw [u2_n _ _ (by omega), u2_n _ _ (by omega), u2_s]
      · have := ho (k - 1) (by omega)
        simp only [if_neg k1, if_neg k2]
        refine ⟨by omega, ?_⟩
        unfold quC
        rw [u2_n _ _ (by omega), u2_n _ _ (by omega), u2_n _ _ (by omega)]
        unfold shC
        rw [if_pos (by omega)]
        exact this.2
  · rw [e] at hl
    have old : ∀ a b, a < b → b < w → Lx (quC D p w (q_fl M i) 17) (o a) (o b) := by
      intro a b h1 h2
      have := hs a b h1 h2
      have ha := (ho a (by omega)).1
      have hb := (ho b h2).1
      unfold Lx
      rw [qu_17 ha, qu_17 hb]
      exact this
    by_cases l1 : l < p
    · simp only [if_pos l1, if_pos (show k < p by omega)]
      exact old k l hkl (by omega)
    · by_cases l2 : l = p
      · subst l2
        simp only [Nat.lt_irrefl, if_false, if_true, if_pos hkl]
        have hk := (ho k (by omega)).1
        unfold Lx
        rw [qu_17 hk, qu_17w]
        have q3 : ¬ q_fl M i < D 17 (o (l - 1)) := by
          rcases p3 with h | h
          · omega
          · exact h
        have q4 : ¬ q_fl M i < D 17 (o k) := by
          by_cases ek : k = l - 1
          · subst ek; exact q3
          · rcases hs k (l - 1) (by omega) (by omega) with h | h
            · rw [Int32.lt_iff_toInt_lt] at *
              omega
            · rw [h.1]; exact q3
        by_cases eq : D 17 (o k) = q_fl M i
        · exact Or.inr ⟨eq, hk⟩
        · left
          rw [← Int32.toInt_inj] at eq
          rw [Int32.lt_iff_toInt_lt] at *
          omega
      · simp only [if_neg l1, if_neg l2]
        by_cases k1 : k < p
        · simp only [if_pos k1]
          exact old k (l - 1) (by omega) (by omega)
        · by_cases k2 : k = p
          · subst k2
            simp only [Nat.lt_irrefl, if_false, if_true]
            have hb := (ho (l - 1) (by omega)).1
            left
            rw [qu_17 hb, qu_17w]
            exact p2 _ (by omega) (by omega)
          · simp only [if_neg k1, if_neg k2]
            exact old (k - 1) (l - 1) (by omega) (by omega)
end GA
