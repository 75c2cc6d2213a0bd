/-! a fetcher is sent -/
section SN
variable {x N : Nat} {z : Nat × Nat} {h : XH} {C M : Nat → Nat → Int32} {P Q : Nat → Nat → Int64} {A : Nat → Nat → Nat} {n : Nat → Nat} {c : Nat}
theorem Inv.fre (hI : Inv x z A h C M P Q n c) {f t : Nat} (hf : f < 3) (ht : t ≤ 99999) : Inv x z A h (up2 C 43 f (iN t)) (up2 M 30 f (iN t)) P Q n c := by
  have cf := hI.cf
  have cr := hI.cr
  refine hI.fixc (fun j2 i hj2 => u2_n _ _ (Or.inl ?_)) (fun i hi => rfl) (fun j2 hj2 => u2_n _ _ (Or.inl ?_)) ⟨cf.now, cf.lf, cf.la, cf.up, cf.lo, cf.seen, cf.stw, cf.pc, fun g hg => ?_, cf.cm⟩ (cr.cg (fun j i hj => u2_n _ _ (by omega)) (fun _ => rfl) (fun _ => rfl) (fun _ => rfl) (fun _ => rfl)) hI.cv hI.ok.pc (fun g hg => ?_) hI.ok.wr
  · intro e; subst e; revert hj2; decide
  · intro e; subst e; revert hj2; decide
  · by_cases q : g = f
    · subst q
      rw [u2_s, u2_s]
    · rw [u2_n _ _ (Or.inr q), u2_n _ _ (Or.inr q)]
      exact cf.fr g hg
  · by_cases q : g = f
    · subst q
      rw [u2_s]
      exact ⟨t, ht, rfl⟩
    · rw [u2_n _ _ (Or.inr q)]
      exact hI.ok.fr g hg
/-- a slip's end -/
theorem Inv.sle (hI : Inv x z A h C M P Q n c) {s k : Nat} (hs1 : s < n 1) (hk : k < 4) (t : Int32) : Inv x z A (sI (sI h (A 1 s) 4 (iN k)) (A 1 s) 5 t) C (up2 (up2 M 23 s (iN k)) 27 s t) P Q n c := by
  have hd := hI.dy
  have eX : ∀ q i j, q ≠ 1 → xI (sI (sI h (A 1 s) 4 (iN k)) (A 1 s) 5 t) (A q i) j = xI h (A q i) j := by
    intro q i j hq
    simp only [xI_sI, up2, hd.aa, hq, false_and, if_false]
  have eM : ∀ j, j ≠ 23 → j ≠ 27 → ∀ i, up2 (up2 M 23 s (iN k)) 27 s t j i = M j i := fun j h1 h2 i => by rw [u2_n _ _ (Or.inl h2), u2_n _ _ (Or.inl h1)]
  have eS : ∀ j i, i ≠ s → up2 (up2 M 23 s (iN k)) 27 s t j i = M j i := fun j i hi => by rw [u2_n _ _ (Or.inr hi), u2_n _ _ (Or.inr hi)]
  refine hI.bks rfl rfl (fun q i j _ h1 _ => eX q i j h1) (fun _ _ _ => rfl) (fun j i hj => eM j ?_ ?_ i) ?_ ?_ ?_ ?_ ?_ ?_ ?_
  · simp only [List.mem_cons, List.not_mem_nil, or_false, not_or] at hj; omega
  · simp only [List.mem_cons, List.not_mem_nil, or_false, not_or] at hj; omega
  · intro i hi
    have o := hI.bk i hi
    simp only [BkR, q_own, q_had, eX 0 _ _ (by decide), eM 7 (by omega) (by omega), eM 8 (by omega) (by omega), eM 9 (by omega) (by omega), eM 10 (by omega) (by omega), eM 11 (by omega) (by omega), eM 12 (by omega) (by omega), eM 13 (by omega) (by omega)] at o ⊢
    exact o
  · intro i hi
    have o := hI.gr i hi
    simp only [GoR, q_had, eM 10 (by omega) (by omega), eM 14 (by omega) (by omega), eM 15 (by omega) (by omega), eM 18 (by omega) (by omega)] at o ⊢
    exact o
  · intro i hi
    have o := hI.sl i hi
    have ek : ∀ j, j ≠ 4 → j ≠ 5 → xI (sI (sI h (A 1 s) 4 (iN k)) (A 1 s) 5 t) (A 1 i) j = xI h (A 1 i) j := by
      intro j h1 h2
      simp only [xI_sI, up2, h1, h2, and_false, if_false]
    refine ⟨by rw [ek _ (by omega) (by omega), eM 24 (by omega) (by omega)]; exact o.k0, by rw [ek _ (by omega) (by omega), eM 26 (by omega) (by omega)]; exact o.k2, by rw [ek _ (by omega) (by omega), eM 28 (by omega) (by omega)]; exact o.k3, ?_, ?_, by simp only [eM 25 (by omega) (by omega)]; exact o.b⟩
    · by_cases e : i = s
      · subst e
        rw [u2_n _ _ (by omega), u2_s]
        simp only [xI_sI, up2, true_and, Nat.reduceEqDiff, if_false, if_true]
      · rw [eS _ i e]
        simp only [xI_sI, up2, hd.aa, e, and_false, false_and, if_false]
        exact o.k4
    · by_cases e : i = s
      · subst e
        rw [u2_s]
        simp only [xI_sI, up2, and_self, if_true]
      · rw [eS _ i e]
        simp only [xI_sI, up2, hd.aa, e, and_false, false_and, if_false]
        exact o.k5
  · intro i hi
    have o := hI.ha i hi
    simp only [HaR, eX 4 _ _ (by decide), eM 15 (by omega) (by omega), eM 16 (by omega) (by omega), eM 17 (by omega) (by omega), eM 18 (by omega) (by omega)] at o ⊢
    exact o
  · intro i hi
    have o := hI.ok.bk i hi
    simp only [BkM, eM 7 (by omega) (by omega), eM 8 (by omega) (by omega), eM 9 (by omega) (by omega), eM 10 (by omega) (by omega), eM 11 (by omega) (by omega)] at o ⊢
    exact o
  · intro i h1 h2
    rw [eM 10 (by omega) (by omega), eM 11 (by omega) (by omega)]
    exact hI.ok.new i h1 h2
  · intro i hi
    have o := hI.ok.sl i hi
    by_cases e : i = s
    · subst e
      exact ⟨o.r, o.t, ⟨k, hk, by rw [u2_n _ _ (by omega), u2_s]⟩⟩
    · simp only [SlM, eS _ i e] at o ⊢
      exact o
/-- a book is believed to be missing -/
theorem Inv.bel (hI : Inv x z A h C M P Q n c) {b : Nat} (hb : b < n 0) (h0 : M 10 b ≠ 0) (h1 : M 11 b = 0) : Inv x z A (sI h (A 0 b) 5 3) C (up2 M 11 b 3) P Q n c := by
  have hd := hI.dy
  have eX : ∀ q i j, q ≠ 0 → xI (sI h (A 0 b) 5 3) (A q i) j = xI h (A q i) j := by
    intro q i j hq
    simp only [xI_sI, up2, hd.aa, hq, false_and, if_false]
  have eM : ∀ j, j ≠ 11 → ∀ i, up2 M 11 b 3 j i = M j i := fun j h1 i => u2_n _ _ (Or.inl h1)
  have eI : ∀ j i, i ≠ b → up2 M 11 b 3 j i = M j i := fun j i hi => u2_n _ _ (Or.inr hi)
  refine hI.bks rfl rfl (fun q i j h1 _ _ => eX q i j h1) (fun _ _ _ => rfl) (fun j i hj => eM j ?_ i) ?_ ?_ ?_ ?_ ?_ ?_ ?_
  · simp only [List.mem_cons, List.not_mem_nil, or_false, not_or] at hj; omega
  · intro i hi
    have o := hI.bk i hi
    have ek : ∀ j, j ≠ 5 → xI (sI h (A 0 b) 5 3) (A 0 i) j = xI h (A 0 i) j := by
      intro j h1
      simp only [xI_sI, up2, h1, and_false, if_false]
    simp only [BkR, q_own, q_had, ek 0 (by omega), ek 1 (by omega), ek 2 (by omega), ek 3 (by omega), ek 4 (by omega), ek 6 (by omega), ek 7 (by omega), ek 8 (by omega), eM 7 (by omega), eM 8 (by omega), eM 9 (by omega), eM 10 (by omega), eM 12 (by omega), eM 13 (by omega)] at o ⊢
    refine ⟨o.1, o.2.1, o.2.2.1, o.2.2.2.1, o.2.2.2.2.1, ?_, o.2.2.2.2.2.2⟩
    by_cases e : i = b
    · subst e
      rw [u2_s]
      simp only [xI_sI, up2, and_self, if_true]
    · rw [eI _ i e]
      simp only [xI_sI, up2, hd.aa, e, and_false, false_and, if_false]
      exact o.2.2.2.2.2.1
  · intro i hi
    have o := hI.gr i hi
    simp only [GoR, q_had, eM 10 (by omega), eM 14 (by omega), eM 15 (by omega), eM 18 (by omega)] at o ⊢
    exact o
  · intro i hi
    have o := hI.sl i hi
    simp only [SlR, eX 1 _ _ (by decide), eM 23 (by omega), eM 24 (by omega), eM 25 (by omega), eM 26 (by omega), eM 27 (by omega), eM 28 (by omega)] at o ⊢
    exact o
  · intro i hi
    have o := hI.ha i hi
    simp only [HaR, eX 4 _ _ (by decide), eM 15 (by omega), eM 16 (by omega), eM 17 (by omega), eM 18 (by omega)] at o ⊢
    exact o
  · intro i hi
    have o := hI.ok.bk i hi
    by_cases e : i = b
    · subst e
      refine ⟨o.m, o.s, o.r, o.k, fun w => absurd w h0, fun w => ?_⟩
      have := o.o w
      rw [h1] at this
      exact absurd this (by decide)
    · simp only [BkM, eI _ i e] at o ⊢
      exact o
  · intro i h1 h2
    rw [eM 10 (by omega), eI _ i (by omega)]
    exact hI.ok.new i h1 h2
  · intro i hi
    have o := hI.ok.sl i hi
    simp only [SlM, eM 23 (by omega), eM 24 (by omega), eM 26 (by omega)] at o ⊢
    exact o
/-- a book is on its way -/
theorem Inv.go (hI : Inv x z A h C M P Q n c) {b s f : Nat} (hb : b < n 0) (hs1 : s < n 1) (h0 : M 10 b = 0) (t : Int32) : Inv x z A (sA (sI (sI (sI (sI (sI h (A 1 s) 4 1) (A 0 b) 4 5) (A 0 b) 6 (iN f)) (A 0 b) 5 1) (A 0 b) 8 t) (A 0 b) 9 (some (A 1 s))) C (up2 (up2 (up2 (up2 (up2 (up2 M 10 b 5) 11 b 1) 12 b (iN f)) 13 b t) 14 b (iN s)) 23 s 1) P Q n c := by
  have hd := hI.dy
  have hnh : q_had M b = false := had_f (by rw [h0]; decide) (by rw [h0]; decide)
  have hA := (hI.gr b hb).e hnh
  have eX : ∀ q i j, q ≠ 0 → q ≠ 1 → xI (sA (sI (sI (sI (sI (sI h (A 1 s) 4 1) (A 0 b) 4 5) (A 0 b) 6 (iN f)) (A 0 b) 5 1) (A 0 b) 8 t) (A 0 b) 9 (some (A 1 s))) (A q i) j = xI h (A q i) j := by
    intro q i j hq h1
    simp only [xI_sA, xI_sI, up2, hd.aa, hq, h1, false_and, if_false]
  have eB : ∀ i j, i ≠ b → xI (sA (sI (sI (sI (sI (sI h (A 1 s) 4 1) (A 0 b) 4 5) (A 0 b) 6 (iN f)) (A 0 b) 5 1) (A 0 b) 8 t) (A 0 b) 9 (some (A 1 s))) (A 0 i) j = xI h (A 0 i) j := by
    intro i j hi
    simp only [xI_sA, xI_sI, up2, hd.aa, hi, and_false, false_and, if_false, Nat.reduceEqDiff]
  have eAo : ∀ i j, (i ≠ b ∨ j ≠ 9) → xA (sA (sI (sI (sI (sI (sI h (A 1 s) 4 1) (A 0 b) 4 5) (A 0 b) 6 (iN f)) (A 0 b) 5 1) (A 0 b) 8 t) (A 0 b) 9 (some (A 1 s))) (A 0 i) j = xA h (A 0 i) j := by
    intro i j hi
    simp only [xA_sA, xA_sI, up2, hd.aa, true_and]
    rw [if_neg (by omega)]
  have eA1 : ∀ i j, xA (sA (sI (sI (sI (sI (sI h (A 1 s) 4 1) (A 0 b) 4 5) (A 0 b) 6 (iN f)) (A 0 b) 5 1) (A 0 b) 8 t) (A 0 b) 9 (some (A 1 s))) (A 1 i) j = xA h (A 1 i) j := by
    intro i j
    simp only [xA_sA, xA_sI, up2, hd.aa, Nat.reduceEqDiff, false_and, if_false]
  have eM : ∀ j, j ≠ 10 → j ≠ 11 → j ≠ 12 → j ≠ 13 → j ≠ 14 → j ≠ 23 → ∀ i, up2 (up2 (up2 (up2 (up2 (up2 M 10 b 5) 11 b 1) 12 b (iN f)) 13 b t) 14 b (iN s)) 23 s 1 j i = M j i := by
    intro j h1 h2 h3 h4 h5 h6 i
    rw [u2_n _ _ (Or.inl h6), u2_n _ _ (Or.inl h5), u2_n _ _ (Or.inl h4), u2_n _ _ (Or.inl h3), u2_n _ _ (Or.inl h2), u2_n _ _ (Or.inl h1)]
  have eI : ∀ j i, i ≠ b → j ≠ 23 → up2 (up2 (up2 (up2 (up2 (up2 M 10 b 5) 11 b 1) 12 b (iN f)) 13 b t) 14 b (iN s)) 23 s 1 j i = M j i := by
    intro j i hi h6
    rw [u2_n _ _ (Or.inl h6), u2_n _ _ (Or.inr hi), u2_n _ _ (Or.inr hi), u2_n _ _ (Or.inr hi), u2_n _ _ (Or.inr hi), u2_n _ _ (Or.inr hi)]
  have m10 : up2 (up2 (up2 (up2 (up2 (up2 M 10 b 5) 11 b 1) 12 b (iN f)) 13 b t) 14 b (iN s)) 23 s 1 10 b = 5 := by
    rw [u2_n _ _ (by omega), u2_n _ _ (by omega), u2_n _ _ (by omega), u2_n _ _ (by omega), u2_n _ _ (by omega), u2_s]
  have m11 : up2 (up2 (up2 (up2 (up2 (up2 M 10 b 5) 11 b 1) 12 b (iN f)) 13 b t) 14 b (iN s)) 23 s 1 11 b = 1 := by
    rw [u2_n _ _ (by omega), u2_n _ _ (by omega), u2_n _ _ (by omega), u2_n _ _ (by omega), u2_s]
  have m12 : up2 (up2 (up2 (up2 (up2 (up2 M 10 b 5) 11 b 1) 12 b (iN f)) 13 b t) 14 b (iN s)) 23 s 1 12 b = iN f := by
    rw [u2_n _ _ (by omega), u2_n _ _ (by omega), u2_n _ _ (by omega), u2_s]
  have m13 : up2 (up2 (up2 (up2 (up2 (up2 M 10 b 5) 11 b 1) 12 b (iN f)) 13 b t) 14 b (iN s)) 23 s 1 13 b = t := by
    rw [u2_n _ _ (by omega), u2_n _ _ (by omega), u2_s]
  have m14 : up2 (up2 (up2 (up2 (up2 (up2 M 10 b 5) 11 b 1) 12 b (iN f)) 13 b t) 14 b (iN s)) 23 s 1 14 b = iN s := by
    rw [u2_n _ _ (by omega), u2_s]
  refine hI.bks rfl rfl (fun q i j h0 h1 _ => eX q i j h0 h1) (fun a j ha => ?_) (fun j i hj => ?_) ?_ ?_ ?_ ?_ ?_ ?_ ?_
  · simp only [xA_sA, xA_sI, up2]
    rw [if_neg (fun w => ha b w.1)]
  · simp only [List.mem_cons, List.not_mem_nil, or_false, not_or] at hj
    exact eM j (by omega) (by omega) (by omega) (by omega) (by omega) (by omega) i
  · intro i hi
    have o := hI.bk i hi
    by_cases e : i = b
    · subst e
      have nh : q_had (up2 (up2 (up2 (up2 (up2 (up2 M 10 i 5) 11 i 1) 12 i (iN f)) 13 i t) 14 i (iN s)) 23 s 1) i = false := had_f (by rw [m10]; decide) (by rw [m10]; decide)
      refine ⟨?_, ?_, ?_, ?_, ?_, ?_, ?_, fun w => ?_, fun _ => ?_⟩
      · simp only [xI_sA, xI_sI, up2, hd.aa, true_and, Nat.reduceEqDiff, and_false, false_and, if_false]; exact o.k0
      · rw [eM 7 (by omega) (by omega) (by omega) (by omega) (by omega) (by omega)]; simp only [xI_sA, xI_sI, up2, hd.aa, true_and, Nat.reduceEqDiff, and_false, false_and, if_false]; exact o.k1
      · rw [eM 8 (by omega) (by omega) (by omega) (by omega) (by omega) (by omega)]; simp only [xI_sA, xI_sI, up2, hd.aa, true_and, Nat.reduceEqDiff, and_false, false_and, if_false]; exact o.k2
      · rw [eM 9 (by omega) (by omega) (by omega) (by omega) (by omega) (by omega)]; simp only [xI_sA, xI_sI, up2, hd.aa, true_and, Nat.reduceEqDiff, and_false, false_and, if_false]; exact o.k3
      · rw [m10]; simp only [xI_sA, xI_sI, up2, true_and, Nat.reduceEqDiff, if_false, if_true]
      · rw [m11]; simp only [xI_sA, xI_sI, up2, true_and, Nat.reduceEqDiff, if_false, if_true]
      · unfold q_own
        rw [m10, if_neg (by decide), if_pos (by decide), m12]; simp only [xI_sA, xI_sI, up2, true_and, Nat.reduceEqDiff, if_false, if_true]
      · rw [nh] at w; cases w
      · rw [m13]; simp only [xI_sA, xI_sI, up2, and_self, if_true]
    · simp only [BkR, q_own, q_had, eB i _ e, eI 7 i e (by omega), eI 8 i e (by omega), eI 9 i e (by omega), eI 10 i e (by omega), eI 11 i e (by omega), eI 12 i e (by omega), eI 13 i e (by omega)] at o ⊢
      exact o
  · intro i hi
    have o := hI.gr i hi
    by_cases e : i = b
    · subst e
      refine ⟨fun _ => ⟨s, hs1, m14, ?_⟩, ?_, fun _ => ?_⟩
      · simp only [xA_sA, up2, and_self, if_true]
      · rw [eAo i 10 (by omega)]
        have := o.d
        simp only [eM 15 (by omega) (by omega) (by omega) (by omega) (by omega) (by omega), eM 18 (by omega) (by omega) (by omega) (by omega) (by omega) (by omega)]
        exact this
      · rw [eAo i 10 (by omega)]; exact hA
    · simp only [GoR, q_had, eAo i 9 (by omega), eAo i 10 (by omega), eI 10 i e (by omega), eI 14 i e (by omega), eM 15 (by omega) (by omega) (by omega) (by omega) (by omega) (by omega), eM 18 (by omega) (by omega) (by omega) (by omega) (by omega) (by omega)] at o ⊢
      exact o
  · intro i hi
    have o := hI.sl i hi
    have ek : ∀ j, j ≠ 4 → xI (sA (sI (sI (sI (sI (sI h (A 1 s) 4 1) (A 0 b) 4 5) (A 0 b) 6 (iN f)) (A 0 b) 5 1) (A 0 b) 8 t) (A 0 b) 9 (some (A 1 s))) (A 1 i) j = xI h (A 1 i) j := by
      intro j h1
      simp only [xI_sA, xI_sI, up2, hd.aa, h1, Nat.reduceEqDiff, and_false, false_and, if_false]
    refine ⟨by rw [ek _ (by omega), eM 24 (by omega) (by omega) (by omega) (by omega) (by omega) (by omega)]; exact o.k0, by rw [ek _ (by omega), eM 26 (by omega) (by omega) (by omega) (by omega) (by omega) (by omega)]; exact o.k2, by rw [ek _ (by omega), eM 28 (by omega) (by omega) (by omega) (by omega) (by omega) (by omega)]; exact o.k3, ?_, by rw [ek _ (by omega), eM 27 (by omega) (by omega) (by omega) (by omega) (by omega) (by omega)]; exact o.k5, ?_⟩
    · by_cases e : i = s
      · subst e
        rw [u2_s]
        simp only [xI_sA, xI_sI, up2, hd.aa, Nat.reduceEqDiff, false_and, and_self, if_false, if_true]
      · rw [u2_n _ _ (Or.inr e), u2_n _ _ (by omega), u2_n _ _ (by omega), u2_n _ _ (by omega), u2_n _ _ (by omega), u2_n _ _ (by omega)]
        simp only [xI_sA, xI_sI, up2, hd.aa, e, Nat.reduceEqDiff, false_and, and_false, if_false]
        exact o.k4
    · simp only [eA1, eM 25 (by omega) (by omega) (by omega) (by omega) (by omega) (by omega)]
      exact o.b
  · intro i hi
    have o := hI.ha i hi
    simp only [HaR, eX 4 _ _ (by decide) (by decide), eM 15 (by omega) (by omega) (by omega) (by omega) (by omega) (by omega), eM 16 (by omega) (by omega) (by omega) (by omega) (by omega) (by omega), eM 17 (by omega) (by omega) (by omega) (by omega) (by omega) (by omega), eM 18 (by omega) (by omega) (by omega) (by omega) (by omega) (by omega)] at o ⊢
    exact o
  · intro i hi
    have o := hI.ok.bk i hi
    by_cases e : i = b
    · subst e
      refine ⟨by rw [eM 7 (by omega) (by omega) (by omega) (by omega) (by omega) (by omega)]; exact o.m, by rw [eM 8 (by omega) (by omega) (by omega) (by omega) (by omega) (by omega)]; exact o.s, by rw [eM 9 (by omega) (by omega) (by omega) (by omega) (by omega) (by omega)]; exact o.r, ⟨5, by omega, m10⟩, fun w => ?_, fun _ => m11⟩
      rw [m10] at w
      exact absurd w (by decide)
    · simp only [BkM, eI 7 i e (by omega), eI 8 i e (by omega), eI 9 i e (by omega), eI 10 i e (by omega), eI 11 i e (by omega)] at o ⊢
      exact o
  · intro i h1 h2
    rw [eI 10 i (by omega) (by omega), eI 11 i (by omega) (by omega)]
    exact hI.ok.new i h1 h2
  · intro i hi
    have o := hI.ok.sl i hi
    refine ⟨by rw [eM 24 (by omega) (by omega) (by omega) (by omega) (by omega) (by omega)]; exact o.r, by rw [eM 26 (by omega) (by omega) (by omega) (by omega) (by omega) (by omega)]; exact o.t, ?_⟩
    by_cases e : i = s
    · subst e
      exact ⟨1, by omega, u2_s _ _ _ _⟩
    · rw [u2_n _ _ (Or.inr e), u2_n _ _ (by omega), u2_n _ _ (by omega), u2_n _ _ (by omega), u2_n _ _ (by omega), u2_n _ _ (by omega)]
      exact o.h
end SN
