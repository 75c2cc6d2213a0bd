/-! one object more -/
section GR
variable {x N : Nat} {z : Nat × Nat} {h : XH} {C M : Nat → Nat → Int32} {P Q : Nat → Nat → Int64} {A : Nat → Nat → Nat} {n : Nat → Nat} {c : Nat}
theorem up1_s (n : Nat → Nat) (j v : Nat) : up1 n j v j = v := by simp [up1]
theorem up1_n (n : Nat → Nat) {j c : Nat} (v : Nat) (h : c ≠ j) : up1 n j v c = n c := by simp [up1, h]
theorem up1_le {n : Nat → Nat} {j i c : Nat} (h : i < n c) : i < up1 n j (n j + 1) c := by
  unfold up1
  split
  · rename_i e; subst e; omega
  · exact h
theorem add_obj {j o : Nat} (hj : j < 7) (ho : lof j = o) (hs : Shp x h) (ht : ∀ h, Shp x h → xT h (x + o) = (1, 3)) (hd : Dy x z A h n n) (hC : C o 2 = iN (n j)) (hn : n j < 100) {h1 : XH} (eN : xN h1 = xN h + 1) (eT : ∀ b, b < xN h → xT h1 b = xT h b) (eTn : xT h1 (xN h) = ltg j) (eI : ∀ b k, b < xN h → xI h1 b k = xI h b k) (eA : ∀ b k, b < xN h → xA h1 b k = xA h b k) :
    ∃ h2 A2, fJx4a65c_add_9ea2d N z [.ref (x + o), .ref (xN h)] (hh x h1 C M P Q) = some (1, hh x h2 (up2 (up2 C o 0 (C o 0 + 1)) o 2 (iN (n j + 1))) M P Q) ∧ Dy x z A2 h2 (up1 n j (n j + 1)) (up1 n j (n j + 1)) ∧ Shp x h2 ∧ A2 j (n j) = xN h ∧ (∀ q i, q < 8 → i < n q → A2 q i = A q i ∧ (∀ k, xI h2 (A2 q i) k = xI h (A q i) k) ∧ ∀ k, xA h2 (A2 q i) k = xA h (A q i) k) ∧ (∀ k, xI h2 (A2 j (n j)) k = xI h1 (xN h) k) ∧ (∀ k, xA h2 (A2 j (n j)) k = xA h1 (xN h) k) ∧ (xA h2 (x + 9) 2 = xA h (x + 9) 2 ∧ xA h2 (x + 9) 3 = xA h (x + 9) 3) ∧ xN h2 ≤ xN h + 2 ∧ xN h ≤ xN h2 ∧ xS h2 ≤ xS h1 + 200 := by
  have hN := hd.nx
  have hd1 := hd.reg (c := j) (by omega) (by omega) eT eA eTn
  have hs1 : Shp x h1 := ⟨fun q hq => by rw [eT _ (by omega)]; exact hs.1 q hq, fun p hp => by have := sh_lt p hp; rw [eA _ _ (by omega)]; exact hs.2 p hp⟩
  have e1 : swp A j (n j) (xN h) j (n j) = xN h := swp_s _ _ _ _
  have hold : ∀ q i, q < 8 → i < n q → swp A j (n j) (xN h) q i = A q i := by
    intro q i hq hi
    refine swp_n (hd.b hq hi) ?_
    by_cases e : q = j
    · subst e; omega
    · exact Or.inl e
  obtain ⟨h2, A2, f1, f2, f3, f4, f5⟩ := l_add (N := N) (C := C) (M := M) (P := P) (Q := Q) hj ho (ht h1 hs1) hd1 hC (by rw [up1_s]; omega) (by rw [up1_s]; omega)
  rw [e1] at f1
  obtain ⟨g1, g2, g3, g4, g5, g6, g7⟩ := f3
  have hl7 : A2 j (n j) = xN h := by rw [g7 j (n j) (by omega) (by rw [up1_s]; omega), e1]
  refine ⟨h2, A2, f1, f2, g5 hs1, hl7, ?_, ?_, ?_, ?_, by omega, by omega, f5⟩
  · intro q i hq hi
    have hb := hd.b hq hi
    have ea : A2 q i = A q i := by rw [g7 q i hq (up1_le hi), hold q i hq hi]
    refine ⟨ea, fun k => ?_, fun k => ?_⟩
    · rw [ea, g3 _ _ (by omega), eI _ _ hb]
    · have := g4 q i k hq (up1_le hi)
      rw [hold q i hq hi] at this
      rw [ea, this, eA _ _ hb]
  · intro k
    rw [hl7, g3 _ _ (by omega)]
  · intro k
    have := g4 j (n j) k (by omega) (by rw [up1_s]; omega)
    rw [e1] at this
    rw [hl7, this]
  · rw [g6.1, g6.2, eA _ _ (by omega), eA _ _ (by omega)]
    exact ⟨rfl, rfl⟩
/-- the objects that stood keep what was said of them -/
theorem Inv.grow (hI : Inv x z A h C M P Q n c) {h2 : XH} {A2 : Nat → Nat → Nat} {C2 M2 : Nat → Nat → Int32} {n2 : Nat → Nat} {c2 : Nat} (hd : Dy x z A2 h2 n2 n2) (hs : Shp x h2) (cx : xA h2 (x + 9) 2 = xA h (x + 9) 2 ∧ xA h2 (x + 9) 3 = xA h (x + 9) 3)
    (fr : ∀ q i, q < 8 → i < n q → A2 q i = A q i ∧ (∀ k, xI h2 (A2 q i) k = xI h (A q i) k) ∧ ∀ k, xA h2 (A2 q i) k = xA h (A q i) k)
    (mo : ∀ q, n q ≤ n2 q) (h4 : n2 4 = n 4)
    (eB : ∀ q, 7 ≤ q → q ≤ 14 → ∀ i, i < n 0 → M2 q i = M q i) (eS : ∀ q, 23 ≤ q → q ≤ 28 → ∀ i, i < n 1 → M2 q i = M q i) (eH : ∀ q, 15 ≤ q → q ≤ 18 → ∀ i, i < n 4 → M2 q i = M q i) (eR : ∀ q, 19 ≤ q → q ≤ 20 → ∀ i, i < n 2 → M2 q i = M q i) (eR2 : ∀ i k, i < n 2 → k < 4 → M2 21 (4 * i + k) = M 21 (4 * i + k)) (eK : ∀ q, 31 ≤ q → q ≤ 33 → ∀ i, i < n 3 → M2 q i = M q i) (eE : ∀ q, 48 ≤ q → q ≤ 49 → ∀ i, i < n 5 → M2 q i = M q i) (eL : ∀ q, 37 ≤ q → q ≤ 43 → ∀ i, i < n 6 → M2 q i = M q i)
    (cf : CF C2 M2 P Q) (cr : CR C2 M2) (cn : CN C2 M2 n2) (cv : CV C2 M2) (ok : Ok M2 n2 c2)
    (nB : ∀ i, n 0 ≤ i → i < n2 0 → BkR h2 A2 M2 i ∧ GoR h2 A2 M2 n2 i) (nS : ∀ i, n 1 ≤ i → i < n2 1 → SlR h2 A2 M2 n2 i) (nR : ∀ i, n 2 ≤ i → i < n2 2 → RuR h2 A2 M2 i) (nK : ∀ i, n 3 ≤ i → i < n2 3 → LkR h2 A2 M2 i) (nE : ∀ i, n 5 ≤ i → i < n2 5 → EyR h2 A2 M2 i) (nL : ∀ i, n 6 ≤ i → i < n2 6 → LnR h2 A2 M2 i) : Inv x z A2 h2 C2 M2 P Q n2 c2 := by
  have hn7 := hI.cn.e7
  refine ⟨hs, hd, cf, cr, cn, fun i hi => ?_, fun i hi => ?_, fun i hi => ?_, fun i hi => ?_, fun i hi => ?_, fun i hi => ?_, fun i hi => ?_, fun i hi => ?_, cv, ?_, ok⟩
  · by_cases q : i < n 0
    · have o := hI.bk i q
      have f := (fr 0 i (by omega) q).2.1
      simp only [BkR, q_own, q_had, f, eB 7 (by omega) (by omega) i q, eB 8 (by omega) (by omega) i q, eB 9 (by omega) (by omega) i q, eB 10 (by omega) (by omega) i q, eB 11 (by omega) (by omega) i q, eB 12 (by omega) (by omega) i q, eB 13 (by omega) (by omega) i q] at o ⊢
      exact o
    · exact (nB i (by omega) hi).1
  · by_cases q : i < n 0
    · have o := hI.gr i q
      have f := (fr 0 i (by omega) q).2.2
      refine ⟨fun w => ?_, ?_, fun w => ?_⟩
      · rw [eB 10 (by omega) (by omega) i q] at w
        obtain ⟨s, s1, s2, s3⟩ := o.g w
        exact ⟨s, by have := mo 1; omega, by rw [eB 14 (by omega) (by omega) i q]; exact s2, by rw [f, s3, (fr 1 s (by omega) s1).1]⟩
      · rw [f, h4]
        rcases o.d with ⟨k, d1, d2, d3, d4, d5⟩ | ⟨d1, d2⟩
        · exact Or.inl ⟨k, d1, by rw [d2, (fr 4 k (by omega) d1).1], by rw [eH 15 (by omega) (by omega) k d1]; exact d3, by rw [eH 18 (by omega) (by omega) k d1]; exact d4, fun k2 hk2 w1 w2 => d5 k2 hk2 (by rw [eH 15 (by omega) (by omega) k2 hk2] at w1; exact w1) (by rw [eH 18 (by omega) (by omega) k2 hk2] at w2; exact w2)⟩
        · exact Or.inr ⟨d1, fun k2 hk2 w1 => by rw [eH 15 (by omega) (by omega) k2 hk2] at w1; rw [eH 18 (by omega) (by omega) k2 hk2]; exact d2 k2 hk2 w1⟩
      · rw [f]
        refine o.e ?_
        unfold q_had at w ⊢
        rw [eB 10 (by omega) (by omega) i q] at w
        exact w
    · exact (nB i (by omega) hi).2
  · by_cases q : i < n 1
    · have o := hI.sl i q
      have f := (fr 1 i (by omega) q).2
      obtain ⟨b, b1, b2, b3⟩ := o.b
      exact ⟨by rw [f.1, eS 24 (by omega) (by omega) i q]; exact o.k0, by rw [f.1, eS 26 (by omega) (by omega) i q]; exact o.k2, by rw [f.1, eS 28 (by omega) (by omega) i q]; exact o.k3, by rw [f.1, eS 23 (by omega) (by omega) i q]; exact o.k4, by rw [f.1, eS 27 (by omega) (by omega) i q]; exact o.k5, b, by have := mo 0; omega, by rw [eS 25 (by omega) (by omega) i q]; exact b2, by rw [f.2, b3, (fr 0 b (by omega) b1).1]⟩
    · exact nS i (by omega) hi
  · by_cases q : i < n 2
    · have o := hI.ru i q
      have f := (fr 2 i (by omega) q).2
      have f7 := fr 7 i (by omega) (by omega)
      refine ⟨by rw [f.1, eR 19 (by omega) (by omega) i q]; exact o.k0, by rw [f.1, eR 20 (by omega) (by omega) i q]; exact o.k1, by rw [f.2, f7.1]; exact o.k2, fun k hk => ?_, ?_⟩
      · rw [f7.2.1, eR2 i k q hk]
        exact o.w k hk
      · rw [eR 20 (by omega) (by omega) i q]
        exact o.f
    · exact nR i (by omega) hi
  · by_cases q : i < n 3
    · have o := hI.lk i q
      have f := (fr 3 i (by omega) q).2.1
      simp only [LkR, f, eK 31 (by omega) (by omega) i q, eK 32 (by omega) (by omega) i q, eK 33 (by omega) (by omega) i q] at o ⊢
      exact o
    · exact nK i (by omega) hi
  · have q : i < n 4 := by omega
    have o := hI.ha i q
    have f := (fr 4 i (by omega) q).2.1
    obtain ⟨b, b1, b2⟩ := o.b
    exact ⟨by rw [f, eH 15 (by omega) (by omega) i q]; exact o.k0, by rw [f, eH 16 (by omega) (by omega) i q]; exact o.k1, by rw [f, eH 17 (by omega) (by omega) i q]; exact o.k2, by rw [f, eH 18 (by omega) (by omega) i q]; exact o.k3, by rw [eH 16 (by omega) (by omega) i q]; exact o.r, b, by have := mo 0; omega, by rw [eH 15 (by omega) (by omega) i q]; exact b2⟩
  · by_cases q : i < n 5
    · have o := hI.ey i q
      have f := (fr 5 i (by omega) q).2.1
      simp only [EyR, f, eE 48 (by omega) (by omega) i q, eE 49 (by omega) (by omega) i q] at o ⊢
      exact o
    · exact nE i (by omega) hi
  · by_cases q : i < n 6
    · have o := hI.ln i q
      have f := (fr 6 i (by omega) q).2.1
      simp only [LnR, f, eL 37 (by omega) (by omega) i q, eL 38 (by omega) (by omega) i q, eL 39 (by omega) (by omega) i q, eL 40 (by omega) (by omega) i q, eL 41 (by omega) (by omega) i q, eL 42 (by omega) (by omega) i q, eL 43 (by omega) (by omega) i q] at o ⊢
      exact o
    · exact nL i (by omega) hi
  · have o := hI.cx
    simp only [CX, cx.1, cx.2] at o ⊢
    exact o
end GR
