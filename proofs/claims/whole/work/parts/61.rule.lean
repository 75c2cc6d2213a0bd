/-! a rule more -/
section RW2
variable {x N : Nat} {z : Nat × Nat} {h : XH} {C M : Nat → Nat → Int32} {P Q : Nat → Nat → Int64} {A : Nat → Nat → Nat} {n : Nat → Nat} {c : Nat}
theorem Inv.ru1 {M0 : Nat → Nat → Int32} (hI : Inv x z A h C M P Q n c) {v : Int32} {d : Nat} (hd69 : d ≤ 69) {W : Nat → Option Int32} (hW : okW W) {h2 : XH} (hR : Rd (ruH h v (iN d)) h2 (xN h + 1) (-1) W) (hf : n 2 < 16) (h22 : ∀ l, l < 4 → M 22 l = (W l).getD (-9)) :
    ∃ h3 A3, fJx4a65c_add_9ea2d N z [.ref (x + 5), .ref (xN h)] (hh x h2 C M0 P Q) = some (1, hh x h3 (up2 (up2 C 5 0 (C 5 0 + 1)) 5 2 (iN (n 2 + 1))) M0 P Q) ∧ Inv x z A3 h3 (up2 (up2 C 5 0 (C 5 0 + 1)) 5 2 (iN (n 2 + 1))) (up2 (rlM (up2 (up2 M 19 (n 2) v) 20 (n 2) (iN d)) (n 2) 4) 0 27 (iN (n 2 + 1))) P Q (up1 (up1 n 2 (n 2 + 1)) 7 (n 7 + 1)) c ∧ xN h3 ≤ xN h + 3 ∧ xS h3 ≤ xS h + 210 := by
  have hs := hI.sh
  have hX := hI.dy.nx
  have hn7 := hI.cn.e7
  have ho := fun {q : Nat} (hq : q < xN h) => ruH_o (v := v) (w := iN d) hq
  obtain ⟨r1, r2, r3, r4, r5, r6⟩ := ruH_n (h := h) v (iN d)
  have eN2 : xN h2 = xN h + 2 := hR.2.2.2.2.1
  have eS2 : xS h2 = xS h + 7 := hR.2.2.2.2.2
  have hT2 : ∀ b, xT h2 b = xT (ruH h v (iN d)) b := fun b => by rw [hR.2.2.2.1]
  have hA2 : ∀ b k, xA h2 b k = xA (ruH h v (iN d)) b k := fun b k => by rw [hR.2.2.1]
  have hd1 := hI.dy.reg (c := 2) (h2 := sA (xNew h 11 3) (xN h) 2 (some (xN h + 1))) (by omega) (Nat.lt_succ_self _) (fun b hb => xT_nn hb) (fun b k hb => by simp only [xA_sA]; rw [u2_n _ _ (Or.inl (by omega)), xA_nn hb]) (xT_nw _ _ _)
  have hd2 := hd1.reg (c := 7) (h2 := h2) (by omega) (by rw [eN2]; exact Nat.lt_succ_self _) (fun b hb => by
      have hb : b < xN h + 1 := hb
      rw [hT2]
      by_cases q : b < xN h
      · rw [(ho q).2.2]
        exact (xT_nn q).symm
      · have : b = xN h := by omega
        subst this
        rw [r1]
        exact (xT_nw _ _ _).symm) (fun b k hb => by
      have hb : b < xN h + 1 := hb
      rw [hA2]
      simp only [xA_sA]
      by_cases q : b < xN h
      · rw [(ho q).2.1, u2_n _ _ (Or.inl (by omega)), xA_nn q]
      · have : b = xN h := by omega
        subst this
        have hnn : xN h < xN (xNew h 11 3) := Nat.lt_succ_self _
        simp only [ruH, xA_sI, xA_sA, up2, true_and]
        rw [xA_nn hnn]) (by rw [hT2]; exact r2)
  have hxm : xN (sA (xNew h 11 3) (xN h) 2 (some (xN h + 1))) = xN h + 1 := rfl
  rw [hxm, up1_n n _ (by omega : (7 : Nat) ≠ 2)] at hd2
  generalize hA2e : swp (swp A 2 (n 2) (xN h)) 7 (n 7) (xN h + 1) = A2 at hd2
  have a2 : A2 2 (n 2) = xN h := by
    rw [← hA2e, swp_n (by rw [swp_s]; omega) (by omega), swp_s]
  have a7 : A2 7 (n 7) = xN h + 1 := by
    rw [← hA2e, swp_s]
  have aold : ∀ q i, q < 8 → i < n q → A2 q i = A q i := by
    intro q i hq hi
    have hb := hI.dy.b hq hi
    have h2' : q ≠ 2 ∨ i ≠ n 2 := by
      by_cases e : q = 2
      · subst e; omega
      · exact Or.inl e
    have h7' : q ≠ 7 ∨ i ≠ n 7 := by
      by_cases e : q = 7
      · subst e; omega
      · exact Or.inl e
    rw [← hA2e, swp_n (by rw [swp_n hb h2']; omega) h7', swp_n hb h2']
  have n22 : up1 (up1 n 2 (n 2 + 1)) 7 (n 7 + 1) 2 = n 2 + 1 := by rw [up1_n _ _ (by omega), up1_s]
  have n27 : up1 (up1 n 2 (n 2 + 1)) 7 (n 7 + 1) 7 = n 7 + 1 := up1_s _ _ _
  have nle : ∀ q, n q ≤ up1 (up1 n 2 (n 2 + 1)) 7 (n 7 + 1) q := by
    intro q
    unfold up1
    by_cases e : q = 7
    · subst e; rw [if_pos rfl]; omega
    · rw [if_neg e]
      by_cases e2 : q = 2
      · subst e2; rw [if_pos rfl]; omega
      · rw [if_neg e2]; exact Nat.le_refl _
  have hs2 : Shp x h2 := ⟨fun q hq => by rw [hT2, (ho (by omega)).2.2]; exact hs.1 q hq, fun p hp => by have := sh_lt p hp; rw [hA2, (ho (by omega)).2.1]; exact hs.2 p hp⟩
  obtain ⟨h3, A3, f1, f2, f3, f4, f5⟩ := l_add (N := N) (C := C) (M := M0) (P := P) (Q := Q) (j := 2) (o := 5) (by omega) rfl (st_5 hs2) hd2 hI.cn.c2 (by rw [n22]; omega) (by rw [n22]; omega)
  rw [a2] at f1
  obtain ⟨g1, g2, g3, g4, g5, g6, g7⟩ := f3
  have b2 : A3 2 (n 2) = xN h := by rw [g7 2 (n 2) (by omega) (by rw [n22]; omega), a2]
  have b7 : A3 7 (n 7) = xN h + 1 := by rw [g7 7 (n 7) (by omega) (by rw [n27]; omega), a7]
  have fr : ∀ q i, q < 8 → i < n q → A3 q i = A q i ∧ (∀ k, xI h3 (A3 q i) k = xI h (A q i) k) ∧ ∀ k, xA h3 (A3 q i) k = xA h (A q i) k := by
    intro q i hq hi
    have hb := hI.dy.b hq hi
    have hlt : i < up1 (up1 n 2 (n 2 + 1)) 7 (n 7 + 1) q := Nat.lt_of_lt_of_le hi (nle q)
    have ea : A3 q i = A q i := by rw [g7 q i hq hlt, aold q i hq hi]
    refine ⟨ea, fun k => ?_, fun k => ?_⟩
    · rw [ea, g3 _ _ (by omega), hR.2.1 _ _ (by omega), (ho hb).1]
    · have := g4 q i k hq hlt
      rw [aold q i hq hi] at this
      rw [ea, this, hA2, (ho hb).2.1]
  have cf := hI.cf
  have cn := hI.cn
  have ok := hI.ok
  have e10 : ∀ q, q ≠ 19 → q ≠ 20 → q ≠ 21 → q ≠ 0 → ∀ i, up2 (rlM (up2 (up2 M 19 (n 2) v) 20 (n 2) (iN d)) (n 2) 4) 0 27 (iN (n 2 + 1)) q i = M q i := by
    intro q h1 h2 h3 h4 i
    rw [u2_n _ _ (by omega), rlM_n _ _ _ h3, u2_n _ _ (by omega), u2_n _ _ (by omega)]
  have m00 : ∀ i, i ≠ 27 → up2 (rlM (up2 (up2 M 19 (n 2) v) 20 (n 2) (iN d)) (n 2) 4) 0 27 (iN (n 2 + 1)) 0 i = M 0 i := by
    intro i hi
    rw [u2_n _ _ (by omega), rlM_n _ _ _ (by omega), u2_n _ _ (by omega), u2_n _ _ (by omega)]
  have m19 : ∀ i, up2 (rlM (up2 (up2 M 19 (n 2) v) 20 (n 2) (iN d)) (n 2) 4) 0 27 (iN (n 2 + 1)) 19 i = up2 M 19 (n 2) v 19 i := by
    intro i
    rw [u2_n _ _ (by omega), rlM_n _ _ _ (by omega), u2_n _ _ (by omega)]
  have m20 : ∀ i, up2 (rlM (up2 (up2 M 19 (n 2) v) 20 (n 2) (iN d)) (n 2) 4) 0 27 (iN (n 2 + 1)) 20 i = up2 (up2 M 19 (n 2) v) 20 (n 2) (iN d) 20 i := by
    intro i
    rw [u2_n _ _ (by omega), rlM_n _ _ _ (by omega)]
  have m21 : ∀ q, up2 (rlM (up2 (up2 M 19 (n 2) v) 20 (n 2) (iN d)) (n 2) 4) 0 27 (iN (n 2 + 1)) 21 q = if 4 * n 2 ≤ q ∧ q < 4 * n 2 + 4 then M 22 (q - 4 * n 2) else M 21 q := by
    intro q
    rw [u2_n _ _ (by omega)]
    unfold rlM
    by_cases w : 4 * n 2 ≤ q ∧ q < 4 * n 2 + 4
    · rw [if_pos ⟨rfl, w⟩, if_pos w, u2_n _ _ (by omega), u2_n _ _ (by omega)]
    · rw [if_neg (fun q => w q.2), if_neg w, u2_n _ _ (by omega), u2_n _ _ (by omega)]
  refine ⟨h3, A3, f1, ?_, by omega, by omega⟩
  refine hI.grow (f2.lc ?_) (g5 hs2) ?_ fr nle (by rw [up1_n _ _ (by omega), up1_n _ _ (by omega)]) ?_ ?_ ?_ ?_ ?_ ?_ ?_ ?_ ⟨?_, ?_, ?_, cf.up, cf.lo, ?_, ?_, ?_, ?_, ?_⟩ (hI.cr.cg (fun j i hj => by rw [u2_n _ _ (by omega), u2_n _ _ (by omega)]) (fun i => e10 2 (by omega) (by omega) (by omega) (by omega) i) (fun i => e10 3 (by omega) (by omega) (by omega) (by omega) i) (fun i => e10 5 (by omega) (by omega) (by omega) (by omega) i) (fun i => e10 6 (by omega) (by omega) (by omega) (by omega) i)) ⟨cn.c0, (m00 13 (by omega)).trans cn.m0, cn.b0, cn.c1, (m00 32 (by omega)).trans cn.m1, cn.b1, ?_, ?_, ?_, cn.c3, (m00 41 (by omega)).trans cn.m3, cn.b3, cn.c4, (m00 22 (by omega)).trans cn.m4, cn.b4, cn.c5, (m00 64 (by omega)).trans cn.m5, cn.b5, cn.c6, (m00 49 (by omega)).trans cn.m6, cn.b6, ?_⟩ ?_ ?_ ?_ ?_ ?_ ?_ ?_ ?_
  · intro j hj
    by_cases e : j = 2
    · subst e; rw [n22, up1_s]
    · rw [up1_n _ _ (by omega), up1_n _ _ e]
  · rw [g6.1, g6.2, hA2, hA2, (ho (by omega)).2.1, (ho (by omega)).2.1]
    exact ⟨rfl, rfl⟩
  · intro q h1 h2 i hi
    exact e10 q (by omega) (by omega) (by omega) (by omega) i
  · intro q h1 h2 i hi
    exact e10 q (by omega) (by omega) (by omega) (by omega) i
  · intro q h1 h2 i hi
    exact e10 q (by omega) (by omega) (by omega) (by omega) i
  · intro q h1 h2 i hi
    have : q = 19 ∨ q = 20 := by omega
    rcases this with rfl | rfl
    · rw [m19, u2_n _ _ (by omega)]
    · rw [m20, u2_n _ _ (by omega), u2_n _ _ (by omega)]
  · intro i k hi hk
    rw [m21, if_neg (by omega)]
  · intro q h1 h2 i hi
    exact e10 q (by omega) (by omega) (by omega) (by omega) i
  · intro q h1 h2 i hi
    exact e10 q (by omega) (by omega) (by omega) (by omega) i
  · intro q h1 h2 i hi
    exact e10 q (by omega) (by omega) (by omega) (by omega) i
  · rw [m00 12 (by omega)]; exact cf.now
  · rw [m00 0 (by omega)]; exact cf.lf
  · rw [m00 2 (by omega)]; exact cf.la
  · rw [m00 59 (by omega)]; exact cf.seen
  · rw [m00 60 (by omega)]; exact cf.stw
  · intro f hf
    rw [e10 29 (by omega) (by omega) (by omega) (by omega)]; exact cf.pc f hf
  · intro f hf
    rw [e10 30 (by omega) (by omega) (by omega) (by omega)]; exact cf.fr f hf
  · intro f hf
    rw [e10 1 (by omega) (by omega) (by omega) (by omega)]; exact cf.cm f hf
  · rw [n22]; exact u2_s _ _ _ _
  · rw [n22]; exact u2_s _ _ _ _
  · rw [n22]; omega
  · rw [n27, n22, hn7]
  · obtain ⟨q, q1, q2, q3, q4⟩ := hI.cv
    exact ⟨q, q1, by rw [m00 62 (by omega)]; exact q2, q3, fun i hi => by rw [e10 47 (by omega) (by omega) (by omega) (by omega)]; exact q4 i hi⟩
  · refine ⟨by rw [m00 12 (by omega)]; exact ok.now, fun i hi => ?_, fun i i2 hi hi2 w => ?_, fun i h1 h2 => ?_, fun i hi => ?_, fun f hf => ?_, fun f hf => ?_, by rw [m00 59 (by omega), m00 60 (by omega)]; exact ok.wr⟩
    · have o := ok.bk i hi
      simp only [BkM, e10 7 (by omega) (by omega) (by omega) (by omega), e10 8 (by omega) (by omega) (by omega) (by omega), e10 9 (by omega) (by omega) (by omega) (by omega), e10 10 (by omega) (by omega) (by omega) (by omega), e10 11 (by omega) (by omega) (by omega) (by omega)] at o ⊢
      exact o
    · rw [e10 7 (by omega) (by omega) (by omega) (by omega), e10 7 (by omega) (by omega) (by omega) (by omega)] at w
      exact ok.dis i i2 hi hi2 w
    · rw [e10 10 (by omega) (by omega) (by omega) (by omega), e10 11 (by omega) (by omega) (by omega) (by omega)]
      exact ok.new i h1 h2
    · have o := ok.sl i hi
      simp only [SlM, e10 23 (by omega) (by omega) (by omega) (by omega), e10 24 (by omega) (by omega) (by omega) (by omega), e10 26 (by omega) (by omega) (by omega) (by omega)] at o ⊢
      exact o
    · rw [e10 29 (by omega) (by omega) (by omega) (by omega)]; exact ok.pc f hf
    · rw [e10 30 (by omega) (by omega) (by omega) (by omega)]; exact ok.fr f hf
  · intro i h1 h2
    exact absurd h2 (by rw [up1_n _ _ (by omega), up1_n _ _ (by omega)]; omega)
  · intro i h1 h2
    exact absurd h2 (by rw [up1_n _ _ (by omega), up1_n _ _ (by omega)]; omega)
  · intro i h1 h2
    rw [n22] at h2
    have : i = n 2 := by omega
    subst this
    have b7' : A3 7 (n 2) = xN h + 1 := by rw [← hn7]; exact b7
    have x2 : ∀ k, xI h3 (A3 2 (n 2)) k = xI (ruH h v (iN d)) (xN h) k := fun k => by rw [b2, g3 _ _ (by omega), hR.2.1 _ _ (by omega)]
    have xa2 : xA h3 (A3 2 (n 2)) 2 = some (xN h + 1) := by
      have := g4 2 (n 2) 2 (by omega) (by rw [n22]; omega)
      rw [a2] at this
      rw [b2, this, hA2]
      exact r5
    refine ⟨?_, ?_, ?_, fun k hk => ?_, ⟨d, hd69, ?_⟩⟩
    · rw [x2, r3, m19, u2_s]
    · rw [x2, r4, m20, u2_s]
    · rw [xa2, b7']
    · rw [m21, if_pos (by omega), show 4 * n 2 + k - 4 * n 2 = k by omega, h22 k hk, b7', g3 _ _ (by omega), hR.1 k hk]
      cases ew : W k with
      | none => exact Or.inl ⟨rfl, rfl⟩
      | some u =>
        obtain ⟨q, hq, eq⟩ := hW k u ew
        exact Or.inr ⟨q, hq, eq, eq⟩
    · rw [m20, u2_s]
  · intro i h1 h2
    exact absurd h2 (by rw [up1_n _ _ (by omega), up1_n _ _ (by omega)]; omega)
  · intro i h1 h2
    exact absurd h2 (by rw [up1_n _ _ (by omega), up1_n _ _ (by omega)]; omega)
  · intro i h1 h2
    exact absurd h2 (by rw [up1_n _ _ (by omega), up1_n _ _ (by omega)]; omega)
end RW2
