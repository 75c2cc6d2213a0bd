/-! one had more -/
section HD
variable {x N : Nat} {z : Nat × Nat} {h : XH} {C M M0 : Nat → Nat → Int32} {P Q : Nat → Nat → Int64} {A : Nat → Nat → Nat} {n : Nat → Nat} {c : Nat}
def hnM (M : Nat → Nat → Int32) (k b : Nat) (r t : Int32) : Nat → Nat → Int32 := up2 (up2 (up2 (up2 (up2 M 15 k (iN b)) 16 k r) 17 k t) 18 k (-9)) 0 22 (iN (k + 1))
theorem hnM_n (M : Nat → Nat → Int32) (k b : Nat) (r t : Int32) {j i : Nat} (h1 : j < 15 ∨ 18 < j ∨ i ≠ k) (h2 : j ≠ 0 ∨ i ≠ 22) : hnM M k b r t j i = M j i := by
  unfold hnM
  rw [u2_n _ _ h2, u2_n _ _ (by omega), u2_n _ _ (by omega), u2_n _ _ (by omega), u2_n _ _ (by omega)]
def hdH (h : XH) (a b : Nat) (i r t : Int32) : XH := sA (sI (sI (sI (sI (xNew h 5 4) b 3 (-9)) b 0 i) b 1 r) b 2 t) a 10 (some b)
theorem Inv.hd1 (hI : Inv x z A h C M P Q n c) {b : Nat} {r : Nat} (hb : b < n 0) (hr : r < 8) (t : Int32) (h4 : n 4 < 60) (hq : q_had M b = true) (nO : ∀ k, k < n 4 → M 15 k = iN b → M 18 k ≠ -9) : ∃ h2 A2, fJx4a65c_add_9ea2d N z [.ref (x + 7), .ref (xN h)] (hh x (hdH h (A 0 b) (xN h) (iN b) (iN r) t) C M0 P Q) = some (1, hh x h2 (up2 (up2 C 7 0 (C 7 0 + 1)) 7 2 (iN (n 4 + 1))) M0 P Q) ∧ Inv x z A2 h2 (up2 (up2 C 7 0 (C 7 0 + 1)) 7 2 (iN (n 4 + 1))) (hnM M (n 4) b (iN r) t) P Q (up1 n 4 (n 4 + 1)) c ∧ xN h2 ≤ xN h + 2 ∧ xS h2 ≤ xS h + 204 := by
  have hs := hI.sh
  have hd := hI.dy
  have hX := hd.nx
  have hbb := hd.b (c := 0) (by omega) hb
  have hgb := hd.g 0 b
  have bb0 := hI.cn.b0; have bb1 := hI.cn.b1; have bb2 := hI.cn.b2; have bb3 := hI.cn.b3; have bb4 := hI.cn.b4; have bb5 := hI.cn.b5; have bb6 := hI.cn.b6
  have hs' : Shp x (sA h (A 0 b) 10 (some (xN h))) := ⟨hs.1, fun p hp => by
    have := sh_lt p hp
    simp only [xA_sA]
    rw [u2_n _ _ (Or.inl (by omega))]
    exact hs.2 p hp⟩
  have hd' : Dy x z A (sA h (A 0 b) 10 (some (xN h))) n n := hd.same (Nat.le_refl _) (fun _ _ => rfl) (fun j k hj => by
    simp only [xA_sA]
    rw [u2_n _ _ (Or.inl (by rw [Ne, hd.aa]; omega))]) (fun j hj => by
    have := lof_lt hj
    simp only [xA_sA]
    rw [u2_n _ _ (Or.inl (by omega))])
  obtain ⟨h2, A2, f1, f2, f3, f4, f5, f6, f7, f8, f9, f10, f11⟩ := add_obj (N := N) (C := C) (M := M0) (P := P) (Q := Q) (j := 4) (o := 7) (by omega) rfl hs' (fun h hs => st_7 hs) hd' hI.cn.c4 (by omega) (h1 := hdH h (A 0 b) (xN h) (iN b) (iN r) t) rfl (fun b hb => xT_nn hb) (xT_nw _ _ _) (fun q k hq => by
    have hq : q < xN h := hq
    unfold hdH
    simp only [xI_sA, xI_sI]
    rw [u2_n _ _ (Or.inl (by omega)), u2_n _ _ (Or.inl (by omega)), u2_n _ _ (Or.inl (by omega)), u2_n _ _ (Or.inl (by omega)), xI_nn hq]) (fun q k hq => by
    have hq : q < xN h := hq
    unfold hdH
    simp only [xA_sA, xA_sI]
    unfold up2
    split
    · rfl
    · exact xA_nn hq)
  have f9 : xN h2 ≤ xN h + 2 := f9
  have f11 : xS h2 ≤ xS h + 204 := f11
  have f4 : A2 4 (n 4) = xN h := f4
  have f6 : ∀ k, xI h2 (A2 4 (n 4)) k = xI (hdH h (A 0 b) (xN h) (iN b) (iN r) t) (xN h) k := f6
  have fI : ∀ q i k, q < 8 → i < n q → xI h2 (A2 q i) k = xI h (A q i) k := fun q i k hq hi => (f5 q i hq hi).2.1 k
  have fA : ∀ q i k, q < 8 → i < n q → (q ≠ 0 ∨ i ≠ b ∨ k ≠ 10) → xA h2 (A2 q i) k = xA h (A q i) k := by
    intro q i k hq hi hn
    rw [(f5 q i hq hi).2.2 k]
    simp only [xA_sA]
    unfold up2
    rw [if_neg]
    intro w
    rw [hd.aa] at w
    omega
  have fb : xA h2 (A2 0 b) 10 = some (A2 4 (n 4)) := by
    rw [(f5 0 b (by omega) hb).2.2 10, f4]
    simp only [xA_sA]
    rw [u2_s]
  have cf := hI.cf
  have cn := hI.cn
  have ok := hI.ok
  have eM : ∀ j, j < 15 ∨ 18 < j → j ≠ 0 → ∀ i, hnM M (n 4) b (iN r) t j i = M j i := fun j h1 h2 i => hnM_n M _ _ _ _ (by omega) (by omega)
  have eO : ∀ j i, j ≠ 0 → i ≠ n 4 → hnM M (n 4) b (iN r) t j i = M j i := fun j i h1 h2 => hnM_n M _ _ _ _ (by omega) (by omega)
  have e0 : ∀ i, i ≠ 22 → hnM M (n 4) b (iN r) t 0 i = M 0 i := fun i hi => hnM_n M _ _ _ _ (by omega) (by omega)
  have m15 : hnM M (n 4) b (iN r) t 15 (n 4) = iN b := by unfold hnM; rw [u2_n _ _ (by omega), u2_n _ _ (by omega), u2_n _ _ (by omega), u2_n _ _ (by omega), u2_s]
  have m16 : hnM M (n 4) b (iN r) t 16 (n 4) = iN r := by unfold hnM; rw [u2_n _ _ (by omega), u2_n _ _ (by omega), u2_n _ _ (by omega), u2_s]
  have m17 : hnM M (n 4) b (iN r) t 17 (n 4) = t := by unfold hnM; rw [u2_n _ _ (by omega), u2_n _ _ (by omega), u2_s]
  have m18 : hnM M (n 4) b (iN r) t 18 (n 4) = -9 := by unfold hnM; rw [u2_n _ _ (by omega), u2_s]
  have u0 : ∀ q, q ≠ 4 → up1 n 4 (n 4 + 1) q = n q := fun q hq => up1_n _ _ hq
  have u4 : up1 n 4 (n 4 + 1) 4 = n 4 + 1 := up1_s _ _ _
  refine ⟨h2, A2, f1, ?_, f9, f11⟩
  refine ⟨f3, f2, ⟨?_, ?_, ?_, cf.up, cf.lo, ?_, ?_, fun f hf => ?_, fun f hf => ?_, fun f hf => ?_⟩, hI.cr.cg (fun j i hj => by rw [u2_n _ _ (by omega), u2_n _ _ (by omega)]) (fun _ => eM 2 (by omega) (by omega) _) (fun _ => eM 3 (by omega) (by omega) _) (fun _ => eM 5 (by omega) (by omega) _) (fun _ => eM 6 (by omega) (by omega) _), ?_, fun i hi => ?_, fun i hi => ?_, fun i hi => ?_, fun i hi => ?_, fun i hi => ?_, fun i hi => ?_, fun i hi => ?_, fun i hi => ?_, ?_, ?_, ?_⟩
  · rw [e0 _ (by omega), u2_n _ _ (by omega), u2_n _ _ (by omega)]; exact cf.now
  · rw [e0 _ (by omega), u2_n _ _ (by omega), u2_n _ _ (by omega)]; exact cf.lf
  · rw [e0 _ (by omega), u2_n _ _ (by omega), u2_n _ _ (by omega)]; exact cf.la
  · rw [e0 _ (by omega), u2_n _ _ (by omega), u2_n _ _ (by omega)]; exact cf.seen
  · rw [e0 _ (by omega), u2_n _ _ (by omega), u2_n _ _ (by omega)]; exact cf.stw
  · rw [eM 29 (by omega) (by omega), u2_n _ _ (by omega), u2_n _ _ (by omega)]; exact cf.pc f hf
  · rw [eM 30 (by omega) (by omega), u2_n _ _ (by omega), u2_n _ _ (by omega)]; exact cf.fr f hf
  · rw [eM 1 (by omega) (by omega), u2_n _ _ (by omega), u2_n _ _ (by omega)]; exact cf.cm f hf
  · refine ⟨cn.c0, ?_, cn.b0, cn.c1, ?_, cn.b1, cn.c2, ?_, cn.b2, cn.c3, ?_, cn.b3, u2_s _ _ _ _, u2_s _ _ _ _, by rw [u4]; omega, cn.c5, ?_, cn.b5, cn.c6, ?_, cn.b6, cn.e7⟩
    · rw [e0 _ (by omega)]; exact cn.m0
    · rw [e0 _ (by omega)]; exact cn.m1
    · rw [e0 _ (by omega)]; exact cn.m2
    · rw [e0 _ (by omega)]; exact cn.m3
    · rw [e0 _ (by omega)]; exact cn.m5
    · rw [e0 _ (by omega)]; exact cn.m6
  · have hi : i < n 0 := hi
    have o := hI.bk i hi
    simp only [BkR, q_own, q_had, fI 0 i _ (by omega) hi, eM 7 (by omega) (by omega), eM 8 (by omega) (by omega), eM 9 (by omega) (by omega), eM 10 (by omega) (by omega), eM 11 (by omega) (by omega), eM 12 (by omega) (by omega), eM 13 (by omega) (by omega)] at o ⊢
    exact o
  · have hi : i < n 0 := hi
    have o := hI.gr i hi
    refine ⟨fun w => ?_, ?_, fun w => ?_⟩
    · rw [eM 10 (by omega) (by omega)] at w
      obtain ⟨s, s1, s2, s3⟩ := o.g w
      exact ⟨s, s1, by rw [eM 14 (by omega) (by omega)]; exact s2, by rw [fA 0 i 9 (by omega) hi (by omega), s3, (f5 1 s (by omega) s1).1]⟩
    · by_cases e : i = b
      · subst e
        refine Or.inl ⟨n 4, by rw [u4]; omega, fb, m15, m18, fun k2 hk2 w1 w2 => ?_⟩
        by_cases e : k2 = n 4
        · exact e
        · rw [u4] at hk2
          rw [eO _ _ (by omega) e] at w1 w2
          exact absurd w2 (nO k2 (by omega) w1)
      · rw [fA 0 i 10 (by omega) hi (by omega)]
        rcases o.d with ⟨k, d1, d2, d3, d4, d5⟩ | ⟨d1, d2⟩
        · refine Or.inl ⟨k, by rw [u4]; omega, by rw [d2, (f5 4 k (by omega) d1).1], by rw [eO _ _ (by omega) (by omega)]; exact d3, by rw [eO _ _ (by omega) (by omega)]; exact d4, fun k2 hk2 w1 w2 => ?_⟩
          by_cases e2 : k2 = n 4
          · subst e2
            rw [m15, iN_eq (by omega) (by omega)] at w1
            exact absurd w1.symm e
          · rw [u4] at hk2
            rw [eO _ _ (by omega) e2] at w1 w2
            exact d5 k2 (by omega) w1 w2
        · refine Or.inr ⟨d1, fun k2 hk2 w1 => ?_⟩
          by_cases e2 : k2 = n 4
          · subst e2
            rw [m15, iN_eq (by omega) (by omega)] at w1
            exact absurd w1.symm e
          · rw [u4] at hk2
            rw [eO _ _ (by omega) e2] at w1 ⊢
            exact d2 k2 (by omega) w1
    · by_cases e : i = b
      · subst e
        unfold q_had at w hq
        rw [eM 10 (by omega) (by omega), hq] at w
        cases w
      · rw [fA 0 i 10 (by omega) hi (by omega)]
        refine o.e ?_
        unfold q_had at w ⊢
        rw [eM 10 (by omega) (by omega)] at w
        exact w
  · have hi : i < n 1 := hi
    have o := hI.sl i hi
    obtain ⟨b2, b1, b2', b3⟩ := o.b
    refine ⟨by rw [fI 1 i _ (by omega) hi, eM 24 (by omega) (by omega)]; exact o.k0, by rw [fI 1 i _ (by omega) hi, eM 26 (by omega) (by omega)]; exact o.k2, by rw [fI 1 i _ (by omega) hi, eM 28 (by omega) (by omega)]; exact o.k3, by rw [fI 1 i _ (by omega) hi, eM 23 (by omega) (by omega)]; exact o.k4, by rw [fI 1 i _ (by omega) hi, eM 27 (by omega) (by omega)]; exact o.k5, b2, b1, by rw [eM 25 (by omega) (by omega)]; exact b2', by rw [fA 1 i 1 (by omega) hi (by omega), b3, (f5 0 b2 (by omega) b1).1]⟩
  · have hi : i < n 2 := hi
    have o := hI.ru i hi
    have e7 : i < n 7 := by rw [cn.e7]; exact hi
    have f7' := f5 7 i (by omega) e7
    refine ⟨by rw [fI 2 i _ (by omega) hi, eM 19 (by omega) (by omega)]; exact o.k0, by rw [fI 2 i _ (by omega) hi, eM 20 (by omega) (by omega)]; exact o.k1, by rw [fA 2 i 2 (by omega) hi (by omega), f7'.1]; exact o.k2, fun k hk => ?_, ?_⟩
    · rw [fI 7 i _ (by omega) e7, eM 21 (by omega) (by omega)]
      exact o.w k hk
    · rw [eM 20 (by omega) (by omega)]
      exact o.f
  · have hi : i < n 3 := hi
    have o := hI.lk i hi
    simp only [LkR, fI 3 i _ (by omega) hi, eM 31 (by omega) (by omega), eM 32 (by omega) (by omega), eM 33 (by omega) (by omega)] at o ⊢
    exact o
  · rw [u4] at hi
    by_cases e : i = n 4
    · subst e
      refine ⟨?_, ?_, ?_, ?_, ⟨r, hr, m16⟩, ⟨b, hb, m15⟩⟩
      · rw [f6, m15]
        unfold hdH
        simp only [xI_sA, xI_sI, up2, true_and, Nat.reduceEqDiff, if_false, if_true]
      · rw [f6, m16]
        unfold hdH
        simp only [xI_sA, xI_sI, up2, true_and, Nat.reduceEqDiff, if_false, if_true]
      · rw [f6, m17]
        unfold hdH
        simp only [xI_sA, xI_sI, up2, true_and, Nat.reduceEqDiff, if_false, if_true]
      · rw [f6, m18]
        unfold hdH
        simp only [xI_sA, xI_sI, up2, true_and, Nat.reduceEqDiff, if_false, if_true]
    · have hi : i < n 4 := by omega
      have o := hI.ha i hi
      simp only [HaR, fI 4 i _ (by omega) hi, eO 15 i (by omega) e, eO 16 i (by omega) e, eO 17 i (by omega) e, eO 18 i (by omega) e] at o ⊢
      exact o
  · have hi : i < n 5 := hi
    have o := hI.ey i hi
    simp only [EyR, fI 5 i _ (by omega) hi, eM 48 (by omega) (by omega), eM 49 (by omega) (by omega)] at o ⊢
    exact o
  · have hi : i < n 6 := hi
    have o := hI.ln i hi
    simp only [LnR, fI 6 i _ (by omega) hi, eM 37 (by omega) (by omega), eM 38 (by omega) (by omega), eM 39 (by omega) (by omega), eM 40 (by omega) (by omega), eM 41 (by omega) (by omega), eM 42 (by omega) (by omega), eM 43 (by omega) (by omega)] at o ⊢
    exact o
  · obtain ⟨q, q1, q2, q3, q4⟩ := hI.cv.q
    exact ⟨q, q1, by rw [e0 _ (by omega)]; exact q2, q3, fun i hi => by rw [eM 47 (by omega) (by omega)]; exact q4 i hi⟩
  · have o := hI.cx
    have g1 : xA (sA h (A 0 b) 10 (some (xN h))) (x + 9) 2 = xA h (x + 9) 2 := by
      simp only [xA_sA]
      rw [u2_n _ _ (Or.inl (by omega))]
    have g2 : xA (sA h (A 0 b) 10 (some (xN h))) (x + 9) 3 = xA h (x + 9) 3 := by
      simp only [xA_sA]
      rw [u2_n _ _ (Or.inl (by omega))]
    simp only [CX, f8.1, f8.2, g1, g2] at o ⊢
    exact o
  · refine ⟨by rw [e0 _ (by omega)]; exact ok.now, fun i hi => ?_, fun i j hi hj w => ?_, fun i h1 h2 => ?_, fun i hi => ?_, fun f hf => by rw [eM 29 (by omega) (by omega)]; exact ok.pc f hf, fun f hf => by rw [eM 30 (by omega) (by omega)]; exact ok.fr f hf, by rw [e0 _ (by omega), e0 _ (by omega)]; exact ok.wr⟩
    · have o := ok.bk i hi
      simp only [BkM, eM 7 (by omega) (by omega), eM 8 (by omega) (by omega), eM 9 (by omega) (by omega), eM 10 (by omega) (by omega), eM 11 (by omega) (by omega)] at o ⊢
      exact o
    · rw [eM 7 (by omega) (by omega), eM 7 (by omega) (by omega)] at w
      exact ok.dis i j hi hj w
    · rw [eM 10 (by omega) (by omega), eM 11 (by omega) (by omega)]
      exact ok.new i h1 h2
    · have o := ok.sl i hi
      simp only [SlM, eM 23 (by omega) (by omega), eM 24 (by omega) (by omega), eM 26 (by omega) (by omega)] at o ⊢
      exact o
end HD
