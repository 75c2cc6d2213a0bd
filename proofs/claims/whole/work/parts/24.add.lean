/-! a list takes one more -/
section AD
variable {x N : Nat} {z : Nat × Nat} {h : XH} {C M : Nat → Nat → Int32} {P Q : Nat → Nat → Int64} {A : Nat → Nat → Nat} {n l : Nat → Nat}
theorem ofN_iN (k : Nat) : Int32.ofNat k = iN k := rfl
theorem xCpA_hh {a sp b dp k : Nat} : xCpA (hh x h C M P Q) a sp b dp k = hh x (xCpA h a sp b dp k) C M P Q := rfl
theorem lof_inj : ∀ j, j < 7 → ∀ j', j' < 7 → lof j = lof j' → j = j' := by decide +kernel
theorem lof_9 : ∀ j, j < 7 → lof j ≠ 9 := by decide +kernel
theorem Dy.put (hd : Dy x z A h n l) {j : Nat} (hj : j < 7) (hl : l j < n j) {h' : XH} {cap : Nat} (hcap : xT h (A 8 j) = (105, cap)) (hc : l j < cap) (f1 : xA h (x + lof j) 1 = some (A 8 j)) (f2 : A 8 j < xN h) (eN : xN h' = xN h) (eT : ∀ b, xT h' b = xT h b) (e1 : xA h' (A 8 j) (l j) = some (A j (l j))) (e2 : ∀ b k, b ≠ A 8 j ∨ k ≠ l j → xA h' b k = xA h b k) : Dy x z A h' n (up1 l j (l j + 1)) := by
  obtain ⟨d1, d2, d3, d4, d5, d6, d7⟩ := hd
  refine ⟨d1, d2, ?_, ?_, d5, by rw [eT]; exact d6, by omega⟩
  · intro c' i' hc' hi'
    rw [eT, eN]
    exact d3 c' i' hc' hi'
  · intro j' hj'
    have hlo := lof_lt hj'
    have hg := d2 8 j
    obtain ⟨g1, g2⟩ := d4 j' hj'
    by_cases q : j' = j
    · subst q
      refine ⟨by simp only [up1, if_true]; omega, ?_⟩
      rcases g2 with ⟨cap', k1, k2, k3, k4, k5, k6, k7⟩ | ⟨k1, k2⟩
      · left
        refine ⟨cap', by rw [e2 _ _ (Or.inl (by omega))]; exact k1, by omega, by rw [eT]; exact k3, ?_, k5, k6, ?_⟩
        · have : cap' = cap := by
            have := k3.symm.trans hcap
            injection this
          simp only [up1, if_true]
          omega
        · intro i hi
          simp only [up1, if_true] at hi
          by_cases w : i = l j'
          · subst w
            exact e1
          · rw [e2 _ _ (Or.inr w)]
            exact k7 i (by omega)
      · rw [f1] at k2
        have := d2 8 j'
        have := Option.some.inj k2
        omega
    · refine ⟨by simp only [up1, if_neg q]; exact g1, ?_⟩
      simp only [up1, if_neg q]
      have hne : A 8 j' ≠ A 8 j := fun w => q (d1 _ _ _ _ w).2
      rcases g2 with ⟨cap', k1, k2, k3, k4, k5, k6, k7⟩ | ⟨k1, k2⟩
      · left
        exact ⟨cap', by rw [e2 _ _ (Or.inl (by omega))]; exact k1, by omega, by rw [eT]; exact k3, k4, k5, k6, fun i hi => by rw [e2 _ _ (Or.inl hne)]; exact k7 i hi⟩
      · right
        exact ⟨k1, by rw [e2 _ _ (Or.inl (by omega))]; exact k2⟩
theorem Dy.grow (hd : Dy x z A h n l) {j : Nat} (hj : j < 7) (hl : l j < n j) {h' : XH} {cap : Nat} (hc : l j < cap) (hc2 : cap ≤ 200) (eN : xN h' = xN h + 1) (eT : ∀ b, b < xN h → xT h' b = xT h b) (eT2 : xT h' (xN h) = (105, cap)) (eL : xA h' (x + lof j) 1 = some (xN h)) (e1 : ∀ i, i ≤ l j → xA h' (xN h) i = some (A j i)) (e2 : ∀ b k, b < xN h → b ≠ x + lof j ∨ k ≠ 1 → xA h' b k = xA h b k) : Dy x z (swp A 8 j (xN h)) h' n (up1 l j (l j + 1)) := by
  obtain ⟨d1, d2, d3, d4, d5, d6, d7⟩ := hd
  refine ⟨swp_inj d1 _ _ _, swp_ge d2 d7, ?_, ?_, d5, by rw [eT _ (by omega)]; exact d6, by omega⟩
  · intro c' i' hc' hi'
    have := d3 c' i' hc' hi'
    rw [swp_n this.1 (by omega), eT _ this.1]
    exact ⟨by omega, this.2⟩
  · intro j' hj'
    have hlo := lof_lt hj'
    obtain ⟨g1, g2⟩ := d4 j' hj'
    by_cases q : j' = j
    · subst q
      refine ⟨by simp only [up1, if_true]; omega, Or.inl ⟨cap, ?_, ?_, ?_, ?_, hc2, by omega, ?_⟩⟩
      · rw [swp_s]; exact eL
      · rw [swp_s]; omega
      · rw [swp_s]; exact eT2
      · simp only [up1, if_true]; omega
      · intro i hi
        simp only [up1, if_true] at hi
        have := (d3 j' i (by omega) (by omega)).1
        rw [swp_s, swp_n this (by omega)]
        exact e1 i (by omega)
    · refine ⟨by simp only [up1, if_neg q]; exact g1, ?_⟩
      simp only [up1, if_neg q]
      have hne : lof j' ≠ lof j := fun w => q (lof_inj _ hj' _ hj w)
      rcases g2 with ⟨cap', k1, k2, k3, k4, k5, k6, k7⟩ | ⟨k1, k2⟩
      · left
        have hs : swp A 8 j (xN h) 8 j' = A 8 j' := swp_n k2 (by omega)
        refine ⟨cap', ?_, ?_, ?_, k4, k5, k6, fun i hi => ?_⟩
        · rw [e2 _ _ (by omega) (Or.inl (by omega)), hs]; exact k1
        · rw [hs]; omega
        · rw [hs, eT _ k2]; exact k3
        · have := (d3 j' i (by omega) (by omega)).1
          have := d2 8 j'
          rw [hs, swp_n (by assumption) (by omega), e2 _ _ k2 (Or.inl (by have := lof_lt hj; omega))]
          exact k7 i hi
      · right
        exact ⟨k1, by rw [e2 _ _ (by omega) (Or.inl (by omega))]; exact k2⟩
theorem Fr.of (hd : Dy x z A h n l) {j : Nat} (hj : j < 7) {h' : XH} {A' : Nat → Nat → Nat} (eN : xN h ≤ xN h') (eT : ∀ b, b < xN h → xT h' b = xT h b) (eI : ∀ b k, b < xN h → xI h' b k = xI h b k) (e2 : ∀ b k, b < xN h → b ≠ A 8 j → b ≠ x + lof j ∨ k ≠ 1 → xA h' b k = xA h b k) (eA : ∀ c i, c < 8 → i < n c → A' c i = A c i) : Fr x A A' n h h' := by
  have hlo := lof_lt hj
  have h9 := lof_9 j hj
  have hN := hd.nx
  have hg := hd.g 8 j
  refine ⟨eN, eT, eI, ?_, ?_, ?_, eA⟩
  · intro c i k hc hi
    have g := hd.g c i
    exact e2 _ _ (hd.b hc hi) (fun w => by have := (hd.1 _ _ _ _ w).1; omega) (Or.inl (by omega))
  · intro hs
    refine ⟨fun q hq => by rw [eT _ (by omega)]; exact hs.1 q hq, fun p hp => ?_⟩
    have := sh_lt p hp
    have w := lof_sh (x := x) hj p hp
    rw [e2 _ _ (by omega) (by omega) (by omega)]
    exact hs.2 p hp
  · exact ⟨e2 _ _ (by omega) (by omega) (Or.inl (by omega)), e2 _ _ (by omega) (by omega) (Or.inl (by omega))⟩
theorem l_add {j o : Nat} (hj : j < 7) (ho : lof j = o) (ht : xT h (x + o) = (1, 3)) (hd : Dy x z A h n l) (hC : C o 2 = iN (l j)) (hl : l j < n j) (hn : n j ≤ 100) : ∃ h' A', fJx4a65c_add_9ea2d N z [.ref (x + o), .ref (A j (l j))] (hh x h C M P Q) = some (1, hh x h' (up2 (up2 C o 0 (C o 0 + 1)) o 2 (iN (l j + 1))) M P Q) ∧ Dy x z A' h' n (up1 l j (l j + 1)) ∧ Fr x A A' n h h' ∧ xN h' ≤ xN h + 1 ∧ xS h' ≤ xS h + 200 := by
  have hlo := lof_lt hj
  have hN := hd.nx
  have hb := hd.b (c := j) (by omega) hl
  have hto : ((ltg j).1 ∈ okT) = True := eq_true (ltg_ok j hj)
  have htt := hd.t (c := j) (by omega) hl
  rcases (hd.2.2.2.1 j hj).2 with ⟨cap, f1, f2, f3, f4, f5, f6, f7⟩ | ⟨f1, f2⟩
  · by_cases hcap : l j < cap
    · refine ⟨sA h (A 8 j) (l j) (some (A j (l j))), A, ?_, hd.put hj hl f3 hcap f1 f2 rfl (fun _ => rfl) (u2_s _ _ _ _) (fun b k w => u2_n _ _ (by omega)), Fr.of hd hj (Nat.le_refl _) (fun _ _ => rfl) (fun _ _ _ => rfl) (fun b k _ w _ => u2_n _ _ (Or.inl w)) (fun _ _ _ _ => rfl), Nat.le_succ _, Nat.le_add_right _ _⟩
      rw [ho] at f1 hlo
      simp -implicitDefEqProofs (disch := first | omega | decide) only [fJx4a65c_add_9ea2d, fJx4a65c_add_72be8, mB_s, lay_n, lay_i, lay_r, lay_0, lay_l, List.length_cons, List.length_nil, List.cons_append, List.nil_append, sB, kS_l, kS_r, sSeq_a, sNil_a, kSetI_p, sSetI_a, kSetJ_p, sSetJ_a, kSetA_p, sSetA_a, kInc_p, sInc_a, kPut2_p, kPut1_p, sPut_a, kPutC2_p, kPutC1_p, sPutC_a, kAst3_p, kAst2_p, kAst1_p, sAst_a, kAstC3_p, kAstC2_p, kAstC1_p, sAstC_a, kAstZ3_p, kAstZ2_p, kAstZ1_p, sAstZ_a, kAstO3_p, kAstO2_p, kAstO1_p, sAstO_a, kAstA3_p, kAstA2_p, kAstA1_p, sAstA_a, kX_p, sX_a, kIf_p, sIf_a, kRet_p, sRet_a, kRetZ_p, sRetZ_a, sRetV_a, kSw_p, sSw_a, kPutZ2_p, kPutZ1_p, sPutZ_a, eI_a, eJ_a, eN_a, kL_p, eLI_a, eLJ_a, eLA_a, kT2_p, kT_p, eT_a, kP2_p, kP_p, eP_a, kU_p, eU_a, kGet_p, eGet_a, kAld2_p, kAld1_p, eAld_a, kLen_p, eLen_a, kEIf_p, eIf_a, kCast_p, eCast_a, aN_a, kC2_p, kC_p, aC_a, kCS_p, eCallS_a, kCV2_p, kCV1_p, eCallV_a, kN2_p, kN1_p, eNew_a, kNA_p, eNewA_a, kSt3_p, kSt2_p, kSt1_p, eSt_a, kSA2_p, kSA1_p, eSetA_a, eZ_a, eMi_a, kCl_p, eCls_a, kAnd_p, cAnd_a, kOr_p, cOr_a, cNot_a, cZ_a, cNul_a, cNN_a, cAeq_a, cAne_a, kObj_p, sObj_a, kSup2_p, kSup1_p, sSup_a, kCp5_p, kCp4_p, kCp3_p, kCp2_p, kCp1_p, sCpI_a, qEq, qNe, qLt, qGe, qGt, qLe, rGt_s, rLt_s, stL, stL2, kill, List.getElem?_cons_zero, List.getElem?_cons_succ, gI_i, gJ_l, gR_r, gR_0, rf_s, rf_n, Option.bind_some, Option.bind_none, mR_r, cat_i, cat_r, cat_0, cat_d, cat_l, ↓reduceIte, reduceCtorEq, Nat.reduceSub, Nat.reduceAdd, Nat.reduceMul, Nat.reduceLT, Nat.reduceLeDiff, Nat.reduceEqDiff, and_true, true_and, and_false, false_and, or_false, false_or, or_true, true_or, not_true_eq_false, not_false_eq_true, decide_true, decide_false, eq_self, Bool.false_eq_true, decide_eq_true_eq, Bool.and_eq_true, Bool.or_eq_true, Bool.not_eq_true', decide_eq_false_iff_not, decide_not, Bool.not_true, Bool.not_false, Bool.and_true, Bool.true_and, Bool.and_false, Bool.false_and, Bool.or_true, Bool.true_or, Bool.or_false, Bool.false_or, Bool.and_self, Bool.or_self, Bool.true_eq_false, Bool.and_eq_false_imp, Bool.or_eq_false_iff, jI, jJ, jA, o_iadd, o_isub, o_imul, o_iand, o_ior, o_ishl, o_ishr, o_ladd, o_lsub, o_lmul, o_i2l, o_l2i, o_i2b, o_ineg, if_bI, bI_z, bI_01, ifs, if_and, if_or, if_10, bI_zn, bI_nz, ifl, ifcons, ifint, iflong, ite_self, if_inc, Bool.decide_eq_true, Bool.decide_and, Bool.decide_or, xA_hh, xT_hh, xN_hh, xS_hh, xI_0, xI_c, xI_m, xI_o, xJ_0, xJ_m, sI_0, sI_c, sI_m, sI_o, sJ_0, sJ_m, sA_hh, u2_s, u2_n, xT_sI, xT_sA, xN_sI, xN_sA, xA_sI, xI_sA, xI_sI, xA_sA, xN_nw, xT_nw, xT_nn, xI_nw, xI_nn, xA_nw, xA_nn, iN_nat, l_nat, l_lt_T, l_lt_F, l_le_T, l_le_F, l_eq_F, iN_lt, iN_le, iN_eq, iN_lt_l, iN_le_l, iN_eq_l, l_lt_iN, l_le_iN, l_eq_iN, iN_eq_n, n_eq_iN, iN_le_n, iN_lt_n, iN_add, iN_mul, iN_add_l, l_add_iN, l_mul_iN, iN_sub, iN_sub_l, sub1_le, le_F, lt_T, lt_F, le_T, eq_F, ht, hC, f1, f3, htt, hto, ofN_iN]
    · have hlc : l j = cap := by omega
      have hsh := shr1 cap (by omega)
      have hlo' := hlo
      have f1' := f1
      rw [ho] at f1' hlo'
      have hcp : ∀ i, i < cap → okE h (xA h (A 8 j) i) = true := by
        intro i hi
        rw [f7 i (by omega)]
        simp only [okE]
        rw [hd.t (c := j) (by omega) (by omega)]
        simpa using ltg_ok j hj
      have hA2 : ∀ b k, b < xN h → b ≠ x + lof j ∨ k ≠ 1 → xA (sA (sA (xCpA (xNew h 105 (cap + max 1 (cap / 2))) (A 8 j) 0 (xN h) 0 cap) (x + lof j) 1 (some (xN h))) (xN h) (l j) (some (A j (l j)))) b k = xA h b k := by
        intro b k hb w
        show up2 (up2 (cp2 _ _ _ _ _ _) _ _ _) _ _ _ _ _ = _
        rw [u2_n _ _ (Or.inl (by omega)), u2_n _ _ w]
        unfold cp2
        rw [if_neg (by omega)]
        exact xA_nn hb
      refine ⟨sA (sA (xCpA (xNew h 105 (cap + max 1 (cap / 2))) (A 8 j) 0 (xN h) 0 cap) (x + lof j) 1 (some (xN h))) (xN h) (l j) (some (A j (l j))), swp A 8 j (xN h), ?_, hd.grow hj hl (cap := cap + max 1 (cap / 2)) (by omega) (by omega) rfl (fun b hb => xT_nn (t := 105) (n := cap + max 1 (cap / 2)) hb) (xT_nw _ _ _) ?_ ?_ hA2, Fr.of hd hj (Nat.le_succ _) (fun b hb => xT_nn (t := 105) (n := cap + max 1 (cap / 2)) hb) (fun b k hb => xI_nn (t := 105) (n := cap + max 1 (cap / 2)) hb) (fun b k hb _ w => hA2 b k hb w) (fun c i hc hi => swp_n (hd.b hc hi) (by omega)), Nat.le_refl _, ?_⟩
      · rw [ho]
        have hmx : oMax (iN (cap + 1 - cap)) (iN (cap / 2)) = iN (max 1 (cap / 2)) := by
          rw [show cap + 1 - cap = 1 by omega]
          exact omax_n (i := 1) (by omega) (by omega)
        have ezz : eDead = (fun _ _ => none : EE (Option Nat)) := rfl
        have hmn : oMin (iN cap) (iN (cap + max 1 (cap / 2))) = iN cap := by
          rw [omin_n (by omega) (by omega), Nat.min_eq_left (by omega)]
        have hcq : ∀ k, k < cap → okE (hh x (xNew h 105 (cap + max 1 (cap / 2))) (up2 C o 0 (C o 0 + 1)) M P Q) (xA h (A 8 j) (0 + k)) = true := by
          intro k hk
          rw [Nat.zero_add]
          have := hcp k hk
          rw [f7 k (by omega)] at this ⊢
          simp only [okE] at this ⊢
          rw [xT_hh, xT_nn (hd.b (c := j) (by omega) (by omega))]
          exact this
        have hcq' : (∀ k, k < cap → okE (hh x (xNew h 105 (cap + max 1 (cap / 2))) (up2 C o 0 (C o 0 + 1)) M P Q) (xA h (A 8 j) (0 + k)) = true) = True := eq_true hcq
        have htt' : xT (xNew h 105 (cap + max 1 (cap / 2))) (A j cap) = ltg j := by rw [hlc] at htt hb; rw [xT_nn hb]; exact htt
        have hne : (A 8 j = z.1) = False := eq_false (by have := hd.g 8 j; have := hd.2.2.2.2.1; omega)
        rw [hlc] at hC ⊢
        have hsh' : o_ishr (iN cap) 1 = iN (cap / 2) := hsh
        unfold o_ishr at hsh'
        simp -implicitDefEqProofs (disch := first | omega | decide) only [fJx4a65c_add_9ea2d, fJx4a65c_add_72be8, fJx4a65c_grow_d5877, fJx4a65c_grow_92f84, fJ8_newLength_cabcc, fJ7_copyOf_1904c, fJ7_copyOf_6403c, mB_s, lay_n, lay_i, lay_r, lay_0, lay_l, List.length_cons, List.length_nil, List.cons_append, List.nil_append, sB, kS_l, kS_r, sSeq_a, sNil_a, kSetI_p, sSetI_a, kSetJ_p, sSetJ_a, kSetA_p, sSetA_a, kInc_p, sInc_a, kPut2_p, kPut1_p, sPut_a, kPutC2_p, kPutC1_p, sPutC_a, kAst3_p, kAst2_p, kAst1_p, sAst_a, kAstC3_p, kAstC2_p, kAstC1_p, sAstC_a, kAstZ3_p, kAstZ2_p, kAstZ1_p, sAstZ_a, kAstO3_p, kAstO2_p, kAstO1_p, sAstO_a, kAstA3_p, kAstA2_p, kAstA1_p, sAstA_a, kX_p, sX_a, kIf_p, sIf_a, kRet_p, sRet_a, kRetZ_p, sRetZ_a, sRetV_a, kSw_p, sSw_a, kPutZ2_p, kPutZ1_p, sPutZ_a, eI_a, eJ_a, eN_a, kL_p, eLI_a, eLJ_a, eLA_a, kT2_p, kT_p, eT_a, kP2_p, kP_p, eP_a, kU_p, eU_a, kGet_p, eGet_a, kAld2_p, kAld1_p, eAld_a, kLen_p, eLen_a, kEIf_p, eIf_a, kCast_p, eCast_a, aN_a, kC2_p, kC_p, aC_a, kCS_p, eCallS_a, kCV2_p, kCV1_p, eCallV_a, kN2_p, kN1_p, eNew_a, kNA_p, eNewA_a, kSt3_p, kSt2_p, kSt1_p, eSt_a, kSA2_p, kSA1_p, eSetA_a, eZ_a, eMi_a, kCl_p, eCls_a, kAnd_p, cAnd_a, kOr_p, cOr_a, cNot_a, cZ_a, cNul_a, cNN_a, cAeq_a, cAne_a, kObj_p, sObj_a, kSup2_p, kSup1_p, sSup_a, kCp5_p, kCp4_p, kCp3_p, kCp2_p, kCp1_p, sCpI_a, qEq, qNe, qLt, qGe, qGt, qLe, rGt_s, rLt_s, stL, stL2, kill, List.getElem?_cons_zero, List.getElem?_cons_succ, gI_i, gJ_l, gR_r, gR_0, rf_s, rf_n, Option.bind_some, Option.bind_none, mR_r, cat_i, cat_r, cat_0, cat_d, cat_l, ↓reduceIte, reduceCtorEq, Nat.reduceSub, Nat.reduceAdd, Nat.reduceMul, Nat.reduceLT, Nat.reduceLeDiff, Nat.reduceEqDiff, and_true, true_and, and_false, false_and, or_false, false_or, or_true, true_or, not_true_eq_false, not_false_eq_true, decide_true, decide_false, eq_self, Bool.false_eq_true, decide_eq_true_eq, Bool.and_eq_true, Bool.or_eq_true, Bool.not_eq_true', decide_eq_false_iff_not, decide_not, Bool.not_true, Bool.not_false, Bool.and_true, Bool.true_and, Bool.and_false, Bool.false_and, Bool.or_true, Bool.true_or, Bool.or_false, Bool.false_or, Bool.and_self, Bool.or_self, Bool.true_eq_false, Bool.and_eq_false_imp, Bool.or_eq_false_iff, jI, jJ, jA, o_iadd, o_isub, o_imul, o_iand, o_ior, o_ishl, o_ishr, o_ladd, o_lsub, o_lmul, o_i2l, o_l2i, o_i2b, o_ineg, if_bI, bI_z, bI_01, ifs, if_and, if_or, if_10, bI_zn, bI_nz, ifl, ifcons, ifint, iflong, ite_self, if_inc, Bool.decide_eq_true, Bool.decide_and, Bool.decide_or, xA_hh, xT_hh, xN_hh, xS_hh, xI_0, xI_c, xI_m, xI_o, xJ_0, xJ_m, sI_0, sI_c, sI_m, sI_o, sJ_0, sJ_m, sA_hh, u2_s, u2_n, xT_sI, xT_sA, xN_sI, xN_sA, xA_sI, xI_sA, xI_sI, xA_sA, xN_nw, xT_nw, xT_nn, xI_nw, xI_nn, xA_nw, xA_nn, iN_nat, l_nat, l_lt_T, l_lt_F, l_le_T, l_le_F, l_eq_F, iN_lt, iN_le, iN_eq, iN_lt_l, iN_le_l, iN_eq_l, l_lt_iN, l_le_iN, l_eq_iN, iN_eq_n, n_eq_iN, iN_le_n, iN_lt_n, iN_add, iN_mul, iN_add_l, l_add_iN, l_mul_iN, iN_sub, iN_sub_l, sub1_le, le_F, lt_T, lt_F, le_T, eq_F, sCpA, xNew_hh, xCpA_hh, xT_cp, xN_cp, ht, hC, f1', f3, htt', hto, ofN_iN, hsh', hmx, hmn, hcq', hne]
      · show up2 (up2 (cp2 _ _ _ _ _ _) _ _ _) _ _ _ _ _ = _
        rw [u2_n _ _ (Or.inl (by omega)), u2_s]
      · intro i hi
        show up2 (up2 (cp2 _ _ _ _ _ _) _ _ _) _ _ _ _ _ = _
        by_cases w : i = l j
        · rw [w, u2_s]
        · rw [u2_n _ _ (Or.inr w), u2_n _ _ (Or.inl (by omega))]
          unfold cp2
          rw [if_pos ⟨rfl, by omega, by omega⟩]
          show xA (xNew h 105 (cap + max 1 (cap / 2))) (A 8 j) _ = _
          rw [xA_nn f2, show 0 + (i - 0) = i by omega]
          exact f7 i (by omega)
      · show xS h + _ ≤ _
        omega
  · have hlo' := hlo
    have f2' := f2
    rw [ho] at f2' hlo'
    have hz := hd.2.2.2.2.1
    have hzt := hd.2.2.2.2.2.1
    have hA2 : ∀ b k, b < xN h → b ≠ x + lof j ∨ k ≠ 1 → xA (sA (sA (xNew h 105 10) (x + lof j) 1 (some (xN h))) (xN h) (l j) (some (A j (l j)))) b k = xA h b k := by
      intro b k hb w
      show up2 (up2 _ _ _ _) _ _ _ _ _ = _
      rw [u2_n _ _ (Or.inl (by omega)), u2_n _ _ w]
      exact xA_nn hb
    refine ⟨sA (sA (xNew h 105 10) (x + lof j) 1 (some (xN h))) (xN h) (l j) (some (A j (l j))), swp A 8 j (xN h), ?_, hd.grow hj hl (cap := 10) (by omega) (by omega) rfl (fun b hb => xT_nn (t := 105) (n := 10) hb) (xT_nw _ _ _) ?_ ?_ hA2, Fr.of hd hj (Nat.le_succ _) (fun b hb => xT_nn (t := 105) (n := 10) hb) (fun b k hb => xI_nn (t := 105) (n := 10) hb) (fun b k hb _ w => hA2 b k hb w) (fun c i hc hi => swp_n (hd.b hc hi) (by omega)), Nat.le_refl _, ?_⟩
    · rw [ho]
      have hmx : oMax 10 (iN 1) = iN 10 := rfl
      have htt' : xT (xNew h 105 10) (A j 0) = ltg j := by rw [f1] at htt hb; rw [xT_nn hb]; exact htt
      rw [f1] at hC ⊢
      simp -implicitDefEqProofs (disch := first | omega | decide) only [fJx4a65c_add_9ea2d, fJx4a65c_add_72be8, fJx4a65c_grow_d5877, fJx4a65c_grow_92f84, mB_s, lay_n, lay_i, lay_r, lay_0, lay_l, List.length_cons, List.length_nil, List.cons_append, List.nil_append, sB, kS_l, kS_r, sSeq_a, sNil_a, kSetI_p, sSetI_a, kSetJ_p, sSetJ_a, kSetA_p, sSetA_a, kInc_p, sInc_a, kPut2_p, kPut1_p, sPut_a, kPutC2_p, kPutC1_p, sPutC_a, kAst3_p, kAst2_p, kAst1_p, sAst_a, kAstC3_p, kAstC2_p, kAstC1_p, sAstC_a, kAstZ3_p, kAstZ2_p, kAstZ1_p, sAstZ_a, kAstO3_p, kAstO2_p, kAstO1_p, sAstO_a, kAstA3_p, kAstA2_p, kAstA1_p, sAstA_a, kX_p, sX_a, kIf_p, sIf_a, kRet_p, sRet_a, kRetZ_p, sRetZ_a, sRetV_a, kSw_p, sSw_a, kPutZ2_p, kPutZ1_p, sPutZ_a, eI_a, eJ_a, eN_a, kL_p, eLI_a, eLJ_a, eLA_a, kT2_p, kT_p, eT_a, kP2_p, kP_p, eP_a, kU_p, eU_a, kGet_p, eGet_a, kAld2_p, kAld1_p, eAld_a, kLen_p, eLen_a, kEIf_p, eIf_a, kCast_p, eCast_a, aN_a, kC2_p, kC_p, aC_a, kCS_p, eCallS_a, kCV2_p, kCV1_p, eCallV_a, kN2_p, kN1_p, eNew_a, kNA_p, eNewA_a, kSt3_p, kSt2_p, kSt1_p, eSt_a, kSA2_p, kSA1_p, eSetA_a, eZ_a, eMi_a, kCl_p, eCls_a, kAnd_p, cAnd_a, kOr_p, cOr_a, cNot_a, cZ_a, cNul_a, cNN_a, cAeq_a, cAne_a, kObj_p, sObj_a, kSup2_p, kSup1_p, sSup_a, kCp5_p, kCp4_p, kCp3_p, kCp2_p, kCp1_p, sCpI_a, qEq, qNe, qLt, qGe, qGt, qLe, rGt_s, rLt_s, stL, stL2, kill, List.getElem?_cons_zero, List.getElem?_cons_succ, gI_i, gJ_l, gR_r, gR_0, rf_s, rf_n, Option.bind_some, Option.bind_none, mR_r, cat_i, cat_r, cat_0, cat_d, cat_l, ↓reduceIte, reduceCtorEq, Nat.reduceSub, Nat.reduceAdd, Nat.reduceMul, Nat.reduceLT, Nat.reduceLeDiff, Nat.reduceEqDiff, and_true, true_and, and_false, false_and, or_false, false_or, or_true, true_or, not_true_eq_false, not_false_eq_true, decide_true, decide_false, eq_self, Bool.false_eq_true, decide_eq_true_eq, Bool.and_eq_true, Bool.or_eq_true, Bool.not_eq_true', decide_eq_false_iff_not, decide_not, Bool.not_true, Bool.not_false, Bool.and_true, Bool.true_and, Bool.and_false, Bool.false_and, Bool.or_true, Bool.true_or, Bool.or_false, Bool.false_or, Bool.and_self, Bool.or_self, Bool.true_eq_false, Bool.and_eq_false_imp, Bool.or_eq_false_iff, jI, jJ, jA, o_iadd, o_isub, o_imul, o_iand, o_ior, o_ishl, o_ishr, o_ladd, o_lsub, o_lmul, o_i2l, o_l2i, o_i2b, o_ineg, if_bI, bI_z, bI_01, ifs, if_and, if_or, if_10, bI_zn, bI_nz, ifl, ifcons, ifint, iflong, ite_self, if_inc, Bool.decide_eq_true, Bool.decide_and, Bool.decide_or, xA_hh, xT_hh, xN_hh, xS_hh, xI_0, xI_c, xI_m, xI_o, xJ_0, xJ_m, sI_0, sI_c, sI_m, sI_o, sJ_0, sJ_m, sA_hh, u2_s, u2_n, xT_sI, xT_sA, xN_sI, xN_sA, xA_sI, xI_sA, xI_sI, xA_sA, xN_nw, xT_nw, xT_nn, xI_nw, xI_nn, xA_nw, xA_nn, iN_nat, l_nat, l_lt_T, l_lt_F, l_le_T, l_le_F, l_eq_F, iN_lt, iN_le, iN_eq, iN_lt_l, iN_le_l, iN_eq_l, l_lt_iN, l_le_iN, l_eq_iN, iN_eq_n, n_eq_iN, iN_le_n, iN_lt_n, iN_add, iN_mul, iN_add_l, l_add_iN, l_mul_iN, iN_sub, iN_sub_l, sub1_le, le_F, lt_T, lt_F, le_T, eq_F, xNew_hh, ht, hC, f2', hzt, htt', hto, ofN_iN, hmx]
    · show up2 (up2 _ _ _ _) _ _ _ _ _ = _
      rw [u2_n _ _ (Or.inl (by omega)), u2_s]
    · intro i hi
      have : i = l j := by omega
      subst this
      exact u2_s _ _ _ _
    · show xS h + _ ≤ _
      omega
end AD
