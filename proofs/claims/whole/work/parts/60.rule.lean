/-! a rule -/
def ruH (h : XH) (v w : Int32) : XH := sI (sI (sA (sI (sI (sI (sI (xNew (xNew h 11 3) 100 4) (xN h + 1) 0 (-1)) (xN h + 1) 1 (-1)) (xN h + 1) 2 (-1)) (xN h + 1) 3 (-1)) (xN h) 2 (some (xN h + 1))) (xN h) 0 v) (xN h) 1 w
def rlM (M : Nat → Nat → Int32) (k i : Nat) : Nat → Nat → Int32 := fun j q => if j = 21 ∧ 4 * k ≤ q ∧ q < 4 * k + i then M 22 (q - 4 * k) else M j q
theorem rlM_0 (M : Nat → Nat → Int32) (k : Nat) : rlM M k 0 = M := by
  funext j q
  unfold rlM
  rw [if_neg (by omega)]
theorem rlM_s (M : Nat → Nat → Int32) (k i : Nat) : up2 (rlM M k i) 21 (4 * k + i) (M 22 i) = rlM M k (i + 1) := by
  funext j q
  unfold up2 rlM
  by_cases e : j = 21 ∧ q = 4 * k + i
  · rw [if_pos e, if_pos (by omega), e.2, show 4 * k + i - 4 * k = i by omega]
  · rw [if_neg e]
    show (if j = 21 ∧ 4 * k ≤ q ∧ q < 4 * k + i then _ else _) = _
    by_cases w : j = 21 ∧ 4 * k ≤ q ∧ q < 4 * k + i
    · rw [if_pos w, if_pos (by omega)]
    · rw [if_neg w, if_neg (by omega)]
theorem rlM_n (M : Nat → Nat → Int32) (k i : Nat) {j q : Nat} (h : j ≠ 21) : rlM M k i j q = M j q := by
  unfold rlM
  rw [if_neg (by omega)]
section RV
variable {x N : Nat} {z : Nat × Nat} {h : XH} {C M : Nat → Nat → Int32} {P Q : Nat → Nat → Int64} {A : Nat → Nat → Nat} {n : Nat → Nat} {c : Nat}
theorem Dy.lc {l l2 : Nat → Nat} (hd : Dy x z A h n l) (e : ∀ j, j < 7 → l2 j = l j) : Dy x z A h n l2 := by
  obtain ⟨d1, d2, d3, d4, d5⟩ := hd
  refine ⟨d1, d2, d3, fun j hj => ?_, d5⟩
  rw [e j hj]
  exact d4 j hj
theorem ruH_o {v w : Int32} {q : Nat} (hq : q < xN h) : (∀ k, xI (ruH h v w) q k = xI h q k) ∧ (∀ k, xA (ruH h v w) q k = xA h q k) ∧ xT (ruH h v w) q = xT h q := by
  have w1 : q ≠ xN h := by omega
  have w2 : q ≠ xN h + 1 := by omega
  have hq1 : q < xN (xNew h 11 3) := by rw [xN_nw]; omega
  refine ⟨fun k => ?_, fun k => ?_, ?_⟩
  · simp only [ruH, xI_sI, xI_sA, up2, w1, w2, false_and, if_false]
    rw [xI_nn hq1, xI_nn hq]
  · simp only [ruH, xA_sI, xA_sA, up2, w1, false_and, if_false]
    rw [xA_nn hq1, xA_nn hq]
  · show xT (xNew (xNew h 11 3) 100 4) q = _
    rw [xT_nn hq1, xT_nn hq]
theorem ruH_n (v w : Int32) : xT (ruH h v w) (xN h) = (11, 3) ∧ xT (ruH h v w) (xN h + 1) = (100, 4) ∧ xI (ruH h v w) (xN h) 0 = v ∧ xI (ruH h v w) (xN h) 1 = w ∧ xA (ruH h v w) (xN h) 2 = some (xN h + 1) ∧ ∀ l, l < 4 → xI (ruH h v w) (xN h + 1) l = -1 := by
  have hn : xN h < xN (xNew h 11 3) := Nat.lt_succ_self _
  refine ⟨?_, ?_, ?_, ?_, ?_, ?_⟩
  · show xT (xNew (xNew h 11 3) 100 4) (xN h) = _
    rw [xT_nn hn, xT_nw]
  · exact xT_nw (xNew h 11 3) 100 4
  · simp only [ruH, xI_sI, up2, true_and, Nat.reduceEqDiff, if_false, if_true]
  · simp only [ruH, xI_sI, up2, and_self, if_true]
  · simp only [ruH, xA_sI, xA_sA, up2, and_self, if_true]
  · intro l hl
    have : l = 0 ∨ l = 1 ∨ l = 2 ∨ l = 3 := by omega
    have ne : ¬ xN h + 1 = xN h := by omega
    rcases this with rfl | rfl | rfl | rfl <;> simp only [ruH, xI_sI, xI_sA, up2, ne, false_and, true_and, Nat.reduceEqDiff, if_false, if_true, and_self]
theorem c_ruinit (hX : x + 115 ≤ xN h) (v w : Int32) : fX9_init N z [.ref (xN h), .int v, .int w] (hh x (xNew h 11 3) C M P Q) = some ((), hh x (ruH h v w) C M P Q) := by
  have hX1 : x + 115 ≤ xN (xNew h 11 3) := by rw [xN_nw]; omega
  have t1 : xT (xNew (xNew h 11 3) 100 4) (xN h + 1) = (100, 4) := xT_nw (xNew h 11 3) 100 4
  have t2 : xT (xNew (xNew h 11 3) 100 4) (xN h) = (11, 3) := (xT_nn (Nat.lt_succ_self _)).trans (xT_nw _ _ _)
  simp -implicitDefEqProofs (disch := first | omega | decide) only [fX9_init, mB_s, lay_n, lay_i, lay_r, lay_0, lay_l, List.length_cons, List.length_nil, List.cons_append, List.nil_append, sB, kS_l, kS_r, sSeq_a, sNil_a, kSetI_p, sSetI_a, kSetJ_p, sSetJ_a, kSetA_p, sSetA_a, kInc_p, sInc_a, kPut2_p, kPut1_p, sPut_a, kPutC2_p, kPutC1_p, sPutC_a, kAst3_p, kAst2_p, kAst1_p, sAst_a, kAstC3_p, kAstC2_p, kAstC1_p, sAstC_a, kAstZ3_p, kAstZ2_p, kAstZ1_p, sAstZ_a, kAstO3_p, kAstO2_p, kAstO1_p, sAstO_a, kAstA3_p, kAstA2_p, kAstA1_p, sAstA_a, kX_p, sX_a, kIf_p, sIf_a, kRet_p, sRet_a, kRetZ_p, sRetZ_a, sRetV_a, kSw_p, sSw_a, kPutZ2_p, kPutZ1_p, sPutZ_a, eI_a, eJ_a, eN_a, kL_p, eLI_a, eLJ_a, eLA_a, kT2_p, kT_p, eT_a, kP2_p, kP_p, eP_a, kU_p, eU_a, kGet_p, eGet_a, kAld2_p, kAld1_p, eAld_a, kLen_p, eLen_a, kEIf_p, eIf_a, kCast_p, eCast_a, aN_a, kC2_p, kC_p, aC_a, kCS_p, eCallS_a, kCV2_p, kCV1_p, eCallV_a, kN2_p, kN1_p, eNew_a, kNA_p, eNewA_a, kSt3_p, kSt2_p, kSt1_p, eSt_a, kSA2_p, kSA1_p, eSetA_a, eZ_a, eMi_a, kCl_p, eCls_a, kAnd_p, cAnd_a, kOr_p, cOr_a, cNot_a, cZ_a, cNul_a, cNN_a, cAeq_a, cAne_a, kObj_p, sObj_a, kSup2_p, kSup1_p, sSup_a, kCp5_p, kCp4_p, kCp3_p, kCp2_p, kCp1_p, sCpI_a, qEq, qNe, qLt, qGe, qGt, qLe, rGt_s, rLt_s, stL, stL2, kill, List.getElem?_cons_zero, List.getElem?_cons_succ, gI_i, gJ_l, gR_r, gR_0, rf_s, rf_n, Option.bind_some, Option.bind_none, mR_r, cat_i, cat_r, cat_0, cat_d, cat_l, ↓reduceIte, reduceCtorEq, Nat.reduceSub, Nat.reduceAdd, Nat.reduceMul, Nat.reduceLT, Nat.reduceLeDiff, Nat.reduceEqDiff, and_true, true_and, and_false, false_and, or_false, false_or, or_true, true_or, not_true_eq_false, not_false_eq_true, decide_true, decide_false, eq_self, Bool.false_eq_true, decide_eq_true_eq, Bool.and_eq_true, Bool.or_eq_true, Bool.not_eq_true', decide_eq_false_iff_not, decide_not, Bool.not_true, Bool.not_false, Bool.and_true, Bool.true_and, Bool.and_false, Bool.false_and, Bool.or_true, Bool.true_or, Bool.or_false, Bool.false_or, Bool.and_self, Bool.or_self, Bool.true_eq_false, Bool.and_eq_false_imp, Bool.or_eq_false_iff, jI, jJ, jA, o_iadd, o_isub, o_imul, o_iand, o_ior, o_ishl, o_ishr, o_ladd, o_lsub, o_lmul, o_i2l, o_l2i, o_i2b, o_ineg, if_bI, bI_z, bI_01, ifs, if_and, if_or, if_10, bI_zn, bI_nz, ifl, ifcons, ifint, iflong, ite_self, if_inc, Bool.decide_eq_true, Bool.decide_and, Bool.decide_or, xA_hh, xT_hh, xN_hh, xS_hh, xI_0, xI_c, xI_m, xI_o, xJ_0, xJ_m, sI_0, sI_c, sI_m, sI_o, sJ_0, sJ_m, sA_hh, u2_s, u2_n, xT_sI, xT_sA, xN_sI, xN_sA, xA_sI, xI_sA, xI_sI, xA_sA, xN_nw, xT_nw, xT_nn, xI_nw, xI_nn, xA_nw, xA_nn, iN_nat, l_nat, l_lt_T, l_lt_F, l_le_T, l_le_F, l_eq_F, iN_lt, iN_le, iN_eq, iN_lt_l, iN_le_l, iN_eq_l, l_lt_iN, l_le_iN, l_eq_iN, iN_eq_n, n_eq_iN, iN_le_n, iN_lt_n, iN_add, iN_mul, iN_add_l, l_add_iN, l_mul_iN, iN_sub, iN_sub_l, sub1_le, le_F, lt_T, lt_F, le_T, eq_F, xNew_hh hX1, t1, t2, ruH]
end RV
