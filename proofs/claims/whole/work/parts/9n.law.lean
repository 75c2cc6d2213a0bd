/-! the law answers 1 -/
section LX
variable {N : Nat} {z : Nat × Nat}
/-- the plain heap at the law's entry: the script, and the empty row of the lists -/
def xh0 (b L : Nat) (xs : Nat → Int32) (z n : Nat) : XH := (fun a k => if a = b then xs k else 0, fun _ _ => 0, fun _ _ => none, fun a => if a = b then (200, L) else if a = z then (205, 0) else (0, 0), n, 0)
/-- in plain words: the law's plain function answers 1, in its room -/
def LawOK : Prop := ∀ (b L : Nat) (xs : Nat → Int32) (z : Nat × Nat) (n : Nat), L ≤ 3072 → b < n → z.1 < n → b ≠ z.1 → ∃ h', bL_law 100000 z [.ref b, xD, xD, xD] (xh0 b L xs z.1 n) = some (.inr (1, h')) ∧ xN h' ≤ n + 600000 ∧ xS h' ≤ 7302249
theorem xh0_b {b L n : Nat} {xs : Nat → Int32} (hbn : b < n) (hz : z.1 < n) : xh0 b L xs z.1 n = hb n z.1 (xh0 b L xs z.1 n) rz := by
  refine xh_e (fun q k => ?_) (fun q k => ?_) (fun q k => ?_) (fun q => ?_) rfl rfl
  · show (if q = b then xs k else 0) = if n ≤ q then 0 else (if q = b then xs k else 0)
    by_cases e : n ≤ q
    · rw [if_pos e, if_neg (by omega)]
    · rw [if_neg e]
  · show (0 : Int64) = if n ≤ q then 0 else 0
    split <;> rfl
  · show none = if n ≤ q then rel n z.1 none else none
    split <;> rfl
  · show (if q = b then (200, L) else if q = z.1 then (205, 0) else (0, 0)) = if n ≤ q then (0, 0) else (if q = b then (200, L) else if q = z.1 then (205, 0) else (0, 0))
    by_cases e : n ≤ q
    · rw [if_pos e, if_neg (by omega), if_neg (by omega)]
    · rw [if_neg e]
set_option maxRecDepth 100000 in
theorem e_65 : rsN rc_c23 = 65 := by decide +kernel
theorem lc_n {i Ln : Nat} (hL : Ln ≤ 3072) (hi : i ≤ Ln / 6) : decide (iN (6 * i) ≤ iN Ln - 6) = decide (i < Ln / 6) := by
  have e : (iN Ln - 6).toInt = (Ln : Int) - 6 := by
    rw [Int32.toInt_sub, toInt_iN (by omega), show (6 : Int32).toInt = 6 from rfl, Int.bmod_eq_of_le (by omega) (by omega)]
  apply decide_eq_decide.2
  rw [Int32.le_iff_toInt_le, e, toInt_iN (by omega)]
  omega
theorem law_ok : LawOK := by
  intro b L xs z n hL hbn hzn hne
  have hN : 10000 < 100000 := by decide
  generalize 100000 = N at hN
  have e0 := xh0_b (z := z) (L := L) (xs := xs) hbn hzn
  generalize hh0 : xh0 b L xs z.1 n = h0 at e0
  have t205 : xT h0 z.1 = (205, 0) := by
    rw [← hh0]
    show (if z.1 = b then _ else if z.1 = z.1 then (205, 0) else (0, 0)) = _
    rw [if_neg (fun e => hne e.symm), if_pos rfl]
  have t200 : xT h0 b = (200, L) := by
    rw [← hh0]
    show (if b = b then (200, L) else _) = _
    rw [if_pos rfl]
  have x200 : ∀ k, xI h0 b k = xs k := fun k => by
    rw [← hh0]
    show (if b = b then xs k else 0) = _
    rw [if_pos rfl]
  have s0 : xS h0 = 0 := by rw [← hh0]; rfl
  have n0 : xN h0 = n := by rw [← hh0]; rfl
  have c1 : fX11_init N z [.ref n] (hb n z.1 h0 rc_c0) = some ((), hb n z.1 h0 rc_c23) := c_make (x := n) hN
  have c2 : fX12_init N z [.ref (n + 65)] (hb n z.1 h0 rm_0) = some ((), hb n z.1 h0 rm_E) := m_make (x := n) hN
  have k1 : xNew h0 13 21 = hb n z.1 h0 rc_c0 := by
    rw [e0, hb_new]
    rw [← e0]
    rfl
  have k2 : xNew (hb n z.1 h0 rc_c23) 14 70 = hb n z.1 h0 rm_0 := hb_new _ _ _
  have k3 : xN (hb n z.1 h0 rc_c23) = n + 65 := by
    rw [hb_N, e_65]
  have i0 := inv_0 (h := h0) hzn t205
  have hH := hb_hh (x := n) (z := z) (h := h0)
  have sc0 : Sc b L xs (hb n z.1 h0 rm_E) := by
    refine ⟨?_, fun k => ?_⟩
    · show (if n ≤ b then _ else xT h0 b) = _
      rw [if_neg (by omega)]
      exact t200
    · show (if n ≤ b then _ else xI h0 b k) = _
      rw [if_neg (by omega)]
      exact x200 k
  have hl := loop_inv (c := fL_law_2c N z) (b := fL_law_2b N z) (fun i Lo H => ∃ A h C M P Q m, Lo = [.ref b, .ref n, .ref (n + 65), .int (iN (6 * i))] ∧ H = hh n h C M P Q ∧ Inv n z A h C M P Q m i ∧ Sc b L xs h ∧ xN h ≤ n + 115 + 100 * i ∧ xS h ≤ 30000 + 10000 * i) (L / 6) ?_ ?_ (N := N) (L := [.ref b, .ref n, .ref (n + 65), .int 0]) (h := hb n z.1 h0 rm_E) (by omega) ⟨A0 n, _, _, _, _, _, _, rfl, hH, i0, sc0, by rw [hb_N, e_N.1]; omega, by show xS h0 + rsS rm_E ≤ _; have := e_N.2; omega⟩
  · obtain ⟨Lo, H, l1, A, h, C, M, P, Q, m, l2, l3, l4, l5, l6, l7⟩ := hl
    subst l2 l3
    refine ⟨hh n h C M P Q, ?_, ?_, ?_⟩
    · simp -implicitDefEqProofs (disch := first | omega | decide) only [bL_law, mB_s, lay_n, lay_i, lay_r, lay_0, lay_l, List.length_cons, List.length_nil, List.cons_append, List.nil_append, sB, kS_l, kS_r, sSeq_a, sNil_a, kSetI_p, sSetI_a, kSetJ_p, sSetJ_a, kSetA_p, sSetA_a, kInc_p, sInc_a, kPut2_p, kPut1_p, sPut_a, kPutC2_p, kPutC1_p, sPutC_a, kAst3_p, kAst2_p, kAst1_p, sAst_a, kAstC3_p, kAstC2_p, kAstC1_p, sAstC_a, kAstZ3_p, kAstZ2_p, kAstZ1_p, sAstZ_a, kAstO3_p, kAstO2_p, kAstO1_p, sAstO_a, kAstA3_p, kAstA2_p, kAstA1_p, sAstA_a, kX_p, sX_a, kIf_p, sIf_a, kRet_p, sRet_a, kRetZ_p, sRetZ_a, sRetV_a, kSw_p, sSw_a, kPutZ2_p, kPutZ1_p, sPutZ_a, eI_a, eJ_a, eN_a, kL_p, eLI_a, eLJ_a, eLA_a, kT2_p, kT_p, eT_a, kP2_p, kP_p, eP_a, kU_p, eU_a, kGet_p, eGet_a, kAld2_p, kAld1_p, eAld_a, kLen_p, eLen_a, kEIf_p, eIf_a, kCast_p, eCast_a, aN_a, kC2_p, kC_p, aC_a, kCS_p, eCallS_a, kCV2_p, kCV1_p, eCallV_a, kN2_p, kN1_p, eNew_a, kNA_p, eNewA_a, kSt3_p, kSt2_p, kSt1_p, eSt_a, kSA2_p, kSA1_p, eSetA_a, eZ_a, eMi_a, kCl_p, eCls_a, kAnd_p, cAnd_a, kOr_p, cOr_a, cNot_a, cZ_a, cNul_a, cNN_a, cAeq_a, cAne_a, kObj_p, sObj_a, kSup2_p, kSup1_p, sSup_a, kCp5_p, kCp4_p, kCp3_p, kCp2_p, kCp1_p, sCpI_a, qEq, qNe, qLt, qGe, qGt, qLe, rGt_s, rLt_s, stL, stL2, kill, List.getElem?_cons_zero, List.getElem?_cons_succ, gI_i, gJ_l, gR_r, gR_0, rf_s, rf_n, Option.bind_some, Option.bind_none, mR_r, cat_i, cat_r, cat_0, cat_d, cat_l, ↓reduceIte, reduceCtorEq, Nat.reduceSub, Nat.reduceAdd, Nat.reduceMul, Nat.reduceLT, Nat.reduceLeDiff, Nat.reduceEqDiff, and_true, true_and, and_false, false_and, or_false, false_or, or_true, true_or, not_true_eq_false, not_false_eq_true, decide_true, decide_false, eq_self, Bool.false_eq_true, decide_eq_true_eq, Bool.and_eq_true, Bool.or_eq_true, Bool.not_eq_true', decide_eq_false_iff_not, decide_not, Bool.not_true, Bool.not_false, Bool.and_true, Bool.true_and, Bool.and_false, Bool.false_and, Bool.or_true, Bool.true_or, Bool.or_false, Bool.false_or, Bool.and_self, Bool.or_self, Bool.true_eq_false, Bool.and_eq_false_imp, Bool.or_eq_false_iff, jI, jJ, jA, o_iadd, o_isub, o_imul, o_iand, o_ior, o_ishl, o_ishr, o_ladd, o_lsub, o_lmul, o_i2l, o_l2i, o_i2b, o_ineg, if_bI, bI_z, bI_01, ifs, if_and, if_or, if_10, bI_zn, bI_nz, ifl, ifcons, ifint, iflong, ite_self, if_inc, Bool.decide_eq_true, Bool.decide_and, Bool.decide_or, xA_hh, xT_hh, xN_hh, xS_hh, xI_0, xI_c, xI_m, xI_o, xJ_0, xJ_m, sI_0, sI_c, sI_m, sI_o, sJ_0, sJ_m, sA_hh, u2_s, u2_n, xT_sI, xT_sA, xN_sI, xN_sA, xA_sI, xI_sA, xI_sI, xA_sA, xN_nw, xT_nw, xT_nn, xI_nw, xI_nn, xA_nw, xA_nn, iN_nat, l_nat, l_lt_T, l_lt_F, l_le_T, l_le_F, l_eq_F, iN_lt, iN_le, iN_eq, iN_lt_l, iN_le_l, iN_eq_l, l_lt_iN, l_le_iN, l_eq_iN, iN_eq_n, n_eq_iN, iN_le_n, iN_lt_n, iN_add, iN_mul, iN_add_l, l_add_iN, l_mul_iN, iN_sub, iN_sub_l, sub1_le, le_F, lt_T, lt_F, le_T, eq_F, n0, k1, c1, k3, k2, c2, l1]
    · show xN h ≤ _
      have : L / 6 ≤ 512 := by omega
      omega
    · show xS h ≤ _
      have : L / 6 ≤ 512 := by omega
      omega
  · intro i hi Lo H ⟨A, h, C, M, P, Q, m, l2, l3, l4, l5, l6, l7⟩
    subst l2 l3
    have y1 := lc_n hL hi
    have t1 := l5.1
    rw [← y1]
    simp -implicitDefEqProofs (disch := first | omega | decide) only [fL_law_2c, mB_s, lay_n, lay_i, lay_r, lay_0, lay_l, List.length_cons, List.length_nil, List.cons_append, List.nil_append, sB, kS_l, kS_r, sSeq_a, sNil_a, kSetI_p, sSetI_a, kSetJ_p, sSetJ_a, kSetA_p, sSetA_a, kInc_p, sInc_a, kPut2_p, kPut1_p, sPut_a, kPutC2_p, kPutC1_p, sPutC_a, kAst3_p, kAst2_p, kAst1_p, sAst_a, kAstC3_p, kAstC2_p, kAstC1_p, sAstC_a, kAstZ3_p, kAstZ2_p, kAstZ1_p, sAstZ_a, kAstO3_p, kAstO2_p, kAstO1_p, sAstO_a, kAstA3_p, kAstA2_p, kAstA1_p, sAstA_a, kX_p, sX_a, kIf_p, sIf_a, kRet_p, sRet_a, kRetZ_p, sRetZ_a, sRetV_a, kSw_p, sSw_a, kPutZ2_p, kPutZ1_p, sPutZ_a, eI_a, eJ_a, eN_a, kL_p, eLI_a, eLJ_a, eLA_a, kT2_p, kT_p, eT_a, kP2_p, kP_p, eP_a, kU_p, eU_a, kGet_p, eGet_a, kAld2_p, kAld1_p, eAld_a, kLen_p, eLen_a, kEIf_p, eIf_a, kCast_p, eCast_a, aN_a, kC2_p, kC_p, aC_a, kCS_p, eCallS_a, kCV2_p, kCV1_p, eCallV_a, kN2_p, kN1_p, eNew_a, kNA_p, eNewA_a, kSt3_p, kSt2_p, kSt1_p, eSt_a, kSA2_p, kSA1_p, eSetA_a, eZ_a, eMi_a, kCl_p, eCls_a, kAnd_p, cAnd_a, kOr_p, cOr_a, cNot_a, cZ_a, cNul_a, cNN_a, cAeq_a, cAne_a, kObj_p, sObj_a, kSup2_p, kSup1_p, sSup_a, kCp5_p, kCp4_p, kCp3_p, kCp2_p, kCp1_p, sCpI_a, qEq, qNe, qLt, qGe, qGt, qLe, rGt_s, rLt_s, stL, stL2, kill, List.getElem?_cons_zero, List.getElem?_cons_succ, gI_i, gJ_l, gR_r, gR_0, rf_s, rf_n, Option.bind_some, Option.bind_none, mR_r, cat_i, cat_r, cat_0, cat_d, cat_l, ↓reduceIte, reduceCtorEq, Nat.reduceSub, Nat.reduceAdd, Nat.reduceMul, Nat.reduceLT, Nat.reduceLeDiff, Nat.reduceEqDiff, and_true, true_and, and_false, false_and, or_false, false_or, or_true, true_or, not_true_eq_false, not_false_eq_true, decide_true, decide_false, eq_self, Bool.false_eq_true, decide_eq_true_eq, Bool.and_eq_true, Bool.or_eq_true, Bool.not_eq_true', decide_eq_false_iff_not, decide_not, Bool.not_true, Bool.not_false, Bool.and_true, Bool.true_and, Bool.and_false, Bool.false_and, Bool.or_true, Bool.true_or, Bool.or_false, Bool.false_or, Bool.and_self, Bool.or_self, Bool.true_eq_false, Bool.and_eq_false_imp, Bool.or_eq_false_iff, jI, jJ, jA, o_iadd, o_isub, o_imul, o_iand, o_ior, o_ishl, o_ishr, o_ladd, o_lsub, o_lmul, o_i2l, o_l2i, o_i2b, o_ineg, if_bI, bI_z, bI_01, ifs, if_and, if_or, if_10, bI_zn, bI_nz, ifl, ifcons, ifint, iflong, ite_self, if_inc, Bool.decide_eq_true, Bool.decide_and, Bool.decide_or, xA_hh, xT_hh, xN_hh, xS_hh, xI_0, xI_c, xI_m, xI_o, xJ_0, xJ_m, sI_0, sI_c, sI_m, sI_o, sJ_0, sJ_m, sA_hh, u2_s, u2_n, xT_sI, xT_sA, xN_sI, xN_sA, xA_sI, xI_sA, xI_sI, xA_sA, xN_nw, xT_nw, xT_nn, xI_nw, xI_nn, xA_nw, xA_nn, iN_nat, l_nat, l_lt_T, l_lt_F, l_le_T, l_le_F, l_eq_F, iN_lt, iN_le, iN_eq, iN_lt_l, iN_le_l, iN_eq_l, l_lt_iN, l_le_iN, l_eq_iN, iN_eq_n, n_eq_iN, iN_le_n, iN_lt_n, iN_add, iN_mul, iN_add_l, l_add_iN, l_mul_iN, iN_sub, iN_sub_l, sub1_le, le_F, lt_T, lt_F, le_T, eq_F, t1, ofN_iN]
  · intro i hi Lo H ⟨A, h, C, M, P, Q, m, l2, l3, l4, l5, l6, l7⟩
    subst l2 l3
    have t1 := l5.1
    obtain ⟨A', h', C', M', P', Q', n', r1, r2, r3, r4, r5⟩ := LwP_sw (N := N) (p := 6 * i) hN l4 (by omega) hbn l5 (by omega) hL (xI (hh n h C M P Q) b (6 * i) &&& 63)
    have q1 : xN h' ≤ n + 115 + 100 * (i + 1) := Nat.le_trans r3 (by rw [Nat.mul_succ]; omega)
    have q2 : xS h' ≤ 30000 + 10000 * (i + 1) := Nat.le_trans r4 (by rw [Nat.mul_succ]; omega)
    refine ⟨_, _, ?_, A', h', C', M', P', Q', n', rfl, rfl, r2, r5, q1, q2⟩
    have y2 : iN (6 * i) + 6 = iN (6 * (i + 1)) := by
      rw [show iN (6 * i) + 6 = iN (6 * i + 6) from iN_add_l _ 6]
      rfl
    simp -implicitDefEqProofs (disch := first | omega | decide) only [fL_law_2b, mB_s, lay_n, lay_i, lay_r, lay_0, lay_l, List.length_cons, List.length_nil, List.cons_append, List.nil_append, sB, kS_l, kS_r, sSeq_a, sNil_a, kSetI_p, sSetI_a, kSetJ_p, sSetJ_a, kSetA_p, sSetA_a, kInc_p, sInc_a, kPut2_p, kPut1_p, sPut_a, kPutC2_p, kPutC1_p, sPutC_a, kAst3_p, kAst2_p, kAst1_p, sAst_a, kAstC3_p, kAstC2_p, kAstC1_p, sAstC_a, kAstZ3_p, kAstZ2_p, kAstZ1_p, sAstZ_a, kAstO3_p, kAstO2_p, kAstO1_p, sAstO_a, kAstA3_p, kAstA2_p, kAstA1_p, sAstA_a, kX_p, sX_a, kIf_p, sIf_a, kRet_p, sRet_a, kRetZ_p, sRetZ_a, sRetV_a, kSw_p, sSw_a, kPutZ2_p, kPutZ1_p, sPutZ_a, eI_a, eJ_a, eN_a, kL_p, eLI_a, eLJ_a, eLA_a, kT2_p, kT_p, eT_a, kP2_p, kP_p, eP_a, kU_p, eU_a, kGet_p, eGet_a, kAld2_p, kAld1_p, eAld_a, kLen_p, eLen_a, kEIf_p, eIf_a, kCast_p, eCast_a, aN_a, kC2_p, kC_p, aC_a, kCS_p, eCallS_a, kCV2_p, kCV1_p, eCallV_a, kN2_p, kN1_p, eNew_a, kNA_p, eNewA_a, kSt3_p, kSt2_p, kSt1_p, eSt_a, kSA2_p, kSA1_p, eSetA_a, eZ_a, eMi_a, kCl_p, eCls_a, kAnd_p, cAnd_a, kOr_p, cOr_a, cNot_a, cZ_a, cNul_a, cNN_a, cAeq_a, cAne_a, kObj_p, sObj_a, kSup2_p, kSup1_p, sSup_a, kCp5_p, kCp4_p, kCp3_p, kCp2_p, kCp1_p, sCpI_a, qEq, qNe, qLt, qGe, qGt, qLe, rGt_s, rLt_s, stL, stL2, kill, List.getElem?_cons_zero, List.getElem?_cons_succ, gI_i, gJ_l, gR_r, gR_0, rf_s, rf_n, Option.bind_some, Option.bind_none, mR_r, cat_i, cat_r, cat_0, cat_d, cat_l, ↓reduceIte, reduceCtorEq, Nat.reduceSub, Nat.reduceAdd, Nat.reduceMul, Nat.reduceLT, Nat.reduceLeDiff, Nat.reduceEqDiff, and_true, true_and, and_false, false_and, or_false, false_or, or_true, true_or, not_true_eq_false, not_false_eq_true, decide_true, decide_false, eq_self, Bool.false_eq_true, decide_eq_true_eq, Bool.and_eq_true, Bool.or_eq_true, Bool.not_eq_true', decide_eq_false_iff_not, decide_not, Bool.not_true, Bool.not_false, Bool.and_true, Bool.true_and, Bool.and_false, Bool.false_and, Bool.or_true, Bool.true_or, Bool.or_false, Bool.false_or, Bool.and_self, Bool.or_self, Bool.true_eq_false, Bool.and_eq_false_imp, Bool.or_eq_false_iff, jI, jJ, jA, o_iadd, o_isub, o_imul, o_iand, o_ior, o_ishl, o_ishr, o_ladd, o_lsub, o_lmul, o_i2l, o_l2i, o_i2b, o_ineg, if_bI, bI_z, bI_01, ifs, if_and, if_or, if_10, bI_zn, bI_nz, ifl, ifcons, ifint, iflong, ite_self, if_inc, Bool.decide_eq_true, Bool.decide_and, Bool.decide_or, xA_hh, xT_hh, xN_hh, xS_hh, xI_0, xI_c, xI_m, xI_o, xJ_0, xJ_m, sI_0, sI_c, sI_m, sI_o, sJ_0, sJ_m, sA_hh, u2_s, u2_n, xT_sI, xT_sA, xN_sI, xN_sA, xA_sI, xI_sA, xI_sI, xA_sA, xN_nw, xT_nw, xT_nn, xI_nw, xI_nn, xA_nw, xA_nn, iN_nat, l_nat, l_lt_T, l_lt_F, l_le_T, l_le_F, l_eq_F, iN_lt, iN_le, iN_eq, iN_lt_l, iN_le_l, iN_eq_l, l_lt_iN, l_le_iN, l_eq_iN, iN_eq_n, n_eq_iN, iN_le_n, iN_lt_n, iN_add, iN_mul, iN_add_l, l_add_iN, l_mul_iN, iN_sub, iN_sub_l, sub1_le, le_F, lt_T, lt_F, le_T, eq_F, t1, r1, y2]
end LX
