/-! move: the call -/
section MX
variable {x N : Nat} {z : Nat × Nat} {h : XH} {C M : Nat → Nat → Int32} {P Q : Nat → Nat → Int64} {A : Nat → Nat → Nat} {n : Nat → Nat} {c : Nat}
theorem c_rowO (hs : Shp x h) (r : Int32) : ∃ o, fX11_rowAt N z [.ref x, .int r] (hh x h C M P Q) = some (o, hh x h C M P Q) := by
  rcases rng r (n := 6) (by omega) with ⟨j, hj, rfl⟩ | hrr
  · exact ⟨_, c_rowAt hs hj⟩
  · have hrr1 : (decide (0 ≤ r) && decide (r < (6 : Int32))) = false := hrr
    have hrr2 : (decide (0 ≤ r) && decide (r ≤ (5 : Int32))) = false := rng_le (k := 5) (by omega) hrr
    have hrr3 := rng_p hrr1
    have hrr4 := rng_p hrr2
    exact ⟨_, c_rowNo r hs hrr3 hrr1⟩
theorem c_car (hs : Shp x h) {k a p q : Nat} {sz pl rm : Nat → Nat} (hk : k ≤ 12) (ha : Rw C a k sz) (hp : Rw C p k pl) (hq : Rw C q 8 rm) (hz : ∀ i, i < k → sz i ≤ 99) (hpl : ∀ i, i < k → pl i < 8) (hrm : ∀ i, i < 8 → rm i ≤ 999) (hN : 10000 < N) : ∃ D, (∀ j l, (j < 21 ∨ j = 23 ∨ 41 < j) → D j l = C j l) ∧ ((gt sz pl rm k 8 0 = 1000000 ∧ (∀ j l, j = 21 ∨ j = 22 → D j l = C j l) ∧ fX6_carry N z [.ref (x + 21), .ref (x + (45 + 2 * a)), .ref (x + (45 + 2 * p)), .ref (x + (45 + 2 * q))] (hh x h C M P Q) = some (-9, hh x h D M P Q)) ∨ (gt sz pl rm k 8 0 < 1000000 ∧ D 21 0 = iN k ∧ (∀ i, i < k → D 22 i = iN (asg sz pl rm k 8 i)) ∧ fX6_carry N z [.ref (x + 21), .ref (x + (45 + 2 * a)), .ref (x + (45 + 2 * p)), .ref (x + (45 + 2 * q))] (hh x h C M P Q) = some (iN (gt sz pl rm k 8 0), hh x h D M P Q))) := by
  have ha6 := ha.1
  obtain ⟨D1, r1, r2, r3⟩ := c_cy1 (N := N) (z := z) (M := M) (P := P) (Q := Q) hs hk ha (x + (45 + 2 * p)) (x + (45 + 2 * q)) hN
  obtain ⟨D2, a4, a5, s1, s2, s3, s4⟩ := c_cy3 (N := N) (z := z) (M := M) (P := P) (Q := Q) (C := D1) hs hk (ha.cg (fun j l hj => r2 j l (by omega))) (hp.cg (fun j l hj => r2 j l (by omega))) (hq.cg (fun j l hj => r2 j l (by omega))) hz hpl hrm r3 xD hN
  have f0 : xA h (x + 23) 0 = some (x + 24) := sa_few hs (q := 0) (by omega)
  have t0 : xT h (x + 24) = (100, 13) := st_few hs (q := 0) (by omega)
  have y0 := s3 0 (Nat.zero_le _)
  have g1 := gt_le (rm := rm) (pl := pl) hk hz 8 0 (Nat.zero_le _)
  by_cases w : gt sz pl rm k 8 0 < 1000000
  · obtain ⟨D3, t1, t2, t3, t4⟩ := c_set (N := N) (z := z) (M := M) (P := P) (Q := Q) (C := D2) hs hk hz s4 w hN
    refine ⟨D3, fun j l hj => (t2 j l (by omega) (by omega)).trans ((s2 j l (by omega)).trans (r2 j l (by omega))), Or.inr ⟨w, t3, t4, ?_⟩⟩
    have y1 : D2 (45 + 2 * a) 0 = iN k := (s2 _ _ (by omega)).trans ((r2 _ _ (by omega)).trans ha.2.1)
    have y2 : D3 24 0 = iN (gt sz pl rm k 8 0) := (t2 _ _ (by omega) (by omega)).trans y0
    generalize gt sz pl rm k 8 0 = G at *
    simp -implicitDefEqProofs (disch := first | omega | decide) only [fX6_carry, mB_s, lay_n, lay_i, lay_r, lay_0, lay_l, List.length_cons, List.length_nil, List.cons_append, List.nil_append, sB, kS_l, kS_r, sSeq_a, sNil_a, kSetI_p, sSetI_a, kSetJ_p, sSetJ_a, kSetA_p, sSetA_a, kInc_p, sInc_a, kPut2_p, kPut1_p, sPut_a, kPutC2_p, kPutC1_p, sPutC_a, kAst3_p, kAst2_p, kAst1_p, sAst_a, kAstC3_p, kAstC2_p, kAstC1_p, sAstC_a, kAstZ3_p, kAstZ2_p, kAstZ1_p, sAstZ_a, kAstO3_p, kAstO2_p, kAstO1_p, sAstO_a, kAstA3_p, kAstA2_p, kAstA1_p, sAstA_a, kX_p, sX_a, kIf_p, sIf_a, kRet_p, sRet_a, kRetZ_p, sRetZ_a, sRetV_a, kSw_p, sSw_a, kPutZ2_p, kPutZ1_p, sPutZ_a, eI_a, eJ_a, eN_a, kL_p, eLI_a, eLJ_a, eLA_a, kT2_p, kT_p, eT_a, kP2_p, kP_p, eP_a, kU_p, eU_a, kGet_p, eGet_a, kAld2_p, kAld1_p, eAld_a, kLen_p, eLen_a, kEIf_p, eIf_a, kCast_p, eCast_a, aN_a, kC2_p, kC_p, aC_a, kCS_p, eCallS_a, kCV2_p, kCV1_p, eCallV_a, kN2_p, kN1_p, eNew_a, kNA_p, eNewA_a, kSt3_p, kSt2_p, kSt1_p, eSt_a, kSA2_p, kSA1_p, eSetA_a, eZ_a, eMi_a, kCl_p, eCls_a, kAnd_p, cAnd_a, kOr_p, cOr_a, cNot_a, cZ_a, cNul_a, cNN_a, cAeq_a, cAne_a, kObj_p, sObj_a, kSup2_p, kSup1_p, sSup_a, kCp5_p, kCp4_p, kCp3_p, kCp2_p, kCp1_p, sCpI_a, qEq, qNe, qLt, qGe, qGt, qLe, rGt_s, rLt_s, stL, stL2, kill, List.getElem?_cons_zero, List.getElem?_cons_succ, gI_i, gJ_l, gR_r, gR_0, rf_s, rf_n, Option.bind_some, Option.bind_none, mR_r, cat_i, cat_r, cat_0, cat_d, cat_l, ↓reduceIte, reduceCtorEq, Nat.reduceSub, Nat.reduceAdd, Nat.reduceMul, Nat.reduceLT, Nat.reduceLeDiff, Nat.reduceEqDiff, and_true, true_and, and_false, false_and, or_false, false_or, or_true, true_or, not_true_eq_false, not_false_eq_true, decide_true, decide_false, eq_self, Bool.false_eq_true, decide_eq_true_eq, Bool.and_eq_true, Bool.or_eq_true, Bool.not_eq_true', decide_eq_false_iff_not, decide_not, Bool.not_true, Bool.not_false, Bool.and_true, Bool.true_and, Bool.and_false, Bool.false_and, Bool.or_true, Bool.true_or, Bool.or_false, Bool.false_or, Bool.and_self, Bool.or_self, Bool.true_eq_false, Bool.and_eq_false_imp, Bool.or_eq_false_iff, jI, jJ, jA, o_iadd, o_isub, o_imul, o_iand, o_ior, o_ishl, o_ishr, o_ladd, o_lsub, o_lmul, o_i2l, o_l2i, o_i2b, o_ineg, if_bI, bI_z, bI_01, ifs, if_and, if_or, if_10, bI_zn, bI_nz, ifl, ifcons, ifint, iflong, ite_self, if_inc, Bool.decide_eq_true, Bool.decide_and, Bool.decide_or, xA_hh, xT_hh, xN_hh, xS_hh, xI_0, xI_c, xI_m, xI_o, xJ_0, xJ_m, sI_0, sI_c, sI_m, sI_o, sJ_0, sJ_m, sA_hh, u2_s, u2_n, xT_sI, xT_sA, xN_sI, xN_sA, xA_sI, xI_sA, xI_sI, xA_sA, xN_nw, xT_nw, xT_nn, xI_nw, xI_nn, xA_nw, xA_nn, iN_nat, l_nat, l_lt_T, l_lt_F, l_le_T, l_le_F, l_eq_F, iN_lt, iN_le, iN_eq, iN_lt_l, iN_le_l, iN_eq_l, l_lt_iN, l_le_iN, l_eq_iN, iN_eq_n, n_eq_iN, iN_le_n, iN_lt_n, iN_add, iN_mul, iN_add_l, l_add_iN, l_mul_iN, iN_sub, iN_sub_l, sub1_le, le_F, lt_T, lt_F, le_T, eq_F, sa_21_2 hs, sa_few hs, st_21 hs, st_23 hs, st_few hs, st_r hs, r1, s1, st_21 hs, sa_21_2 hs, st_23 hs, f0, t0, y0, y1, t1, y2, st_r hs]
  · have e : gt sz pl rm k 8 0 = 1000000 := by omega
    refine ⟨D2, fun j l hj => (s2 j l (by omega)).trans (r2 j l (by omega)), Or.inl ⟨e, fun j l hj => (s2 j l (by omega)).trans (r2 j l (by omega)), ?_⟩⟩
    rw [e] at y0
    simp -implicitDefEqProofs (disch := first | omega | decide) only [fX6_carry, mB_s, lay_n, lay_i, lay_r, lay_0, lay_l, List.length_cons, List.length_nil, List.cons_append, List.nil_append, sB, kS_l, kS_r, sSeq_a, sNil_a, kSetI_p, sSetI_a, kSetJ_p, sSetJ_a, kSetA_p, sSetA_a, kInc_p, sInc_a, kPut2_p, kPut1_p, sPut_a, kPutC2_p, kPutC1_p, sPutC_a, kAst3_p, kAst2_p, kAst1_p, sAst_a, kAstC3_p, kAstC2_p, kAstC1_p, sAstC_a, kAstZ3_p, kAstZ2_p, kAstZ1_p, sAstZ_a, kAstO3_p, kAstO2_p, kAstO1_p, sAstO_a, kAstA3_p, kAstA2_p, kAstA1_p, sAstA_a, kX_p, sX_a, kIf_p, sIf_a, kRet_p, sRet_a, kRetZ_p, sRetZ_a, sRetV_a, kSw_p, sSw_a, kPutZ2_p, kPutZ1_p, sPutZ_a, eI_a, eJ_a, eN_a, kL_p, eLI_a, eLJ_a, eLA_a, kT2_p, kT_p, eT_a, kP2_p, kP_p, eP_a, kU_p, eU_a, kGet_p, eGet_a, kAld2_p, kAld1_p, eAld_a, kLen_p, eLen_a, kEIf_p, eIf_a, kCast_p, eCast_a, aN_a, kC2_p, kC_p, aC_a, kCS_p, eCallS_a, kCV2_p, kCV1_p, eCallV_a, kN2_p, kN1_p, eNew_a, kNA_p, eNewA_a, kSt3_p, kSt2_p, kSt1_p, eSt_a, kSA2_p, kSA1_p, eSetA_a, eZ_a, eMi_a, kCl_p, eCls_a, kAnd_p, cAnd_a, kOr_p, cOr_a, cNot_a, cZ_a, cNul_a, cNN_a, cAeq_a, cAne_a, kObj_p, sObj_a, kSup2_p, kSup1_p, sSup_a, kCp5_p, kCp4_p, kCp3_p, kCp2_p, kCp1_p, sCpI_a, qEq, qNe, qLt, qGe, qGt, qLe, rGt_s, rLt_s, stL, stL2, kill, List.getElem?_cons_zero, List.getElem?_cons_succ, gI_i, gJ_l, gR_r, gR_0, rf_s, rf_n, Option.bind_some, Option.bind_none, mR_r, cat_i, cat_r, cat_0, cat_d, cat_l, ↓reduceIte, reduceCtorEq, Nat.reduceSub, Nat.reduceAdd, Nat.reduceMul, Nat.reduceLT, Nat.reduceLeDiff, Nat.reduceEqDiff, and_true, true_and, and_false, false_and, or_false, false_or, or_true, true_or, not_true_eq_false, not_false_eq_true, decide_true, decide_false, eq_self, Bool.false_eq_true, decide_eq_true_eq, Bool.and_eq_true, Bool.or_eq_true, Bool.not_eq_true', decide_eq_false_iff_not, decide_not, Bool.not_true, Bool.not_false, Bool.and_true, Bool.true_and, Bool.and_false, Bool.false_and, Bool.or_true, Bool.true_or, Bool.or_false, Bool.false_or, Bool.and_self, Bool.or_self, Bool.true_eq_false, Bool.and_eq_false_imp, Bool.or_eq_false_iff, jI, jJ, jA, o_iadd, o_isub, o_imul, o_iand, o_ior, o_ishl, o_ishr, o_ladd, o_lsub, o_lmul, o_i2l, o_l2i, o_i2b, o_ineg, if_bI, bI_z, bI_01, ifs, if_and, if_or, if_10, bI_zn, bI_nz, ifl, ifcons, ifint, iflong, ite_self, if_inc, Bool.decide_eq_true, Bool.decide_and, Bool.decide_or, xA_hh, xT_hh, xN_hh, xS_hh, xI_0, xI_c, xI_m, xI_o, xJ_0, xJ_m, sI_0, sI_c, sI_m, sI_o, sJ_0, sJ_m, sA_hh, u2_s, u2_n, xT_sI, xT_sA, xN_sI, xN_sA, xA_sI, xI_sA, xI_sI, xA_sA, xN_nw, xT_nw, xT_nn, xI_nw, xI_nn, xA_nw, xA_nn, iN_nat, l_nat, l_lt_T, l_lt_F, l_le_T, l_le_F, l_eq_F, iN_lt, iN_le, iN_eq, iN_lt_l, iN_le_l, iN_eq_l, l_lt_iN, l_le_iN, l_eq_iN, iN_eq_n, n_eq_iN, iN_le_n, iN_lt_n, iN_add, iN_mul, iN_add_l, l_add_iN, l_mul_iN, iN_sub, iN_sub_l, sub1_le, le_F, lt_T, lt_F, le_T, eq_F, sa_21_2 hs, sa_few hs, st_21 hs, st_23 hs, st_few hs, st_r hs, r1, s1, st_21 hs, sa_21_2 hs, st_23 hs, f0, t0, y0]
theorem Inv.rwm (hI : Inv x z A h C M P Q n c) {D : Nat → Nat → Int32} {Q2 : Nat → Nat → Int64} (hD : ∀ j l, (j < 24 ∨ 41 < j) → D j l = C j l) (hQ : ∀ j l, j ≠ 46 → Q2 j l = Q j l) : Inv x z A h D M P Q2 n c := by
  refine hI.scr0 (fun j l hj => hD j l ?_) (fun _ _ _ => rfl) ⟨rfl, rfl⟩ ⟨hQ _ _ (by omega), hQ _ _ (by omega)⟩
  by_cases e : j < 24 ∨ 41 < j
  · exact e
  · exfalso
    unfold cP at hj
    rw [if_neg (by omega), if_neg (by omega)] at hj
    simp only [List.mem_cons, List.not_mem_nil, or_false, Bool.or_eq_true, Bool.and_eq_true, decide_eq_true_eq] at hj
    omega
theorem Inv.mvd (hI : Inv x z A h C M P Q n c) {D M2 : Nat → Nat → Int32} {Q2 : Nat → Nat → Int64} {k : Nat} {v : Nat → Int32} (hk : k ≤ 12) (hD : ∀ j l, (j < 21 ∨ 41 < j) → D j l = C j l) (hQ : ∀ j l, j ≠ 46 → Q2 j l = Q j l) (hM : ∀ j l, j ≠ 47 → (j ≠ 0 ∨ l ≠ 62) → M2 j l = M j l) (d0 : D 21 0 = iN k) (m0 : M2 0 62 = iN k) (d1 : ∀ i, i < k → D 22 i = v i) (m1 : ∀ i, i < k → M2 47 i = v i) : Inv x z A h D M2 P Q2 n c := by
  have cf := hI.cf
  have ok := hI.ok
  refine hI.fixc (fun j i hj => hM j i ?_ ?_) (fun i hi => hM 0 i (by omega) ?_) (fun j hj => hD j 2 ?_) ⟨?_, ?_, ?_, cf.up.trans (hQ _ _ (by omega)).symm, cf.lo.trans (hQ _ _ (by omega)).symm, ?_, ?_, fun f hf => ?_, fun f hf => ?_, fun f hf => ?_⟩ (hI.cr.cg (fun j i hj => hD j i (by omega)) (fun _ => hM _ _ (by omega) (by omega)) (fun _ => hM _ _ (by omega) (by omega)) (fun _ => hM _ _ (by omega) (by omega)) (fun _ => hM _ _ (by omega) (by omega))) ⟨k, hk, m0, d0, fun i hi => (d1 i hi).trans (m1 i hi).symm⟩ (fun f hf => ?_) (fun f hf => ?_) ?_
  · intro e; subst e; revert hj; decide
  · left; intro e; subst e; revert hj; decide
  · right; intro e; subst e; revert hi; decide
  · refine Classical.byContradiction fun w => ?_
    revert hj
    have : 21 ≤ j ∧ j ≤ 41 := by omega
    unfold cO
    simp
    omega
  · rw [hD _ _ (by omega), hM _ _ (by omega) (by omega)]; exact cf.now
  · rw [hD _ _ (by omega), hM _ _ (by omega) (by omega)]; exact cf.lf
  · rw [hD _ _ (by omega), hM _ _ (by omega) (by omega)]; exact cf.la
  · rw [hD _ _ (by omega), hM _ _ (by omega) (by omega)]; exact cf.seen
  · rw [hD _ _ (by omega), hM _ _ (by omega) (by omega)]; exact cf.stw
  · rw [hD _ _ (by omega), hM _ _ (by omega) (by omega)]; exact cf.pc f hf
  · rw [hD _ _ (by omega), hM _ _ (by omega) (by omega)]; exact cf.fr f hf
  · rw [hD _ _ (by omega), hM _ _ (by omega) (by omega)]; exact cf.cm f hf
  · rw [hM _ _ (by omega) (by omega)]; exact ok.pc f hf
  · rw [hM _ _ (by omega) (by omega)]; exact ok.fr f hf
  · rw [hM _ _ (by omega) (by omega), hM _ _ (by omega) (by omega)]; exact ok.wr
end MX
