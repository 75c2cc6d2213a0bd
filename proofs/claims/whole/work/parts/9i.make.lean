/-! the reference is made; the run begins -/
section MR
variable {x N : Nat} {z : Nat × Nat} {h : XH}
def flS (S : RS) (o : Nat) (v : Int32) : Nat → RS
  | 0 => S
  | i + 1 => rSI (flS S o v i) o i v
theorem p_fl {S : RS} {a m k : Nat} {v : Int32} {c : EE Bool} {b : SS Unit} (hc : ∀ i, i ≤ m → c [.ref (x + 65), .int (iN i)] (hb x z.1 h (flS S a v i)) = some (decide (i < m), hb x z.1 h (flS S a v i))) (hb2 : b = sSeq (sAst sI 100 (eGet xA 14 k (eLA 0)) (eLI 1) (eI v)) (sInc 1 1)) (h1 : ∀ i, i < m → (rsT (flS S a v i) 65).1 = 14 ∧ rsR (flS S a v i) 65 k = some (some a) ∧ rsT (flS S a v i) a = (100, m)) (hm : m < 1000) (hN : 10000 < N) : sLoop c b N [.ref (x + 65), .int 0] (hb x z.1 h S) = some (.inl ([.ref (x + 65), .int (iN m)], hb x z.1 h (flS S a v m))) := by
  subst hb2
  refine loop_up (fun i => ([.ref (x + 65), .int (iN i)], hb x z.1 h (flS S a v i))) m hc ?_ (N := N) (L := [.ref (x + 65), .int 0]) (h := hb x z.1 h S) (by omega) rfl
  intro i hi
  obtain ⟨t1, t2, t3⟩ := h1 i hi
  have y2 : rel x z.1 (rsR (flS S a v i) 65 k) = some (x + a) := by rw [t2]; rfl
  have y3 := hb_A (x := x) (z := z.1) (h := h) (flS S a v i) 65 k
  rw [y2] at y3
  have y4 : flS S a v (i + 1) = rSI (flS S a v i) a i v := rfl
  rw [y4]
  simp -implicitDefEqProofs (disch := first | omega | decide) only [mB_s, lay_n, lay_i, lay_r, lay_0, lay_l, List.length_cons, List.length_nil, List.cons_append, List.nil_append, sB, kS_l, kS_r, sSeq_a, sNil_a, kSetI_p, sSetI_a, kSetJ_p, sSetJ_a, kSetA_p, sSetA_a, kInc_p, sInc_a, kPut2_p, kPut1_p, sPut_a, kPutC2_p, kPutC1_p, sPutC_a, kAst3_p, kAst2_p, kAst1_p, sAst_a, kAstC3_p, kAstC2_p, kAstC1_p, sAstC_a, kAstZ3_p, kAstZ2_p, kAstZ1_p, sAstZ_a, kAstO3_p, kAstO2_p, kAstO1_p, sAstO_a, kAstA3_p, kAstA2_p, kAstA1_p, sAstA_a, kX_p, sX_a, kIf_p, sIf_a, kRet_p, sRet_a, kRetZ_p, sRetZ_a, sRetV_a, kSw_p, sSw_a, kPutZ2_p, kPutZ1_p, sPutZ_a, eI_a, eJ_a, eN_a, kL_p, eLI_a, eLJ_a, eLA_a, kT2_p, kT_p, eT_a, kP2_p, kP_p, eP_a, kU_p, eU_a, kGet_p, eGet_a, kAld2_p, kAld1_p, eAld_a, kLen_p, eLen_a, kEIf_p, eIf_a, kCast_p, eCast_a, aN_a, kC2_p, kC_p, aC_a, kCS_p, eCallS_a, kCV2_p, kCV1_p, eCallV_a, kN2_p, kN1_p, eNew_a, kNA_p, eNewA_a, kSt3_p, kSt2_p, kSt1_p, eSt_a, kSA2_p, kSA1_p, eSetA_a, eZ_a, eMi_a, kCl_p, eCls_a, kAnd_p, cAnd_a, kOr_p, cOr_a, cNot_a, cZ_a, cNul_a, cNN_a, cAeq_a, cAne_a, kObj_p, sObj_a, kSup2_p, kSup1_p, sSup_a, kCp5_p, kCp4_p, kCp3_p, kCp2_p, kCp1_p, sCpI_a, qEq, qNe, qLt, qGe, qGt, qLe, rGt_s, rLt_s, stL, stL2, kill, List.getElem?_cons_zero, List.getElem?_cons_succ, gI_i, gJ_l, gR_r, gR_0, rf_s, rf_n, Option.bind_some, Option.bind_none, mR_r, cat_i, cat_r, cat_0, cat_d, cat_l, ↓reduceIte, reduceCtorEq, Nat.reduceSub, Nat.reduceAdd, Nat.reduceMul, Nat.reduceLT, Nat.reduceLeDiff, Nat.reduceEqDiff, and_true, true_and, and_false, false_and, or_false, false_or, or_true, true_or, not_true_eq_false, not_false_eq_true, decide_true, decide_false, eq_self, Bool.false_eq_true, decide_eq_true_eq, Bool.and_eq_true, Bool.or_eq_true, Bool.not_eq_true', decide_eq_false_iff_not, decide_not, Bool.not_true, Bool.not_false, Bool.and_true, Bool.true_and, Bool.and_false, Bool.false_and, Bool.or_true, Bool.true_or, Bool.or_false, Bool.false_or, Bool.and_self, Bool.or_self, Bool.true_eq_false, Bool.and_eq_false_imp, Bool.or_eq_false_iff, jI, jJ, jA, o_iadd, o_isub, o_imul, o_iand, o_ior, o_ishl, o_ishr, o_ladd, o_lsub, o_lmul, o_i2l, o_l2i, o_i2b, o_ineg, if_bI, bI_z, bI_01, ifs, if_and, if_or, if_10, bI_zn, bI_nz, ifl, ifcons, ifint, iflong, ite_self, if_inc, Bool.decide_eq_true, Bool.decide_and, Bool.decide_or, xA_hh, xT_hh, xN_hh, xS_hh, xI_0, xI_c, xI_m, xI_o, xJ_0, xJ_m, sI_0, sI_c, sI_m, sI_o, sJ_0, sJ_m, sA_hh, u2_s, u2_n, xT_sI, xT_sA, xN_sI, xN_sA, xA_sI, xI_sA, xI_sI, xA_sA, xN_nw, xT_nw, xT_nn, xI_nw, xI_nn, xA_nw, xA_nn, iN_nat, l_nat, l_lt_T, l_lt_F, l_le_T, l_le_F, l_eq_F, iN_lt, iN_le, iN_eq, iN_lt_l, iN_le_l, iN_eq_l, l_lt_iN, l_le_iN, l_eq_iN, iN_eq_n, n_eq_iN, iN_le_n, iN_lt_n, iN_add, iN_mul, iN_add_l, l_add_iN, l_mul_iN, iN_sub, iN_sub_l, sub1_le, le_F, lt_T, lt_F, le_T, eq_F, y3, hb_T, t1, t3, hb_sI]
def rm_0 : RS := rNew rc_c23 14 70
def rm_1 : RS := sAr rm_0 65 1 100 6
def rm_2 : RS := sAr rm_1 65 5 100 6
def rm_3 : RS := sAr rm_2 65 6 100 240
def rm_4 : RS := sAr rm_3 65 7 100 40
def rm_5 : RS := sAr rm_4 65 8 100 4
def rm_6 : RS := sAr rm_5 65 9 101 160
def rm_7 : RS := sAr rm_6 65 14 100 24
def rm_8 : RS := sAr rm_7 65 15 100 24
def rm_9 : RS := sAr rm_8 65 16 102 24
def rm_10 : RS := sAr rm_9 65 17 100 24
def rm_11 : RS := sAr rm_10 65 18 100 24
def rm_12 : RS := sAr rm_11 65 19 100 24
def rm_13 : RS := sAr rm_12 65 20 100 24
def rm_14 : RS := sAr rm_13 65 21 100 24
def rm_15 : RS := sAr rm_14 65 23 100 60
def rm_16 : RS := sAr rm_15 65 24 100 60
def rm_17 : RS := sAr rm_16 65 25 100 60
def rm_18 : RS := sAr rm_17 65 26 100 60
def rm_19 : RS := sAr rm_18 65 28 100 16
def rm_20 : RS := sAr rm_19 65 29 100 16
def rm_21 : RS := sAr rm_20 65 30 100 64
def rm_22 : RS := sAr rm_21 65 31 100 4
def rm_23 : RS := sAr rm_22 65 33 100 24
def rm_24 : RS := sAr rm_23 65 34 100 24
def rm_25 : RS := sAr rm_24 65 35 100 24
def rm_26 : RS := sAr rm_25 65 36 100 24
def rm_27 : RS := sAr rm_26 65 37 100 24
def rm_28 : RS := sAr rm_27 65 38 100 24
def rm_29 : RS := sAr rm_28 65 39 100 3
def rm_30 : RS := sAr rm_29 65 40 100 3
def rm_31 : RS := sAr rm_30 65 42 100 40
def rm_32 : RS := sAr rm_31 65 43 100 40
def rm_33 : RS := sAr rm_32 65 44 100 40
def rm_34 : RS := sAr rm_33 65 45 100 3
def rm_35 : RS := sAr rm_34 65 47 100 24
def rm_36 : RS := sAr rm_35 65 48 100 24
def rm_37 : RS := sAr rm_36 65 50 100 20
def rm_38 : RS := sAr rm_37 65 51 100 20
def rm_39 : RS := sAr rm_38 65 52 100 20
def rm_40 : RS := sAr rm_39 65 53 100 20
def rm_41 : RS := sAr rm_40 65 54 100 20
def rm_42 : RS := sAr rm_41 65 55 100 20
def rm_43 : RS := sAr rm_42 65 56 100 20
def rm_44 : RS := sAr rm_43 65 57 102 10000
def rm_45 : RS := sAr rm_44 65 58 102 10000
def rm_46 : RS := sAr rm_45 65 61 103 117
def rm_47 : RS := sAr rm_46 65 63 100 12
def rm_48 : RS := sAr rm_47 65 65 100 12
def rm_49 : RS := sAr rm_48 65 66 100 12
def rm_J : RS := rSJ rm_49 65 4 1
def rm_a : RS := flS rm_J 67 (-1) 6
def rm_b : RS := flS rm_a 70 (-1) 4
def rm_E : RS := flS rm_b 94 1 3
theorem sA_k {S : RS} {o k t m n : Nat} (h : rsN S = n ∧ (rsT S 65).1 = 14) (hn : 65 < n) : rsN (sAr S o k t m) = n + 1 ∧ (rsT (sAr S o k t m) 65).1 = 14 ∧ (rsT (rNew S t m) 65).1 = 14 := by
  have e : (rsT (rNew S t m) 65).1 = 14 := by
    show (if 65 = rsN S then (t, m) else rsT S 65).1 = 14
    rw [if_neg (by omega)]
    exact h.2
  exact ⟨by show rsN S + 1 = n + 1; rw [h.1], e, e⟩
set_option maxRecDepth 100000 in
theorem rm_k_0 : rsN rm_0 = 66 ∧ (rsT rm_0 65).1 = 14 := ⟨rfl, rfl⟩
theorem rm_q_0 : rsN rm_1 = 67 ∧ (rsT rm_1 65).1 = 14 ∧ (rsT (rNew rm_0 100 6) 65).1 = 14 := sA_k rm_k_0 (by decide)
theorem rm_k_1 : rsN rm_1 = 67 ∧ (rsT rm_1 65).1 = 14 := ⟨rm_q_0.1, rm_q_0.2.1⟩
theorem rm_q_1 : rsN rm_2 = 68 ∧ (rsT rm_2 65).1 = 14 ∧ (rsT (rNew rm_1 100 6) 65).1 = 14 := sA_k rm_k_1 (by decide)
theorem rm_k_2 : rsN rm_2 = 68 ∧ (rsT rm_2 65).1 = 14 := ⟨rm_q_1.1, rm_q_1.2.1⟩
theorem rm_q_2 : rsN rm_3 = 69 ∧ (rsT rm_3 65).1 = 14 ∧ (rsT (rNew rm_2 100 240) 65).1 = 14 := sA_k rm_k_2 (by decide)
theorem rm_k_3 : rsN rm_3 = 69 ∧ (rsT rm_3 65).1 = 14 := ⟨rm_q_2.1, rm_q_2.2.1⟩
theorem rm_q_3 : rsN rm_4 = 70 ∧ (rsT rm_4 65).1 = 14 ∧ (rsT (rNew rm_3 100 40) 65).1 = 14 := sA_k rm_k_3 (by decide)
theorem rm_k_4 : rsN rm_4 = 70 ∧ (rsT rm_4 65).1 = 14 := ⟨rm_q_3.1, rm_q_3.2.1⟩
theorem rm_q_4 : rsN rm_5 = 71 ∧ (rsT rm_5 65).1 = 14 ∧ (rsT (rNew rm_4 100 4) 65).1 = 14 := sA_k rm_k_4 (by decide)
theorem rm_k_5 : rsN rm_5 = 71 ∧ (rsT rm_5 65).1 = 14 := ⟨rm_q_4.1, rm_q_4.2.1⟩
theorem rm_q_5 : rsN rm_6 = 72 ∧ (rsT rm_6 65).1 = 14 ∧ (rsT (rNew rm_5 101 160) 65).1 = 14 := sA_k rm_k_5 (by decide)
theorem rm_k_6 : rsN rm_6 = 72 ∧ (rsT rm_6 65).1 = 14 := ⟨rm_q_5.1, rm_q_5.2.1⟩
theorem rm_q_6 : rsN rm_7 = 73 ∧ (rsT rm_7 65).1 = 14 ∧ (rsT (rNew rm_6 100 24) 65).1 = 14 := sA_k rm_k_6 (by decide)
theorem rm_k_7 : rsN rm_7 = 73 ∧ (rsT rm_7 65).1 = 14 := ⟨rm_q_6.1, rm_q_6.2.1⟩
theorem rm_q_7 : rsN rm_8 = 74 ∧ (rsT rm_8 65).1 = 14 ∧ (rsT (rNew rm_7 100 24) 65).1 = 14 := sA_k rm_k_7 (by decide)
theorem rm_k_8 : rsN rm_8 = 74 ∧ (rsT rm_8 65).1 = 14 := ⟨rm_q_7.1, rm_q_7.2.1⟩
theorem rm_q_8 : rsN rm_9 = 75 ∧ (rsT rm_9 65).1 = 14 ∧ (rsT (rNew rm_8 102 24) 65).1 = 14 := sA_k rm_k_8 (by decide)
theorem rm_k_9 : rsN rm_9 = 75 ∧ (rsT rm_9 65).1 = 14 := ⟨rm_q_8.1, rm_q_8.2.1⟩
theorem rm_q_9 : rsN rm_10 = 76 ∧ (rsT rm_10 65).1 = 14 ∧ (rsT (rNew rm_9 100 24) 65).1 = 14 := sA_k rm_k_9 (by decide)
theorem rm_k_10 : rsN rm_10 = 76 ∧ (rsT rm_10 65).1 = 14 := ⟨rm_q_9.1, rm_q_9.2.1⟩
theorem rm_q_10 : rsN rm_11 = 77 ∧ (rsT rm_11 65).1 = 14 ∧ (rsT (rNew rm_10 100 24) 65).1 = 14 := sA_k rm_k_10 (by decide)
theorem rm_k_11 : rsN rm_11 = 77 ∧ (rsT rm_11 65).1 = 14 := ⟨rm_q_10.1, rm_q_10.2.1⟩
theorem rm_q_11 : rsN rm_12 = 78 ∧ (rsT rm_12 65).1 = 14 ∧ (rsT (rNew rm_11 100 24) 65).1 = 14 := sA_k rm_k_11 (by decide)
theorem rm_k_12 : rsN rm_12 = 78 ∧ (rsT rm_12 65).1 = 14 := ⟨rm_q_11.1, rm_q_11.2.1⟩
theorem rm_q_12 : rsN rm_13 = 79 ∧ (rsT rm_13 65).1 = 14 ∧ (rsT (rNew rm_12 100 24) 65).1 = 14 := sA_k rm_k_12 (by decide)
theorem rm_k_13 : rsN rm_13 = 79 ∧ (rsT rm_13 65).1 = 14 := ⟨rm_q_12.1, rm_q_12.2.1⟩
theorem rm_q_13 : rsN rm_14 = 80 ∧ (rsT rm_14 65).1 = 14 ∧ (rsT (rNew rm_13 100 24) 65).1 = 14 := sA_k rm_k_13 (by decide)
theorem rm_k_14 : rsN rm_14 = 80 ∧ (rsT rm_14 65).1 = 14 := ⟨rm_q_13.1, rm_q_13.2.1⟩
theorem rm_q_14 : rsN rm_15 = 81 ∧ (rsT rm_15 65).1 = 14 ∧ (rsT (rNew rm_14 100 60) 65).1 = 14 := sA_k rm_k_14 (by decide)
theorem rm_k_15 : rsN rm_15 = 81 ∧ (rsT rm_15 65).1 = 14 := ⟨rm_q_14.1, rm_q_14.2.1⟩
theorem rm_q_15 : rsN rm_16 = 82 ∧ (rsT rm_16 65).1 = 14 ∧ (rsT (rNew rm_15 100 60) 65).1 = 14 := sA_k rm_k_15 (by decide)
theorem rm_k_16 : rsN rm_16 = 82 ∧ (rsT rm_16 65).1 = 14 := ⟨rm_q_15.1, rm_q_15.2.1⟩
theorem rm_q_16 : rsN rm_17 = 83 ∧ (rsT rm_17 65).1 = 14 ∧ (rsT (rNew rm_16 100 60) 65).1 = 14 := sA_k rm_k_16 (by decide)
theorem rm_k_17 : rsN rm_17 = 83 ∧ (rsT rm_17 65).1 = 14 := ⟨rm_q_16.1, rm_q_16.2.1⟩
theorem rm_q_17 : rsN rm_18 = 84 ∧ (rsT rm_18 65).1 = 14 ∧ (rsT (rNew rm_17 100 60) 65).1 = 14 := sA_k rm_k_17 (by decide)
theorem rm_k_18 : rsN rm_18 = 84 ∧ (rsT rm_18 65).1 = 14 := ⟨rm_q_17.1, rm_q_17.2.1⟩
theorem rm_q_18 : rsN rm_19 = 85 ∧ (rsT rm_19 65).1 = 14 ∧ (rsT (rNew rm_18 100 16) 65).1 = 14 := sA_k rm_k_18 (by decide)
theorem rm_k_19 : rsN rm_19 = 85 ∧ (rsT rm_19 65).1 = 14 := ⟨rm_q_18.1, rm_q_18.2.1⟩
theorem rm_q_19 : rsN rm_20 = 86 ∧ (rsT rm_20 65).1 = 14 ∧ (rsT (rNew rm_19 100 16) 65).1 = 14 := sA_k rm_k_19 (by decide)
theorem rm_k_20 : rsN rm_20 = 86 ∧ (rsT rm_20 65).1 = 14 := ⟨rm_q_19.1, rm_q_19.2.1⟩
theorem rm_q_20 : rsN rm_21 = 87 ∧ (rsT rm_21 65).1 = 14 ∧ (rsT (rNew rm_20 100 64) 65).1 = 14 := sA_k rm_k_20 (by decide)
theorem rm_k_21 : rsN rm_21 = 87 ∧ (rsT rm_21 65).1 = 14 := ⟨rm_q_20.1, rm_q_20.2.1⟩
theorem rm_q_21 : rsN rm_22 = 88 ∧ (rsT rm_22 65).1 = 14 ∧ (rsT (rNew rm_21 100 4) 65).1 = 14 := sA_k rm_k_21 (by decide)
theorem rm_k_22 : rsN rm_22 = 88 ∧ (rsT rm_22 65).1 = 14 := ⟨rm_q_21.1, rm_q_21.2.1⟩
theorem rm_q_22 : rsN rm_23 = 89 ∧ (rsT rm_23 65).1 = 14 ∧ (rsT (rNew rm_22 100 24) 65).1 = 14 := sA_k rm_k_22 (by decide)
theorem rm_k_23 : rsN rm_23 = 89 ∧ (rsT rm_23 65).1 = 14 := ⟨rm_q_22.1, rm_q_22.2.1⟩
theorem rm_q_23 : rsN rm_24 = 90 ∧ (rsT rm_24 65).1 = 14 ∧ (rsT (rNew rm_23 100 24) 65).1 = 14 := sA_k rm_k_23 (by decide)
theorem rm_k_24 : rsN rm_24 = 90 ∧ (rsT rm_24 65).1 = 14 := ⟨rm_q_23.1, rm_q_23.2.1⟩
theorem rm_q_24 : rsN rm_25 = 91 ∧ (rsT rm_25 65).1 = 14 ∧ (rsT (rNew rm_24 100 24) 65).1 = 14 := sA_k rm_k_24 (by decide)
theorem rm_k_25 : rsN rm_25 = 91 ∧ (rsT rm_25 65).1 = 14 := ⟨rm_q_24.1, rm_q_24.2.1⟩
theorem rm_q_25 : rsN rm_26 = 92 ∧ (rsT rm_26 65).1 = 14 ∧ (rsT (rNew rm_25 100 24) 65).1 = 14 := sA_k rm_k_25 (by decide)
theorem rm_k_26 : rsN rm_26 = 92 ∧ (rsT rm_26 65).1 = 14 := ⟨rm_q_25.1, rm_q_25.2.1⟩
theorem rm_q_26 : rsN rm_27 = 93 ∧ (rsT rm_27 65).1 = 14 ∧ (rsT (rNew rm_26 100 24) 65).1 = 14 := sA_k rm_k_26 (by decide)
theorem rm_k_27 : rsN rm_27 = 93 ∧ (rsT rm_27 65).1 = 14 := ⟨rm_q_26.1, rm_q_26.2.1⟩
theorem rm_q_27 : rsN rm_28 = 94 ∧ (rsT rm_28 65).1 = 14 ∧ (rsT (rNew rm_27 100 24) 65).1 = 14 := sA_k rm_k_27 (by decide)
theorem rm_k_28 : rsN rm_28 = 94 ∧ (rsT rm_28 65).1 = 14 := ⟨rm_q_27.1, rm_q_27.2.1⟩
theorem rm_q_28 : rsN rm_29 = 95 ∧ (rsT rm_29 65).1 = 14 ∧ (rsT (rNew rm_28 100 3) 65).1 = 14 := sA_k rm_k_28 (by decide)
theorem rm_k_29 : rsN rm_29 = 95 ∧ (rsT rm_29 65).1 = 14 := ⟨rm_q_28.1, rm_q_28.2.1⟩
theorem rm_q_29 : rsN rm_30 = 96 ∧ (rsT rm_30 65).1 = 14 ∧ (rsT (rNew rm_29 100 3) 65).1 = 14 := sA_k rm_k_29 (by decide)
theorem rm_k_30 : rsN rm_30 = 96 ∧ (rsT rm_30 65).1 = 14 := ⟨rm_q_29.1, rm_q_29.2.1⟩
theorem rm_q_30 : rsN rm_31 = 97 ∧ (rsT rm_31 65).1 = 14 ∧ (rsT (rNew rm_30 100 40) 65).1 = 14 := sA_k rm_k_30 (by decide)
theorem rm_k_31 : rsN rm_31 = 97 ∧ (rsT rm_31 65).1 = 14 := ⟨rm_q_30.1, rm_q_30.2.1⟩
theorem rm_q_31 : rsN rm_32 = 98 ∧ (rsT rm_32 65).1 = 14 ∧ (rsT (rNew rm_31 100 40) 65).1 = 14 := sA_k rm_k_31 (by decide)
theorem rm_k_32 : rsN rm_32 = 98 ∧ (rsT rm_32 65).1 = 14 := ⟨rm_q_31.1, rm_q_31.2.1⟩
theorem rm_q_32 : rsN rm_33 = 99 ∧ (rsT rm_33 65).1 = 14 ∧ (rsT (rNew rm_32 100 40) 65).1 = 14 := sA_k rm_k_32 (by decide)
theorem rm_k_33 : rsN rm_33 = 99 ∧ (rsT rm_33 65).1 = 14 := ⟨rm_q_32.1, rm_q_32.2.1⟩
theorem rm_q_33 : rsN rm_34 = 100 ∧ (rsT rm_34 65).1 = 14 ∧ (rsT (rNew rm_33 100 3) 65).1 = 14 := sA_k rm_k_33 (by decide)
theorem rm_k_34 : rsN rm_34 = 100 ∧ (rsT rm_34 65).1 = 14 := ⟨rm_q_33.1, rm_q_33.2.1⟩
theorem rm_q_34 : rsN rm_35 = 101 ∧ (rsT rm_35 65).1 = 14 ∧ (rsT (rNew rm_34 100 24) 65).1 = 14 := sA_k rm_k_34 (by decide)
theorem rm_k_35 : rsN rm_35 = 101 ∧ (rsT rm_35 65).1 = 14 := ⟨rm_q_34.1, rm_q_34.2.1⟩
theorem rm_q_35 : rsN rm_36 = 102 ∧ (rsT rm_36 65).1 = 14 ∧ (rsT (rNew rm_35 100 24) 65).1 = 14 := sA_k rm_k_35 (by decide)
theorem rm_k_36 : rsN rm_36 = 102 ∧ (rsT rm_36 65).1 = 14 := ⟨rm_q_35.1, rm_q_35.2.1⟩
theorem rm_q_36 : rsN rm_37 = 103 ∧ (rsT rm_37 65).1 = 14 ∧ (rsT (rNew rm_36 100 20) 65).1 = 14 := sA_k rm_k_36 (by decide)
theorem rm_k_37 : rsN rm_37 = 103 ∧ (rsT rm_37 65).1 = 14 := ⟨rm_q_36.1, rm_q_36.2.1⟩
theorem rm_q_37 : rsN rm_38 = 104 ∧ (rsT rm_38 65).1 = 14 ∧ (rsT (rNew rm_37 100 20) 65).1 = 14 := sA_k rm_k_37 (by decide)
theorem rm_k_38 : rsN rm_38 = 104 ∧ (rsT rm_38 65).1 = 14 := ⟨rm_q_37.1, rm_q_37.2.1⟩
theorem rm_q_38 : rsN rm_39 = 105 ∧ (rsT rm_39 65).1 = 14 ∧ (rsT (rNew rm_38 100 20) 65).1 = 14 := sA_k rm_k_38 (by decide)
theorem rm_k_39 : rsN rm_39 = 105 ∧ (rsT rm_39 65).1 = 14 := ⟨rm_q_38.1, rm_q_38.2.1⟩
theorem rm_q_39 : rsN rm_40 = 106 ∧ (rsT rm_40 65).1 = 14 ∧ (rsT (rNew rm_39 100 20) 65).1 = 14 := sA_k rm_k_39 (by decide)
theorem rm_k_40 : rsN rm_40 = 106 ∧ (rsT rm_40 65).1 = 14 := ⟨rm_q_39.1, rm_q_39.2.1⟩
theorem rm_q_40 : rsN rm_41 = 107 ∧ (rsT rm_41 65).1 = 14 ∧ (rsT (rNew rm_40 100 20) 65).1 = 14 := sA_k rm_k_40 (by decide)
theorem rm_k_41 : rsN rm_41 = 107 ∧ (rsT rm_41 65).1 = 14 := ⟨rm_q_40.1, rm_q_40.2.1⟩
theorem rm_q_41 : rsN rm_42 = 108 ∧ (rsT rm_42 65).1 = 14 ∧ (rsT (rNew rm_41 100 20) 65).1 = 14 := sA_k rm_k_41 (by decide)
theorem rm_k_42 : rsN rm_42 = 108 ∧ (rsT rm_42 65).1 = 14 := ⟨rm_q_41.1, rm_q_41.2.1⟩
theorem rm_q_42 : rsN rm_43 = 109 ∧ (rsT rm_43 65).1 = 14 ∧ (rsT (rNew rm_42 100 20) 65).1 = 14 := sA_k rm_k_42 (by decide)
theorem rm_k_43 : rsN rm_43 = 109 ∧ (rsT rm_43 65).1 = 14 := ⟨rm_q_42.1, rm_q_42.2.1⟩
theorem rm_q_43 : rsN rm_44 = 110 ∧ (rsT rm_44 65).1 = 14 ∧ (rsT (rNew rm_43 102 10000) 65).1 = 14 := sA_k rm_k_43 (by decide)
theorem rm_k_44 : rsN rm_44 = 110 ∧ (rsT rm_44 65).1 = 14 := ⟨rm_q_43.1, rm_q_43.2.1⟩
theorem rm_q_44 : rsN rm_45 = 111 ∧ (rsT rm_45 65).1 = 14 ∧ (rsT (rNew rm_44 102 10000) 65).1 = 14 := sA_k rm_k_44 (by decide)
theorem rm_k_45 : rsN rm_45 = 111 ∧ (rsT rm_45 65).1 = 14 := ⟨rm_q_44.1, rm_q_44.2.1⟩
theorem rm_q_45 : rsN rm_46 = 112 ∧ (rsT rm_46 65).1 = 14 ∧ (rsT (rNew rm_45 103 117) 65).1 = 14 := sA_k rm_k_45 (by decide)
theorem rm_k_46 : rsN rm_46 = 112 ∧ (rsT rm_46 65).1 = 14 := ⟨rm_q_45.1, rm_q_45.2.1⟩
theorem rm_q_46 : rsN rm_47 = 113 ∧ (rsT rm_47 65).1 = 14 ∧ (rsT (rNew rm_46 100 12) 65).1 = 14 := sA_k rm_k_46 (by decide)
theorem rm_k_47 : rsN rm_47 = 113 ∧ (rsT rm_47 65).1 = 14 := ⟨rm_q_46.1, rm_q_46.2.1⟩
theorem rm_q_47 : rsN rm_48 = 114 ∧ (rsT rm_48 65).1 = 14 ∧ (rsT (rNew rm_47 100 12) 65).1 = 14 := sA_k rm_k_47 (by decide)
theorem rm_k_48 : rsN rm_48 = 114 ∧ (rsT rm_48 65).1 = 14 := ⟨rm_q_47.1, rm_q_47.2.1⟩
theorem rm_q_48 : rsN rm_49 = 115 ∧ (rsT rm_49 65).1 = 14 ∧ (rsT (rNew rm_48 100 12) 65).1 = 14 := sA_k rm_k_48 (by decide)
theorem rm_k_49 : rsN rm_49 = 115 ∧ (rsT rm_49 65).1 = 14 := ⟨rm_q_48.1, rm_q_48.2.1⟩
theorem rm_s_0 : (sPut sA 14 1 (eLA 0) (eNewA 100 (eI 6)) : SS Unit) [.ref (x + 65), xD] (hb x z.1 h rm_0) = some (.inl ([.ref (x + 65), xD], hb x z.1 h rm_1)) := p_A (m := 6) rm_q_0.2.2 (by decide)
theorem rm_s_1 : (sPut sA 14 5 (eLA 0) (eNewA 100 (eI 6)) : SS Unit) [.ref (x + 65), xD] (hb x z.1 h rm_1) = some (.inl ([.ref (x + 65), xD], hb x z.1 h rm_2)) := p_A (m := 6) rm_q_1.2.2 (by decide)
theorem rm_s_2 : (sPut sA 14 6 (eLA 0) (eNewA 100 (eI 240)) : SS Unit) [.ref (x + 65), xD] (hb x z.1 h rm_2) = some (.inl ([.ref (x + 65), xD], hb x z.1 h rm_3)) := p_A (m := 240) rm_q_2.2.2 (by decide)
theorem rm_s_3 : (sPut sA 14 7 (eLA 0) (eNewA 100 (eI 40)) : SS Unit) [.ref (x + 65), xD] (hb x z.1 h rm_3) = some (.inl ([.ref (x + 65), xD], hb x z.1 h rm_4)) := p_A (m := 40) rm_q_3.2.2 (by decide)
theorem rm_s_4 : (sPut sA 14 8 (eLA 0) (eNewA 100 (eI 4)) : SS Unit) [.ref (x + 65), xD] (hb x z.1 h rm_4) = some (.inl ([.ref (x + 65), xD], hb x z.1 h rm_5)) := p_A (m := 4) rm_q_4.2.2 (by decide)
theorem rm_s_5 : (sPut sA 14 9 (eLA 0) (eNewA 101 (eI 160)) : SS Unit) [.ref (x + 65), xD] (hb x z.1 h rm_5) = some (.inl ([.ref (x + 65), xD], hb x z.1 h rm_6)) := p_A (m := 160) rm_q_5.2.2 (by decide)
theorem rm_s_6 : (sPut sA 14 14 (eLA 0) (eNewA 100 (eI 24)) : SS Unit) [.ref (x + 65), xD] (hb x z.1 h rm_6) = some (.inl ([.ref (x + 65), xD], hb x z.1 h rm_7)) := p_A (m := 24) rm_q_6.2.2 (by decide)
theorem rm_s_7 : (sPut sA 14 15 (eLA 0) (eNewA 100 (eI 24)) : SS Unit) [.ref (x + 65), xD] (hb x z.1 h rm_7) = some (.inl ([.ref (x + 65), xD], hb x z.1 h rm_8)) := p_A (m := 24) rm_q_7.2.2 (by decide)
theorem rm_s_8 : (sPut sA 14 16 (eLA 0) (eNewA 102 (eI 24)) : SS Unit) [.ref (x + 65), xD] (hb x z.1 h rm_8) = some (.inl ([.ref (x + 65), xD], hb x z.1 h rm_9)) := p_A (m := 24) rm_q_8.2.2 (by decide)
theorem rm_s_9 : (sPut sA 14 17 (eLA 0) (eNewA 100 (eI 24)) : SS Unit) [.ref (x + 65), xD] (hb x z.1 h rm_9) = some (.inl ([.ref (x + 65), xD], hb x z.1 h rm_10)) := p_A (m := 24) rm_q_9.2.2 (by decide)
theorem rm_s_10 : (sPut sA 14 18 (eLA 0) (eNewA 100 (eI 24)) : SS Unit) [.ref (x + 65), xD] (hb x z.1 h rm_10) = some (.inl ([.ref (x + 65), xD], hb x z.1 h rm_11)) := p_A (m := 24) rm_q_10.2.2 (by decide)
theorem rm_s_11 : (sPut sA 14 19 (eLA 0) (eNewA 100 (eI 24)) : SS Unit) [.ref (x + 65), xD] (hb x z.1 h rm_11) = some (.inl ([.ref (x + 65), xD], hb x z.1 h rm_12)) := p_A (m := 24) rm_q_11.2.2 (by decide)
theorem rm_s_12 : (sPut sA 14 20 (eLA 0) (eNewA 100 (eI 24)) : SS Unit) [.ref (x + 65), xD] (hb x z.1 h rm_12) = some (.inl ([.ref (x + 65), xD], hb x z.1 h rm_13)) := p_A (m := 24) rm_q_12.2.2 (by decide)
theorem rm_s_13 : (sPut sA 14 21 (eLA 0) (eNewA 100 (eI 24)) : SS Unit) [.ref (x + 65), xD] (hb x z.1 h rm_13) = some (.inl ([.ref (x + 65), xD], hb x z.1 h rm_14)) := p_A (m := 24) rm_q_13.2.2 (by decide)
theorem rm_s_14 : (sPut sA 14 23 (eLA 0) (eNewA 100 (eI 60)) : SS Unit) [.ref (x + 65), xD] (hb x z.1 h rm_14) = some (.inl ([.ref (x + 65), xD], hb x z.1 h rm_15)) := p_A (m := 60) rm_q_14.2.2 (by decide)
theorem rm_s_15 : (sPut sA 14 24 (eLA 0) (eNewA 100 (eI 60)) : SS Unit) [.ref (x + 65), xD] (hb x z.1 h rm_15) = some (.inl ([.ref (x + 65), xD], hb x z.1 h rm_16)) := p_A (m := 60) rm_q_15.2.2 (by decide)
theorem rm_s_16 : (sPut sA 14 25 (eLA 0) (eNewA 100 (eI 60)) : SS Unit) [.ref (x + 65), xD] (hb x z.1 h rm_16) = some (.inl ([.ref (x + 65), xD], hb x z.1 h rm_17)) := p_A (m := 60) rm_q_16.2.2 (by decide)
theorem rm_s_17 : (sPut sA 14 26 (eLA 0) (eNewA 100 (eI 60)) : SS Unit) [.ref (x + 65), xD] (hb x z.1 h rm_17) = some (.inl ([.ref (x + 65), xD], hb x z.1 h rm_18)) := p_A (m := 60) rm_q_17.2.2 (by decide)
theorem rm_s_18 : (sPut sA 14 28 (eLA 0) (eNewA 100 (eI 16)) : SS Unit) [.ref (x + 65), xD] (hb x z.1 h rm_18) = some (.inl ([.ref (x + 65), xD], hb x z.1 h rm_19)) := p_A (m := 16) rm_q_18.2.2 (by decide)
theorem rm_s_19 : (sPut sA 14 29 (eLA 0) (eNewA 100 (eI 16)) : SS Unit) [.ref (x + 65), xD] (hb x z.1 h rm_19) = some (.inl ([.ref (x + 65), xD], hb x z.1 h rm_20)) := p_A (m := 16) rm_q_19.2.2 (by decide)
theorem rm_s_20 : (sPut sA 14 30 (eLA 0) (eNewA 100 (eI 64)) : SS Unit) [.ref (x + 65), xD] (hb x z.1 h rm_20) = some (.inl ([.ref (x + 65), xD], hb x z.1 h rm_21)) := p_A (m := 64) rm_q_20.2.2 (by decide)
theorem rm_s_21 : (sPut sA 14 31 (eLA 0) (eNewA 100 (eI 4)) : SS Unit) [.ref (x + 65), xD] (hb x z.1 h rm_21) = some (.inl ([.ref (x + 65), xD], hb x z.1 h rm_22)) := p_A (m := 4) rm_q_21.2.2 (by decide)
theorem rm_s_22 : (sPut sA 14 33 (eLA 0) (eNewA 100 (eI 24)) : SS Unit) [.ref (x + 65), xD] (hb x z.1 h rm_22) = some (.inl ([.ref (x + 65), xD], hb x z.1 h rm_23)) := p_A (m := 24) rm_q_22.2.2 (by decide)
theorem rm_s_23 : (sPut sA 14 34 (eLA 0) (eNewA 100 (eI 24)) : SS Unit) [.ref (x + 65), xD] (hb x z.1 h rm_23) = some (.inl ([.ref (x + 65), xD], hb x z.1 h rm_24)) := p_A (m := 24) rm_q_23.2.2 (by decide)
theorem rm_s_24 : (sPut sA 14 35 (eLA 0) (eNewA 100 (eI 24)) : SS Unit) [.ref (x + 65), xD] (hb x z.1 h rm_24) = some (.inl ([.ref (x + 65), xD], hb x z.1 h rm_25)) := p_A (m := 24) rm_q_24.2.2 (by decide)
theorem rm_s_25 : (sPut sA 14 36 (eLA 0) (eNewA 100 (eI 24)) : SS Unit) [.ref (x + 65), xD] (hb x z.1 h rm_25) = some (.inl ([.ref (x + 65), xD], hb x z.1 h rm_26)) := p_A (m := 24) rm_q_25.2.2 (by decide)
theorem rm_s_26 : (sPut sA 14 37 (eLA 0) (eNewA 100 (eI 24)) : SS Unit) [.ref (x + 65), xD] (hb x z.1 h rm_26) = some (.inl ([.ref (x + 65), xD], hb x z.1 h rm_27)) := p_A (m := 24) rm_q_26.2.2 (by decide)
theorem rm_s_27 : (sPut sA 14 38 (eLA 0) (eNewA 100 (eI 24)) : SS Unit) [.ref (x + 65), xD] (hb x z.1 h rm_27) = some (.inl ([.ref (x + 65), xD], hb x z.1 h rm_28)) := p_A (m := 24) rm_q_27.2.2 (by decide)
theorem rm_s_28 : (sPut sA 14 39 (eLA 0) (eNewA 100 (eI 3)) : SS Unit) [.ref (x + 65), xD] (hb x z.1 h rm_28) = some (.inl ([.ref (x + 65), xD], hb x z.1 h rm_29)) := p_A (m := 3) rm_q_28.2.2 (by decide)
theorem rm_s_29 : (sPut sA 14 40 (eLA 0) (eNewA 100 (eI 3)) : SS Unit) [.ref (x + 65), xD] (hb x z.1 h rm_29) = some (.inl ([.ref (x + 65), xD], hb x z.1 h rm_30)) := p_A (m := 3) rm_q_29.2.2 (by decide)
theorem rm_s_30 : (sPut sA 14 42 (eLA 0) (eNewA 100 (eI 40)) : SS Unit) [.ref (x + 65), xD] (hb x z.1 h rm_30) = some (.inl ([.ref (x + 65), xD], hb x z.1 h rm_31)) := p_A (m := 40) rm_q_30.2.2 (by decide)
theorem rm_s_31 : (sPut sA 14 43 (eLA 0) (eNewA 100 (eI 40)) : SS Unit) [.ref (x + 65), xD] (hb x z.1 h rm_31) = some (.inl ([.ref (x + 65), xD], hb x z.1 h rm_32)) := p_A (m := 40) rm_q_31.2.2 (by decide)
theorem rm_s_32 : (sPut sA 14 44 (eLA 0) (eNewA 100 (eI 40)) : SS Unit) [.ref (x + 65), xD] (hb x z.1 h rm_32) = some (.inl ([.ref (x + 65), xD], hb x z.1 h rm_33)) := p_A (m := 40) rm_q_32.2.2 (by decide)
theorem rm_s_33 : (sPut sA 14 45 (eLA 0) (eNewA 100 (eI 3)) : SS Unit) [.ref (x + 65), xD] (hb x z.1 h rm_33) = some (.inl ([.ref (x + 65), xD], hb x z.1 h rm_34)) := p_A (m := 3) rm_q_33.2.2 (by decide)
theorem rm_s_34 : (sPut sA 14 47 (eLA 0) (eNewA 100 (eI 24)) : SS Unit) [.ref (x + 65), xD] (hb x z.1 h rm_34) = some (.inl ([.ref (x + 65), xD], hb x z.1 h rm_35)) := p_A (m := 24) rm_q_34.2.2 (by decide)
theorem rm_s_35 : (sPut sA 14 48 (eLA 0) (eNewA 100 (eI 24)) : SS Unit) [.ref (x + 65), xD] (hb x z.1 h rm_35) = some (.inl ([.ref (x + 65), xD], hb x z.1 h rm_36)) := p_A (m := 24) rm_q_35.2.2 (by decide)
theorem rm_s_36 : (sPut sA 14 50 (eLA 0) (eNewA 100 (eI 20)) : SS Unit) [.ref (x + 65), xD] (hb x z.1 h rm_36) = some (.inl ([.ref (x + 65), xD], hb x z.1 h rm_37)) := p_A (m := 20) rm_q_36.2.2 (by decide)
theorem rm_s_37 : (sPut sA 14 51 (eLA 0) (eNewA 100 (eI 20)) : SS Unit) [.ref (x + 65), xD] (hb x z.1 h rm_37) = some (.inl ([.ref (x + 65), xD], hb x z.1 h rm_38)) := p_A (m := 20) rm_q_37.2.2 (by decide)
theorem rm_s_38 : (sPut sA 14 52 (eLA 0) (eNewA 100 (eI 20)) : SS Unit) [.ref (x + 65), xD] (hb x z.1 h rm_38) = some (.inl ([.ref (x + 65), xD], hb x z.1 h rm_39)) := p_A (m := 20) rm_q_38.2.2 (by decide)
theorem rm_s_39 : (sPut sA 14 53 (eLA 0) (eNewA 100 (eI 20)) : SS Unit) [.ref (x + 65), xD] (hb x z.1 h rm_39) = some (.inl ([.ref (x + 65), xD], hb x z.1 h rm_40)) := p_A (m := 20) rm_q_39.2.2 (by decide)
theorem rm_s_40 : (sPut sA 14 54 (eLA 0) (eNewA 100 (eI 20)) : SS Unit) [.ref (x + 65), xD] (hb x z.1 h rm_40) = some (.inl ([.ref (x + 65), xD], hb x z.1 h rm_41)) := p_A (m := 20) rm_q_40.2.2 (by decide)
theorem rm_s_41 : (sPut sA 14 55 (eLA 0) (eNewA 100 (eI 20)) : SS Unit) [.ref (x + 65), xD] (hb x z.1 h rm_41) = some (.inl ([.ref (x + 65), xD], hb x z.1 h rm_42)) := p_A (m := 20) rm_q_41.2.2 (by decide)
theorem rm_s_42 : (sPut sA 14 56 (eLA 0) (eNewA 100 (eI 20)) : SS Unit) [.ref (x + 65), xD] (hb x z.1 h rm_42) = some (.inl ([.ref (x + 65), xD], hb x z.1 h rm_43)) := p_A (m := 20) rm_q_42.2.2 (by decide)
theorem rm_s_43 : (sPut sA 14 57 (eLA 0) (eNewA 102 (eI 10000)) : SS Unit) [.ref (x + 65), xD] (hb x z.1 h rm_43) = some (.inl ([.ref (x + 65), xD], hb x z.1 h rm_44)) := p_A (m := 10000) rm_q_43.2.2 (by decide)
theorem rm_s_44 : (sPut sA 14 58 (eLA 0) (eNewA 102 (eI 10000)) : SS Unit) [.ref (x + 65), xD] (hb x z.1 h rm_44) = some (.inl ([.ref (x + 65), xD], hb x z.1 h rm_45)) := p_A (m := 10000) rm_q_44.2.2 (by decide)
theorem rm_s_45 : (sPut sA 14 61 (eLA 0) (eNewA 103 (eI 117)) : SS Unit) [.ref (x + 65), xD] (hb x z.1 h rm_45) = some (.inl ([.ref (x + 65), xD], hb x z.1 h rm_46)) := p_A (m := 117) rm_q_45.2.2 (by decide)
theorem rm_s_46 : (sPut sA 14 63 (eLA 0) (eNewA 100 (eI 12)) : SS Unit) [.ref (x + 65), xD] (hb x z.1 h rm_46) = some (.inl ([.ref (x + 65), xD], hb x z.1 h rm_47)) := p_A (m := 12) rm_q_46.2.2 (by decide)
theorem rm_s_47 : (sPut sA 14 65 (eLA 0) (eNewA 100 (eI 12)) : SS Unit) [.ref (x + 65), xD] (hb x z.1 h rm_47) = some (.inl ([.ref (x + 65), xD], hb x z.1 h rm_48)) := p_A (m := 12) rm_q_47.2.2 (by decide)
theorem rm_s_48 : (sPut sA 14 66 (eLA 0) (eNewA 100 (eI 12)) : SS Unit) [.ref (x + 65), xD] (hb x z.1 h rm_48) = some (.inl ([.ref (x + 65), xD], hb x z.1 h rm_49)) := p_A (m := 12) rm_q_48.2.2 (by decide)
theorem rm_s_J : (sPut sJ 14 4 (eLA 0) (eJ 1) : SS Unit) [.ref (x + 65), xD] (hb x z.1 h rm_49) = some (.inl ([.ref (x + 65), xD], hb x z.1 h rm_J)) := p_J rm_k_49.2
set_option maxRecDepth 100000 in
theorem rm_l1 (hN : 10000 < N) : sLoop (fX12_init_1c N z) (fX12_init_1b N z) N [.ref (x + 65), .int 0] (hb x z.1 h rm_J) = some (.inl ([.ref (x + 65), .int (iN 6)], hb x z.1 h rm_a)) := by
  refine p_fl (S := rm_J) (a := 67) (m := 6) (k := 5) (v := -1) (fun i hi => ?_) rfl (by decide) (by decide) hN
  simp -implicitDefEqProofs (disch := first | omega | decide) only [fX12_init_1c, mB_s, lay_n, lay_i, lay_r, lay_0, lay_l, List.length_cons, List.length_nil, List.cons_append, List.nil_append, sB, kS_l, kS_r, sSeq_a, sNil_a, kSetI_p, sSetI_a, kSetJ_p, sSetJ_a, kSetA_p, sSetA_a, kInc_p, sInc_a, kPut2_p, kPut1_p, sPut_a, kPutC2_p, kPutC1_p, sPutC_a, kAst3_p, kAst2_p, kAst1_p, sAst_a, kAstC3_p, kAstC2_p, kAstC1_p, sAstC_a, kAstZ3_p, kAstZ2_p, kAstZ1_p, sAstZ_a, kAstO3_p, kAstO2_p, kAstO1_p, sAstO_a, kAstA3_p, kAstA2_p, kAstA1_p, sAstA_a, kX_p, sX_a, kIf_p, sIf_a, kRet_p, sRet_a, kRetZ_p, sRetZ_a, sRetV_a, kSw_p, sSw_a, kPutZ2_p, kPutZ1_p, sPutZ_a, eI_a, eJ_a, eN_a, kL_p, eLI_a, eLJ_a, eLA_a, kT2_p, kT_p, eT_a, kP2_p, kP_p, eP_a, kU_p, eU_a, kGet_p, eGet_a, kAld2_p, kAld1_p, eAld_a, kLen_p, eLen_a, kEIf_p, eIf_a, kCast_p, eCast_a, aN_a, kC2_p, kC_p, aC_a, kCS_p, eCallS_a, kCV2_p, kCV1_p, eCallV_a, kN2_p, kN1_p, eNew_a, kNA_p, eNewA_a, kSt3_p, kSt2_p, kSt1_p, eSt_a, kSA2_p, kSA1_p, eSetA_a, eZ_a, eMi_a, kCl_p, eCls_a, kAnd_p, cAnd_a, kOr_p, cOr_a, cNot_a, cZ_a, cNul_a, cNN_a, cAeq_a, cAne_a, kObj_p, sObj_a, kSup2_p, kSup1_p, sSup_a, kCp5_p, kCp4_p, kCp3_p, kCp2_p, kCp1_p, sCpI_a, qEq, qNe, qLt, qGe, qGt, qLe, rGt_s, rLt_s, stL, stL2, kill, List.getElem?_cons_zero, List.getElem?_cons_succ, gI_i, gJ_l, gR_r, gR_0, rf_s, rf_n, Option.bind_some, Option.bind_none, mR_r, cat_i, cat_r, cat_0, cat_d, cat_l, ↓reduceIte, reduceCtorEq, Nat.reduceSub, Nat.reduceAdd, Nat.reduceMul, Nat.reduceLT, Nat.reduceLeDiff, Nat.reduceEqDiff, and_true, true_and, and_false, false_and, or_false, false_or, or_true, true_or, not_true_eq_false, not_false_eq_true, decide_true, decide_false, eq_self, Bool.false_eq_true, decide_eq_true_eq, Bool.and_eq_true, Bool.or_eq_true, Bool.not_eq_true', decide_eq_false_iff_not, decide_not, Bool.not_true, Bool.not_false, Bool.and_true, Bool.true_and, Bool.and_false, Bool.false_and, Bool.or_true, Bool.true_or, Bool.or_false, Bool.false_or, Bool.and_self, Bool.or_self, Bool.true_eq_false, Bool.and_eq_false_imp, Bool.or_eq_false_iff, jI, jJ, jA, o_iadd, o_isub, o_imul, o_iand, o_ior, o_ishl, o_ishr, o_ladd, o_lsub, o_lmul, o_i2l, o_l2i, o_i2b, o_ineg, if_bI, bI_z, bI_01, ifs, if_and, if_or, if_10, bI_zn, bI_nz, ifl, ifcons, ifint, iflong, ite_self, if_inc, Bool.decide_eq_true, Bool.decide_and, Bool.decide_or, xA_hh, xT_hh, xN_hh, xS_hh, xI_0, xI_c, xI_m, xI_o, xJ_0, xJ_m, sI_0, sI_c, sI_m, sI_o, sJ_0, sJ_m, sA_hh, u2_s, u2_n, xT_sI, xT_sA, xN_sI, xN_sA, xA_sI, xI_sA, xI_sI, xA_sA, xN_nw, xT_nw, xT_nn, xI_nw, xI_nn, xA_nw, xA_nn, iN_nat, l_nat, l_lt_T, l_lt_F, l_le_T, l_le_F, l_eq_F, iN_lt, iN_le, iN_eq, iN_lt_l, iN_le_l, iN_eq_l, l_lt_iN, l_le_iN, l_eq_iN, iN_eq_n, n_eq_iN, iN_le_n, iN_lt_n, iN_add, iN_mul, iN_add_l, l_add_iN, l_mul_iN, iN_sub, iN_sub_l, sub1_le, le_F, lt_T, lt_F, le_T, eq_F]
set_option maxRecDepth 100000 in
theorem rm_l2 (hN : 10000 < N) : sLoop (fX12_init_2c N z) (fX12_init_2b N z) N [.ref (x + 65), .int 0] (hb x z.1 h rm_a) = some (.inl ([.ref (x + 65), .int (iN 4)], hb x z.1 h rm_b)) := by
  refine p_fl (S := rm_a) (a := 70) (m := 4) (k := 8) (v := -1) (fun i hi => ?_) rfl (by decide) (by decide) hN
  simp -implicitDefEqProofs (disch := first | omega | decide) only [fX12_init_2c, mB_s, lay_n, lay_i, lay_r, lay_0, lay_l, List.length_cons, List.length_nil, List.cons_append, List.nil_append, sB, kS_l, kS_r, sSeq_a, sNil_a, kSetI_p, sSetI_a, kSetJ_p, sSetJ_a, kSetA_p, sSetA_a, kInc_p, sInc_a, kPut2_p, kPut1_p, sPut_a, kPutC2_p, kPutC1_p, sPutC_a, kAst3_p, kAst2_p, kAst1_p, sAst_a, kAstC3_p, kAstC2_p, kAstC1_p, sAstC_a, kAstZ3_p, kAstZ2_p, kAstZ1_p, sAstZ_a, kAstO3_p, kAstO2_p, kAstO1_p, sAstO_a, kAstA3_p, kAstA2_p, kAstA1_p, sAstA_a, kX_p, sX_a, kIf_p, sIf_a, kRet_p, sRet_a, kRetZ_p, sRetZ_a, sRetV_a, kSw_p, sSw_a, kPutZ2_p, kPutZ1_p, sPutZ_a, eI_a, eJ_a, eN_a, kL_p, eLI_a, eLJ_a, eLA_a, kT2_p, kT_p, eT_a, kP2_p, kP_p, eP_a, kU_p, eU_a, kGet_p, eGet_a, kAld2_p, kAld1_p, eAld_a, kLen_p, eLen_a, kEIf_p, eIf_a, kCast_p, eCast_a, aN_a, kC2_p, kC_p, aC_a, kCS_p, eCallS_a, kCV2_p, kCV1_p, eCallV_a, kN2_p, kN1_p, eNew_a, kNA_p, eNewA_a, kSt3_p, kSt2_p, kSt1_p, eSt_a, kSA2_p, kSA1_p, eSetA_a, eZ_a, eMi_a, kCl_p, eCls_a, kAnd_p, cAnd_a, kOr_p, cOr_a, cNot_a, cZ_a, cNul_a, cNN_a, cAeq_a, cAne_a, kObj_p, sObj_a, kSup2_p, kSup1_p, sSup_a, kCp5_p, kCp4_p, kCp3_p, kCp2_p, kCp1_p, sCpI_a, qEq, qNe, qLt, qGe, qGt, qLe, rGt_s, rLt_s, stL, stL2, kill, List.getElem?_cons_zero, List.getElem?_cons_succ, gI_i, gJ_l, gR_r, gR_0, rf_s, rf_n, Option.bind_some, Option.bind_none, mR_r, cat_i, cat_r, cat_0, cat_d, cat_l, ↓reduceIte, reduceCtorEq, Nat.reduceSub, Nat.reduceAdd, Nat.reduceMul, Nat.reduceLT, Nat.reduceLeDiff, Nat.reduceEqDiff, and_true, true_and, and_false, false_and, or_false, false_or, or_true, true_or, not_true_eq_false, not_false_eq_true, decide_true, decide_false, eq_self, Bool.false_eq_true, decide_eq_true_eq, Bool.and_eq_true, Bool.or_eq_true, Bool.not_eq_true', decide_eq_false_iff_not, decide_not, Bool.not_true, Bool.not_false, Bool.and_true, Bool.true_and, Bool.and_false, Bool.false_and, Bool.or_true, Bool.true_or, Bool.or_false, Bool.false_or, Bool.and_self, Bool.or_self, Bool.true_eq_false, Bool.and_eq_false_imp, Bool.or_eq_false_iff, jI, jJ, jA, o_iadd, o_isub, o_imul, o_iand, o_ior, o_ishl, o_ishr, o_ladd, o_lsub, o_lmul, o_i2l, o_l2i, o_i2b, o_ineg, if_bI, bI_z, bI_01, ifs, if_and, if_or, if_10, bI_zn, bI_nz, ifl, ifcons, ifint, iflong, ite_self, if_inc, Bool.decide_eq_true, Bool.decide_and, Bool.decide_or, xA_hh, xT_hh, xN_hh, xS_hh, xI_0, xI_c, xI_m, xI_o, xJ_0, xJ_m, sI_0, sI_c, sI_m, sI_o, sJ_0, sJ_m, sA_hh, u2_s, u2_n, xT_sI, xT_sA, xN_sI, xN_sA, xA_sI, xI_sA, xI_sI, xA_sA, xN_nw, xT_nw, xT_nn, xI_nw, xI_nn, xA_nw, xA_nn, iN_nat, l_nat, l_lt_T, l_lt_F, l_le_T, l_le_F, l_eq_F, iN_lt, iN_le, iN_eq, iN_lt_l, iN_le_l, iN_eq_l, l_lt_iN, l_le_iN, l_eq_iN, iN_eq_n, n_eq_iN, iN_le_n, iN_lt_n, iN_add, iN_mul, iN_add_l, l_add_iN, l_mul_iN, iN_sub, iN_sub_l, sub1_le, le_F, lt_T, lt_F, le_T, eq_F]
set_option maxRecDepth 100000 in
theorem rm_l3 (hN : 10000 < N) : sLoop (fX12_init_3c N z) (fX12_init_3b N z) N [.ref (x + 65), .int 0] (hb x z.1 h rm_b) = some (.inl ([.ref (x + 65), .int (iN 3)], hb x z.1 h rm_E)) := by
  refine p_fl (S := rm_b) (a := 94) (m := 3) (k := 39) (v := 1) (fun i hi => ?_) rfl (by decide) (by decide) hN
  simp -implicitDefEqProofs (disch := first | omega | decide) only [fX12_init_3c, mB_s, lay_n, lay_i, lay_r, lay_0, lay_l, List.length_cons, List.length_nil, List.cons_append, List.nil_append, sB, kS_l, kS_r, sSeq_a, sNil_a, kSetI_p, sSetI_a, kSetJ_p, sSetJ_a, kSetA_p, sSetA_a, kInc_p, sInc_a, kPut2_p, kPut1_p, sPut_a, kPutC2_p, kPutC1_p, sPutC_a, kAst3_p, kAst2_p, kAst1_p, sAst_a, kAstC3_p, kAstC2_p, kAstC1_p, sAstC_a, kAstZ3_p, kAstZ2_p, kAstZ1_p, sAstZ_a, kAstO3_p, kAstO2_p, kAstO1_p, sAstO_a, kAstA3_p, kAstA2_p, kAstA1_p, sAstA_a, kX_p, sX_a, kIf_p, sIf_a, kRet_p, sRet_a, kRetZ_p, sRetZ_a, sRetV_a, kSw_p, sSw_a, kPutZ2_p, kPutZ1_p, sPutZ_a, eI_a, eJ_a, eN_a, kL_p, eLI_a, eLJ_a, eLA_a, kT2_p, kT_p, eT_a, kP2_p, kP_p, eP_a, kU_p, eU_a, kGet_p, eGet_a, kAld2_p, kAld1_p, eAld_a, kLen_p, eLen_a, kEIf_p, eIf_a, kCast_p, eCast_a, aN_a, kC2_p, kC_p, aC_a, kCS_p, eCallS_a, kCV2_p, kCV1_p, eCallV_a, kN2_p, kN1_p, eNew_a, kNA_p, eNewA_a, kSt3_p, kSt2_p, kSt1_p, eSt_a, kSA2_p, kSA1_p, eSetA_a, eZ_a, eMi_a, kCl_p, eCls_a, kAnd_p, cAnd_a, kOr_p, cOr_a, cNot_a, cZ_a, cNul_a, cNN_a, cAeq_a, cAne_a, kObj_p, sObj_a, kSup2_p, kSup1_p, sSup_a, kCp5_p, kCp4_p, kCp3_p, kCp2_p, kCp1_p, sCpI_a, qEq, qNe, qLt, qGe, qGt, qLe, rGt_s, rLt_s, stL, stL2, kill, List.getElem?_cons_zero, List.getElem?_cons_succ, gI_i, gJ_l, gR_r, gR_0, rf_s, rf_n, Option.bind_some, Option.bind_none, mR_r, cat_i, cat_r, cat_0, cat_d, cat_l, ↓reduceIte, reduceCtorEq, Nat.reduceSub, Nat.reduceAdd, Nat.reduceMul, Nat.reduceLT, Nat.reduceLeDiff, Nat.reduceEqDiff, and_true, true_and, and_false, false_and, or_false, false_or, or_true, true_or, not_true_eq_false, not_false_eq_true, decide_true, decide_false, eq_self, Bool.false_eq_true, decide_eq_true_eq, Bool.and_eq_true, Bool.or_eq_true, Bool.not_eq_true', decide_eq_false_iff_not, decide_not, Bool.not_true, Bool.not_false, Bool.and_true, Bool.true_and, Bool.and_false, Bool.false_and, Bool.or_true, Bool.true_or, Bool.or_false, Bool.false_or, Bool.and_self, Bool.or_self, Bool.true_eq_false, Bool.and_eq_false_imp, Bool.or_eq_false_iff, jI, jJ, jA, o_iadd, o_isub, o_imul, o_iand, o_ior, o_ishl, o_ishr, o_ladd, o_lsub, o_lmul, o_i2l, o_l2i, o_i2b, o_ineg, if_bI, bI_z, bI_01, ifs, if_and, if_or, if_10, bI_zn, bI_nz, ifl, ifcons, ifint, iflong, ite_self, if_inc, Bool.decide_eq_true, Bool.decide_and, Bool.decide_or, xA_hh, xT_hh, xN_hh, xS_hh, xI_0, xI_c, xI_m, xI_o, xJ_0, xJ_m, sI_0, sI_c, sI_m, sI_o, sJ_0, sJ_m, sA_hh, u2_s, u2_n, xT_sI, xT_sA, xN_sI, xN_sA, xA_sI, xI_sA, xI_sI, xA_sA, xN_nw, xT_nw, xT_nn, xI_nw, xI_nn, xA_nw, xA_nn, iN_nat, l_nat, l_lt_T, l_lt_F, l_le_T, l_le_F, l_eq_F, iN_lt, iN_le, iN_eq, iN_lt_l, iN_le_l, iN_eq_l, l_lt_iN, l_le_iN, l_eq_iN, iN_eq_n, n_eq_iN, iN_le_n, iN_lt_n, iN_add, iN_mul, iN_add_l, l_add_iN, l_mul_iN, iN_sub, iN_sub_l, sub1_le, le_F, lt_T, lt_F, le_T, eq_F]
theorem m_make (hN : 10000 < N) : fX12_init N z [.ref (x + 65)] (hb x z.1 h rm_0) = some ((), hb x z.1 h rm_E) := by
  have k0 : ∀ S, (sSetI 1 (eI 0) : SS Unit) [.ref (x + 65), xD] (hb x z.1 h S) = some (.inl ([.ref (x + 65), .int 0], hb x z.1 h S)) := fun S => by
    simp -implicitDefEqProofs (disch := first | omega | decide) only [mB_s, lay_n, lay_i, lay_r, lay_0, lay_l, List.length_cons, List.length_nil, List.cons_append, List.nil_append, sB, kS_l, kS_r, sSeq_a, sNil_a, kSetI_p, sSetI_a, kSetJ_p, sSetJ_a, kSetA_p, sSetA_a, kInc_p, sInc_a, kPut2_p, kPut1_p, sPut_a, kPutC2_p, kPutC1_p, sPutC_a, kAst3_p, kAst2_p, kAst1_p, sAst_a, kAstC3_p, kAstC2_p, kAstC1_p, sAstC_a, kAstZ3_p, kAstZ2_p, kAstZ1_p, sAstZ_a, kAstO3_p, kAstO2_p, kAstO1_p, sAstO_a, kAstA3_p, kAstA2_p, kAstA1_p, sAstA_a, kX_p, sX_a, kIf_p, sIf_a, kRet_p, sRet_a, kRetZ_p, sRetZ_a, sRetV_a, kSw_p, sSw_a, kPutZ2_p, kPutZ1_p, sPutZ_a, eI_a, eJ_a, eN_a, kL_p, eLI_a, eLJ_a, eLA_a, kT2_p, kT_p, eT_a, kP2_p, kP_p, eP_a, kU_p, eU_a, kGet_p, eGet_a, kAld2_p, kAld1_p, eAld_a, kLen_p, eLen_a, kEIf_p, eIf_a, kCast_p, eCast_a, aN_a, kC2_p, kC_p, aC_a, kCS_p, eCallS_a, kCV2_p, kCV1_p, eCallV_a, kN2_p, kN1_p, eNew_a, kNA_p, eNewA_a, kSt3_p, kSt2_p, kSt1_p, eSt_a, kSA2_p, kSA1_p, eSetA_a, eZ_a, eMi_a, kCl_p, eCls_a, kAnd_p, cAnd_a, kOr_p, cOr_a, cNot_a, cZ_a, cNul_a, cNN_a, cAeq_a, cAne_a, kObj_p, sObj_a, kSup2_p, kSup1_p, sSup_a, kCp5_p, kCp4_p, kCp3_p, kCp2_p, kCp1_p, sCpI_a, qEq, qNe, qLt, qGe, qGt, qLe, rGt_s, rLt_s, stL, stL2, kill, List.getElem?_cons_zero, List.getElem?_cons_succ, gI_i, gJ_l, gR_r, gR_0, rf_s, rf_n, Option.bind_some, Option.bind_none, mR_r, cat_i, cat_r, cat_0, cat_d, cat_l, ↓reduceIte, reduceCtorEq, Nat.reduceSub, Nat.reduceAdd, Nat.reduceMul, Nat.reduceLT, Nat.reduceLeDiff, Nat.reduceEqDiff, and_true, true_and, and_false, false_and, or_false, false_or, or_true, true_or, not_true_eq_false, not_false_eq_true, decide_true, decide_false, eq_self, Bool.false_eq_true, decide_eq_true_eq, Bool.and_eq_true, Bool.or_eq_true, Bool.not_eq_true', decide_eq_false_iff_not, decide_not, Bool.not_true, Bool.not_false, Bool.and_true, Bool.true_and, Bool.and_false, Bool.false_and, Bool.or_true, Bool.true_or, Bool.or_false, Bool.false_or, Bool.and_self, Bool.or_self, Bool.true_eq_false, Bool.and_eq_false_imp, Bool.or_eq_false_iff, jI, jJ, jA, o_iadd, o_isub, o_imul, o_iand, o_ior, o_ishl, o_ishr, o_ladd, o_lsub, o_lmul, o_i2l, o_l2i, o_i2b, o_ineg, if_bI, bI_z, bI_01, ifs, if_and, if_or, if_10, bI_zn, bI_nz, ifl, ifcons, ifint, iflong, ite_self, if_inc, Bool.decide_eq_true, Bool.decide_and, Bool.decide_or, xA_hh, xT_hh, xN_hh, xS_hh, xI_0, xI_c, xI_m, xI_o, xJ_0, xJ_m, sI_0, sI_c, sI_m, sI_o, sJ_0, sJ_m, sA_hh, u2_s, u2_n, xT_sI, xT_sA, xN_sI, xN_sA, xA_sI, xI_sA, xI_sI, xA_sA, xN_nw, xT_nw, xT_nn, xI_nw, xI_nn, xA_nw, xA_nn, iN_nat, l_nat, l_lt_T, l_lt_F, l_le_T, l_le_F, l_eq_F, iN_lt, iN_le, iN_eq, iN_lt_l, iN_le_l, iN_eq_l, l_lt_iN, l_le_iN, l_eq_iN, iN_eq_n, n_eq_iN, iN_le_n, iN_lt_n, iN_add, iN_mul, iN_add_l, l_add_iN, l_mul_iN, iN_sub, iN_sub_l, sub1_le, le_F, lt_T, lt_F, le_T, eq_F]
  have k1 : ∀ S v, (sSetI 1 (eI 0) : SS Unit) [.ref (x + 65), .int v] (hb x z.1 h S) = some (.inl ([.ref (x + 65), .int 0], hb x z.1 h S)) := fun S v => by
    simp -implicitDefEqProofs (disch := first | omega | decide) only [mB_s, lay_n, lay_i, lay_r, lay_0, lay_l, List.length_cons, List.length_nil, List.cons_append, List.nil_append, sB, kS_l, kS_r, sSeq_a, sNil_a, kSetI_p, sSetI_a, kSetJ_p, sSetJ_a, kSetA_p, sSetA_a, kInc_p, sInc_a, kPut2_p, kPut1_p, sPut_a, kPutC2_p, kPutC1_p, sPutC_a, kAst3_p, kAst2_p, kAst1_p, sAst_a, kAstC3_p, kAstC2_p, kAstC1_p, sAstC_a, kAstZ3_p, kAstZ2_p, kAstZ1_p, sAstZ_a, kAstO3_p, kAstO2_p, kAstO1_p, sAstO_a, kAstA3_p, kAstA2_p, kAstA1_p, sAstA_a, kX_p, sX_a, kIf_p, sIf_a, kRet_p, sRet_a, kRetZ_p, sRetZ_a, sRetV_a, kSw_p, sSw_a, kPutZ2_p, kPutZ1_p, sPutZ_a, eI_a, eJ_a, eN_a, kL_p, eLI_a, eLJ_a, eLA_a, kT2_p, kT_p, eT_a, kP2_p, kP_p, eP_a, kU_p, eU_a, kGet_p, eGet_a, kAld2_p, kAld1_p, eAld_a, kLen_p, eLen_a, kEIf_p, eIf_a, kCast_p, eCast_a, aN_a, kC2_p, kC_p, aC_a, kCS_p, eCallS_a, kCV2_p, kCV1_p, eCallV_a, kN2_p, kN1_p, eNew_a, kNA_p, eNewA_a, kSt3_p, kSt2_p, kSt1_p, eSt_a, kSA2_p, kSA1_p, eSetA_a, eZ_a, eMi_a, kCl_p, eCls_a, kAnd_p, cAnd_a, kOr_p, cOr_a, cNot_a, cZ_a, cNul_a, cNN_a, cAeq_a, cAne_a, kObj_p, sObj_a, kSup2_p, kSup1_p, sSup_a, kCp5_p, kCp4_p, kCp3_p, kCp2_p, kCp1_p, sCpI_a, qEq, qNe, qLt, qGe, qGt, qLe, rGt_s, rLt_s, stL, stL2, kill, List.getElem?_cons_zero, List.getElem?_cons_succ, gI_i, gJ_l, gR_r, gR_0, rf_s, rf_n, Option.bind_some, Option.bind_none, mR_r, cat_i, cat_r, cat_0, cat_d, cat_l, ↓reduceIte, reduceCtorEq, Nat.reduceSub, Nat.reduceAdd, Nat.reduceMul, Nat.reduceLT, Nat.reduceLeDiff, Nat.reduceEqDiff, and_true, true_and, and_false, false_and, or_false, false_or, or_true, true_or, not_true_eq_false, not_false_eq_true, decide_true, decide_false, eq_self, Bool.false_eq_true, decide_eq_true_eq, Bool.and_eq_true, Bool.or_eq_true, Bool.not_eq_true', decide_eq_false_iff_not, decide_not, Bool.not_true, Bool.not_false, Bool.and_true, Bool.true_and, Bool.and_false, Bool.false_and, Bool.or_true, Bool.true_or, Bool.or_false, Bool.false_or, Bool.and_self, Bool.or_self, Bool.true_eq_false, Bool.and_eq_false_imp, Bool.or_eq_false_iff, jI, jJ, jA, o_iadd, o_isub, o_imul, o_iand, o_ior, o_ishl, o_ishr, o_ladd, o_lsub, o_lmul, o_i2l, o_l2i, o_i2b, o_ineg, if_bI, bI_z, bI_01, ifs, if_and, if_or, if_10, bI_zn, bI_nz, ifl, ifcons, ifint, iflong, ite_self, if_inc, Bool.decide_eq_true, Bool.decide_and, Bool.decide_or, xA_hh, xT_hh, xN_hh, xS_hh, xI_0, xI_c, xI_m, xI_o, xJ_0, xJ_m, sI_0, sI_c, sI_m, sI_o, sJ_0, sJ_m, sA_hh, u2_s, u2_n, xT_sI, xT_sA, xN_sI, xN_sA, xA_sI, xI_sA, xI_sI, xA_sA, xN_nw, xT_nw, xT_nn, xI_nw, xI_nn, xA_nw, xA_nn, iN_nat, l_nat, l_lt_T, l_lt_F, l_le_T, l_le_F, l_eq_F, iN_lt, iN_le, iN_eq, iN_lt_l, iN_le_l, iN_eq_l, l_lt_iN, l_le_iN, l_eq_iN, iN_eq_n, n_eq_iN, iN_le_n, iN_lt_n, iN_add, iN_mul, iN_add_l, l_add_iN, l_mul_iN, iN_sub, iN_sub_l, sub1_le, le_F, lt_T, lt_F, le_T, eq_F]
  have e1 : (sSeq (sSetI 1 (eI 0)) (sLoop (fX12_init_1c N z) (fX12_init_1b N z) N) : SS Unit) [.ref (x + 65), xD] (hb x z.1 h rm_J) = some (.inl ([.ref (x + 65), .int (iN 6)], hb x z.1 h rm_a)) := by
    rw [sq_1 (k0 _)]
    exact rm_l1 hN
  have e2 : (sSeq (sSetI 1 (eI 0)) (sLoop (fX12_init_2c N z) (fX12_init_2b N z) N) : SS Unit) [.ref (x + 65), .int (iN 6)] (hb x z.1 h rm_a) = some (.inl ([.ref (x + 65), .int (iN 4)], hb x z.1 h rm_b)) := by
    rw [sq_1 (k1 _ _)]
    exact rm_l2 hN
  have e3 : (sSeq (sSetI 1 (eI 0)) (sLoop (fX12_init_3c N z) (fX12_init_3b N z) N) : SS Unit) [.ref (x + 65), .int (iN 4)] (hb x z.1 h rm_b) = some (.inl ([.ref (x + 65), .int (iN 3)], hb x z.1 h rm_E)) := by
    rw [sq_1 (k1 _ _)]
    exact rm_l3 hN
  simp only [fX12_init, mB_s, lay_n, lay_r, List.cons_append, List.nil_append, List.length_cons, List.length_nil, ↓reduceIte]
  rw [sq_o, sq_1 rm_s_0, sq_1 rm_s_1, sq_1 rm_s_2, sq_1 rm_s_3, sq_1 rm_s_4, sq_1 rm_s_5, sq_1 rm_s_6, sq_1 rm_s_7, sq_1 rm_s_8, sq_1 rm_s_9, sq_1 rm_s_10, sq_1 rm_s_11, sq_1 rm_s_12, sq_1 rm_s_13, sq_1 rm_s_14, sq_1 rm_s_15, sq_1 rm_s_16, sq_1 rm_s_17, sq_1 rm_s_18, sq_1 rm_s_19, sq_1 rm_s_20, sq_1 rm_s_21, sq_1 rm_s_22, sq_1 rm_s_23, sq_1 rm_s_24, sq_1 rm_s_25, sq_1 rm_s_26, sq_1 rm_s_27, sq_1 rm_s_28, sq_1 rm_s_29, sq_1 rm_s_30, sq_1 rm_s_31, sq_1 rm_s_32, sq_1 rm_s_33, sq_1 rm_s_34, sq_1 rm_s_35, sq_1 rm_s_36, sq_1 rm_s_37, sq_1 rm_s_38, sq_1 rm_s_39, sq_1 rm_s_40, sq_1 rm_s_41, sq_1 rm_s_42, sq_1 rm_s_43, sq_1 rm_s_44, sq_1 rm_s_45, sq_1 rm_s_46, sq_1 rm_s_47, sq_1 rm_s_48, sq_1 rm_s_J, sq_1 e1, sq_1 e2, sq_1 e3]
  rfl
end MR
