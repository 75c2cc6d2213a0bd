/-! kept, bound, found, back, lost -/
section KP
variable {x N : Nat} {z : Nat × Nat} {h : XH} {C M : Nat → Nat → Int32} {P Q : Nat → Nat → Int64} {A : Nat → Nat → Nat} {n : Nat → Nat} {c : Nat}
theorem Inv.bk1 (hI : Inv x z A h C M P Q n c) {b : Nat} (hb : b < n 0) {K D B : Int32} {M2 : Nat → Nat → Int32} (hM : ∀ j i, (j ≠ 10 ∧ j ≠ 11 ∧ j ≠ 12 ∧ j ≠ 13) ∨ i ≠ b → M2 j i = M j i) (hK : M2 10 b = K) (hB : M2 11 b = B) (hD : q_own M2 b = D) (hh1 : q_had M2 b = true → q_had M b = true ∧ M2 12 b = M 12 b) (h5 : M2 10 b ≠ 5) (hn : q_had M2 b = false → xA h (A 0 b) 10 = none) (ok : BkM M2 b) : Inv x z A (sI (sI (sI h (A 0 b) 4 K) (A 0 b) 6 D) (A 0 b) 5 B) C M2 P Q n c := by
  have hd := hI.dy
  have eX : ∀ q i k, q ≠ 0 → xI (sI (sI (sI h (A 0 b) 4 K) (A 0 b) 6 D) (A 0 b) 5 B) (A q i) k = xI h (A q i) k := by
    intro q i k hq
    simp only [xI_sI, up2, hd.aa, hq, false_and, if_false]
  have eB : ∀ i k, i ≠ b → xI (sI (sI (sI h (A 0 b) 4 K) (A 0 b) 6 D) (A 0 b) 5 B) (A 0 i) k = xI h (A 0 i) k := by
    intro i k hi
    simp only [xI_sI, up2, hd.aa, hi, and_false, false_and, if_false]
  have eM : ∀ j, (j ≠ 10 ∧ j ≠ 11 ∧ j ≠ 12 ∧ j ≠ 13) → ∀ i, M2 j i = M j i := fun j hj i => hM j i (Or.inl hj)
  have eI : ∀ j i, i ≠ b → M2 j i = M j i := fun j i hi => hM j i (Or.inr hi)
  refine hI.bks rfl rfl (fun q i k h0 _ _ => eX q i k h0) (fun _ _ _ => rfl) (fun j i hj => eM j ?_ i) ?_ ?_ ?_ ?_ ?_ ?_ ?_
  · simp only [List.mem_cons, List.not_mem_nil, or_false, not_or] at hj
    omega
  · intro i hi
    have o := hI.bk i hi
    by_cases q : i = b
    · subst q
      refine ⟨?_, ?_, ?_, ?_, ?_, ?_, ?_, fun w => ?_, fun w => absurd w h5⟩
      · simp only [xI_sI, up2, and_true, true_and, Nat.reduceEqDiff, if_false]; exact o.k0
      · rw [eM 7 (by omega)]; simp only [xI_sI, up2, and_true, true_and, Nat.reduceEqDiff, if_false]; exact o.k1
      · rw [eM 8 (by omega)]; simp only [xI_sI, up2, and_true, true_and, Nat.reduceEqDiff, if_false]; exact o.k2
      · rw [eM 9 (by omega)]; simp only [xI_sI, up2, and_true, true_and, Nat.reduceEqDiff, if_false]; exact o.k3
      · rw [hK]; simp only [xI_sI, up2, and_true, true_and, Nat.reduceEqDiff, if_false, if_true]
      · rw [hB]; simp only [xI_sI, up2, and_true, true_and, Nat.reduceEqDiff, if_false, if_true]
      · rw [hD]; simp only [xI_sI, up2, and_true, true_and, Nat.reduceEqDiff, if_false, if_true]
      · obtain ⟨w1, w2⟩ := hh1 w
        rw [w2]
        simp only [xI_sI, up2, and_true, true_and, Nat.reduceEqDiff, if_false]
        exact o.k7 w1
    · simp only [BkR, q_own, q_had, eB i _ q, eI _ i q] at o ⊢
      exact o
  · intro i hi
    have o := hI.gr i hi
    by_cases q : i = b
    · subst q
      refine ⟨fun w => absurd w h5, ?_, hn⟩
      have := o.d
      simp only [eM 15 (by omega), eM 18 (by omega)]
      exact this
    · simp only [GoR, q_had, eI 10 i q, eI 14 i q, eM 15 (by omega), eM 18 (by omega)] at o ⊢
      exact o
  · intro s hs
    have o := hI.sl s hs
    simp only [SlR, eX 1 _ _ (by decide), eM 23 (by omega), eM 24 (by omega), eM 25 (by omega), eM 26 (by omega), eM 27 (by omega), eM 28 (by omega)] at o ⊢
    exact o
  · intro s hs
    have o := hI.ha s hs
    simp only [HaR, eX 4 _ _ (by decide), eM 15 (by omega), eM 16 (by omega), eM 17 (by omega), eM 18 (by omega)] at o ⊢
    exact o
  · intro i hi
    by_cases q : i = b
    · subst q; exact ok
    · have o := hI.ok.bk i hi
      simp only [BkM, eI _ i q] at o ⊢
      exact o
  · intro i h1 h2
    rw [eI _ i (by omega), eI _ i (by omega)]
    exact hI.ok.new i h1 h2
  · intro s hs
    have o := hI.ok.sl s hs
    simp only [SlM, eM 23 (by omega), eM 24 (by omega), eM 26 (by omega)] at o ⊢
    exact o
/-- what a reader had ends -/
theorem Inv.eh (hI : Inv x z A h C M P Q n c) {b k : Nat} (hb : b < n 0) (hk : k < n 4) (h1 : xA h (A 0 b) 10 = some (A 4 k)) (h2 : M 15 k = iN b) (h4 : ∀ k2, k2 < n 4 → M 15 k2 = iN b → M 18 k2 = -9 → k2 = k) {t : Int32} (ht : t ≠ -9) : Inv x z A (sA (sI h (A 4 k) 3 t) (A 0 b) 10 none) C (up2 M 18 k t) P Q n c := by
  have hd := hI.dy
  have bb0 := hI.cn.b0; have bb1 := hI.cn.b1; have bb2 := hI.cn.b2; have bb3 := hI.cn.b3; have bb4 := hI.cn.b4; have bb5 := hI.cn.b5; have bb6 := hI.cn.b6
  have eX : ∀ q i j, q ≠ 4 → xI (sA (sI h (A 4 k) 3 t) (A 0 b) 10 none) (A q i) j = xI h (A q i) j := by
    intro q i j hq
    simp only [xI_sA, xI_sI, up2, hd.aa, hq, false_and, if_false]
  have eM : ∀ j, j ≠ 18 → ∀ i, up2 M 18 k t j i = M j i := fun j hj i => u2_n _ _ (Or.inl hj)
  have e18 : ∀ i, i ≠ k → up2 M 18 k t 18 i = M 18 i := fun i hi => u2_n _ _ (Or.inr hi)
  have eA : ∀ q i j, q ≠ 0 ∨ i ≠ b ∨ j ≠ 10 → xA (sA (sI h (A 4 k) 3 t) (A 0 b) 10 none) (A q i) j = xA h (A q i) j := by
    intro q i j hq
    simp only [xA_sA, xA_sI, up2, hd.aa]
    rw [if_neg (by omega)]
  refine hI.bks rfl rfl (fun q i j _ _ h4 => eX q i j h4) (fun a j ha => ?_) (fun j i hj => eM j ?_ i) ?_ ?_ ?_ ?_ ?_ ?_ ?_
  · simp only [xA_sA, xA_sI, up2]
    rw [if_neg (fun w => ha b w.1)]
  · simp only [List.mem_cons, List.not_mem_nil, or_false, not_or] at hj
    omega
  · intro i hi
    have o := hI.bk i hi
    simp only [BkR, q_own, q_had, eX 0 _ _ (by decide), eM 7 (by omega), eM 8 (by omega), eM 9 (by omega), eM 10 (by omega), eM 11 (by omega), eM 12 (by omega), eM 13 (by omega)] at o ⊢
    exact o
  · intro i hi
    have o := hI.gr i hi
    by_cases q : i = b
    · subst q
      refine ⟨fun w => ?_, Or.inr ⟨?_, fun k2 hk2 w => ?_⟩, fun _ => ?_⟩
      · obtain ⟨s, s1, s2, s3⟩ := o.g w
        exact ⟨s, s1, s2, by rw [eA 0 i 9 (by omega)]; exact s3⟩
      · simp only [xA_sA, up2, and_self, if_true]
      · by_cases e : k2 = k
        · subst e
          rw [u2_s]
          exact ht
        · rw [e18 k2 e]
          exact fun w2 => e (h4 k2 hk2 w w2)
      · simp only [xA_sA, up2, and_self, if_true]
    · refine ⟨fun w => ?_, ?_, fun w => ?_⟩
      · obtain ⟨s, s1, s2, s3⟩ := o.g w
        exact ⟨s, s1, s2, by rw [eA 0 i 9 (by omega)]; exact s3⟩
      · rw [eA 0 i 10 (by omega)]
        have hne : ∀ k2, M 15 k2 = iN i → k2 ≠ k := by
          intro k2 w e
          subst e
          rw [h2, iN_eq (by omega) (by omega)] at w
          omega
        rcases o.d with ⟨k3, d1, d2, d3, d4, d5⟩ | ⟨d1, d2⟩
        · refine Or.inl ⟨k3, d1, d2, d3, by rw [e18 _ (hne k3 d3)]; exact d4, fun k2 hk2 w w2 => d5 k2 hk2 w (by rw [e18 _ (hne k2 w)] at w2; exact w2)⟩
        · exact Or.inr ⟨d1, fun k2 hk2 w => by rw [e18 _ (hne k2 w)]; exact d2 k2 hk2 w⟩
      · rw [eA 0 i 10 (by omega)]
        exact o.e w
  · intro s hs
    have o := hI.sl s hs
    simp only [SlR, eX 1 _ _ (by decide), eM 23 (by omega), eM 24 (by omega), eM 25 (by omega), eM 26 (by omega), eM 27 (by omega), eM 28 (by omega)] at o ⊢
    refine ⟨o.1, o.2.1, o.2.2.1, o.2.2.2.1, o.2.2.2.2.1, ?_⟩
    obtain ⟨b2, s1, s2, s3⟩ := o.2.2.2.2.2
    exact ⟨b2, s1, s2, by rw [eA 1 s 1 (by omega)]; exact s3⟩
  · intro i hi
    have o := hI.ha i hi
    refine ⟨?_, ?_, ?_, ?_, o.r, o.b⟩
    · simp only [xI_sA, xI_sI, up2, Nat.reduceEqDiff, and_false, if_false]; exact o.k0
    · simp only [xI_sA, xI_sI, up2, Nat.reduceEqDiff, and_false, if_false]; exact o.k1
    · simp only [xI_sA, xI_sI, up2, Nat.reduceEqDiff, and_false, if_false]; exact o.k2
    · by_cases e : i = k
      · subst e
        rw [u2_s]
        simp only [xI_sA, xI_sI, up2, and_self, if_true]
      · rw [e18 i e]
        simp only [xI_sA, xI_sI, up2, hd.aa, e, and_false, false_and, if_false]
        exact o.k3
  · exact hI.ok.bk
  · exact hI.ok.new
  · exact hI.ok.sl
theorem c_endHad (hI : Inv x z A h C M P Q n c) {b : Nat} (hb : b < n 0) (t : Int32) (ht : t ≠ -9) : ∃ h2 M2, fX0_endHad N z [.ref (A 0 b), .int t] (hh x h C M P Q) = some ((), hh x h2 C M P Q) ∧ q_nm M b t (n 4) = M2 ∧ Inv x z A h2 C M2 P Q n c ∧ xN h2 = xN h ∧ xS h2 = xS h ∧ xT h2 = xT h ∧ xA h2 (A 0 b) 10 = none ∧ (∀ j i, j ≠ 18 → M2 j i = M j i) := by
  have hs := hI.sh
  have hd := hI.dy
  rcases (hI.gr b hb).d with ⟨k, k1, k2, k3, k4, k5⟩ | ⟨k1, k2⟩
  · refine ⟨sA (sI h (A 4 k) 3 t) (A 0 b) 10 none, up2 M 18 k t, ?_, nm_1 k1 k3 k4 k5, hI.eh hb k1 k2 k3 k5 ht, rfl, rfl, rfl, ?_, fun j i hj => u2_n _ _ (Or.inl hj)⟩
    · simp -implicitDefEqProofs (disch := first | omega | decide) only [fX0_endHad, mB_s, lay_n, lay_i, lay_r, lay_0, lay_l, List.length_cons, List.length_nil, List.cons_append, List.nil_append, sB, kS_l, kS_r, sSeq_a, sNil_a, kSetI_p, sSetI_a, kSetJ_p, sSetJ_a, kSetA_p, sSetA_a, kInc_p, sInc_a, kPut2_p, kPut1_p, sPut_a, kPutC2_p, kPutC1_p, sPutC_a, kAst3_p, kAst2_p, kAst1_p, sAst_a, kAstC3_p, kAstC2_p, kAstC1_p, sAstC_a, kAstZ3_p, kAstZ2_p, kAstZ1_p, sAstZ_a, kAstO3_p, kAstO2_p, kAstO1_p, sAstO_a, kAstA3_p, kAstA2_p, kAstA1_p, sAstA_a, kX_p, sX_a, kIf_p, sIf_a, kRet_p, sRet_a, kRetZ_p, sRetZ_a, sRetV_a, kSw_p, sSw_a, kPutZ2_p, kPutZ1_p, sPutZ_a, eI_a, eJ_a, eN_a, kL_p, eLI_a, eLJ_a, eLA_a, kT2_p, kT_p, eT_a, kP2_p, kP_p, eP_a, kU_p, eU_a, kGet_p, eGet_a, kAld2_p, kAld1_p, eAld_a, kLen_p, eLen_a, kEIf_p, eIf_a, kCast_p, eCast_a, aN_a, kC2_p, kC_p, aC_a, kCS_p, eCallS_a, kCV2_p, kCV1_p, eCallV_a, kN2_p, kN1_p, eNew_a, kNA_p, eNewA_a, kSt3_p, kSt2_p, kSt1_p, eSt_a, kSA2_p, kSA1_p, eSetA_a, eZ_a, eMi_a, kCl_p, eCls_a, kAnd_p, cAnd_a, kOr_p, cOr_a, cNot_a, cZ_a, cNul_a, cNN_a, cAeq_a, cAne_a, kObj_p, sObj_a, kSup2_p, kSup1_p, sSup_a, kCp5_p, kCp4_p, kCp3_p, kCp2_p, kCp1_p, sCpI_a, qEq, qNe, qLt, qGe, qGt, qLe, rGt_s, rLt_s, stL, stL2, kill, List.getElem?_cons_zero, List.getElem?_cons_succ, gI_i, gJ_l, gR_r, gR_0, rf_s, rf_n, Option.bind_some, Option.bind_none, mR_r, cat_i, cat_r, cat_0, cat_d, cat_l, ↓reduceIte, reduceCtorEq, Nat.reduceSub, Nat.reduceAdd, Nat.reduceMul, Nat.reduceLT, Nat.reduceLeDiff, Nat.reduceEqDiff, and_true, true_and, and_false, false_and, or_false, false_or, or_true, true_or, not_true_eq_false, not_false_eq_true, decide_true, decide_false, eq_self, Bool.false_eq_true, decide_eq_true_eq, Bool.and_eq_true, Bool.or_eq_true, Bool.not_eq_true', decide_eq_false_iff_not, decide_not, Bool.not_true, Bool.not_false, Bool.and_true, Bool.true_and, Bool.and_false, Bool.false_and, Bool.or_true, Bool.true_or, Bool.or_false, Bool.false_or, Bool.and_self, Bool.or_self, Bool.true_eq_false, Bool.and_eq_false_imp, Bool.or_eq_false_iff, jI, jJ, jA, o_iadd, o_isub, o_imul, o_iand, o_ior, o_ishl, o_ishr, o_ladd, o_lsub, o_lmul, o_i2l, o_l2i, o_i2b, o_ineg, if_bI, bI_z, bI_01, ifs, if_and, if_or, if_10, bI_zn, bI_nz, ifl, ifcons, ifint, iflong, ite_self, if_inc, Bool.decide_eq_true, Bool.decide_and, Bool.decide_or, xA_hh, xT_hh, xN_hh, xS_hh, xI_0, xI_c, xI_m, xI_o, xJ_0, xJ_m, sI_0, sI_c, sI_m, sI_o, sJ_0, sJ_m, sA_hh, u2_s, u2_n, xT_sI, xT_sA, xN_sI, xN_sA, xA_sI, xI_sA, xI_sI, xA_sA, xN_nw, xT_nw, xT_nn, xI_nw, xI_nn, xA_nw, xA_nn, iN_nat, l_nat, l_lt_T, l_lt_F, l_le_T, l_le_F, l_eq_F, iN_lt, iN_le, iN_eq, iN_lt_l, iN_le_l, iN_eq_l, l_lt_iN, l_le_iN, l_eq_iN, iN_eq_n, n_eq_iN, iN_le_n, iN_lt_n, iN_add, iN_mul, iN_add_l, l_add_iN, l_mul_iN, iN_sub, iN_sub_l, sub1_le, le_F, lt_T, lt_F, le_T, eq_F, c_sz0 hs hI.cn.c0, c_get0 hs hI.dy hI.cn.c0 hI.cn.b0, tg0 hI.dy, c_sz1 hs hI.cn.c1, c_get1 hs hI.dy hI.cn.c1 hI.cn.b1, tg1 hI.dy, c_sz2 hs hI.cn.c2, c_get2 hs hI.dy hI.cn.c2 hI.cn.b2, tg2 hI.dy, c_sz3 hs hI.cn.c3, c_get3 hs hI.dy hI.cn.c3 hI.cn.b3, tg3 hI.dy, c_sz4 hs hI.cn.c4, c_get4 hs hI.dy hI.cn.c4 hI.cn.b4, tg4 hI.dy, c_sz5 hs hI.cn.c5, c_get5 hs hI.dy hI.cn.c5 hI.cn.b5, tg5 hI.dy, c_sz6 hs hI.cn.c6, c_get6 hs hI.dy hI.cn.c6 hI.cn.b6, tg6 hI.dy, tg7 hI.dy hI.cn.e7, hI.dy.xI, hI.dy.sI, hI.cf.now, hI.cf.la, hI.cf.seen, hI.cf.stw, hI.cf.pc, hI.cf.fr, hI.cf.cm, hI.bkk0, hI.bkk1, hI.bkk2, hI.bkk3, hI.bkk4, hI.bkk5, hI.bkk6, hI.slk0, hI.slk2, hI.slk3, hI.slk4, hI.slk5, hI.ruk0, hI.ruk1, hI.ruk2, hI.lkk0, hI.lkk1, hI.lkk2, hI.hak0, hI.hak1, hI.hak2, hI.hak3, hI.eyk0, hI.eyk1, hI.lnk0, hI.lnk1, hI.lnk2, hI.lnk3, hI.lnk4, hI.lnk5, hI.lnk6, st_0 hs, st_3 hs, st_4 hs, st_5 hs, st_6 hs, st_7 hs, st_8 hs, st_9 hs, st_10 hs, sa_0_2 hs, sa_0_3 hs, sa_0_4 hs, sa_0_5 hs, sa_0_6 hs, sa_0_7 hs, sa_0_8 hs, sa_0_9 hs, sa_0_10 hs, sa_0_11 hs, sa_0_12 hs, sa_0_13 hs, sa_9_0 hs, k2]
    · simp only [xA_sA, up2, and_self, if_true]
  · refine ⟨h, M, ?_, nm_n k2, hI, rfl, rfl, rfl, k1, fun _ _ _ => rfl⟩
    simp -implicitDefEqProofs (disch := first | omega | decide) only [fX0_endHad, mB_s, lay_n, lay_i, lay_r, lay_0, lay_l, List.length_cons, List.length_nil, List.cons_append, List.nil_append, sB, kS_l, kS_r, sSeq_a, sNil_a, kSetI_p, sSetI_a, kSetJ_p, sSetJ_a, kSetA_p, sSetA_a, kInc_p, sInc_a, kPut2_p, kPut1_p, sPut_a, kPutC2_p, kPutC1_p, sPutC_a, kAst3_p, kAst2_p, kAst1_p, sAst_a, kAstC3_p, kAstC2_p, kAstC1_p, sAstC_a, kAstZ3_p, kAstZ2_p, kAstZ1_p, sAstZ_a, kAstO3_p, kAstO2_p, kAstO1_p, sAstO_a, kAstA3_p, kAstA2_p, kAstA1_p, sAstA_a, kX_p, sX_a, kIf_p, sIf_a, kRet_p, sRet_a, kRetZ_p, sRetZ_a, sRetV_a, kSw_p, sSw_a, kPutZ2_p, kPutZ1_p, sPutZ_a, eI_a, eJ_a, eN_a, kL_p, eLI_a, eLJ_a, eLA_a, kT2_p, kT_p, eT_a, kP2_p, kP_p, eP_a, kU_p, eU_a, kGet_p, eGet_a, kAld2_p, kAld1_p, eAld_a, kLen_p, eLen_a, kEIf_p, eIf_a, kCast_p, eCast_a, aN_a, kC2_p, kC_p, aC_a, kCS_p, eCallS_a, kCV2_p, kCV1_p, eCallV_a, kN2_p, kN1_p, eNew_a, kNA_p, eNewA_a, kSt3_p, kSt2_p, kSt1_p, eSt_a, kSA2_p, kSA1_p, eSetA_a, eZ_a, eMi_a, kCl_p, eCls_a, kAnd_p, cAnd_a, kOr_p, cOr_a, cNot_a, cZ_a, cNul_a, cNN_a, cAeq_a, cAne_a, kObj_p, sObj_a, kSup2_p, kSup1_p, sSup_a, kCp5_p, kCp4_p, kCp3_p, kCp2_p, kCp1_p, sCpI_a, qEq, qNe, qLt, qGe, qGt, qLe, rGt_s, rLt_s, stL, stL2, kill, List.getElem?_cons_zero, List.getElem?_cons_succ, gI_i, gJ_l, gR_r, gR_0, rf_s, rf_n, Option.bind_some, Option.bind_none, mR_r, cat_i, cat_r, cat_0, cat_d, cat_l, ↓reduceIte, reduceCtorEq, Nat.reduceSub, Nat.reduceAdd, Nat.reduceMul, Nat.reduceLT, Nat.reduceLeDiff, Nat.reduceEqDiff, and_true, true_and, and_false, false_and, or_false, false_or, or_true, true_or, not_true_eq_false, not_false_eq_true, decide_true, decide_false, eq_self, Bool.false_eq_true, decide_eq_true_eq, Bool.and_eq_true, Bool.or_eq_true, Bool.not_eq_true', decide_eq_false_iff_not, decide_not, Bool.not_true, Bool.not_false, Bool.and_true, Bool.true_and, Bool.and_false, Bool.false_and, Bool.or_true, Bool.true_or, Bool.or_false, Bool.false_or, Bool.and_self, Bool.or_self, Bool.true_eq_false, Bool.and_eq_false_imp, Bool.or_eq_false_iff, jI, jJ, jA, o_iadd, o_isub, o_imul, o_iand, o_ior, o_ishl, o_ishr, o_ladd, o_lsub, o_lmul, o_i2l, o_l2i, o_i2b, o_ineg, if_bI, bI_z, bI_01, ifs, if_and, if_or, if_10, bI_zn, bI_nz, ifl, ifcons, ifint, iflong, ite_self, if_inc, Bool.decide_eq_true, Bool.decide_and, Bool.decide_or, xA_hh, xT_hh, xN_hh, xS_hh, xI_0, xI_c, xI_m, xI_o, xJ_0, xJ_m, sI_0, sI_c, sI_m, sI_o, sJ_0, sJ_m, sA_hh, u2_s, u2_n, xT_sI, xT_sA, xN_sI, xN_sA, xA_sI, xI_sA, xI_sI, xA_sA, xN_nw, xT_nw, xT_nn, xI_nw, xI_nn, xA_nw, xA_nn, iN_nat, l_nat, l_lt_T, l_lt_F, l_le_T, l_le_F, l_eq_F, iN_lt, iN_le, iN_eq, iN_lt_l, iN_le_l, iN_eq_l, l_lt_iN, l_le_iN, l_eq_iN, iN_eq_n, n_eq_iN, iN_le_n, iN_lt_n, iN_add, iN_mul, iN_add_l, l_add_iN, l_mul_iN, iN_sub, iN_sub_l, sub1_le, le_F, lt_T, lt_F, le_T, eq_F, c_sz0 hs hI.cn.c0, c_get0 hs hI.dy hI.cn.c0 hI.cn.b0, tg0 hI.dy, c_sz1 hs hI.cn.c1, c_get1 hs hI.dy hI.cn.c1 hI.cn.b1, tg1 hI.dy, c_sz2 hs hI.cn.c2, c_get2 hs hI.dy hI.cn.c2 hI.cn.b2, tg2 hI.dy, c_sz3 hs hI.cn.c3, c_get3 hs hI.dy hI.cn.c3 hI.cn.b3, tg3 hI.dy, c_sz4 hs hI.cn.c4, c_get4 hs hI.dy hI.cn.c4 hI.cn.b4, tg4 hI.dy, c_sz5 hs hI.cn.c5, c_get5 hs hI.dy hI.cn.c5 hI.cn.b5, tg5 hI.dy, c_sz6 hs hI.cn.c6, c_get6 hs hI.dy hI.cn.c6 hI.cn.b6, tg6 hI.dy, tg7 hI.dy hI.cn.e7, hI.dy.xI, hI.dy.sI, hI.cf.now, hI.cf.la, hI.cf.seen, hI.cf.stw, hI.cf.pc, hI.cf.fr, hI.cf.cm, hI.bkk0, hI.bkk1, hI.bkk2, hI.bkk3, hI.bkk4, hI.bkk5, hI.bkk6, hI.slk0, hI.slk2, hI.slk3, hI.slk4, hI.slk5, hI.ruk0, hI.ruk1, hI.ruk2, hI.lkk0, hI.lkk1, hI.lkk2, hI.hak0, hI.hak1, hI.hak2, hI.hak3, hI.eyk0, hI.eyk1, hI.lnk0, hI.lnk1, hI.lnk2, hI.lnk3, hI.lnk4, hI.lnk5, hI.lnk6, st_0 hs, st_3 hs, st_4 hs, st_5 hs, st_6 hs, st_7 hs, st_8 hs, st_9 hs, st_10 hs, sa_0_2 hs, sa_0_3 hs, sa_0_4 hs, sa_0_5 hs, sa_0_6 hs, sa_0_7 hs, sa_0_8 hs, sa_0_9 hs, sa_0_10 hs, sa_0_11 hs, sa_0_12 hs, sa_0_13 hs, sa_9_0 hs, k1]
end KP
