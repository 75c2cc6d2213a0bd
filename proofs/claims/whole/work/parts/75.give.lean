/-! the class tries the ways -/
section GV
variable {x N : Nat} {z : Nat × Nat} {h : XH} {C M : Nat → Nat → Int32} {P Q : Nat → Nat → Int64}
theorem cs_b {T v d o g : Nat → Nat} {m : Nat} (hm : m ≤ 24) (ho : ∀ k, k < m → o k < m) (hg : ∀ i, g i < 3) (bT : ∀ l, l < 3 → T l ≤ 99999) (bv : ∀ l, l < 3 → v l ≤ 9) (bd : ∀ k, k < m → d k ≤ 3) : ∀ k, k ≤ m → (∀ l, l < 3 → (cs T v d o g k).1 l ≤ 99999 + 58 * k) ∧ (cs T v d o g k).2 ≤ 102000 * k
  | 0, _ => ⟨bT, Nat.le_refl _⟩
  | k + 1, hk => by
    obtain ⟨h1, h2⟩ := cs_b hm ho hg bT bv bd k (by omega)
    rw [cs_s]
    refine ⟨fun l hl => ?_, ?_⟩
    · show (if l = g (o k) then fe (cs T v d o g k).1 v (d (o k)) l else (cs T v d o g k).1 l) ≤ _
      have a1 := h1 l hl
      have a2 := tk_le (bd _ (ho k (by omega))) (bv l hl)
      unfold fe
      split <;> omega
    · show (cs T v d o g k).2 + fe (cs T v d o g k).1 v (d (o k)) (g (o k)) ≤ _
      have a1 := h1 _ (hg (o k))
      have a2 := tk_le (bd _ (ho k (by omega))) (bv _ (hg (o k)))
      unfold fe
      omega
def Gv (v d o : Nat → Nat) (m : Nat) (C : Nat → Nat → Int32) : Prop := C 13 3 = iN m ∧ (∀ l, l < 3 → C 14 l = iN (v l)) ∧ (∀ i, i < m → C 17 i = iN (d i)) ∧ ∀ k, k < m → C 18 k = iN (o k)
theorem Gv.cg {v d o : Nat → Nat} {m : Nat} {D : Nat → Nat → Int32} (g : Gv v d o m C) (hD : ∀ j l, j ≠ 16 → j ≠ 20 → j ≠ 19 → (j ≠ 13 ∨ l ≠ 4) → D j l = C j l) : Gv v d o m D :=
  ⟨(hD _ _ (by omega) (by omega) (by omega) (by omega)).trans g.1, fun l hl => (hD _ _ (by omega) (by omega) (by omega) (by omega)).trans (g.2.1 l hl), fun l hl => (hD _ _ (by omega) (by omega) (by omega) (by omega)).trans (g.2.2.1 l hl), fun l hl => (hD _ _ (by omega) (by omega) (by omega) (by omega)).trans (g.2.2.2 l hl)⟩
theorem Bs.cg {T v d o : Nat → Nat} {m : Nat} {D : Nat → Nat → Int32} {B : Option (Nat → Nat)} (g : Bs T v d o m C B) (h4 : D 13 4 = C 13 4) (h16 : ∀ l, D 16 l = C 16 l) : Bs T v d o m D B := by
  cases B with
  | none => exact h4.trans g
  | some b => exact ⟨g.1, fun i hi => (h16 i).trans (g.2.1 i hi), h4.trans g.2.2⟩
theorem gv_s (F : Nat) : fX7_give N z (F + 1) = fX7_giveB N z (fX7_give N z F) := rfl
theorem c_gv (hs : Shp x h) {T v d o : Nat → Nat} {m : Nat} (hm : m ≤ 6) (ho : ∀ k, k < m → o k < m) (hS : Sd d o m) (bT : ∀ l, l < 3 → T l ≤ 99999) (bv : ∀ l, l < 3 → v l ≤ 9) (bd : ∀ k, k < m → d k ≤ 3) (hN : 10000 < N) : ∀ r k, k + r = m → ∀ F, r < F → ∀ (C : Nat → Nat → Int32) (g : Nat → Nat) (B : Option (Nat → Nat)), Gv v d o m C → (∀ i, g i < 3) → (∀ j, j < k → C 20 (o j) = iN (g (o j))) → (∀ l, l < 3 → C 19 l = iN ((cs T v d o g k).1 l)) → Bs T v d o m C B → ∃ D B', fX7_give N z F [.ref (x + 13), .int (iN k), .int (iN (cs T v d o g k).2)] (hh x h C M P Q) = some ((), hh x h D M P Q) ∧ (∀ j l, j ≠ 16 → j ≠ 20 → j ≠ 19 → (j ≠ 13 ∨ l ≠ 4) → D j l = C j l) ∧ (∀ l, l < 3 → D 19 l = C 19 l) ∧ (∀ j, j < k → D 20 (o j) = C 20 (o j)) ∧ Bs T v d o m D B' ∧ Bl T v d o m B' B ∧ ∀ g', (∀ i, g' i < 3) → (∀ j, j < k → g' (o j) = g (o j)) → Bd T v d o m B' g' := by
  intro r
  induction r with
  | zero =>
    intro k hk F hF C g B hG hg e20 e19 hB
    have : k = m := by omega
    subst this
    obtain ⟨F, rfl⟩ : ∃ q, F = q + 1 := ⟨F - 1, by omega⟩
    have bS : ∀ b : Nat → Nat, (∀ i, b i < 3) → (cs T v d o b k).2 ≤ 102000 * k := fun b hb => (cs_b (by omega) ho hb bT bv bd k (Nat.le_refl _)).2
    have b1 := bS g hg
    have e3 := hG.1
    by_cases w : ∃ b, B = some b ∧ (cs T v d o b k).2 < (cs T v d o g k).2
    · obtain ⟨b, rfl, w⟩ := w
      have b2 := bS b hB.1
      have e4 : C 13 4 = iN (cs T v d o b k).2 := hB.2.2
      refine ⟨C, some b, ?_, fun _ _ _ _ _ _ => rfl, fun _ _ => rfl, fun _ _ => rfl, hB, Bl_r T v d o _ _, fun g' h1 h2 => ⟨b, rfl, Or.inl ?_⟩⟩
      · rw [gv_s]
        simp -implicitDefEqProofs (disch := first | omega | decide) only [fX7_giveB, mB_s, lay_n, lay_i, lay_r, lay_0, lay_l, List.length_cons, List.length_nil, List.cons_append, List.nil_append, sB, kS_l, kS_r, sSeq_a, sNil_a, kSetI_p, sSetI_a, kSetJ_p, sSetJ_a, kSetA_p, sSetA_a, kInc_p, sInc_a, kPut2_p, kPut1_p, sPut_a, kPutC2_p, kPutC1_p, sPutC_a, kAst3_p, kAst2_p, kAst1_p, sAst_a, kAstC3_p, kAstC2_p, kAstC1_p, sAstC_a, kAstZ3_p, kAstZ2_p, kAstZ1_p, sAstZ_a, kAstO3_p, kAstO2_p, kAstO1_p, sAstO_a, kAstA3_p, kAstA2_p, kAstA1_p, sAstA_a, kX_p, sX_a, kIf_p, sIf_a, kRet_p, sRet_a, kRetZ_p, sRetZ_a, sRetV_a, kSw_p, sSw_a, kPutZ2_p, kPutZ1_p, sPutZ_a, eI_a, eJ_a, eN_a, kL_p, eLI_a, eLJ_a, eLA_a, kT2_p, kT_p, eT_a, kP2_p, kP_p, eP_a, kU_p, eU_a, kGet_p, eGet_a, kAld2_p, kAld1_p, eAld_a, kLen_p, eLen_a, kEIf_p, eIf_a, kCast_p, eCast_a, aN_a, kC2_p, kC_p, aC_a, kCS_p, eCallS_a, kCV2_p, kCV1_p, eCallV_a, kN2_p, kN1_p, eNew_a, kNA_p, eNewA_a, kSt3_p, kSt2_p, kSt1_p, eSt_a, kSA2_p, kSA1_p, eSetA_a, eZ_a, eMi_a, kCl_p, eCls_a, kAnd_p, cAnd_a, kOr_p, cOr_a, cNot_a, cZ_a, cNul_a, cNN_a, cAeq_a, cAne_a, kObj_p, sObj_a, kSup2_p, kSup1_p, sSup_a, kCp5_p, kCp4_p, kCp3_p, kCp2_p, kCp1_p, sCpI_a, qEq, qNe, qLt, qGe, qGt, qLe, rGt_s, rLt_s, stL, stL2, kill, List.getElem?_cons_zero, List.getElem?_cons_succ, gI_i, gJ_l, gR_r, gR_0, rf_s, rf_n, Option.bind_some, Option.bind_none, mR_r, cat_i, cat_r, cat_0, cat_d, cat_l, ↓reduceIte, reduceCtorEq, Nat.reduceSub, Nat.reduceAdd, Nat.reduceMul, Nat.reduceLT, Nat.reduceLeDiff, Nat.reduceEqDiff, and_true, true_and, and_false, false_and, or_false, false_or, or_true, true_or, not_true_eq_false, not_false_eq_true, decide_true, decide_false, eq_self, Bool.false_eq_true, decide_eq_true_eq, Bool.and_eq_true, Bool.or_eq_true, Bool.not_eq_true', decide_eq_false_iff_not, decide_not, Bool.not_true, Bool.not_false, Bool.and_true, Bool.true_and, Bool.and_false, Bool.false_and, Bool.or_true, Bool.true_or, Bool.or_false, Bool.false_or, Bool.and_self, Bool.or_self, Bool.true_eq_false, Bool.and_eq_false_imp, Bool.or_eq_false_iff, jI, jJ, jA, o_iadd, o_isub, o_imul, o_iand, o_ior, o_ishl, o_ishr, o_ladd, o_lsub, o_lmul, o_i2l, o_l2i, o_i2b, o_ineg, if_bI, bI_z, bI_01, ifs, if_and, if_or, if_10, bI_zn, bI_nz, ifl, ifcons, ifint, iflong, ite_self, if_inc, Bool.decide_eq_true, Bool.decide_and, Bool.decide_or, xA_hh, xT_hh, xN_hh, xS_hh, xI_0, xI_c, xI_m, xI_o, xJ_0, xJ_m, sI_0, sI_c, sI_m, sI_o, sJ_0, sJ_m, sA_hh, u2_s, u2_n, xT_sI, xT_sA, xN_sI, xN_sA, xA_sI, xI_sA, xI_sI, xA_sA, xN_nw, xT_nw, xT_nn, xI_nw, xI_nn, xA_nw, xA_nn, iN_nat, l_nat, l_lt_T, l_lt_F, l_le_T, l_le_F, l_eq_F, iN_lt, iN_le, iN_eq, iN_lt_l, iN_le_l, iN_eq_l, l_lt_iN, l_le_iN, l_eq_iN, iN_eq_n, n_eq_iN, iN_le_n, iN_lt_n, iN_add, iN_mul, iN_add_l, l_add_iN, l_mul_iN, iN_sub, iN_sub_l, sub1_le, le_F, lt_T, lt_F, le_T, eq_F, sa_13_6 hs, st_13 hs, st_18 hs, e4, st_13 hs]
      · show (cs T v d o b k).2 < (cs T v d o g' k).2
        rw [cs_cg h2]
        exact w
    · have hle : ∀ b, B = some b → sm T v d o k g ≤ sm T v d o k b := by
        intro b e
        refine Classical.byContradiction fun hn => w ⟨b, e, ?_⟩
        unfold sm at hn
        omega
      have nw : ¬ (iN (cs T v d o g k).2 > C 13 4) := by
        cases B with
        | none =>
          have e4 : C 13 4 = iN 1000000 := hB
          rw [e4, gt_iff_lt, iN_lt (by omega) (by omega)]
          omega
        | some b =>
          have e4 : C 13 4 = iN (cs T v d o b k).2 := hB.2.2
          have b2 := bS b hB.1
          have := hle b rfl
          unfold sm at this
          rw [e4, gt_iff_lt, iN_lt (by omega) (by omega)]
          omega
      have all : ∀ i, i < k → ∃ j, j < k ∧ o j = i := fun i hi => o_sur ho hS.inj hi
      have hB' : Bs T v d o k C B := hB
      have hSS : ∀ b, B = some b → sm T v d o k b < 1000000 := by
        intro b e
        subst e
        have := bS b hB.1
        unfold sm
        omega
      obtain ⟨D, B', r1, r2, r3, r4, r5⟩ := c_stB (N := N) (z := z) (M := M) (P := P) (Q := Q) hs (T := T) (v := v) (d := d) (o := o) (g := g) (m := k) (B := B) (by omega) e3 (fun i hi => by
        obtain ⟨j, hj, e⟩ := all i hi
        subst e
        exact e20 j hj) hg (by unfold sm; omega) hB' hle hSS hN
      refine ⟨D, B', ?_, fun j l h1 _ _ h2 => r2 j l h1 h2, fun l _ => r2 _ _ (by omega) (by omega), fun j _ => r2 _ _ (by omega) (by omega), r3, r4, fun g' h1 h2 => ?_⟩
      · unfold sm at r1
        rw [gv_s]
        simp -implicitDefEqProofs (disch := first | omega | decide) only [fX7_giveB, mB_s, lay_n, lay_i, lay_r, lay_0, lay_l, List.length_cons, List.length_nil, List.cons_append, List.nil_append, sB, kS_l, kS_r, sSeq_a, sNil_a, kSetI_p, sSetI_a, kSetJ_p, sSetJ_a, kSetA_p, sSetA_a, kInc_p, sInc_a, kPut2_p, kPut1_p, sPut_a, kPutC2_p, kPutC1_p, sPutC_a, kAst3_p, kAst2_p, kAst1_p, sAst_a, kAstC3_p, kAstC2_p, kAstC1_p, sAstC_a, kAstZ3_p, kAstZ2_p, kAstZ1_p, sAstZ_a, kAstO3_p, kAstO2_p, kAstO1_p, sAstO_a, kAstA3_p, kAstA2_p, kAstA1_p, sAstA_a, kX_p, sX_a, kIf_p, sIf_a, kRet_p, sRet_a, kRetZ_p, sRetZ_a, sRetV_a, kSw_p, sSw_a, kPutZ2_p, kPutZ1_p, sPutZ_a, eI_a, eJ_a, eN_a, kL_p, eLI_a, eLJ_a, eLA_a, kT2_p, kT_p, eT_a, kP2_p, kP_p, eP_a, kU_p, eU_a, kGet_p, eGet_a, kAld2_p, kAld1_p, eAld_a, kLen_p, eLen_a, kEIf_p, eIf_a, kCast_p, eCast_a, aN_a, kC2_p, kC_p, aC_a, kCS_p, eCallS_a, kCV2_p, kCV1_p, eCallV_a, kN2_p, kN1_p, eNew_a, kNA_p, eNewA_a, kSt3_p, kSt2_p, kSt1_p, eSt_a, kSA2_p, kSA1_p, eSetA_a, eZ_a, eMi_a, kCl_p, eCls_a, kAnd_p, cAnd_a, kOr_p, cOr_a, cNot_a, cZ_a, cNul_a, cNN_a, cAeq_a, cAne_a, kObj_p, sObj_a, kSup2_p, kSup1_p, sSup_a, kCp5_p, kCp4_p, kCp3_p, kCp2_p, kCp1_p, sCpI_a, qEq, qNe, qLt, qGe, qGt, qLe, rGt_s, rLt_s, stL, stL2, kill, List.getElem?_cons_zero, List.getElem?_cons_succ, gI_i, gJ_l, gR_r, gR_0, rf_s, rf_n, Option.bind_some, Option.bind_none, mR_r, cat_i, cat_r, cat_0, cat_d, cat_l, ↓reduceIte, reduceCtorEq, Nat.reduceSub, Nat.reduceAdd, Nat.reduceMul, Nat.reduceLT, Nat.reduceLeDiff, Nat.reduceEqDiff, and_true, true_and, and_false, false_and, or_false, false_or, or_true, true_or, not_true_eq_false, not_false_eq_true, decide_true, decide_false, eq_self, Bool.false_eq_true, decide_eq_true_eq, Bool.and_eq_true, Bool.or_eq_true, Bool.not_eq_true', decide_eq_false_iff_not, decide_not, Bool.not_true, Bool.not_false, Bool.and_true, Bool.true_and, Bool.and_false, Bool.false_and, Bool.or_true, Bool.true_or, Bool.or_false, Bool.false_or, Bool.and_self, Bool.or_self, Bool.true_eq_false, Bool.and_eq_false_imp, Bool.or_eq_false_iff, jI, jJ, jA, o_iadd, o_isub, o_imul, o_iand, o_ior, o_ishl, o_ishr, o_ladd, o_lsub, o_lmul, o_i2l, o_l2i, o_i2b, o_ineg, if_bI, bI_z, bI_01, ifs, if_and, if_or, if_10, bI_zn, bI_nz, ifl, ifcons, ifint, iflong, ite_self, if_inc, Bool.decide_eq_true, Bool.decide_and, Bool.decide_or, xA_hh, xT_hh, xN_hh, xS_hh, xI_0, xI_c, xI_m, xI_o, xJ_0, xJ_m, sI_0, sI_c, sI_m, sI_o, sJ_0, sJ_m, sA_hh, u2_s, u2_n, xT_sI, xT_sA, xN_sI, xN_sA, xA_sI, xI_sA, xI_sI, xA_sA, xN_nw, xT_nw, xT_nn, xI_nw, xI_nn, xA_nw, xA_nn, iN_nat, l_nat, l_lt_T, l_lt_F, l_le_T, l_le_F, l_eq_F, iN_lt, iN_le, iN_eq, iN_lt_l, iN_le_l, iN_eq_l, l_lt_iN, l_le_iN, l_eq_iN, iN_eq_n, n_eq_iN, iN_le_n, iN_lt_n, iN_add, iN_mul, iN_add_l, l_add_iN, l_mul_iN, iN_sub, iN_sub_l, sub1_le, le_F, lt_T, lt_F, le_T, eq_F, sa_13_6 hs, st_13 hs, st_18 hs, nw, e3, r1, st_13 hs]
      · obtain ⟨b, e, w2⟩ := r5
        refine ⟨b, e, ?_⟩
        unfold wl sm at *
        have q1 : nu g' k = nu g k := nu_cg (fun i hi => by
          obtain ⟨j, hj, e⟩ := all i hi
          subst e
          exact h2 j hj)
        rw [cs_cg h2, q1]
        exact w2
  | succ r ih =>
    intro k hk F hF C g B hG hg e20 e19 hB
    obtain ⟨F, rfl⟩ : ∃ q, F = q + 1 := ⟨F - 1, by omega⟩
    have bb := fun b (hb : ∀ i, b i < 3) => cs_b (T := T) (v := v) (d := d) (o := o) (g := b) (by omega) ho hb bT bv bd
    have b1 := (bb g hg k (by omega)).2
    have e3 := hG.1
    by_cases w : ∃ b, B = some b ∧ sm T v d o m b < (cs T v d o g k).2
    · obtain ⟨b, rfl, w⟩ := w
      have b2 := (bb b hB.1 m (Nat.le_refl _)).2
      have e4 : C 13 4 = iN (cs T v d o b m).2 := hB.2.2
      unfold sm at w
      refine ⟨C, some b, ?_, fun _ _ _ _ _ _ => rfl, fun _ _ => rfl, fun _ _ => rfl, hB, Bl_r T v d o _ _, fun g' h1 h2 => ⟨b, rfl, Or.inl ?_⟩⟩
      · rw [gv_s]
        simp -implicitDefEqProofs (disch := first | omega | decide) only [fX7_giveB, mB_s, lay_n, lay_i, lay_r, lay_0, lay_l, List.length_cons, List.length_nil, List.cons_append, List.nil_append, sB, kS_l, kS_r, sSeq_a, sNil_a, kSetI_p, sSetI_a, kSetJ_p, sSetJ_a, kSetA_p, sSetA_a, kInc_p, sInc_a, kPut2_p, kPut1_p, sPut_a, kPutC2_p, kPutC1_p, sPutC_a, kAst3_p, kAst2_p, kAst1_p, sAst_a, kAstC3_p, kAstC2_p, kAstC1_p, sAstC_a, kAstZ3_p, kAstZ2_p, kAstZ1_p, sAstZ_a, kAstO3_p, kAstO2_p, kAstO1_p, sAstO_a, kAstA3_p, kAstA2_p, kAstA1_p, sAstA_a, kX_p, sX_a, kIf_p, sIf_a, kRet_p, sRet_a, kRetZ_p, sRetZ_a, sRetV_a, kSw_p, sSw_a, kPutZ2_p, kPutZ1_p, sPutZ_a, eI_a, eJ_a, eN_a, kL_p, eLI_a, eLJ_a, eLA_a, kT2_p, kT_p, eT_a, kP2_p, kP_p, eP_a, kU_p, eU_a, kGet_p, eGet_a, kAld2_p, kAld1_p, eAld_a, kLen_p, eLen_a, kEIf_p, eIf_a, kCast_p, eCast_a, aN_a, kC2_p, kC_p, aC_a, kCS_p, eCallS_a, kCV2_p, kCV1_p, eCallV_a, kN2_p, kN1_p, eNew_a, kNA_p, eNewA_a, kSt3_p, kSt2_p, kSt1_p, eSt_a, kSA2_p, kSA1_p, eSetA_a, eZ_a, eMi_a, kCl_p, eCls_a, kAnd_p, cAnd_a, kOr_p, cOr_a, cNot_a, cZ_a, cNul_a, cNN_a, cAeq_a, cAne_a, kObj_p, sObj_a, kSup2_p, kSup1_p, sSup_a, kCp5_p, kCp4_p, kCp3_p, kCp2_p, kCp1_p, sCpI_a, qEq, qNe, qLt, qGe, qGt, qLe, rGt_s, rLt_s, stL, stL2, kill, List.getElem?_cons_zero, List.getElem?_cons_succ, gI_i, gJ_l, gR_r, gR_0, rf_s, rf_n, Option.bind_some, Option.bind_none, mR_r, cat_i, cat_r, cat_0, cat_d, cat_l, ↓reduceIte, reduceCtorEq, Nat.reduceSub, Nat.reduceAdd, Nat.reduceMul, Nat.reduceLT, Nat.reduceLeDiff, Nat.reduceEqDiff, and_true, true_and, and_false, false_and, or_false, false_or, or_true, true_or, not_true_eq_false, not_false_eq_true, decide_true, decide_false, eq_self, Bool.false_eq_true, decide_eq_true_eq, Bool.and_eq_true, Bool.or_eq_true, Bool.not_eq_true', decide_eq_false_iff_not, decide_not, Bool.not_true, Bool.not_false, Bool.and_true, Bool.true_and, Bool.and_false, Bool.false_and, Bool.or_true, Bool.true_or, Bool.or_false, Bool.false_or, Bool.and_self, Bool.or_self, Bool.true_eq_false, Bool.and_eq_false_imp, Bool.or_eq_false_iff, jI, jJ, jA, o_iadd, o_isub, o_imul, o_iand, o_ior, o_ishl, o_ishr, o_ladd, o_lsub, o_lmul, o_i2l, o_l2i, o_i2b, o_ineg, if_bI, bI_z, bI_01, ifs, if_and, if_or, if_10, bI_zn, bI_nz, ifl, ifcons, ifint, iflong, ite_self, if_inc, Bool.decide_eq_true, Bool.decide_and, Bool.decide_or, xA_hh, xT_hh, xN_hh, xS_hh, xI_0, xI_c, xI_m, xI_o, xJ_0, xJ_m, sI_0, sI_c, sI_m, sI_o, sJ_0, sJ_m, sA_hh, u2_s, u2_n, xT_sI, xT_sA, xN_sI, xN_sA, xA_sI, xI_sA, xI_sI, xA_sA, xN_nw, xT_nw, xT_nn, xI_nw, xI_nn, xA_nw, xA_nn, iN_nat, l_nat, l_lt_T, l_lt_F, l_le_T, l_le_F, l_eq_F, iN_lt, iN_le, iN_eq, iN_lt_l, iN_le_l, iN_eq_l, l_lt_iN, l_le_iN, l_eq_iN, iN_eq_n, n_eq_iN, iN_le_n, iN_lt_n, iN_add, iN_mul, iN_add_l, l_add_iN, l_mul_iN, iN_sub, iN_sub_l, sub1_le, le_F, lt_T, lt_F, le_T, eq_F, sa_13_6 hs, st_13 hs, st_18 hs, e4, st_13 hs]
      · show (cs T v d o b m).2 < (cs T v d o g' m).2
        have q1 := cs_mo T v d o g' (k := k) (m := m) (by omega)
        rw [cs_cg h2] at q1
        omega
    · have nw : ¬ (iN (cs T v d o g k).2 > C 13 4) := by
        cases B with
        | none =>
          have e4 : C 13 4 = iN 1000000 := hB
          rw [e4, gt_iff_lt, iN_lt (by omega) (by omega)]
          omega
        | some b =>
          have e4 : C 13 4 = iN (cs T v d o b m).2 := hB.2.2
          have b2 := (bb b hB.1 m (Nat.le_refl _)).2
          have w2 : ¬ (cs T v d o b m).2 < (cs T v d o g k).2 := fun q => w ⟨b, rfl, q⟩
          rw [e4, gt_iff_lt, iN_lt (by omega) (by omega)]
          exact w2
      have hok := ho k (by omega)
      have hl := loop_inv (c := fX7_give_1c N z (fX7_give N z F)) (b := fX7_give_1b N z (fX7_give N z F)) (fun f L H => ∃ D B' a, L = [.ref (x + 13), .int (iN k), .int (iN (cs T v d o g k).2), .int (iN (o k)), .int (iN f), a] ∧ H = hh x h D M P Q ∧ (∀ j l, j ≠ 16 → j ≠ 20 → j ≠ 19 → (j ≠ 13 ∨ l ≠ 4) → D j l = C j l) ∧ (∀ l, l < 3 → D 19 l = C 19 l) ∧ (∀ j, j < k → D 20 (o j) = C 20 (o j)) ∧ Bs T v d o m D B' ∧ Bl T v d o m B' B ∧ ∀ g', (∀ i, g' i < 3) → (∀ j, j < k → g' (o j) = g (o j)) → g' (o k) < f → Bd T v d o m B' g') 3 ?_ ?_ (N := N) (L := [.ref (x + 13), .int (iN k), .int (iN (cs T v d o g k).2), .int (iN (o k)), .int 0, xD]) (h := hh x h C M P Q) (by omega) ⟨C, B, xD, rfl, rfl, fun _ _ _ _ _ _ => rfl, fun _ _ => rfl, fun _ _ => rfl, hB, Bl_r T v d o _ _, fun g' _ _ h => absurd h (by omega)⟩
      · obtain ⟨L, H, l1, D, B', a, l2, l3, l4, l5, l6, l7, l8, l9⟩ := hl
        subst l2 l3
        refine ⟨D, B', ?_, l4, l5, l6, l7, l8, fun g' h1 h2 => l9 g' h1 h2 (h1 _)⟩
        have y18 := hG.2.2.2 k (by omega)
        rw [gv_s]
        simp -implicitDefEqProofs (disch := first | omega | decide) only [fX7_giveB, mB_s, lay_n, lay_i, lay_r, lay_0, lay_l, List.length_cons, List.length_nil, List.cons_append, List.nil_append, sB, kS_l, kS_r, sSeq_a, sNil_a, kSetI_p, sSetI_a, kSetJ_p, sSetJ_a, kSetA_p, sSetA_a, kInc_p, sInc_a, kPut2_p, kPut1_p, sPut_a, kPutC2_p, kPutC1_p, sPutC_a, kAst3_p, kAst2_p, kAst1_p, sAst_a, kAstC3_p, kAstC2_p, kAstC1_p, sAstC_a, kAstZ3_p, kAstZ2_p, kAstZ1_p, sAstZ_a, kAstO3_p, kAstO2_p, kAstO1_p, sAstO_a, kAstA3_p, kAstA2_p, kAstA1_p, sAstA_a, kX_p, sX_a, kIf_p, sIf_a, kRet_p, sRet_a, kRetZ_p, sRetZ_a, sRetV_a, kSw_p, sSw_a, kPutZ2_p, kPutZ1_p, sPutZ_a, eI_a, eJ_a, eN_a, kL_p, eLI_a, eLJ_a, eLA_a, kT2_p, kT_p, eT_a, kP2_p, kP_p, eP_a, kU_p, eU_a, kGet_p, eGet_a, kAld2_p, kAld1_p, eAld_a, kLen_p, eLen_a, kEIf_p, eIf_a, kCast_p, eCast_a, aN_a, kC2_p, kC_p, aC_a, kCS_p, eCallS_a, kCV2_p, kCV1_p, eCallV_a, kN2_p, kN1_p, eNew_a, kNA_p, eNewA_a, kSt3_p, kSt2_p, kSt1_p, eSt_a, kSA2_p, kSA1_p, eSetA_a, eZ_a, eMi_a, kCl_p, eCls_a, kAnd_p, cAnd_a, kOr_p, cOr_a, cNot_a, cZ_a, cNul_a, cNN_a, cAeq_a, cAne_a, kObj_p, sObj_a, kSup2_p, kSup1_p, sSup_a, kCp5_p, kCp4_p, kCp3_p, kCp2_p, kCp1_p, sCpI_a, qEq, qNe, qLt, qGe, qGt, qLe, rGt_s, rLt_s, stL, stL2, kill, List.getElem?_cons_zero, List.getElem?_cons_succ, gI_i, gJ_l, gR_r, gR_0, rf_s, rf_n, Option.bind_some, Option.bind_none, mR_r, cat_i, cat_r, cat_0, cat_d, cat_l, ↓reduceIte, reduceCtorEq, Nat.reduceSub, Nat.reduceAdd, Nat.reduceMul, Nat.reduceLT, Nat.reduceLeDiff, Nat.reduceEqDiff, and_true, true_and, and_false, false_and, or_false, false_or, or_true, true_or, not_true_eq_false, not_false_eq_true, decide_true, decide_false, eq_self, Bool.false_eq_true, decide_eq_true_eq, Bool.and_eq_true, Bool.or_eq_true, Bool.not_eq_true', decide_eq_false_iff_not, decide_not, Bool.not_true, Bool.not_false, Bool.and_true, Bool.true_and, Bool.and_false, Bool.false_and, Bool.or_true, Bool.true_or, Bool.or_false, Bool.false_or, Bool.and_self, Bool.or_self, Bool.true_eq_false, Bool.and_eq_false_imp, Bool.or_eq_false_iff, jI, jJ, jA, o_iadd, o_isub, o_imul, o_iand, o_ior, o_ishl, o_ishr, o_ladd, o_lsub, o_lmul, o_i2l, o_l2i, o_i2b, o_ineg, if_bI, bI_z, bI_01, ifs, if_and, if_or, if_10, bI_zn, bI_nz, ifl, ifcons, ifint, iflong, ite_self, if_inc, Bool.decide_eq_true, Bool.decide_and, Bool.decide_or, xA_hh, xT_hh, xN_hh, xS_hh, xI_0, xI_c, xI_m, xI_o, xJ_0, xJ_m, sI_0, sI_c, sI_m, sI_o, sJ_0, sJ_m, sA_hh, u2_s, u2_n, xT_sI, xT_sA, xN_sI, xN_sA, xA_sI, xI_sA, xI_sI, xA_sA, xN_nw, xT_nw, xT_nn, xI_nw, xI_nn, xA_nw, xA_nn, iN_nat, l_nat, l_lt_T, l_lt_F, l_le_T, l_le_F, l_eq_F, iN_lt, iN_le, iN_eq, iN_lt_l, iN_le_l, iN_eq_l, l_lt_iN, l_le_iN, l_eq_iN, iN_eq_n, n_eq_iN, iN_le_n, iN_lt_n, iN_add, iN_mul, iN_add_l, l_add_iN, l_mul_iN, iN_sub, iN_sub_l, sub1_le, le_F, lt_T, lt_F, le_T, eq_F, sa_13_6 hs, st_13 hs, st_18 hs, nw, e3, y18, l1, st_13 hs, sa_13_6 hs, st_18 hs]
      · intro f hf L H ⟨D, B', a, l2, l3, _⟩
        subst l2 l3
        simp -implicitDefEqProofs (disch := first | omega | decide) only [fX7_give_1c, mB_s, lay_n, lay_i, lay_r, lay_0, lay_l, List.length_cons, List.length_nil, List.cons_append, List.nil_append, sB, kS_l, kS_r, sSeq_a, sNil_a, kSetI_p, sSetI_a, kSetJ_p, sSetJ_a, kSetA_p, sSetA_a, kInc_p, sInc_a, kPut2_p, kPut1_p, sPut_a, kPutC2_p, kPutC1_p, sPutC_a, kAst3_p, kAst2_p, kAst1_p, sAst_a, kAstC3_p, kAstC2_p, kAstC1_p, sAstC_a, kAstZ3_p, kAstZ2_p, kAstZ1_p, sAstZ_a, kAstO3_p, kAstO2_p, kAstO1_p, sAstO_a, kAstA3_p, kAstA2_p, kAstA1_p, sAstA_a, kX_p, sX_a, kIf_p, sIf_a, kRet_p, sRet_a, kRetZ_p, sRetZ_a, sRetV_a, kSw_p, sSw_a, kPutZ2_p, kPutZ1_p, sPutZ_a, eI_a, eJ_a, eN_a, kL_p, eLI_a, eLJ_a, eLA_a, kT2_p, kT_p, eT_a, kP2_p, kP_p, eP_a, kU_p, eU_a, kGet_p, eGet_a, kAld2_p, kAld1_p, eAld_a, kLen_p, eLen_a, kEIf_p, eIf_a, kCast_p, eCast_a, aN_a, kC2_p, kC_p, aC_a, kCS_p, eCallS_a, kCV2_p, kCV1_p, eCallV_a, kN2_p, kN1_p, eNew_a, kNA_p, eNewA_a, kSt3_p, kSt2_p, kSt1_p, eSt_a, kSA2_p, kSA1_p, eSetA_a, eZ_a, eMi_a, kCl_p, eCls_a, kAnd_p, cAnd_a, kOr_p, cOr_a, cNot_a, cZ_a, cNul_a, cNN_a, cAeq_a, cAne_a, kObj_p, sObj_a, kSup2_p, kSup1_p, sSup_a, kCp5_p, kCp4_p, kCp3_p, kCp2_p, kCp1_p, sCpI_a, qEq, qNe, qLt, qGe, qGt, qLe, rGt_s, rLt_s, stL, stL2, kill, List.getElem?_cons_zero, List.getElem?_cons_succ, gI_i, gJ_l, gR_r, gR_0, rf_s, rf_n, Option.bind_some, Option.bind_none, mR_r, cat_i, cat_r, cat_0, cat_d, cat_l, ↓reduceIte, reduceCtorEq, Nat.reduceSub, Nat.reduceAdd, Nat.reduceMul, Nat.reduceLT, Nat.reduceLeDiff, Nat.reduceEqDiff, and_true, true_and, and_false, false_and, or_false, false_or, or_true, true_or, not_true_eq_false, not_false_eq_true, decide_true, decide_false, eq_self, Bool.false_eq_true, decide_eq_true_eq, Bool.and_eq_true, Bool.or_eq_true, Bool.not_eq_true', decide_eq_false_iff_not, decide_not, Bool.not_true, Bool.not_false, Bool.and_true, Bool.true_and, Bool.and_false, Bool.false_and, Bool.or_true, Bool.true_or, Bool.or_false, Bool.false_or, Bool.and_self, Bool.or_self, Bool.true_eq_false, Bool.and_eq_false_imp, Bool.or_eq_false_iff, jI, jJ, jA, o_iadd, o_isub, o_imul, o_iand, o_ior, o_ishl, o_ishr, o_ladd, o_lsub, o_lmul, o_i2l, o_l2i, o_i2b, o_ineg, if_bI, bI_z, bI_01, ifs, if_and, if_or, if_10, bI_zn, bI_nz, ifl, ifcons, ifint, iflong, ite_self, if_inc, Bool.decide_eq_true, Bool.decide_and, Bool.decide_or, xA_hh, xT_hh, xN_hh, xS_hh, xI_0, xI_c, xI_m, xI_o, xJ_0, xJ_m, sI_0, sI_c, sI_m, sI_o, sJ_0, sJ_m, sA_hh, u2_s, u2_n, xT_sI, xT_sA, xN_sI, xN_sA, xA_sI, xI_sA, xI_sI, xA_sA, xN_nw, xT_nw, xT_nn, xI_nw, xI_nn, xA_nw, xA_nn, iN_nat, l_nat, l_lt_T, l_lt_F, l_le_T, l_le_F, l_eq_F, iN_lt, iN_le, iN_eq, iN_lt_l, iN_le_l, iN_eq_l, l_lt_iN, l_le_iN, l_eq_iN, iN_eq_n, n_eq_iN, iN_le_n, iN_lt_n, iN_add, iN_mul, iN_add_l, l_add_iN, l_mul_iN, iN_sub, iN_sub_l, sub1_le, le_F, lt_T, lt_F, le_T, eq_F]
      · intro f hf L H ⟨D, B', a, l2, l3, l4, l5, l6, l7, l8, l9⟩
        subst l2 l3
        have hGD := hG.cg l4
        have f1 : ∀ j, j < k → o j ≠ o k := fun j hj e => by
          have := hS.inj j k (by omega) (by omega) e
          omega
        have eg : ∀ j, j < k → (fun i => if i = o k then f else g i) (o j) = g (o j) := fun j hj => if_neg (f1 j hj)
        have ek : (fun i => if i = o k then f else g i) (o k) = f := if_pos rfl
        have ec : cs T v d o (fun i => if i = o k then f else g i) k = cs T v d o g k := cs_cg eg
        have hg1 : ∀ i, (fun i => if i = o k then f else g i) i < 3 := fun i => by
          show (if i = o k then f else g i) < 3
          have := hg i
          split <;> omega
        generalize hg1e : (fun i => if i = o k then f else g i) = g1 at eg ek ec hg1
        have e1 : (cs T v d o g1 (k + 1)).2 = (cs T v d o g k).2 + fe (cs T v d o g k).1 v (d (o k)) f := by rw [cs_s, ec, ek]
        have e2 : ∀ l, (cs T v d o g1 (k + 1)).1 l = if l = f then fe (cs T v d o g k).1 v (d (o k)) l else (cs T v d o g k).1 l := fun l => by rw [cs_s, ec, ek]
        generalize hD1 : up2 (up2 D 20 (o k) (iN f)) 19 f (iN (fe (cs T v d o g k).1 v (d (o k)) f)) = D1
        have g4 : ∀ j l, j ≠ 16 → j ≠ 20 → j ≠ 19 → (j ≠ 13 ∨ l ≠ 4) → D1 j l = D j l := fun j l _ h2 h3 _ => by
          rw [← hD1, u2_n _ _ (Or.inl h3), u2_n _ _ (Or.inl h2)]
        have g20 : ∀ j, j < k + 1 → D1 20 (o j) = iN (g1 (o j)) := fun j hj => by
          rw [← hD1, u2_n _ _ (by omega)]
          by_cases q : j = k
          · subst q
            rw [u2_s, ek]
          · rw [u2_n _ _ (Or.inr (f1 j (by omega))), l6 j (by omega), e20 j (by omega), eg j (by omega)]
        have g19 : ∀ l, l < 3 → D1 19 l = iN ((cs T v d o g1 (k + 1)).1 l) := fun l hl => by
          rw [← hD1, e2]
          by_cases q : l = f
          · subst q
            rw [u2_s, if_pos rfl]
          · rw [u2_n _ _ (Or.inr q), u2_n _ _ (by omega), if_neg q, l5 l hl, e19 l hl]
        have gB : Bs T v d o m D1 B' := l7.cg (by rw [← hD1, u2_n _ _ (by omega), u2_n _ _ (by omega)]) (fun l => by rw [← hD1, u2_n _ _ (by omega), u2_n _ _ (by omega)])
        obtain ⟨D2, B2, r1, r2, r3, r4, r5, r6, r7⟩ := ih (k + 1) (by omega) F (by omega) D1 g1 B' (hGD.cg g4) hg1 g20 g19 gB
        rw [e1] at r1
        refine ⟨_, _, ?_, up2 D2 19 f (D 19 f), B2, .int (D 19 f), rfl, rfl, fun j l h1 h2 h3 h4 => ?_, fun l hl => ?_, fun j hj => ?_, r5.cg (u2_n _ _ (by omega)) (fun l => u2_n _ _ (by omega)), Bl_t r6 l8, fun g' h1 h2 h3 => ?_⟩
        · have y2 := c_en (N := N) (z := z) (M := M) (P := P) (Q := Q) (C := up2 D 20 (o k) (iN f)) (T := (cs T v d o g k).1) (v := v) (p := d (o k)) hs (f := f) (a := o k) hf (by omega) (by rw [u2_n _ _ (by omega), l5 f hf, e19 f hf]) (by rw [u2_n _ _ (by omega)]; exact hGD.2.2.1 _ hok) (by rw [u2_n _ _ (by omega)]; exact hGD.2.1 f hf)
          have y3 : D1 19 f = iN (fe (cs T v d o g k).1 v (d (o k)) f) := by rw [← hD1, u2_s]
          simp -implicitDefEqProofs (disch := first | omega | decide) only [fX7_give_1b, mB_s, lay_n, lay_i, lay_r, lay_0, lay_l, List.length_cons, List.length_nil, List.cons_append, List.nil_append, sB, kS_l, kS_r, sSeq_a, sNil_a, kSetI_p, sSetI_a, kSetJ_p, sSetJ_a, kSetA_p, sSetA_a, kInc_p, sInc_a, kPut2_p, kPut1_p, sPut_a, kPutC2_p, kPutC1_p, sPutC_a, kAst3_p, kAst2_p, kAst1_p, sAst_a, kAstC3_p, kAstC2_p, kAstC1_p, sAstC_a, kAstZ3_p, kAstZ2_p, kAstZ1_p, sAstZ_a, kAstO3_p, kAstO2_p, kAstO1_p, sAstO_a, kAstA3_p, kAstA2_p, kAstA1_p, sAstA_a, kX_p, sX_a, kIf_p, sIf_a, kRet_p, sRet_a, kRetZ_p, sRetZ_a, sRetV_a, kSw_p, sSw_a, kPutZ2_p, kPutZ1_p, sPutZ_a, eI_a, eJ_a, eN_a, kL_p, eLI_a, eLJ_a, eLA_a, kT2_p, kT_p, eT_a, kP2_p, kP_p, eP_a, kU_p, eU_a, kGet_p, eGet_a, kAld2_p, kAld1_p, eAld_a, kLen_p, eLen_a, kEIf_p, eIf_a, kCast_p, eCast_a, aN_a, kC2_p, kC_p, aC_a, kCS_p, eCallS_a, kCV2_p, kCV1_p, eCallV_a, kN2_p, kN1_p, eNew_a, kNA_p, eNewA_a, kSt3_p, kSt2_p, kSt1_p, eSt_a, kSA2_p, kSA1_p, eSetA_a, eZ_a, eMi_a, kCl_p, eCls_a, kAnd_p, cAnd_a, kOr_p, cOr_a, cNot_a, cZ_a, cNul_a, cNN_a, cAeq_a, cAne_a, kObj_p, sObj_a, kSup2_p, kSup1_p, sSup_a, kCp5_p, kCp4_p, kCp3_p, kCp2_p, kCp1_p, sCpI_a, qEq, qNe, qLt, qGe, qGt, qLe, rGt_s, rLt_s, stL, stL2, kill, List.getElem?_cons_zero, List.getElem?_cons_succ, gI_i, gJ_l, gR_r, gR_0, rf_s, rf_n, Option.bind_some, Option.bind_none, mR_r, cat_i, cat_r, cat_0, cat_d, cat_l, ↓reduceIte, reduceCtorEq, Nat.reduceSub, Nat.reduceAdd, Nat.reduceMul, Nat.reduceLT, Nat.reduceLeDiff, Nat.reduceEqDiff, and_true, true_and, and_false, false_and, or_false, false_or, or_true, true_or, not_true_eq_false, not_false_eq_true, decide_true, decide_false, eq_self, Bool.false_eq_true, decide_eq_true_eq, Bool.and_eq_true, Bool.or_eq_true, Bool.not_eq_true', decide_eq_false_iff_not, decide_not, Bool.not_true, Bool.not_false, Bool.and_true, Bool.true_and, Bool.and_false, Bool.false_and, Bool.or_true, Bool.true_or, Bool.or_false, Bool.false_or, Bool.and_self, Bool.or_self, Bool.true_eq_false, Bool.and_eq_false_imp, Bool.or_eq_false_iff, jI, jJ, jA, o_iadd, o_isub, o_imul, o_iand, o_ior, o_ishl, o_ishr, o_ladd, o_lsub, o_lmul, o_i2l, o_l2i, o_i2b, o_ineg, if_bI, bI_z, bI_01, ifs, if_and, if_or, if_10, bI_zn, bI_nz, ifl, ifcons, ifint, iflong, ite_self, if_inc, Bool.decide_eq_true, Bool.decide_and, Bool.decide_or, xA_hh, xT_hh, xN_hh, xS_hh, xI_0, xI_c, xI_m, xI_o, xJ_0, xJ_m, sI_0, sI_c, sI_m, sI_o, sJ_0, sJ_m, sA_hh, u2_s, u2_n, xT_sI, xT_sA, xN_sI, xN_sA, xA_sI, xI_sA, xI_sI, xA_sA, xN_nw, xT_nw, xT_nn, xI_nw, xI_nn, xA_nw, xA_nn, iN_nat, l_nat, l_lt_T, l_lt_F, l_le_T, l_le_F, l_eq_F, iN_lt, iN_le, iN_eq, iN_lt_l, iN_le_l, iN_eq_l, l_lt_iN, l_le_iN, l_eq_iN, iN_eq_n, n_eq_iN, iN_le_n, iN_lt_n, iN_add, iN_mul, iN_add_l, l_add_iN, l_mul_iN, iN_sub, iN_sub_l, sub1_le, le_F, lt_T, lt_F, le_T, eq_F, sa_13_7 hs, sa_13_8 hs, st_13 hs, st_19 hs, st_20 hs, y2, hD1, y3, r1, st_13 hs, sa_13_7 hs, sa_13_8 hs, st_19 hs, st_20 hs]
        · rw [u2_n _ _ (Or.inl h3), r2 j l h1 h2 h3 h4, g4 j l h1 h2 h3 h4]
          exact l4 j l h1 h2 h3 h4
        · by_cases q : l = f
          · subst q
            rw [u2_s]
            exact l5 l hl
          · rw [u2_n _ _ (Or.inr q), r3 l hl, ← hD1, u2_n _ _ (Or.inr q), u2_n _ _ (by omega)]
            exact l5 l hl
        · rw [u2_n _ _ (by omega), r4 j (by omega), ← hD1, u2_n _ _ (by omega), u2_n _ _ (Or.inr (f1 j hj))]
          exact l6 j hj
        · by_cases q : g' (o k) = f
          · refine r7 g' h1 (fun j hj => ?_)
            by_cases q2 : j = k
            · subst q2
              rw [q, ek]
            · rw [h2 j (by omega), eg j (by omega)]
          · exact Bl_d r6 (l9 g' h1 h2 (by omega))
end GV
