section NV
variable {X : XX} {cc : ByteArray} {y : MethodName} {ret : Option FieldType} {d pc n9 idx : Nat} {z9 : Nat × Nat} {L st : List Value} {h : XH}
theorem nn_cl (z : Int32) (hz : ¬ z < 0) : z.toInt = (z.toNatClampNeg : Int) := by
  have hz0 : (0 : Int) ≤ z.toInt := by
    have := Int32.not_lt.mp hz
    simpa using Int32.le_iff_toInt_le.mp this
  show z.toInt = ((z.toInt.toNat : Nat) : Int)
  omega
set_option maxRecDepth 20000 in
theorem w_cpn : Cond.native arraycopyName ∈ xtb := by decide +kernel
set_option maxRecDepth 20000 in
theorem w_cps : Cond.static arraycopyName ∈ xtb := by decide +kernel
set_option maxRecDepth 20000 in
theorem w_cpi : Cond.initialized "java/lang/System" ∈ xtb := by decide +kernel
theorem go_cp (C : xCx X cc y ret d z9 n9) (hd1 : 1 ≤ d) (w1 : Cond.methodLink y.cls idx arraycopyName ∈ xtb) {t a b n0 n1 : Nat} {sp dp n : Int32} {h' : XH} (ht : 100 ≤ t ∧ t < 107) (ha : xT h a = (t, n0)) (hb : xT h b = (t, n1)) (q1 : ¬ sp < 0) (q2 : ¬ dp < 0) (q3 : ¬ n < 0) (q4 : sp.toNatClampNeg + n.toNatClampNeg ≤ n0) (q5 : dp.toNatClampNeg + n.toNatClampNeg ≤ n1)
    (hs : xSame h h' b) (hv : ∀ k, vV (xTy t) h' b k = va_cpy (fun j => vV (xTy t) h a j) (fun j => vV (xTy t) h b j) sp.toNatClampNeg dp.toNatClampNeg n.toNatClampNeg k)
    (hval : ∀ (G : XG) (s T : State) (H : Heap), xK G s → xRep G s h H → T.heap = H → ∀ (k : Class) (comp : ClassId), s.vm.classes[gA G t]? = some k → k.kind = .array comp (xTy t) → ∀ vm', s.vm.Alike vm' → ∀ i, i < n.toNatClampNeg → fits (xTy t) (vV (xTy t) h a (sp.toNatClampNeg + i)) = true ∧ (T.setVm vm').takes comp (vV (xTy t) h a (sp.toNatClampNeg + i)))
    (hst : cats st ≤ 8) (hd : decode cc pc = .ok (.invokestatic idx, 3)) (kk : Go X (pc + 3) L st h') : Go X pc L (.int n :: .int dp :: .ref b :: .int sp :: .ref a :: st) h := by
  obtain ⟨p, l, e, R, s, m, args, below, meth, c, G, h0, ov, hF, nL⟩ := X
  intro H locs ls hR hS hL h1 h2
  obtain ⟨hx, hb0, hml, hown, hts, hK, hRm, hret, hlk, hnm, hzz, hn9⟩ := C
  obtain ⟨ga, -, c0⟩ := hR.arr ha ht.1 (by omega)
  obtain ⟨gb, -, c1⟩ := hR.arr hb ht.1 (by omega)
  have hao := (hK.2.1 t ht.1 ht.2).1
  intro T hT Y
  obtain ⟨-, k0, hk0, cm0, hkk0⟩ := hao n0 (fun k => vV (xTy t) h a k)
  obtain ⟨-, k1, hk1, cm1, hkk1⟩ := hao n1 (fun k => vV (xTy t) h b k)
  have hloc : 2 * (F0 m pc ls (.int n :: .int dp :: .ref b :: .int sp :: .ref a :: st)).monitorRoom + (st.map fun v => v.category).sum + (nativeFrameWords "java/lang/System" "arraycopy" 5 + 11) ≤ R.locals := by
    refine Nat.le_trans (show 2 * 0 + cats st + (nativeFrameWords "java/lang/System" "arraycopy" 5 + 11) ≤ 64 * d from ?_) hRm.2.2.2
    have : nativeFrameWords "java/lang/System" "arraycopy" 5 ≤ 40 := by decide
    omega
  obtain ⟨vm', Y', step⟩ := Y.arraycopy hx hown (hts _ w1) (hts _ w_cpn) (hts _ w_cps) (hts _ w_cpi) (src := a) (dst := b) (cs := arrV (gA G t) n0 (fun k => vV (xTy t) h a k)) (cd := arrV (gA G t) n1 (fun k => vV (xTy t) h b k)) (srcPos := sp) (destPos := dp) (n := n) (by rw [hT]; exact c0) (by rw [hT]; exact c1)
    (fun _ h => by cases h) (fun _ h => by cases h) (fun h => by cases h) (fun h => by cases h) hk0 hk1 hkk0 hkk1 (by simp) q1 q2 q3
    (by rw [nn_cl sp q1, nn_cl n q3, arrV_size]; omega) (by rw [nn_cl dp q2, nn_cl n q3, arrV_size]; omega)
    (fun vm₁ hal i hi => by
      have e1 : (arrV (gA G t) n0 (fun k => vV (xTy t) h a k)).slots.getD (sp.toNatClampNeg + i) .null = vV (xTy t) h a (sp.toNatClampNeg + i) := by
        rw [Array.getD_eq_getD_getElem?, arrV_read _ _ (by omega)]
        rfl
      rw [e1]
      exact hval G s T H hK hR hT k1 cm1 hk1 hkk1 vm₁ hal i hi)
    (g := F0 m pc ls (.int n :: .int dp :: .ref b :: .int sp :: .ref a :: st)) rfl (by rw [hml]; exact hL.2.1) (rest := st) rfl (by rw [hb0]; exact hd) (Nat.le_trans hd1 hRm.1) hloc
  have e1 : copied (arrV (gA G t) n0 (fun k => vV (xTy t) h a k)) (arrV (gA G t) n1 (fun k => vV (xTy t) h b k)) sp dp n = arrV (gA G t) n1 (fun k => vV (xTy t) h' b k) := by
    refine (va_copied (fun z => z) (gA G t) (gA G t) (fun j => vV (xTy t) h a j) (fun j => vV (xTy t) h b j) q4).trans ?_
    congr 1
    funext k
    exact (hv k).symm
  rw [e1] at Y' step
  have hl : b < H.size := (Array.getElem?_eq_some_iff.mp c1).1
  have hheap : ((T.setVm vm').setCell b (arrV (gA G t) n1 (fun k => vV (xTy t) h' b k))).heap = H.setIfInBounds b (arrV (gA G t) n1 (fun k => vV (xTy t) h' b k)) := by rw [← hT]; rfl
  have oq : ∀ q : Nat, q ≠ b → (H.setIfInBounds b (arrV (gA G t) n1 (fun k => vV (xTy t) h' b k)))[q]? = H[q]? := fun q hq => by simp [Array.getElem?_setIfInBounds, Ne.symm hq]
  have hR1 : xRep G s h' (H.setIfInBounds b (arrV (gA G t) n1 (fun k => vV (xTy t) h' b k))) := by
    refine hR.write hs (by simp) oq gb (fun t' n' ht' _ z => ?_) (fun t' n' ht' _ _ => ?_)
    · rw [hb] at ht'; cases ht'; omega
    · rw [hb] at ht'; cases ht'
      simp [Array.getElem?_setIfInBounds, hl]
  have kk2 : ∀ locs1, va_S (gO G) s.heap (H.setIfInBounds b (arrV (gA G t) n1 (fun k => vV (xTy t) h' b k))) locs1 → W p l e R s m args below meth c (H.setIfInBounds b (arrV (gA G t) n1 (fun k => vV (xTy t) h' b k))) locs1 (xN h - xN h0) (xS h - xS h0) (MQ below (QX G ov hF) args s (xN hF - xN h0) (xS hF - xS h0) (gO G)) (F0 m (pc + 3) ls st) := fun locs1 hS1 => by
    have := kk _ locs1 ls hR1 hS1 hL (by rw [hs.2.1]; exact h1) (by rw [hs.2.2.1]; exact h2)
    rw [hs.2.1, hs.2.2.1] at this
    exact this
  obtain ⟨t2, a1, b1⟩ := kk2 _ ⟨by simp; exact hS.1, fun q g1 g2 => by
      rw [oq q (fun e => g2 (by rw [e]; exact gb))]
      exact hS.2.1 q g1 g2, fun q hq => by
      rcases List.mem_append.mp hq with h | h
      · exact hS.2.2 q h
      · obtain ⟨z, -, hz⟩ := List.mem_map.mp h
        rw [← hz]
        exact gb⟩ _ hheap Y'
  exact ⟨t2, step t2 a1, b1⟩
theorem cp2_b {α : Type} {f : Nat → Nat → α} {a sp b dp n q j : Nat} (hq : q ≠ b) : cp2 f a sp b dp n q j = f q j := if_neg (fun z => hq z.1)
theorem cp2_v {α : Type} {f : Nat → Nat → α} {a sp b dp n j : Nat} : cp2 f a sp b dp n b j = va_cpy (f a) (f b) sp dp n j := by
  unfold cp2 va_cpy
  by_cases z : dp ≤ j ∧ j < dp + n
  · rw [if_pos ⟨rfl, z⟩, if_pos z]
  · rw [if_neg (fun q => z q.2), if_neg z]
theorem cpy_map {α β : Type} (mk : α → β) (f g : Nat → α) (sp dp n j : Nat) : mk (va_cpy f g sp dp n j) = va_cpy (fun i => mk (f i)) (fun i => mk (g i)) sp dp n j := by
  unfold va_cpy
  split <;> rfl
theorem go_cpI (C : xCx X cc y ret d z9 n9) (hd1 : 1 ≤ d) (w1 : Cond.methodLink y.cls idx arraycopyName ∈ xtb) {a b n0 n1 : Nat} {sp dp n : Int32} (ha : xT h a = (100, n0)) (hb : xT h b = (100, n1)) (q1 : ¬ sp < 0) (q2 : ¬ dp < 0) (q3 : ¬ n < 0) (q4 : sp.toNatClampNeg + n.toNatClampNeg ≤ n0) (q5 : dp.toNatClampNeg + n.toNatClampNeg ≤ n1) (hst : cats st ≤ 8) (hd : decode cc pc = .ok (.invokestatic idx, 3)) (kk : Go X (pc + 3) L st (xCpI h a sp.toNatClampNeg b dp.toNatClampNeg n.toNatClampNeg)) : Go X pc L (.int n :: .int dp :: .ref b :: .int sp :: .ref a :: st) h := by
  refine go_cp (h' := xCpI h a sp.toNatClampNeg b dp.toNatClampNeg n.toNatClampNeg) C hd1 w1 (t := 100) (by decide) ha hb q1 q2 q3 q4 q5 ⟨rfl, rfl, rfl, fun q k hq => ⟨cp2_b hq, rfl, rfl⟩⟩ (fun k => ?_) (fun G s T H _ _ _ k comp _ _ vm' _ i _ => ⟨rfl, trivial⟩) hst hd kk
  show Value.int (cp2 (xI h) a _ b _ _ b k) = _
  rw [cp2_v]
  exact cpy_map Value.int _ _ _ _ _ _
theorem go_cpA (C : xCx X cc y ret d z9 n9) (hd1 : 1 ≤ d) (w1 : Cond.methodLink y.cls idx arraycopyName ∈ xtb) {a b n0 n1 : Nat} {sp dp n : Int32} (ha : xT h a = (105, n0)) (hb : xT h b = (105, n1)) (q1 : ¬ sp < 0) (q2 : ¬ dp < 0) (q3 : ¬ n < 0) (q4 : sp.toNatClampNeg + n.toNatClampNeg ≤ n0) (q5 : dp.toNatClampNeg + n.toNatClampNeg ≤ n1) (q6 : ∀ k, k < n.toNatClampNeg → okE h (xA h a (sp.toNatClampNeg + k)) = true) (hst : cats st ≤ 8) (hd : decode cc pc = .ok (.invokestatic idx, 3)) (kk : Go X (pc + 3) L st (xCpA h a sp.toNatClampNeg b dp.toNatClampNeg n.toNatClampNeg)) : Go X pc L (.int n :: .int dp :: .ref b :: .int sp :: .ref a :: st) h := by
  refine go_cp (h' := xCpA h a sp.toNatClampNeg b dp.toNatClampNeg n.toNatClampNeg) C hd1 w1 (t := 105) (by decide) ha hb q1 q2 q3 q4 q5 ⟨rfl, rfl, rfl, fun q k hq => ⟨rfl, rfl, cp2_b hq⟩⟩ (fun k => ?_) (fun G s T H hK hR hT k comp hk hkind vm' hal i hi => ?_) hst hd kk
  · show va_rf (cp2 (xA h) a _ b _ _ b k) = _
    rw [cp2_v]
    exact cpy_map va_rf _ _ _ _ _ _
  · have q7 := q6 i hi
    show fits (.object "java/lang/Object") (va_rf (xA h a (sp.toNatClampNeg + i))) = true ∧ (T.setVm vm').takes comp (va_rf (xA h a (sp.toNatClampNeg + i)))
    cases hy : xA h a (sp.toNatClampNeg + i) with
    | none => exact ⟨rfl, trivial⟩
    | some v =>
      rw [hy] at q7
      have ht := of_decide_eq_true q7
      obtain ⟨c1, c2⟩ := okT_ok _ ht
      obtain ⟨-, cellV, g1, g2, g3, -⟩ := hR.obj c1 rfl
      have hcls := (hK.1 _ _ c1.1.1 c1.2.1).2
      obtain ⟨kA, comp', k1, k2, k3, -⟩ := (show va_RA s (gA G 105) (.object "java/lang/Object") from (hK.2.1 105 (by decide) (by decide)).2)
      cases hk.symm.trans k1
      have e2 : comp = comp' := by
        have := hkind.symm.trans k2
        simp at this
        exact this.1
      subst e2
      obtain ⟨c0, t0, f1, f2, f3⟩ := Cond.castable_spec (va_Nw.use (A := #[]) rfl (hK.2.2.2.2.2.1 _ c2))
      cases hcls.1.symm.trans f1
      cases k3.symm.trans f2
      obtain ⟨kC, hkC, -⟩ := Vm.findClass_spec hcls.1
      obtain ⟨kE, hkE, -⟩ := Vm.findClass_spec k3
      obtain ⟨kC', hkC', -⟩ := hal.2.2 _ _ hkC
      obtain ⟨kE', hkE', -⟩ := hal.2.2 _ _ hkE
      refine ⟨rfl, cellV, (show T.heap[v]? = some cellV by rw [hT]; exact g1), (fun q h => by rw [g3] at h; cases h), ⟨kC', by rw [g2]; exact hkC'⟩, ?_, ?_⟩
      · exact ⟨kE', hkE'⟩
      · show vm'.assignable _ _ = true
        rw [hal.assignable, g2]
        exact f3
abbrev yGC : MethodName := ⟨"java/lang/Object", "getClass", "()Ljava/lang/Class;"⟩
set_option maxRecDepth 20000 in
theorem w_gd : Cond.declares yGC ∈ xrs := by decide +kernel
set_option maxRecDepth 20000 in
theorem w_gs : Cond.selects "[Ljava/lang/Object;" yGC yGC ∈ xtb := by decide +kernel
set_option maxRecDepth 20000 in
theorem w_gi : Cond.instanceMethod yGC ∈ xtb := by decide +kernel
set_option maxRecDepth 20000 in
theorem w_gn : Cond.native yGC ∈ xtb := by decide +kernel
theorem go_cls (C : xCx X cc y ret d z9 n9) (hd1 : 1 ≤ d) (w1 : Cond.methodLink y.cls idx yGC ∈ xtb) {a : Nat} (ha : (xT h a).1 = 105) (hst : cats st ≤ 8) (hd : decode cc pc = .ok (.invokevirtual idx, 3)) (kk : Go X (pc + 3) L (.ref z9.2 :: st) h) : Go X pc L (.ref a :: st) h := by
  obtain ⟨p, l, e, R, s, m, args, below, meth, c, G, h0, ov, hF, nL⟩ := X
  intro H locs ls hR hS hL h1 h2
  obtain ⟨hx, hb, hml, hown, hts, hK, hRm, hret, hlk, hnm, hzz, hn9⟩ := C
  subst hzz
  obtain ⟨-, -, g3⟩ := hR.arr (a := a) (t := 105) (n := (xT h a).2) (by rw [← ha]) (by decide) (by decide)
  have hra := (show va_RA s (gA G 105) (.object "java/lang/Object") from (hK.2.1 105 (by decide) (by decide)).2)
  exact va_getC (C := "[Ljava/lang/Object;") (mi := gM G) hx hb (by rw [hml]; exact hL.2.1.symm) hown (hts _ w1) (va_Nw.use (A := args) rfl (hK.2.2.2.2.2.1 _ w_gd)) (hts _ w_gs) (hts _ w_gi) (hts _ w_gn) hK.2.2.2.1 ⟨_, g3, rfl, va_nmO hra rfl⟩ (Nat.le_trans hd1 hRm.1) (Nat.le_trans (show cats st + 14 ≤ 64 * d by omega) hRm.2.2.2) hd (kk H locs ls hR hS hL h1 h2)
theorem go_mir (C : xCx X cc y ret d z9 n9) (w1 : Cond.classLink y.cls idx "[Ljava/lang/Object;" ∈ xtb) (hd : decode cc pc = .ok (.ldc idx, 2)) (kk : Go X (pc + 2) L (.ref z9.2 :: st) h) : Go X pc L st h := by
  obtain ⟨p, l, e, R, s, m, args, below, meth, c, G, h0, ov, hF, nL⟩ := X
  intro H locs ls hR hS hL h1 h2
  obtain ⟨hx, hb, hml, hown, hts, hK, hRm, hret, hlk, hnm, hzz, hn9⟩ := C
  subst hzz
  exact va_ldcM hx hb hown (hts _ w1) hK.2.2.2.1 hd (kk H locs ls hR hS hL h1 h2)
end NV
section NX
variable {cc : ByteArray} {y : MethodName} {ret : Option FieldType} {d n9 k pc p1 p2 p3 p4 p5 idx : Nat} {z9 : Nat × Nat} {ρ : Type} {inj : ρ → Option Value}
theorem xe_mir (hd : decode cc pc = .ok (.ldc idx, 2)) (w1 : Cond.classLink y.cls idx "[Ljava/lang/Object;" ∈ xtb) : XE cc y ret d z9 n9 jA k pc (pc + 2) (eMi z9) := by
  refine ⟨fun L h v h' hf => ?_, fun X C L h v h' hf _ st _ kk => ?_⟩
  · cases hf; exact Le.rf _
  · cases hf; exact go_mir C w1 hd kk
theorem xe_cls {f : EE (Option Nat)} (hf : XE cc y ret d z9 n9 jA k pc p1 f) (hd : decode cc p1 = .ok (.invokevirtual idx, 3)) (w1 : Cond.methodLink y.cls idx yGC ∈ xtb) (hd1 : 1 ≤ d) (hk : k ≤ 8) : XE cc y ret d z9 n9 jA k pc (p1 + 3) (eCls z9 f) := by
  refine ⟨fun L h v h' he => ?_, fun X C L h v h' he hB st hst kk => ?_⟩
  · obtain ⟨⟨r, h1⟩, e1, he⟩ := ob he
    obtain ⟨a, e2, he⟩ := ob he
    split at he
    · cases he; exact hf.1 _ _ _ _ e1
    · cases he
  · obtain ⟨⟨r, h1⟩, e1, he⟩ := ob he
    obtain ⟨a, e2, he⟩ := ob he
    split at he
    · next ht =>
      cases he
      simp only at e2 ht hB kk
      subst e2
      exact hf.2 X C _ _ _ _ e1 hB st hst (go_cls C hd1 w1 ht (Nat.le_trans hst hk) hd kk)
    · cases he
theorem xs_cpI {o1 o2 : EE (Option Nat)} {g1 g2 g3 : EE Int32} (h1 : XE cc y ret d z9 n9 jA 0 pc p1 o1) (h2 : XE cc y ret d z9 n9 jI 2 p1 p2 g1) (h3 : XE cc y ret d z9 n9 jA 4 p2 p3 o2) (h4 : XE cc y ret d z9 n9 jI 6 p3 p4 g2) (h5 : XE cc y ret d z9 n9 jI 8 p4 p5 g3) (w1 : Cond.methodLink y.cls idx arraycopyName ∈ xtb) (hd1 : 1 ≤ d) (hd : decode cc p5 = .ok (.invokestatic idx, 3)) : XS cc y ret d z9 n9 inj pc (p5 + 3) (sCpI o1 g1 o2 g2 g3 : SS ρ) := by
  refine ⟨fun L h r he => ?_, fun X C L h r he hB kk => ?_⟩
  · obtain ⟨⟨r1, k1⟩, e1, he⟩ := ob he
    obtain ⟨a, f1, he⟩ := ob he
    obtain ⟨i, e2, he⟩ := ob he
    obtain ⟨⟨r2, k3⟩, e3, he⟩ := ob he
    obtain ⟨b, f3, he⟩ := ob he
    obtain ⟨j, e4, he⟩ := ob he
    obtain ⟨n, e5, he⟩ := ob he
    split at he
    · cases he
      have w := (h1.1 _ _ _ _ e1).tr ((h2.1 _ _ _ _ e2).tr ((h3.1 _ _ _ _ e3).tr ((h4.1 _ _ _ _ e4).tr (h5.1 _ _ _ _ e5))))
      exact w
    · cases he
  · obtain ⟨⟨r1, k1⟩, e1, he⟩ := ob he
    obtain ⟨a, f1, he⟩ := ob he
    obtain ⟨i, e2, he⟩ := ob he
    obtain ⟨⟨r2, k3⟩, e3, he⟩ := ob he
    obtain ⟨b, f3, he⟩ := ob he
    obtain ⟨j, e4, he⟩ := ob he
    obtain ⟨⟨n, k5⟩, e5, he⟩ := ob he
    split at he
    · next ht =>
      cases he
      simp only at f1 f3 e1 e2 e3 e4 e5 ht
      subst f1; subst f3
      have hB2 : Le k5 (xEnd X).2 := hB
      obtain ⟨u1, u2, u3, u4, u5, u6, u7⟩ := ht
      have hxa : xT k5 a = (100, (xT k5 a).2) := by rw [← u1]
      have hxb : xT k5 b = (100, (xT k5 b).2) := by rw [← u2]
      have l5 := (h5.1 _ _ _ _ e5).tr hB2
      have l4 := (h4.1 _ _ _ _ e4).tr l5
      have l3 := (h3.1 _ _ _ _ e3).tr l4
      have l2 := (h2.1 _ _ _ _ e2).tr l3
      have c1 : cats [] ≤ 0 := Nat.le_refl _
      have c2 := cats_c (jA (some a)) _ _ c1
      have c3 := cats_c (jI i.1) _ _ c2
      have c4 := cats_c (jA (some b)) _ _ c3
      have c5 := cats_c (jI j.1) _ _ c4
      exact h1.2 X C _ _ _ _ e1 l2 [] c1 (h2.2 X C _ _ _ _ e2 l3 _ c2 (h3.2 X C _ _ _ _ e3 l4 _ c3 (h4.2 X C _ _ _ _ e4 l5 _ c4 (h5.2 X C _ _ _ _ e5 hB2 _ c5 (go_cpI C hd1 w1 hxa hxb u3 u4 u5 u6 u7 (Nat.zero_le _) hd kk)))))
    · cases he
theorem xs_cpA {o1 o2 : EE (Option Nat)} {g1 g2 g3 : EE Int32} (h1 : XE cc y ret d z9 n9 jA 0 pc p1 o1) (h2 : XE cc y ret d z9 n9 jI 2 p1 p2 g1) (h3 : XE cc y ret d z9 n9 jA 4 p2 p3 o2) (h4 : XE cc y ret d z9 n9 jI 6 p3 p4 g2) (h5 : XE cc y ret d z9 n9 jI 8 p4 p5 g3) (w1 : Cond.methodLink y.cls idx arraycopyName ∈ xtb) (hd1 : 1 ≤ d) (hd : decode cc p5 = .ok (.invokestatic idx, 3)) : XS cc y ret d z9 n9 inj pc (p5 + 3) (sCpA o1 g1 o2 g2 g3 : SS ρ) := by
  refine ⟨fun L h r he => ?_, fun X C L h r he hB kk => ?_⟩
  · obtain ⟨⟨r1, k1⟩, e1, he⟩ := ob he
    obtain ⟨a, f1, he⟩ := ob he
    obtain ⟨i, e2, he⟩ := ob he
    obtain ⟨⟨r2, k3⟩, e3, he⟩ := ob he
    obtain ⟨b, f3, he⟩ := ob he
    obtain ⟨j, e4, he⟩ := ob he
    obtain ⟨n, e5, he⟩ := ob he
    split at he
    · cases he
      have w := (h1.1 _ _ _ _ e1).tr ((h2.1 _ _ _ _ e2).tr ((h3.1 _ _ _ _ e3).tr ((h4.1 _ _ _ _ e4).tr (h5.1 _ _ _ _ e5))))
      exact w
    · cases he
  · obtain ⟨⟨r1, k1⟩, e1, he⟩ := ob he
    obtain ⟨a, f1, he⟩ := ob he
    obtain ⟨i, e2, he⟩ := ob he
    obtain ⟨⟨r2, k3⟩, e3, he⟩ := ob he
    obtain ⟨b, f3, he⟩ := ob he
    obtain ⟨j, e4, he⟩ := ob he
    obtain ⟨⟨n, k5⟩, e5, he⟩ := ob he
    split at he
    · next ht =>
      cases he
      simp only at f1 f3 e1 e2 e3 e4 e5 ht
      subst f1; subst f3
      have hB2 : Le k5 (xEnd X).2 := hB
      obtain ⟨⟨u1, u2, u3, u4, u5, u6, u7⟩, u8⟩ := ht
      have hxa : xT k5 a = (105, (xT k5 a).2) := by rw [← u1]
      have hxb : xT k5 b = (105, (xT k5 b).2) := by rw [← u2]
      have l5 := (h5.1 _ _ _ _ e5).tr hB2
      have l4 := (h4.1 _ _ _ _ e4).tr l5
      have l3 := (h3.1 _ _ _ _ e3).tr l4
      have l2 := (h2.1 _ _ _ _ e2).tr l3
      have c1 : cats [] ≤ 0 := Nat.le_refl _
      have c2 := cats_c (jA (some a)) _ _ c1
      have c3 := cats_c (jI i.1) _ _ c2
      have c4 := cats_c (jA (some b)) _ _ c3
      have c5 := cats_c (jI j.1) _ _ c4
      exact h1.2 X C _ _ _ _ e1 l2 [] c1 (h2.2 X C _ _ _ _ e2 l3 _ c2 (h3.2 X C _ _ _ _ e3 l4 _ c3 (h4.2 X C _ _ _ _ e4 l5 _ c4 (h5.2 X C _ _ _ _ e5 hB2 _ c5 (go_cpA C hd1 w1 hxa hxb u3 u4 u5 u6 u7 u8 (Nat.zero_le _) hd kk)))))
    · cases he
end NX
section MX
variable {cc : ByteArray} {y : MethodName} {ret : Option FieldType} {d n9 k pc p1 p2 pt pf idx : Nat} {z9 : Nat × Nat}
def oMax (x z : Int32) : Int32 := if x < z then z else x
def oMin (x z : Int32) : Int32 := if z < x then z else x
set_option maxRecDepth 20000 in
theorem w_mi : Cond.initialized "java/lang/Math" ∈ xtb := by decide +kernel
set_option maxRecDepth 20000 in
theorem w_mxs : Cond.static Lib.Math.max.name ∈ xtb := by decide +kernel
set_option maxRecDepth 20000 in
theorem w_mns : Cond.static Lib.Math.min.name ∈ xtb := by decide +kernel
set_option maxRecDepth 20000 in
theorem w_mxc : Cond.code Lib.Math.max.name Lib.Math.max.code 2 (some .int) ∈ xtb := by decide +kernel
set_option maxRecDepth 20000 in
theorem w_mnc : Cond.code Lib.Math.min.name Lib.Math.min.code 2 (some .int) ∈ xtb := by decide +kernel
theorem go_max {X : XX} {L st : List Value} {h : XH} (C : xCx X cc y ret d z9 n9) (hd1 : 1 ≤ d) (w1 : Cond.methodLink y.cls idx Lib.Math.max.name ∈ xtb) {x z : Int32} (hB : Le h (xEnd X).2) (hst : cats st ≤ 8) (hd : decode cc pc = .ok (.invokestatic idx, 3)) (kk : Go X (pc + 3) L (.int (oMax x z) :: st) h) : Go X pc L (.int z :: .int x :: st) h := by
  obtain ⟨p, l, e, R, s, m, args, below, meth, c, G, h0, ov, hF, nL⟩ := X
  intro H locs ls hR hS hL h1 h2
  obtain ⟨hx, hb, hml, hown, hts, hK, hRm, hret, hlk, hnm, hzz, hn9⟩ := C
  have hb1 : xN h ≤ xN hF := hB.1
  have hb2 : xS h ≤ xS hF := hB.2
  exact va_mmax hx hb (by rw [hml]; exact hL.2.1.symm) hown (hts _ w1) (hts _ w_mxs) (hts _ w_mi) (hts _ w_mxc) (Nat.le_trans hd1 hRm.1) (Nat.le_trans (show cats st + 13 ≤ 64 * d by omega) hRm.2.2.2) (Nat.le_trans (by omega) hRm.2.1) (Nat.le_trans (by omega) hRm.2.2.1) hd (kk H locs ls hR hS hL h1 h2)
theorem go_min {X : XX} {L st : List Value} {h : XH} (C : xCx X cc y ret d z9 n9) (hd1 : 1 ≤ d) (w1 : Cond.methodLink y.cls idx Lib.Math.min.name ∈ xtb) {x z : Int32} (hB : Le h (xEnd X).2) (hst : cats st ≤ 8) (hd : decode cc pc = .ok (.invokestatic idx, 3)) (kk : Go X (pc + 3) L (.int (oMin x z) :: st) h) : Go X pc L (.int z :: .int x :: st) h := by
  obtain ⟨p, l, e, R, s, m, args, below, meth, c, G, h0, ov, hF, nL⟩ := X
  intro H locs ls hR hS hL h1 h2
  obtain ⟨hx, hb, hml, hown, hts, hK, hRm, hret, hlk, hnm, hzz, hn9⟩ := C
  have hb1 : xN h ≤ xN hF := hB.1
  have hb2 : xS h ≤ xS hF := hB.2
  exact va_mmin hx hb (by rw [hml]; exact hL.2.1.symm) hown (hts _ w1) (hts _ w_mns) (hts _ w_mi) (hts _ w_mnc) (Nat.le_trans hd1 hRm.1) (Nat.le_trans (show cats st + 13 ≤ 64 * d by omega) hRm.2.2.2) (Nat.le_trans (by omega) hRm.2.1) (Nat.le_trans (by omega) hRm.2.2.1) hd (kk H locs ls hR hS hL h1 h2)
theorem xe_mx {op : Int32 → Int32 → Int32} {f g : EE Int32} (hf : XE cc y ret d z9 n9 jI k pc p1 f) (hg : XE cc y ret d z9 n9 jI (k + 2) p1 p2 g) (hk : k ≤ 8) (ins : ∀ X, xCx X cc y ret d z9 n9 → ∀ L st h x z, Le h (xEnd X).2 → cats st ≤ 8 → Go X (p2 + 3) L (jI (op x z) :: st) h → Go X p2 L (jI z :: jI x :: st) h) : XE cc y ret d z9 n9 jI k pc (p2 + 3) (eT op f g) := by
  refine ⟨fun L h v h' he => ?_, fun X C L h v h' he hB st hst kk => ?_⟩
  · obtain ⟨r, e1, he⟩ := ob he
    obtain ⟨q, e2, he⟩ := ob he
    cases he
    exact (hf.1 _ _ _ _ e1).tr (hg.1 _ _ _ _ e2)
  · obtain ⟨r, e1, he⟩ := ob he
    obtain ⟨q, e2, he⟩ := ob he
    cases he
    exact hf.2 X C _ _ _ _ e1 ((hg.1 _ _ _ _ e2).tr hB) st hst (hg.2 X C _ _ _ _ e2 hB _ (cats_c _ _ _ hst) (ins X C _ _ _ _ _ hB (Nat.le_trans hst hk) kk))
theorem xe_max {f g : EE Int32} (hf : XE cc y ret d z9 n9 jI k pc p1 f) (hg : XE cc y ret d z9 n9 jI (k + 2) p1 p2 g) (hk : k ≤ 8) (hd1 : 1 ≤ d) (w1 : Cond.methodLink y.cls idx Lib.Math.max.name ∈ xtb) (hd : decode cc p2 = .ok (.invokestatic idx, 3)) : XE cc y ret d z9 n9 jI k pc (p2 + 3) (eT oMax f g) := xe_mx hf hg hk (fun _ C _ _ _ _ _ hB hst kk => go_max C hd1 w1 hB hst hd kk)
theorem xe_min {f g : EE Int32} (hf : XE cc y ret d z9 n9 jI k pc p1 f) (hg : XE cc y ret d z9 n9 jI (k + 2) p1 p2 g) (hk : k ≤ 8) (hd1 : 1 ≤ d) (w1 : Cond.methodLink y.cls idx Lib.Math.min.name ∈ xtb) (hd : decode cc p2 = .ok (.invokestatic idx, 3)) : XE cc y ret d z9 n9 jI k pc (p2 + 3) (eT oMin f g) := xe_mx hf hg hk (fun _ C _ _ _ _ _ hB hst kk => go_min C hd1 w1 hB hst hd kk)
theorem xc_aneF {f g : EE (Option Nat)} (hf : XE cc y ret d z9 n9 jA k pc p1 f) (hg : XE cc y ret d z9 n9 jA (k + 2) p1 p2 g) {off : Int} (hd : decode cc p2 = .ok (.if_acmp .eq off, 3)) (ho : (p2 : Int) + off = (pf : Int)) : XC cc y ret d z9 n9 k pc (p2 + 3) pf (cAne f g) := xc_2 hf hg (fun _ C _ _ _ x z kt kf => go_acmp_eq C hd ho (fun q => kf (decide_eq_false (fun w => w q))) (fun q => kt (decide_eq_true q)))
end MX
