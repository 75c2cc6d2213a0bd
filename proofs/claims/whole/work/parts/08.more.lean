theorem in_xtb {i : Nat} {w : Cond} (h : tables_1[i]? = some w) (hg : xgood w = true) : w ∈ xtb := List.mem_filter.mpr ⟨List.mem_append_right _ (List.mem_of_getElem? h), hg⟩
theorem in_xrs {i : Nat} {w : Cond} (h : tables_1[i]? = some w) (hg : xspec w = true) : w ∈ xrs := List.mem_filter.mpr ⟨List.mem_append_right _ (List.mem_of_getElem? h), hg⟩
theorem in_priv {i : Nat} {w : Cond} (h : (k2_sels lw_privs)[i]? = some w) (hg : xgood w = true) : w ∈ xtb := List.mem_filter.mpr ⟨List.mem_append_left _ (List.mem_of_getElem? h), hg⟩
theorem w_oi : Cond.instanceMethod Lib.objectInit ∈ xtb := by decide +kernel
theorem w_oc : Cond.code Lib.objectInit ⟨#[0xb1]⟩ 1 none ∈ xtb := by decide +kernel
def sDead {ρ : Type} : SS ρ := fun _ _ => none
def eDead {α : Type} : EE α := fun _ _ => none
def sObj {ρ : Type} : SS ρ := fun L h => (eLA 0 L h).bind fun r => r.1.bind fun _ => some (.inl (L, h))
def sSup {ρ : Type} (F : List Value → XH → Option (Unit × XH)) : SS ρ := fun L h => (eLA 0 L h).bind fun r => r.1.bind fun a => (F [.ref a] h).bind fun u => some (.inl (L, u.2))
def sSw {ρ : Type} (f : EE Int32) (g : Int32 → SS ρ) : SS ρ := fun L h => (f L h).bind fun r => g r.1 L r.2
def eSt (f : EE (Option Nat)) (g v : EE Int32) : EE (Option Nat) := fun L h => (f L h).bind fun r => r.1.bind fun a => (g L r.2).bind fun i => (v L i.2).bind fun q => if (xT q.2 a).1 = 100 ∧ ¬ (i.1 < 0 ∨ (xT q.2 a).2 ≤ i.1.toNatClampNeg) then some (some a, sI q.2 a i.1.toNatClampNeg q.1) else none
def sPutZ {ρ : Type} (t k : Nat) (o : EE (Option Nat)) (f : EE Int32) : SS ρ := fun L h => (o L h).bind fun r => r.1.bind fun a => (f L r.2).bind fun q => if (xT q.2 a).1 = t ∧ (q.1 = 0 ∨ q.1 = 1) then some (.inl (L, sI q.2 a k q.1)) else none
def eSetA (t k : Nat) (o f : EE (Option Nat)) : EE (Option Nat) := fun L h => (o L h).bind fun r => r.1.bind fun a => (f L r.2).bind fun q => if (xT q.2 a).1 = t then some (q.1, sA q.2 a k q.1) else none
def okT : List Nat := [2, 4, 5, 6, 7, 11, 12]
def sAstO {ρ : Type} (o : EE (Option Nat)) (g : EE Int32) (f : EE (Option Nat)) : SS ρ := fun L h => (o L h).bind fun r => r.1.bind fun a => (g L r.2).bind fun i => (f L i.2).bind fun q => q.1.bind fun v => if (xT q.2 a).1 = 105 ∧ ¬ (i.1 < 0 ∨ (xT q.2 a).2 ≤ i.1.toNatClampNeg) ∧ (xT q.2 v).1 ∈ okT then some (.inl (L, sA q.2 a i.1.toNatClampNeg (some v))) else none
def eZ (z : Nat × Nat) : EE (Option Nat) := fun _ h => some (some z.1, h)
def eMi (z : Nat × Nat) : EE (Option Nat) := fun _ h => some (some z.2, h)
theorem sw_ne {x : Int32} (v : Int32) (n : Int) (hv : v.toInt = n) (h : ¬ x = v) : x.toInt ≠ n := fun e => h (Int32.toInt_inj.mp (e.trans hv.symm))
section MO
variable {cc : ByteArray} {y : MethodName} {ret : Option FieldType} {d n9 k pc p1 p2 p3 pt pf idx : Nat} {z9 : Nat × Nat} {α β γ ρ : Type} {inj : ρ → Option Value}
theorem xe_goto {ja : α → Value} {f : EE α} (hf : XE cc y ret d z9 n9 ja k pc p1 f) {off : Int} (hd : decode cc p1 = .ok (.goto off, 3)) (ho : (p1 : Int) + off = (p2 : Int)) : XE cc y ret d z9 n9 ja k pc p2 f :=
  ⟨hf.1, fun X C L h v h' he hB st hst kk => hf.2 X C L h v h' he hB st hst (go_goto C hd ho kk)⟩
theorem xe_if2 {c : EE Bool} {ja : α → Value} {a b : EE α} (hc : XC cc y ret d z9 n9 k pc pt pf c) (ha : XE cc y ret d z9 n9 ja k pt p2 a) (hb : XE cc y ret d z9 n9 ja k pf p2 b) : XE cc y ret d z9 n9 ja k pc p2 (eIf c a b) := by
  refine ⟨fun L h v h' he => ?_, fun X C L h v h' he hB st hst kk => ?_⟩
  · obtain ⟨r, e1, he⟩ := ob he
    split at he
    · exact (hc.1 _ _ _ _ e1).tr (ha.1 _ _ _ _ he)
    · exact (hc.1 _ _ _ _ e1).tr (hb.1 _ _ _ _ he)
  · obtain ⟨⟨r, h1⟩, e1, he⟩ := ob he
    split at he
    · next q =>
      simp only at q
      subst q
      refine hc.2 X C _ _ _ _ e1 ((ha.1 _ _ _ _ he).tr hB) st hst (fun _ => ha.2 X C _ _ _ _ he hB st hst kk) (fun z => by cases z)
    · next q =>
      simp only [Bool.not_eq_true] at q
      subst q
      refine hc.2 X C _ _ _ _ e1 ((hb.1 _ _ _ _ he).tr hB) st hst (fun z => by cases z) (fun _ => hb.2 X C _ _ _ _ he hB st hst kk)
theorem xe_dead {ja : α → Value} : XE cc y ret d z9 n9 ja k pc p1 (eDead (α := α)) := ⟨fun _ _ _ _ he => (by cases he), fun _ _ _ _ _ _ he => (by cases he)⟩
theorem xs_dead : XS cc y ret d z9 n9 inj pc p1 (sDead (ρ := ρ)) := ⟨fun _ _ _ he => (by cases he), fun _ _ _ _ _ he => (by cases he)⟩
theorem xs_sw {f : EE Int32} {g : Int32 → SS ρ} (hf : XE cc y ret d z9 n9 jI 0 pc p1 f) (ht : ∀ x : Int32, ∃ q, XS cc y ret d z9 n9 inj q p2 (g x) ∧ (∀ X, xCx X cc y ret d z9 n9 → ∀ L h, Go X q L [] h → Go X p1 L [.int x] h)) : XS cc y ret d z9 n9 inj pc p2 (sSw f g) := by
  refine ⟨fun L h r he => ?_, fun X C L h r he hB kk => ?_⟩
  · obtain ⟨⟨x, h1⟩, e1, he⟩ := ob he
    obtain ⟨q, hq, -⟩ := ht x
    exact (hf.1 _ _ _ _ e1).tr (hq.1 _ _ _ he)
  · obtain ⟨⟨x, h1⟩, e1, he⟩ := ob he
    obtain ⟨q, hq, hg⟩ := ht x
    exact hf.2 X C _ _ _ _ e1 ((hq.1 _ _ _ he).tr hB) [] (Nat.le_refl _) (hg X C _ _ (hq.2 X C _ _ _ he hB kk))
theorem xs_obj (hd0 : decode cc pc = .ok (.aload_n 0, 1)) (hd : decode cc (pc + 1) = .ok (.invokespecial idx, 3)) (hd1 : 1 ≤ d) (w1 : Cond.methodLink y.cls idx Lib.objectInit ∈ xtb) (w2 : Cond.instanceMethod Lib.objectInit ∈ xtb) (w3 : Cond.code Lib.objectInit ⟨#[0xb1]⟩ 1 none ∈ xtb) : XS cc y ret d z9 n9 inj pc (pc + 4) (sObj (ρ := ρ)) := by
  refine ⟨fun L h r he => ?_, fun X C L h r he hB kk => ?_⟩
  · obtain ⟨⟨x, h1⟩, e1, he⟩ := ob he
    obtain ⟨a, e2, he⟩ := ob he
    cases he
    exact Le.rf _
  · obtain ⟨⟨x, h1⟩, e1, he⟩ := ob he
    obtain ⟨a, e2, he⟩ := ob he
    cases he
    obtain ⟨u, e3, e4⟩ := ob e1
    cases e4
    simp only at e2
    subst e2
    exact go_aload_n C hd0 rfl (gR_eq e3) (go_obj C hd1 w1 w2 w3 (Nat.zero_le _) hd kk)
variable {y2 : MethodName} {cc2 : ByteArray} {nL2 d2 : Nat} {F : List Value → XH → Option (Unit × XH)}
theorem xs_sup (hd0 : decode cc pc = .ok (.aload_n 0, 1)) (hM : MetX z9 y2 cc2 nL2 none (fun _ => none) d2 F) (hdd : d2 + 1 ≤ d) (wb : xCb y2 cc2 nL2 none 0) (wi : y2.name = "<init>") (w1 : Cond.methodLink y.cls idx y2 ∈ xtb) (w2 : Cond.instanceMethod y2 ∈ xtb) (hd : decode cc (pc + 1) = .ok (.invokespecial idx, 3)) : XS cc y ret d z9 n9 inj pc (pc + 4) (sSup F : SS ρ) := by
  refine ⟨fun L h r he => ?_, fun X C L h r he hB kk => ?_⟩
  · obtain ⟨⟨x, h1⟩, e1, he⟩ := ob he
    obtain ⟨a, e2, he⟩ := ob he
    obtain ⟨u, e3, he⟩ := ob he
    cases he
    exact (hM.2 _ _ _ _ e3).1
  · obtain ⟨⟨x, h1⟩, e1, he⟩ := ob he
    obtain ⟨a, e2, he⟩ := ob he
    obtain ⟨u, e3, he⟩ := ob he
    cases he
    obtain ⟨w, e5, e4⟩ := ob e1
    cases e4
    simp only at e2
    subst e2
    exact go_aload_n C hd0 rfl (gR_eq e5) (go_callI C hM hdd wb wi w1 w2 (As := []) e3 rfl (Nat.zero_le _) hB.1 hB.2 hd kk)
theorem xe_st {f : EE (Option Nat)} {g v : EE Int32} (hf : XE cc y ret d z9 n9 jA k pc p1 f) (hd0 : decode cc p1 = .ok (.dup, 1)) (hg : XE cc y ret d z9 n9 jI (k + 2 + 2) (p1 + 1) p2 g) (hv : XE cc y ret d z9 n9 jI (k + 2 + 2 + 2) p2 p3 v) (hd : decode cc p3 = .ok (.iastore, 1)) : XE cc y ret d z9 n9 jA k pc (p3 + 1) (eSt f g v) := by
  refine ⟨fun L h r h' he => ?_, fun X C L h r h' he hB st hst kk => ?_⟩
  · obtain ⟨⟨r1, h1⟩, e1, he⟩ := ob he
    obtain ⟨a, e2, he⟩ := ob he
    obtain ⟨i, e3, he⟩ := ob he
    obtain ⟨q, e4, he⟩ := ob he
    split at he
    · cases he
      have w := (hf.1 _ _ _ _ e1).tr ((hg.1 _ _ _ _ e3).tr (hv.1 _ _ _ _ e4))
      exact w
    · cases he
  · obtain ⟨⟨r1, h1⟩, e1, he⟩ := ob he
    obtain ⟨a, e2, he⟩ := ob he
    obtain ⟨i, e3, he⟩ := ob he
    obtain ⟨⟨w, h3⟩, e4, he⟩ := ob he
    split at he
    · next ht =>
      cases he
      simp only at e2 e3 e4 ht
      subst e2
      have hB2 : Le h3 (xEnd X).2 := hB
      have hx : xT h3 a = (100, (xT h3 a).2) := by rw [← ht.1]
      exact hf.2 X C _ _ _ _ e1 ((hg.1 _ _ _ _ e3).tr ((hv.1 _ _ _ _ e4).tr hB2)) st hst (go_dup C hd0 rfl (hg.2 X C _ _ _ _ e3 ((hv.1 _ _ _ _ e4).tr hB2) _ (cats_c _ _ _ (cats_c _ _ _ hst)) (hv.2 X C _ _ _ _ e4 hB2 _ (cats_c _ _ _ (cats_c _ _ _ (cats_c _ _ _ hst))) (go_iast C hx ht.2 hd kk))))
    · cases he
theorem xs_putZ {t j : Nat} {o : EE (Option Nat)} {f : EE Int32} (ho : XE cc y ret d z9 n9 jA 0 pc p1 o) (hf : XE cc y ret d z9 n9 jI 2 p1 p2 f) (hl : xLk y idx t j) (hfin : finOK y t j) (hv : xF t j = .boolean) (hd : decode cc p2 = .ok (.putfield idx, 3)) : XS cc y ret d z9 n9 inj pc (p2 + 3) (sPutZ t j o f : SS ρ) := by
  refine ⟨fun L h r he => ?_, fun X C L h r he hB kk => ?_⟩
  · obtain ⟨⟨r1, h1⟩, e1, he⟩ := ob he
    obtain ⟨a, e2, he⟩ := ob he
    obtain ⟨q, e3, he⟩ := ob he
    split at he
    · cases he
      have w := (ho.1 _ _ _ _ e1).tr (hf.1 _ _ _ _ e3)
      exact w
    · cases he
  · obtain ⟨⟨r1, h1⟩, e1, he⟩ := ob he
    obtain ⟨a, e2, he⟩ := ob he
    obtain ⟨⟨v, h2⟩, e3, he⟩ := ob he
    split at he
    · next ht =>
      cases he
      simp only at e2 e3 ht
      subst e2
      have hB2 : Le h2 (xEnd X).2 := hB
      exact ho.2 X C _ _ _ _ e1 ((hf.1 _ _ _ _ e3).tr hB2) [] (Nat.le_refl _) (hf.2 X C _ _ _ _ e3 hB2 _ (cats_c _ [] 0 (Nat.le_refl _)) (go_putf C hl ht.1 hfin (xPut.I (by rw [hv]; exact fun _ _ _ => rfl)) (by rw [hv]; rcases ht.2 with z | z <;> subst z <;> rfl) (by rw [hv]; rcases ht.2 with z | z <;> subst z <;> rfl) hd kk))
    · cases he
theorem xe_setA {t j : Nat} {o f : EE (Option Nat)} (ho : XE cc y ret d z9 n9 jA k pc p1 o) (hf : XE cc y ret d z9 n9 jA (k + 2) p1 p2 f) (hd0 : decode cc p2 = .ok (.dup_x1, 1)) (hl : xLk y idx t j) (hfin : finOK y t j) (hp : putOK sA jA t j) (hd : decode cc (p2 + 1) = .ok (.putfield idx, 3)) : XE cc y ret d z9 n9 jA k pc (p2 + 4) (eSetA t j o f) := by
  refine ⟨fun L h r h' he => ?_, fun X C L h r h' he hB st hst kk => ?_⟩
  · obtain ⟨⟨r1, h1⟩, e1, he⟩ := ob he
    obtain ⟨a, e2, he⟩ := ob he
    obtain ⟨q, e3, he⟩ := ob he
    split at he
    · cases he
      have w := (ho.1 _ _ _ _ e1).tr (hf.1 _ _ _ _ e3)
      exact w
    · cases he
  · obtain ⟨⟨r1, h1⟩, e1, he⟩ := ob he
    obtain ⟨a, e2, he⟩ := ob he
    obtain ⟨⟨v, h2⟩, e3, he⟩ := ob he
    split at he
    · next ht =>
      cases he
      simp only at e2 e3 ht
      subst e2
      have hB2 : Le h2 (xEnd X).2 := hB
      exact ho.2 X C _ _ _ _ e1 ((hf.1 _ _ _ _ e3).tr hB2) st hst (hf.2 X C _ _ _ _ e3 hB2 _ (cats_c _ _ _ hst) (go_dup_x1 C hd0 (rf_cat _) (rf_cat _) (go_putf C hl ht hfin (hp.1 _ _ _) (hp.2.2 _).1 (hp.2.2 _).2 hd kk)))
    · cases he
theorem okT_ok : ∀ t ∈ okT, xCok t ∧ Cond.castable (xC t).1 "java/lang/Object" ∈ xrs := by
  intro t ht
  simp only [okT, List.mem_cons, List.not_mem_nil, or_false] at ht
  rcases ht with rfl | rfl | rfl | rfl | rfl | rfl | rfl
  · exact ⟨xc2, by decide +kernel⟩
  · exact ⟨xc4, by decide +kernel⟩
  · exact ⟨xc5, by decide +kernel⟩
  · exact ⟨xc6, by decide +kernel⟩
  · exact ⟨xc7, by decide +kernel⟩
  · exact ⟨xc11, by decide +kernel⟩
  · exact ⟨xc12, by decide +kernel⟩
theorem xs_aastO {o : EE (Option Nat)} {g : EE Int32} {f : EE (Option Nat)} (ho : XE cc y ret d z9 n9 jA 0 pc p1 o) (hg : XE cc y ret d z9 n9 jI 2 p1 p2 g) (hf : XE cc y ret d z9 n9 jA 4 p2 p3 f) (hd : decode cc p3 = .ok (.aastore, 1)) : XS cc y ret d z9 n9 inj pc (p3 + 1) (sAstO o g f : SS ρ) := by
  refine ⟨fun L h r he => ?_, fun X C L h r he hB kk => ?_⟩
  · obtain ⟨⟨r1, h1⟩, e1, he⟩ := ob he
    obtain ⟨a, e2, he⟩ := ob he
    obtain ⟨i, e3, he⟩ := ob he
    obtain ⟨⟨q, h3⟩, e4, he⟩ := ob he
    obtain ⟨v, e5, he⟩ := ob he
    split at he
    · cases he
      have w := (ho.1 _ _ _ _ e1).tr ((hg.1 _ _ _ _ e3).tr (hf.1 _ _ _ _ e4))
      exact w
    · cases he
  · obtain ⟨⟨r1, h1⟩, e1, he⟩ := ob he
    obtain ⟨a, e2, he⟩ := ob he
    obtain ⟨i, e3, he⟩ := ob he
    obtain ⟨⟨q, h3⟩, e4, he⟩ := ob he
    obtain ⟨v, e5, he⟩ := ob he
    split at he
    · next ht =>
      cases he
      simp only at e2 e3 e4 e5 ht
      subst e2; subst e5
      have hB2 : Le h3 (xEnd X).2 := hB
      have hx : xT h3 a = (105, (xT h3 a).2) := by rw [← ht.1]
      obtain ⟨c1, c2⟩ := okT_ok _ ht.2.2
      exact ho.2 X C _ _ _ _ e1 ((hg.1 _ _ _ _ e3).tr ((hf.1 _ _ _ _ e4).tr hB2)) [] (Nat.le_refl _) (hg.2 X C _ _ _ _ e3 ((hf.1 _ _ _ _ e4).tr hB2) _ (cats_c _ [] 0 (Nat.le_refl _)) (hf.2 X C _ _ _ _ e4 hB2 _ (cats_c _ _ 2 (cats_c _ [] 0 (Nat.le_refl _))) (go_aast C hx c1 rfl (Or.inr ⟨rfl, c2⟩) ht.2.1 hd kk)))
    · cases he
theorem xe_Z (hd : decode cc pc = .ok (.getstatic idx, 3)) (hw : Cond.fieldLink y.cls idx "java/util/ArrayList" "DEFAULTCAPACITY_EMPTY_ELEMENTDATA" "[Ljava/lang/Object;" ∈ xtb) : XE cc y ret d z9 n9 jA k pc (pc + 3) (eZ z9) := by
  refine ⟨fun L h v h' hf => ?_, fun X C L h v h' hf _ st _ kk => ?_⟩
  · cases hf; exact Le.rf _
  · cases hf; exact go_getZ C hw hd kk
end MO
def cpOK (h : XH) (t a b : Nat) (sp dp n : Int32) : Prop := (xT h a).1 = t ∧ (xT h b).1 = t ∧ ¬ sp < 0 ∧ ¬ dp < 0 ∧ ¬ n < 0 ∧ sp.toNatClampNeg + n.toNatClampNeg ≤ (xT h a).2 ∧ dp.toNatClampNeg + n.toNatClampNeg ≤ (xT h b).2
def sCpy {ρ : Type} (t : Nat) (cp : XH → Nat → Nat → Nat → Nat → Nat → XH) (o1 : EE (Option Nat)) (g1 : EE Int32) (o2 : EE (Option Nat)) (g2 g3 : EE Int32) : SS ρ := fun L h => (o1 L h).bind fun r1 => r1.1.bind fun a => (g1 L r1.2).bind fun i => (o2 L i.2).bind fun r2 => r2.1.bind fun b => (g2 L r2.2).bind fun j => (g3 L j.2).bind fun n =>
  if (xT n.2 a).1 = t ∧ (xT n.2 b).1 = t ∧ ¬ i.1 < 0 ∧ ¬ j.1 < 0 ∧ ¬ n.1 < 0 ∧ i.1.toNatClampNeg + n.1.toNatClampNeg ≤ (xT n.2 a).2 ∧ j.1.toNatClampNeg + n.1.toNatClampNeg ≤ (xT n.2 b).2 then some (.inl (L, cp n.2 a i.1.toNatClampNeg b j.1.toNatClampNeg n.1.toNatClampNeg)) else none
def sCpI {ρ : Type} (o1 : EE (Option Nat)) (g1 : EE Int32) (o2 : EE (Option Nat)) (g2 g3 : EE Int32) : SS ρ := sCpy 100 xCpI o1 g1 o2 g2 g3
def okE (h : XH) (r : Option Nat) : Bool := match r with
  | none => true
  | some v => decide ((xT h v).1 ∈ okT)
def sCpA {ρ : Type} (o1 : EE (Option Nat)) (g1 : EE Int32) (o2 : EE (Option Nat)) (g2 g3 : EE Int32) : SS ρ := fun L h => (o1 L h).bind fun r1 => r1.1.bind fun a => (g1 L r1.2).bind fun i => (o2 L i.2).bind fun r2 => r2.1.bind fun b => (g2 L r2.2).bind fun j => (g3 L j.2).bind fun n =>
  if ((xT n.2 a).1 = 105 ∧ (xT n.2 b).1 = 105 ∧ ¬ i.1 < 0 ∧ ¬ j.1 < 0 ∧ ¬ n.1 < 0 ∧ i.1.toNatClampNeg + n.1.toNatClampNeg ≤ (xT n.2 a).2 ∧ j.1.toNatClampNeg + n.1.toNatClampNeg ≤ (xT n.2 b).2) ∧ (∀ k, k < n.1.toNatClampNeg → okE n.2 (xA n.2 a (i.1.toNatClampNeg + k)) = true) then some (.inl (L, xCpA n.2 a i.1.toNatClampNeg b j.1.toNatClampNeg n.1.toNatClampNeg)) else none
def eCls (z : Nat × Nat) (f : EE (Option Nat)) : EE (Option Nat) := fun L h => (f L h).bind fun r => r.1.bind fun a => if (xT r.2 a).1 = 105 then some (some z.2, r.2) else none
/-- n rows of m ints, and the row of them -/
def xNew2 (h : XH) (n m : Nat) : XH := (fun b k => if xN h ≤ b then 0 else xI h b k, fun b k => if xN h ≤ b then 0 else xJ h b k, fun b k => if b = xN h then (if k < n then some (xN h + 1 + k) else none) else if xN h ≤ b then none else xA h b k,
  fun b => if b = xN h then (106, n) else if xN h < b ∧ b ≤ xN h + n then (100, m) else xT h b, xN h + 1 + n, xS h + n + n * m)
def eNew2 (f g : EE Int32) : EE (Option Nat) := fun L h => (f L h).bind fun r => (g L r.2).bind fun q => if ¬ r.1 < 0 ∧ ¬ q.1 < 0 ∧ r.1.toNatClampNeg ≤ 100 ∧ q.1.toNatClampNeg ≤ 100 then some (some (xN q.2), xNew2 q.2 r.1.toNatClampNeg q.1.toNatClampNeg) else none
