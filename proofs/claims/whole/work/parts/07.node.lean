abbrev EE (α : Type) : Type := List Value → XH → Option (α × XH)
abbrev SR (ρ : Type) : Type := (List Value × XH) ⊕ (ρ × XH)
abbrev SS (ρ : Type) : Type := List Value → XH → Option (SR ρ)
def Le (h h' : XH) : Prop := xN h ≤ xN h' ∧ xS h ≤ xS h'
theorem Le.rf (h : XH) : Le h h := ⟨Nat.le_refl _, Nat.le_refl _⟩
theorem Le.tr {a b c : XH} (h1 : Le a b) (h2 : Le b c) : Le a c := ⟨Nat.le_trans h1.1 h2.1, Nat.le_trans h1.2 h2.2⟩
theorem cats_c (v : Value) (st : List Value) (k : Nat) (h : cats st ≤ k) : cats (v :: st) ≤ k + 2 := by
  have : v.category = 1 ∨ v.category = 2 := lv_cat v
  unfold cats at h ⊢
  simp only [List.map_cons, List.sum_cons]
  omega
abbrev jI : Int32 → Value := .int
abbrev jJ : Int64 → Value := .long
abbrev jA : Option Nat → Value := va_rf
def SRh {ρ : Type} (r : SR ρ) : XH := match r with
  | .inl q => q.2
  | .inr q => q.2
def SRgo {ρ : Type} (inj : ρ → Option Value) (X : XX) (pc : Nat) (r : SR ρ) : Prop := match r with
  | .inl q => Go X pc q.1 [] q.2
  | .inr q => xEnd X = (inj q.1, q.2)
def XE (cc : ByteArray) (y : MethodName) (ret : Option FieldType) (d : Nat) (z9 : Nat × Nat) (n9 : Nat) {α : Type} (inj : α → Value) (k pc pc' : Nat) (f : EE α) : Prop :=
  (∀ L h v h', f L h = some (v, h') → Le h h') ∧ ∀ X, xCx X cc y ret d z9 n9 → ∀ L h v h', f L h = some (v, h') → Le h' (xEnd X).2 → ∀ st, cats st ≤ k → Go X pc' L (inj v :: st) h' → Go X pc L st h
def XC (cc : ByteArray) (y : MethodName) (ret : Option FieldType) (d : Nat) (z9 : Nat × Nat) (n9 : Nat) (k pc pt pf : Nat) (f : EE Bool) : Prop :=
  (∀ L h v h', f L h = some (v, h') → Le h h') ∧ ∀ X, xCx X cc y ret d z9 n9 → ∀ L h v h', f L h = some (v, h') → Le h' (xEnd X).2 → ∀ st, cats st ≤ k → (v = true → Go X pt L st h') → (v = false → Go X pf L st h') → Go X pc L st h
def XS (cc : ByteArray) (y : MethodName) (ret : Option FieldType) (d : Nat) (z9 : Nat × Nat) (n9 : Nat) {ρ : Type} (inj : ρ → Option Value) (pc pc' : Nat) (f : SS ρ) : Prop :=
  (∀ L h r, f L h = some r → Le h (SRh r)) ∧ ∀ X, xCx X cc y ret d z9 n9 → ∀ L h r, f L h = some r → Le (SRh r) (xEnd X).2 → SRgo inj X pc' r → Go X pc L [] h
/-- arguments, in order -/
def XA (cc : ByteArray) (y : MethodName) (ret : Option FieldType) (d : Nat) (z9 : Nat × Nat) (n9 : Nat) (k pc pc' : Nat) (f : EE (List Value)) : Prop :=
  (∀ L h v h', f L h = some (v, h') → Le h h') ∧ ∀ X, xCx X cc y ret d z9 n9 → ∀ L h v h', f L h = some (v, h') → Le h' (xEnd X).2 → ∀ st, cats st ≤ k → Go X pc' L (v.reverse ++ st) h' → Go X pc L st h
theorem ob {α β : Type} {x : Option α} {f : α → Option β} {b : β} (h : x.bind f = some b) : ∃ a, x = some a ∧ f a = some b := Option.bind_eq_some_iff.mp h
-- expressions
def eI (n : Int32) : EE Int32 := fun _ h => some (n, h)
def eJ (n : Int64) : EE Int64 := fun _ h => some (n, h)
def eN : EE (Option Nat) := fun _ h => some (none, h)
def gI (v : Option Value) : Option Int32 := match v with
  | some (.int x) => some x
  | _ => none
def gJ (v : Option Value) : Option Int64 := match v with
  | some (.long x) => some x
  | _ => none
def gR (v : Option Value) : Option (Option Nat) := match v with
  | some (.ref a) => some (some a)
  | some .null => some none
  | _ => none
def eLI (k : Nat) : EE Int32 := fun L h => (gI L[k]?).bind fun x => some (x, h)
def eLJ (k : Nat) : EE Int64 := fun L h => (gJ L[k]?).bind fun x => some (x, h)
def eLA (k : Nat) : EE (Option Nat) := fun L h => (gR L[k]?).bind fun x => some (x, h)
def eT {α β γ : Type} (op : α → β → γ) (f : EE α) (g : EE β) : EE γ := fun L h => (f L h).bind fun r => (g L r.2).bind fun q => some (op r.1 q.1, q.2)
def eP {α β γ : Type} (op : α → β → Option γ) (f : EE α) (g : EE β) : EE γ := fun L h => (f L h).bind fun r => (g L r.2).bind fun q => (op r.1 q.1).bind fun v => some (v, q.2)
def eU {α β : Type} (op : α → β) (f : EE α) : EE β := fun L h => (f L h).bind fun r => some (op r.1, r.2)
def oDiv (x z : Int32) : Option Int32 := if z = 0 then none else some (x / z)
def oRem (x z : Int32) : Option Int32 := if z = 0 then none else some (x - x / z * z)
def oDivJ (x z : Int64) : Option Int64 := if z = 0 then none else some (x / z)
def oRemJ (x z : Int64) : Option Int64 := if z = 0 then none else some (x - x / z * z)
def eGet {α : Type} (pl : XH → Nat → Nat → α) (t k : Nat) (f : EE (Option Nat)) : EE α := fun L h => (f L h).bind fun r => r.1.bind fun a => if (xT r.2 a).1 = t then some (pl r.2 a k, r.2) else none
def ixOK (h : XH) (t a : Nat) (i : Int32) : Prop := (xT h a).1 = t ∧ ¬ (i < 0 ∨ (xT h a).2 ≤ i.toNatClampNeg)
def eAld {α : Type} (pl : XH → Nat → Nat → α) (t : Nat) (f : EE (Option Nat)) (g : EE Int32) : EE α := fun L h => (f L h).bind fun r => r.1.bind fun a => (g L r.2).bind fun q => if (xT q.2 a).1 = t ∧ ¬ (q.1 < 0 ∨ (xT q.2 a).2 ≤ q.1.toNatClampNeg) then some (pl q.2 a q.1.toNatClampNeg, q.2) else none
def eLen (f : EE (Option Nat)) : EE Int32 := fun L h => (f L h).bind fun r => r.1.bind fun a => if 100 ≤ (xT r.2 a).1 then some (Int32.ofNat (xT r.2 a).2, r.2) else none
def eIf {α : Type} (c : EE Bool) (a b : EE α) : EE α := fun L h => (c L h).bind fun r => if r.1 = true then a L r.2 else b L r.2
def eCast (t : Nat) (f : EE (Option Nat)) : EE (Option Nat) := fun L h => (f L h).bind fun r => r.1.bind fun a => if (xT r.2 a).1 = t then some (some a, r.2) else none
def aN : EE (List Value) := fun _ h => some ([], h)
def aC {α : Type} (inj : α → Value) (f : EE α) (g : EE (List Value)) : EE (List Value) := fun L h => (f L h).bind fun r => (g L r.2).bind fun q => some (inj r.1 :: q.1, q.2)
def eCallS {ρ : Type} (F : List Value → XH → Option (ρ × XH)) (as : EE (List Value)) : EE ρ := fun L h => (as L h).bind fun r => F r.1 r.2
def eCallV {ρ : Type} (t : Nat) (F : List Value → XH → Option (ρ × XH)) (f : EE (Option Nat)) (as : EE (List Value)) : EE ρ := fun L h => (f L h).bind fun r => r.1.bind fun a => (as L r.2).bind fun q => if (xT q.2 a).1 = t then F (.ref a :: q.1) q.2 else none
def eNew (t n : Nat) (F : List Value → XH → Option (Unit × XH)) (as : EE (List Value)) : EE (Option Nat) := fun L h => (as L (xNew h t n)).bind fun q => (F (.ref (xN h) :: q.1) q.2).bind fun u => some (some (xN h), u.2)
def eNewA (t : Nat) (f : EE Int32) : EE (Option Nat) := fun L h => (f L h).bind fun r => if ¬ (r.1 < 0) ∧ r.1.toNatClampNeg ≤ 65536 then some (some (xN r.2), xNew r.2 t r.1.toNatClampNeg) else none
-- conditions
def qEq (x z : Int32) : Bool := decide (x = z)
def qNe (x z : Int32) : Bool := decide (¬ x = z)
def qLt (x z : Int32) : Bool := decide (x < z)
def qGe (x z : Int32) : Bool := decide (z ≤ x)
def qGt (x z : Int32) : Bool := decide (z < x)
def qLe (x z : Int32) : Bool := decide (x ≤ z)
def rEq (x z : Int64) : Bool := decide (lg_cmp x z = 0)
def rNe (x z : Int64) : Bool := decide (¬ lg_cmp x z = 0)
def rLt (x z : Int64) : Bool := decide (lg_cmp x z < 0)
def rGe (x z : Int64) : Bool := decide (0 ≤ lg_cmp x z)
def rGt (x z : Int64) : Bool := decide (0 < lg_cmp x z)
def rLe (x z : Int64) : Bool := decide (lg_cmp x z ≤ 0)
def cZ (f : EE Int32) : EE Bool := eU (fun x => decide (¬ x = 0)) f
def cNul (f : EE (Option Nat)) : EE Bool := eU (fun r => decide (r = none)) f
def cNN (f : EE (Option Nat)) : EE Bool := eU (fun r => decide (¬ r = none)) f
def cAeq (f g : EE (Option Nat)) : EE Bool := eT (fun a b => decide (a = b)) f g
def cAne (f g : EE (Option Nat)) : EE Bool := eT (fun a b => decide (¬ a = b)) f g
def cNot (c : EE Bool) : EE Bool := eU (fun b => !b) c
def cAnd (a b : EE Bool) : EE Bool := eIf a b (fun _ h => some (false, h))
def cOr (a b : EE Bool) : EE Bool := eIf a (fun _ h => some (true, h)) b
-- statements
def sNil {ρ : Type} : SS ρ := fun L h => some (.inl (L, h))
def sSeq {ρ : Type} (a b : SS ρ) : SS ρ := fun L h => (a L h).bind fun r => match r with
  | .inl q => b q.1 q.2
  | .inr q => some (.inr q)
def sSetI {ρ : Type} (k : Nat) (f : EE Int32) : SS ρ := fun L h => (f L h).bind fun r => some (.inl (stL L k (.int r.1), r.2))
def sSetJ {ρ : Type} (k : Nat) (f : EE Int64) : SS ρ := fun L h => (f L h).bind fun r => some (.inl (stL2 L k (.long r.1), r.2))
def sSetA {ρ : Type} (k : Nat) (f : EE (Option Nat)) : SS ρ := fun L h => (f L h).bind fun r => some (.inl (stL L k (va_rf r.1), r.2))
def sInc {ρ : Type} (k : Nat) (v : Int32) : SS ρ := fun L h => (gI L[k]?).bind fun x => some (.inl (stL L k (.int (x + v)), h))
def sPut {ρ α : Type} (set : XH → Nat → Nat → α → XH) (t k : Nat) (o : EE (Option Nat)) (f : EE α) : SS ρ := fun L h => (o L h).bind fun r => r.1.bind fun a => (f L r.2).bind fun q => if (xT q.2 a).1 = t then some (.inl (L, set q.2 a k q.1)) else none
/-- o.k = o.k op f -/
def sPutC {ρ α β : Type} (pl : XH → Nat → Nat → α) (set : XH → Nat → Nat → α → XH) (op : α → β → α) (t k : Nat) (o : EE (Option Nat)) (f : EE β) : SS ρ := fun L h => (o L h).bind fun r => r.1.bind fun a => if (xT r.2 a).1 = t then (f L r.2).bind fun q => if (xT q.2 a).1 = t then some (.inl (L, set q.2 a k (op (pl r.2 a k) q.1))) else none else none
def sAst {ρ α : Type} (set : XH → Nat → Nat → α → XH) (t : Nat) (o : EE (Option Nat)) (g : EE Int32) (f : EE α) : SS ρ := fun L h => (o L h).bind fun r => r.1.bind fun a => (g L r.2).bind fun i => (f L i.2).bind fun q => if (xT q.2 a).1 = t ∧ ¬ (i.1 < 0 ∨ (xT q.2 a).2 ≤ i.1.toNatClampNeg) then some (.inl (L, set q.2 a i.1.toNatClampNeg q.1)) else none
/-- o[i] = o[i] op f -/
def sAstC {ρ : Type} (op : Int32 → Int32 → Int32) (o : EE (Option Nat)) (g f : EE Int32) : SS ρ := fun L h => (o L h).bind fun r => r.1.bind fun a => (g L r.2).bind fun i => if (xT i.2 a).1 = 100 ∧ ¬ (i.1 < 0 ∨ (xT i.2 a).2 ≤ i.1.toNatClampNeg) then (f L i.2).bind fun q => if (xT q.2 a).1 = 100 ∧ ¬ (i.1 < 0 ∨ (xT q.2 a).2 ≤ i.1.toNatClampNeg) then some (.inl (L, sI q.2 a i.1.toNatClampNeg (op (xI i.2 a i.1.toNatClampNeg) q.1))) else none else none
def sB (h : XH) (a k : Nat) (x : Int32) : XH := sI h a k x.toInt8.toInt32
def sAstZ {ρ : Type} (o : EE (Option Nat)) (g f : EE Int32) : SS ρ := fun L h => (o L h).bind fun r => r.1.bind fun a => (g L r.2).bind fun i => (f L i.2).bind fun q => if (xT q.2 a).1 = 102 ∧ ¬ (i.1 < 0 ∨ (xT q.2 a).2 ≤ i.1.toNatClampNeg) ∧ (q.1 = 0 ∨ q.1 = 1) then some (.inl (L, sI q.2 a i.1.toNatClampNeg q.1)) else none
def sAstA {ρ : Type} (t tv : Nat) (o : EE (Option Nat)) (g : EE Int32) (f : EE (Option Nat)) : SS ρ := fun L h => (o L h).bind fun r => r.1.bind fun a => (g L r.2).bind fun i => (f L i.2).bind fun q => q.1.bind fun v => if (xT q.2 a).1 = t ∧ ¬ (i.1 < 0 ∨ (xT q.2 a).2 ≤ i.1.toNatClampNeg) ∧ (xT q.2 v).1 = tv then some (.inl (L, sA q.2 a i.1.toNatClampNeg (some v))) else none
def sX {ρ α : Type} (f : EE α) : SS ρ := fun L h => (f L h).bind fun r => some (.inl (L, r.2))
def sIf {ρ : Type} (c : EE Bool) (a b : SS ρ) : SS ρ := fun L h => (c L h).bind fun r => if r.1 = true then a L r.2 else b L r.2
def sLoop {ρ : Type} (c : EE Bool) (b : SS ρ) : Nat → SS ρ
  | 0 => fun _ _ => none
  | n + 1 => fun L h => (c L h).bind fun r => if r.1 = true then (b L r.2).bind fun q => (match q with
    | .inl q => sLoop c b n q.1 q.2
    | .inr q => some (.inr q)) else some (.inl (L, r.2))
def sRet {ρ : Type} (f : EE ρ) : SS ρ := fun L h => (f L h).bind fun r => some (.inr r)
def sRetZ (f : EE Int32) : SS Int32 := fun L h => (f L h).bind fun r => if r.1 = 0 ∨ r.1 = 1 then some (.inr r) else none
def sRetV : SS Unit := fun _ h => some (.inr ((), h))
/-- a method: its arguments laid among the locals, the body; the answer -/
def mB {ρ : Type} (n9 : Nat) (pads : List Value) (s : SS ρ) : List Value → XH → Option (ρ × XH) := fun as h => if (lay as).length + pads.length = n9 then (s (lay as ++ pads) h).bind fun r => (match r with
  | .inr q => some q
  | .inl _ => none) else none
section ND
variable {cc : ByteArray} {y : MethodName} {ret : Option FieldType} {d n9 k pc p1 p2 p3 pt pf : Nat} {z9 : Nat × Nat} {α β γ ρ : Type}
theorem xe_iconst {n : Int} {v : Int32} (hd : decode cc pc = .ok (.iconst n, 1)) (hv : Int32.ofInt n = v) : XE cc y ret d z9 n9 jI k pc (pc + 1) (eI v) := by
  refine ⟨fun L h v h' hf => ?_, fun X C L h v h' hf _ st _ kk => ?_⟩
  · cases hf; exact Le.rf _
  · cases hf; exact go_iconst C hd hv kk
theorem xe_bipush {n : Int} {v : Int32} (hd : decode cc pc = .ok (.bipush n, 2)) (hv : (Int8.ofInt n).toInt32 = v) : XE cc y ret d z9 n9 jI k pc (pc + 2) (eI v) := by
  refine ⟨fun L h v h' hf => ?_, fun X C L h v h' hf _ st _ kk => ?_⟩
  · cases hf; exact Le.rf _
  · cases hf; exact go_bipush C hd hv kk
theorem xe_sipush {n : Int} {v : Int32} (hd : decode cc pc = .ok (.sipush n, 3)) (hv : (Int16.ofInt n).toInt32 = v) : XE cc y ret d z9 n9 jI k pc (pc + 3) (eI v) := by
  refine ⟨fun L h v h' hf => ?_, fun X C L h v h' hf _ st _ kk => ?_⟩
  · cases hf; exact Le.rf _
  · cases hf; exact go_sipush C hd hv kk
theorem xe_ldc {idx : Nat} {v : Int32} (hd : decode cc pc = .ok (.ldc idx, 2)) (hw : Cond.constant y.cls idx v ∈ xtb) : XE cc y ret d z9 n9 jI k pc (pc + 2) (eI v) := by
  refine ⟨fun L h v h' hf => ?_, fun X C L h v h' hf _ st _ kk => ?_⟩
  · cases hf; exact Le.rf _
  · cases hf; exact go_ldc C hd hw kk
theorem xe_ldcw {idx : Nat} {v : Int32} (hd : decode cc pc = .ok (.ldc_w idx, 3)) (hw : Cond.constant y.cls idx v ∈ xtb) : XE cc y ret d z9 n9 jI k pc (pc + 3) (eI v) := by
  refine ⟨fun L h v h' hf => ?_, fun X C L h v h' hf _ st _ kk => ?_⟩
  · cases hf; exact Le.rf _
  · cases hf; exact go_ldcw C hd hw kk
theorem xe_lconst {n : Fin 2} {v : Int64} (hd : decode cc pc = .ok (.lconst n, 1)) (hv : Int64.ofNat (n : Nat) = v) : XE cc y ret d z9 n9 jJ k pc (pc + 1) (eJ v) := by
  refine ⟨fun L h v h' hf => ?_, fun X C L h v h' hf _ st _ kk => ?_⟩
  · cases hf; exact Le.rf _
  · cases hf; exact go_lconst C hd hv kk
theorem xe_ldc2 {idx : Nat} {v : Int64} (hd : decode cc pc = .ok (.ldc2_w idx, 3)) (hw : Cond.constantLong y.cls idx v ∈ xtb) : XE cc y ret d z9 n9 jJ k pc (pc + 3) (eJ v) := by
  refine ⟨fun L h v h' hf => ?_, fun X C L h v h' hf _ st _ kk => ?_⟩
  · cases hf; exact Le.rf _
  · cases hf; exact go_ldc2 C hd hw kk
theorem xe_null (hd : decode cc pc = .ok (.aconst_null, 1)) : XE cc y ret d z9 n9 jA k pc (pc + 1) (eN) := by
  refine ⟨fun L h v h' hf => ?_, fun X C L h v h' hf _ st _ kk => ?_⟩
  · cases hf; exact Le.rf _
  · cases hf; exact go_null C hd kk
theorem gI_eq {v : Option Value} {x : Int32} (h : gI v = some x) : v = some (.int x) := by
  unfold gI at h
  split at h <;> simp_all
theorem gJ_eq {v : Option Value} {x : Int64} (h : gJ v = some x) : v = some (.long x) := by
  unfold gJ at h
  split at h <;> simp_all
theorem gR_eq {v : Option Value} {x : Option Nat} (h : gR v = some x) : v = some (va_rf x) := by
  unfold gR at h
  split at h
  · cases h; rfl
  · cases h; rfl
  · cases h
theorem xe_iload_n {k0 : Fin 4} {i : Nat} (hd : decode cc pc = .ok (.iload_n k0, 1)) (hi : (k0 : Nat) = i) : XE cc y ret d z9 n9 jI k pc (pc + 1) (eLI i) := by
  refine ⟨fun L h v h' hf => ?_, fun X C L h v h' hf _ st _ kk => ?_⟩
  · obtain ⟨x, -, hf⟩ := ob hf; cases hf; exact Le.rf _
  · obtain ⟨x, hx, hf⟩ := ob hf; cases hf; exact go_iload_n C hd hi (gI_eq hx) kk
theorem xe_iload {i : Nat} (hd : decode cc pc = .ok (.iload i, 2)) : XE cc y ret d z9 n9 jI k pc (pc + 2) (eLI i) := by
  refine ⟨fun L h v h' hf => ?_, fun X C L h v h' hf _ st _ kk => ?_⟩
  · obtain ⟨x, -, hf⟩ := ob hf; cases hf; exact Le.rf _
  · obtain ⟨x, hx, hf⟩ := ob hf; cases hf; exact go_iload C hd (gI_eq hx) kk
theorem xe_lload_n {k0 : Fin 4} {i : Nat} (hd : decode cc pc = .ok (.lload_n k0, 1)) (hi : (k0 : Nat) = i) : XE cc y ret d z9 n9 jJ k pc (pc + 1) (eLJ i) := by
  refine ⟨fun L h v h' hf => ?_, fun X C L h v h' hf _ st _ kk => ?_⟩
  · obtain ⟨x, -, hf⟩ := ob hf; cases hf; exact Le.rf _
  · obtain ⟨x, hx, hf⟩ := ob hf; cases hf; exact go_lload_n C hd hi (gJ_eq hx) kk
theorem xe_lload {i : Nat} (hd : decode cc pc = .ok (.lload i, 2)) : XE cc y ret d z9 n9 jJ k pc (pc + 2) (eLJ i) := by
  refine ⟨fun L h v h' hf => ?_, fun X C L h v h' hf _ st _ kk => ?_⟩
  · obtain ⟨x, -, hf⟩ := ob hf; cases hf; exact Le.rf _
  · obtain ⟨x, hx, hf⟩ := ob hf; cases hf; exact go_lload C hd (gJ_eq hx) kk
theorem xe_aload_n {k0 : Fin 4} {i : Nat} (hd : decode cc pc = .ok (.aload_n k0, 1)) (hi : (k0 : Nat) = i) : XE cc y ret d z9 n9 jA k pc (pc + 1) (eLA i) := by
  refine ⟨fun L h v h' hf => ?_, fun X C L h v h' hf _ st _ kk => ?_⟩
  · obtain ⟨x, -, hf⟩ := ob hf; cases hf; exact Le.rf _
  · obtain ⟨x, hx, hf⟩ := ob hf; cases hf; exact go_aload_n C hd hi (gR_eq hx) kk
theorem xe_aload {i : Nat} (hd : decode cc pc = .ok (.aload i, 2)) : XE cc y ret d z9 n9 jA k pc (pc + 2) (eLA i) := by
  refine ⟨fun L h v h' hf => ?_, fun X C L h v h' hf _ st _ kk => ?_⟩
  · obtain ⟨x, -, hf⟩ := ob hf; cases hf; exact Le.rf _
  · obtain ⟨x, hx, hf⟩ := ob hf; cases hf; exact go_aload C hd (gR_eq hx) kk
theorem xe_T {op : α → β → γ} {ja : α → Value} {jb : β → Value} {jc : γ → Value} {f : EE α} {g : EE β} (hf : XE cc y ret d z9 n9 ja k pc p1 f) (hg : XE cc y ret d z9 n9 jb (k + 2) p1 p2 g) (ins : ∀ X, xCx X cc y ret d z9 n9 → ∀ L st h x z, Go X p3 L (jc (op x z) :: st) h → Go X p2 L (jb z :: ja x :: st) h) : XE cc y ret d z9 n9 jc k pc p3 (eT op f g) := by
  refine ⟨fun L h v h' he => ?_, fun X C L h v h' he hB st hst kk => ?_⟩
  · obtain ⟨r, e1, he⟩ := ob he
    obtain ⟨q, e2, he⟩ := ob he
    cases he
    exact (hf.1 _ _ _ _ e1).tr (hg.1 _ _ _ _ e2)
  · obtain ⟨r, e1, he⟩ := ob he
    obtain ⟨q, e2, he⟩ := ob he
    cases he
    exact hf.2 X C _ _ _ _ e1 ((hg.1 _ _ _ _ e2).tr hB) st hst (hg.2 X C _ _ _ _ e2 hB _ (cats_c _ _ _ hst) (ins X C _ _ _ _ _ kk))
theorem xe_P {op : α → β → Option γ} {ja : α → Value} {jb : β → Value} {jc : γ → Value} {f : EE α} {g : EE β} (hf : XE cc y ret d z9 n9 ja k pc p1 f) (hg : XE cc y ret d z9 n9 jb (k + 2) p1 p2 g) (ins : ∀ X, xCx X cc y ret d z9 n9 → ∀ L st h x z v, op x z = some v → Go X p3 L (jc v :: st) h → Go X p2 L (jb z :: ja x :: st) h) : XE cc y ret d z9 n9 jc k pc p3 (eP op f g) := by
  refine ⟨fun L h v h' he => ?_, fun X C L h v h' he hB st hst kk => ?_⟩
  · obtain ⟨r, e1, he⟩ := ob he
    obtain ⟨q, e2, he⟩ := ob he
    obtain ⟨w, e3, he⟩ := ob he
    cases he
    exact (hf.1 _ _ _ _ e1).tr (hg.1 _ _ _ _ e2)
  · obtain ⟨r, e1, he⟩ := ob he
    obtain ⟨q, e2, he⟩ := ob he
    obtain ⟨w, e3, he⟩ := ob he
    cases he
    exact hf.2 X C _ _ _ _ e1 ((hg.1 _ _ _ _ e2).tr hB) st hst (hg.2 X C _ _ _ _ e2 hB _ (cats_c _ _ _ hst) (ins X C _ _ _ _ _ _ e3 kk))
theorem xe_U {op : α → β} {ja : α → Value} {jb : β → Value} {f : EE α} (hf : XE cc y ret d z9 n9 ja k pc p1 f) (ins : ∀ X, xCx X cc y ret d z9 n9 → ∀ L st h x, Go X p2 L (jb (op x) :: st) h → Go X p1 L (ja x :: st) h) : XE cc y ret d z9 n9 jb k pc p2 (eU op f) := by
  refine ⟨fun L h v h' he => ?_, fun X C L h v h' he hB st hst kk => ?_⟩
  · obtain ⟨r, e1, he⟩ := ob he
    cases he
    exact hf.1 _ _ _ _ e1
  · obtain ⟨r, e1, he⟩ := ob he
    cases he
    exact hf.2 X C _ _ _ _ e1 hB st hst (ins X C _ _ _ _ kk)
def o_iadd : Int32 → Int32 → Int32 := fun x z => x + z
theorem xe_iadd {f g : EE Int32} (hf : XE cc y ret d z9 n9 jI k pc p1 f) (hg : XE cc y ret d z9 n9 jI (k + 2) p1 p2 g) (hd : decode cc p2 = .ok (.iadd, 1)) : XE cc y ret d z9 n9 jI k pc (p2 + 1) (eT o_iadd f g) := xe_T hf hg (fun _ C _ _ _ _ _ kk => go_iadd C hd kk)
def o_isub : Int32 → Int32 → Int32 := fun x z => x - z
theorem xe_isub {f g : EE Int32} (hf : XE cc y ret d z9 n9 jI k pc p1 f) (hg : XE cc y ret d z9 n9 jI (k + 2) p1 p2 g) (hd : decode cc p2 = .ok (.isub, 1)) : XE cc y ret d z9 n9 jI k pc (p2 + 1) (eT o_isub f g) := xe_T hf hg (fun _ C _ _ _ _ _ kk => go_isub C hd kk)
def o_imul : Int32 → Int32 → Int32 := fun x z => x * z
theorem xe_imul {f g : EE Int32} (hf : XE cc y ret d z9 n9 jI k pc p1 f) (hg : XE cc y ret d z9 n9 jI (k + 2) p1 p2 g) (hd : decode cc p2 = .ok (.imul, 1)) : XE cc y ret d z9 n9 jI k pc (p2 + 1) (eT o_imul f g) := xe_T hf hg (fun _ C _ _ _ _ _ kk => go_imul C hd kk)
def o_iand : Int32 → Int32 → Int32 := fun x z => x &&& z
theorem xe_iand {f g : EE Int32} (hf : XE cc y ret d z9 n9 jI k pc p1 f) (hg : XE cc y ret d z9 n9 jI (k + 2) p1 p2 g) (hd : decode cc p2 = .ok (.iand, 1)) : XE cc y ret d z9 n9 jI k pc (p2 + 1) (eT o_iand f g) := xe_T hf hg (fun _ C _ _ _ _ _ kk => go_iand C hd kk)
def o_ior : Int32 → Int32 → Int32 := fun x z => x ||| z
theorem xe_ior {f g : EE Int32} (hf : XE cc y ret d z9 n9 jI k pc p1 f) (hg : XE cc y ret d z9 n9 jI (k + 2) p1 p2 g) (hd : decode cc p2 = .ok (.ior, 1)) : XE cc y ret d z9 n9 jI k pc (p2 + 1) (eT o_ior f g) := xe_T hf hg (fun _ C _ _ _ _ _ kk => go_ior C hd kk)
def o_ishl : Int32 → Int32 → Int32 := fun x z => x <<< (z &&& 31)
theorem xe_ishl {f g : EE Int32} (hf : XE cc y ret d z9 n9 jI k pc p1 f) (hg : XE cc y ret d z9 n9 jI (k + 2) p1 p2 g) (hd : decode cc p2 = .ok (.ishl, 1)) : XE cc y ret d z9 n9 jI k pc (p2 + 1) (eT o_ishl f g) := xe_T hf hg (fun _ C _ _ _ _ _ kk => go_ishl C hd kk)
def o_ishr : Int32 → Int32 → Int32 := fun x z => x >>> (z &&& 31)
theorem xe_ishr {f g : EE Int32} (hf : XE cc y ret d z9 n9 jI k pc p1 f) (hg : XE cc y ret d z9 n9 jI (k + 2) p1 p2 g) (hd : decode cc p2 = .ok (.ishr, 1)) : XE cc y ret d z9 n9 jI k pc (p2 + 1) (eT o_ishr f g) := xe_T hf hg (fun _ C _ _ _ _ _ kk => go_ishr C hd kk)
def o_iushr : Int32 → Int32 → Int32 := fun x z => (x.toUInt32 >>> (z.toUInt32 &&& Int32.toUInt32 31)).toInt32
theorem xe_iushr {f g : EE Int32} (hf : XE cc y ret d z9 n9 jI k pc p1 f) (hg : XE cc y ret d z9 n9 jI (k + 2) p1 p2 g) (hd : decode cc p2 = .ok (.iushr, 1)) : XE cc y ret d z9 n9 jI k pc (p2 + 1) (eT o_iushr f g) := xe_T hf hg (fun _ C _ _ _ _ _ kk => go_iushr C hd kk)
def o_ladd : Int64 → Int64 → Int64 := fun x z => x + z
theorem xe_ladd {f g : EE Int64} (hf : XE cc y ret d z9 n9 jJ k pc p1 f) (hg : XE cc y ret d z9 n9 jJ (k + 2) p1 p2 g) (hd : decode cc p2 = .ok (.ladd, 1)) : XE cc y ret d z9 n9 jJ k pc (p2 + 1) (eT o_ladd f g) := xe_T hf hg (fun _ C _ _ _ _ _ kk => go_ladd C hd kk)
def o_lsub : Int64 → Int64 → Int64 := fun x z => x - z
theorem xe_lsub {f g : EE Int64} (hf : XE cc y ret d z9 n9 jJ k pc p1 f) (hg : XE cc y ret d z9 n9 jJ (k + 2) p1 p2 g) (hd : decode cc p2 = .ok (.lsub, 1)) : XE cc y ret d z9 n9 jJ k pc (p2 + 1) (eT o_lsub f g) := xe_T hf hg (fun _ C _ _ _ _ _ kk => go_lsub C hd kk)
def o_lmul : Int64 → Int64 → Int64 := fun x z => x * z
theorem xe_lmul {f g : EE Int64} (hf : XE cc y ret d z9 n9 jJ k pc p1 f) (hg : XE cc y ret d z9 n9 jJ (k + 2) p1 p2 g) (hd : decode cc p2 = .ok (.lmul, 1)) : XE cc y ret d z9 n9 jJ k pc (p2 + 1) (eT o_lmul f g) := xe_T hf hg (fun _ C _ _ _ _ _ kk => go_lmul C hd kk)
theorem xe_idiv {f g : EE Int32} (hf : XE cc y ret d z9 n9 jI k pc p1 f) (hg : XE cc y ret d z9 n9 jI (k + 2) p1 p2 g) (hd : decode cc p2 = .ok (.idiv, 1)) : XE cc y ret d z9 n9 jI k pc (p2 + 1) (eP oDiv f g) := xe_P hf hg (fun _ C _ _ _ x z v ho kk => by
  unfold oDiv at ho
  split at ho
  · cases ho
  · next hz => cases ho; exact go_idiv C hd hz kk)
theorem xe_irem {f g : EE Int32} (hf : XE cc y ret d z9 n9 jI k pc p1 f) (hg : XE cc y ret d z9 n9 jI (k + 2) p1 p2 g) (hd : decode cc p2 = .ok (.irem, 1)) : XE cc y ret d z9 n9 jI k pc (p2 + 1) (eP oRem f g) := xe_P hf hg (fun _ C _ _ _ x z v ho kk => by
  unfold oRem at ho
  split at ho
  · cases ho
  · next hz => cases ho; exact go_irem C hd hz kk)
theorem xe_ldiv {f g : EE Int64} (hf : XE cc y ret d z9 n9 jJ k pc p1 f) (hg : XE cc y ret d z9 n9 jJ (k + 2) p1 p2 g) (hd : decode cc p2 = .ok (.ldiv, 1)) : XE cc y ret d z9 n9 jJ k pc (p2 + 1) (eP oDivJ f g) := xe_P hf hg (fun _ C _ _ _ x z v ho kk => by
  unfold oDivJ at ho
  split at ho
  · cases ho
  · next hz => cases ho; exact go_ldiv C hd hz kk)
theorem xe_lrem {f g : EE Int64} (hf : XE cc y ret d z9 n9 jJ k pc p1 f) (hg : XE cc y ret d z9 n9 jJ (k + 2) p1 p2 g) (hd : decode cc p2 = .ok (.lrem, 1)) : XE cc y ret d z9 n9 jJ k pc (p2 + 1) (eP oRemJ f g) := xe_P hf hg (fun _ C _ _ _ x z v ho kk => by
  unfold oRemJ at ho
  split at ho
  · cases ho
  · next hz => cases ho; exact go_lrem C hd hz kk)
def o_i2l : Int32 → Int64 := fun x => x.toInt64
theorem xe_i2l {f : EE Int32} (hf : XE cc y ret d z9 n9 jI k pc p1 f) (hd : decode cc p1 = .ok (.i2l, 1)) : XE cc y ret d z9 n9 jJ k pc (p1 + 1) (eU o_i2l f) := xe_U hf (fun _ C _ _ _ _ kk => go_i2l C hd kk)
def o_l2i : Int64 → Int32 := fun x => x.toInt32
theorem xe_l2i {f : EE Int64} (hf : XE cc y ret d z9 n9 jJ k pc p1 f) (hd : decode cc p1 = .ok (.l2i, 1)) : XE cc y ret d z9 n9 jI k pc (p1 + 1) (eU o_l2i f) := xe_U hf (fun _ C _ _ _ _ kk => go_l2i C hd kk)
def o_i2b : Int32 → Int32 := fun x => x.toInt8.toInt32
theorem xe_i2b {f : EE Int32} (hf : XE cc y ret d z9 n9 jI k pc p1 f) (hd : decode cc p1 = .ok (.i2b, 1)) : XE cc y ret d z9 n9 jI k pc (p1 + 1) (eU o_i2b f) := xe_U hf (fun _ C _ _ _ _ kk => go_i2b C hd kk)
def o_ineg : Int32 → Int32 := fun x => -x
theorem xe_ineg {f : EE Int32} (hf : XE cc y ret d z9 n9 jI k pc p1 f) (hd : decode cc p1 = .ok (.ineg, 1)) : XE cc y ret d z9 n9 jI k pc (p1 + 1) (eU o_ineg f) := xe_U hf (fun _ C _ _ _ _ kk => go_ineg C hd kk)
theorem xe_get {pl : XH → Nat → Nat → α} {ja : α → Value} {t j idx : Nat} {f : EE (Option Nat)} (hf : XE cc y ret d z9 n9 jA k pc p1 f) (hl : xLk y idx t j) (hv : ∀ h a, vV (xF t j) h a j = ja (pl h a j)) (hd : decode cc p1 = .ok (.getfield idx, 3)) : XE cc y ret d z9 n9 ja k pc (p1 + 3) (eGet pl t j f) := by
  refine ⟨fun L h v h' he => ?_, fun X C L h v h' he hB st hst kk => ?_⟩
  · obtain ⟨⟨r, h1⟩, e1, he⟩ := ob he
    obtain ⟨a, e2, he⟩ := ob he
    split at he
    · cases he; exact hf.1 _ _ _ _ e1
    · cases he
  · obtain ⟨⟨r, h1⟩, e1, he⟩ := ob he
    obtain ⟨a, e2, he⟩ := ob he
    split at he
    · next ht =>
      cases he
      simp only at e2 ht hB kk
      subst e2
      exact hf.2 X C _ _ _ _ e1 hB st hst (go_getf C hl ht hd (by rw [hv]; exact kk))
    · cases he
theorem xe_iald {f : EE (Option Nat)} {g : EE Int32} (hf : XE cc y ret d z9 n9 jA k pc p1 f) (hg : XE cc y ret d z9 n9 jI (k + 2) p1 p2 g) (hd : decode cc p2 = .ok (.iaload, 1)) : XE cc y ret d z9 n9 jI k pc (p2 + 1) (eAld xI 100 f g) := by
  refine ⟨fun L h v h' he => ?_, fun X C L h v h' he hB st hst kk => ?_⟩
  · obtain ⟨⟨r, h1⟩, e1, he⟩ := ob he
    obtain ⟨a, e2, he⟩ := ob he
    obtain ⟨⟨i, h2⟩, e3, he⟩ := ob he
    split at he
    · cases he; exact (hf.1 _ _ _ _ e1).tr (hg.1 _ _ _ _ e3)
    · cases he
  · obtain ⟨⟨r, h1⟩, e1, he⟩ := ob he
    obtain ⟨a, e2, he⟩ := ob he
    obtain ⟨⟨i, h2⟩, e3, he⟩ := ob he
    split at he
    · next ht =>
      cases he
      simp only at e2 e3 ht hB kk
      subst e2
      have hx : xT h2 a = (100, (xT h2 a).2) := by rw [← ht.1]
      exact hf.2 X C _ _ _ _ e1 ((hg.1 _ _ _ _ e3).tr hB) st hst (hg.2 X C _ _ _ _ e3 hB _ (cats_c _ _ _ hst) (go_iald C hx ht.2 hd kk))
    · cases he
theorem xe_bald {f : EE (Option Nat)} {g : EE Int32} (hf : XE cc y ret d z9 n9 jA k pc p1 f) (hg : XE cc y ret d z9 n9 jI (k + 2) p1 p2 g) (hd : decode cc p2 = .ok (.baload, 1)) : XE cc y ret d z9 n9 jI k pc (p2 + 1) (eAld xI 101 f g) := by
  refine ⟨fun L h v h' he => ?_, fun X C L h v h' he hB st hst kk => ?_⟩
  · obtain ⟨⟨r, h1⟩, e1, he⟩ := ob he
    obtain ⟨a, e2, he⟩ := ob he
    obtain ⟨⟨i, h2⟩, e3, he⟩ := ob he
    split at he
    · cases he; exact (hf.1 _ _ _ _ e1).tr (hg.1 _ _ _ _ e3)
    · cases he
  · obtain ⟨⟨r, h1⟩, e1, he⟩ := ob he
    obtain ⟨a, e2, he⟩ := ob he
    obtain ⟨⟨i, h2⟩, e3, he⟩ := ob he
    split at he
    · next ht =>
      cases he
      simp only at e2 e3 ht hB kk
      subst e2
      have hx : xT h2 a = (101, (xT h2 a).2) := by rw [← ht.1]
      exact hf.2 X C _ _ _ _ e1 ((hg.1 _ _ _ _ e3).tr hB) st hst (hg.2 X C _ _ _ _ e3 hB _ (cats_c _ _ _ hst) (go_bald C hx ht.2 hd kk))
    · cases he
theorem xe_zald {f : EE (Option Nat)} {g : EE Int32} (hf : XE cc y ret d z9 n9 jA k pc p1 f) (hg : XE cc y ret d z9 n9 jI (k + 2) p1 p2 g) (hd : decode cc p2 = .ok (.baload, 1)) : XE cc y ret d z9 n9 jI k pc (p2 + 1) (eAld xI 102 f g) := by
  refine ⟨fun L h v h' he => ?_, fun X C L h v h' he hB st hst kk => ?_⟩
  · obtain ⟨⟨r, h1⟩, e1, he⟩ := ob he
    obtain ⟨a, e2, he⟩ := ob he
    obtain ⟨⟨i, h2⟩, e3, he⟩ := ob he
    split at he
    · cases he; exact (hf.1 _ _ _ _ e1).tr (hg.1 _ _ _ _ e3)
    · cases he
  · obtain ⟨⟨r, h1⟩, e1, he⟩ := ob he
    obtain ⟨a, e2, he⟩ := ob he
    obtain ⟨⟨i, h2⟩, e3, he⟩ := ob he
    split at he
    · next ht =>
      cases he
      simp only at e2 e3 ht hB kk
      subst e2
      have hx : xT h2 a = (102, (xT h2 a).2) := by rw [← ht.1]
      exact hf.2 X C _ _ _ _ e1 ((hg.1 _ _ _ _ e3).tr hB) st hst (hg.2 X C _ _ _ _ e3 hB _ (cats_c _ _ _ hst) (go_zald C hx ht.2 hd kk))
    · cases he
theorem xe_lald {f : EE (Option Nat)} {g : EE Int32} (hf : XE cc y ret d z9 n9 jA k pc p1 f) (hg : XE cc y ret d z9 n9 jI (k + 2) p1 p2 g) (hd : decode cc p2 = .ok (.laload, 1)) : XE cc y ret d z9 n9 jJ k pc (p2 + 1) (eAld xJ 103 f g) := by
  refine ⟨fun L h v h' he => ?_, fun X C L h v h' he hB st hst kk => ?_⟩
  · obtain ⟨⟨r, h1⟩, e1, he⟩ := ob he
    obtain ⟨a, e2, he⟩ := ob he
    obtain ⟨⟨i, h2⟩, e3, he⟩ := ob he
    split at he
    · cases he; exact (hf.1 _ _ _ _ e1).tr (hg.1 _ _ _ _ e3)
    · cases he
  · obtain ⟨⟨r, h1⟩, e1, he⟩ := ob he
    obtain ⟨a, e2, he⟩ := ob he
    obtain ⟨⟨i, h2⟩, e3, he⟩ := ob he
    split at he
    · next ht =>
      cases he
      simp only at e2 e3 ht hB kk
      subst e2
      have hx : xT h2 a = (103, (xT h2 a).2) := by rw [← ht.1]
      exact hf.2 X C _ _ _ _ e1 ((hg.1 _ _ _ _ e3).tr hB) st hst (hg.2 X C _ _ _ _ e3 hB _ (cats_c _ _ _ hst) (go_lald C hx ht.2 hd kk))
    · cases he
theorem xe_iald0 {f : EE (Option Nat)} {g : EE Int32} (hf : XE cc y ret d z9 n9 jA k pc p1 f) (hg : XE cc y ret d z9 n9 jI (k + 2) p1 p2 g) (hd : decode cc p2 = .ok (.iaload, 1)) : XE cc y ret d z9 n9 jI k pc (p2 + 1) (eAld xI 200 f g) := by
  refine ⟨fun L h v h' he => ?_, fun X C L h v h' he hB st hst kk => ?_⟩
  · obtain ⟨⟨r, h1⟩, e1, he⟩ := ob he
    obtain ⟨a, e2, he⟩ := ob he
    obtain ⟨⟨i, h2⟩, e3, he⟩ := ob he
    split at he
    · cases he; exact (hf.1 _ _ _ _ e1).tr (hg.1 _ _ _ _ e3)
    · cases he
  · obtain ⟨⟨r, h1⟩, e1, he⟩ := ob he
    obtain ⟨a, e2, he⟩ := ob he
    obtain ⟨⟨i, h2⟩, e3, he⟩ := ob he
    split at he
    · next ht =>
      cases he
      simp only at e2 e3 ht hB kk
      subst e2
      have hx : xT h2 a = (200, (xT h2 a).2) := by rw [← ht.1]
      exact hf.2 X C _ _ _ _ e1 ((hg.1 _ _ _ _ e3).tr hB) st hst (hg.2 X C _ _ _ _ e3 hB _ (cats_c _ _ _ hst) (go_iald0 C hx ht.2 hd kk))
    · cases he
theorem xe_rald {f : EE (Option Nat)} {g : EE Int32} (hf : XE cc y ret d z9 n9 jA k pc p1 f) (hg : XE cc y ret d z9 n9 jI (k + 2) p1 p2 g) (hd : decode cc p2 = .ok (.aaload, 1)) : XE cc y ret d z9 n9 jA k pc (p2 + 1) (eAld xA 104 f g) := by
  refine ⟨fun L h v h' he => ?_, fun X C L h v h' he hB st hst kk => ?_⟩
  · obtain ⟨⟨r, h1⟩, e1, he⟩ := ob he
    obtain ⟨a, e2, he⟩ := ob he
    obtain ⟨⟨i, h2⟩, e3, he⟩ := ob he
    split at he
    · cases he; exact (hf.1 _ _ _ _ e1).tr (hg.1 _ _ _ _ e3)
    · cases he
  · obtain ⟨⟨r, h1⟩, e1, he⟩ := ob he
    obtain ⟨a, e2, he⟩ := ob he
    obtain ⟨⟨i, h2⟩, e3, he⟩ := ob he
    split at he
    · next ht =>
      cases he
      simp only at e2 e3 ht hB kk
      subst e2
      have hx : xT h2 a = (104, (xT h2 a).2) := by rw [← ht.1]
      exact hf.2 X C _ _ _ _ e1 ((hg.1 _ _ _ _ e3).tr hB) st hst (hg.2 X C _ _ _ _ e3 hB _ (cats_c _ _ _ hst) (go_aald C hx (by decide) ht.2 hd kk))
    · cases he
theorem xe_oald {f : EE (Option Nat)} {g : EE Int32} (hf : XE cc y ret d z9 n9 jA k pc p1 f) (hg : XE cc y ret d z9 n9 jI (k + 2) p1 p2 g) (hd : decode cc p2 = .ok (.aaload, 1)) : XE cc y ret d z9 n9 jA k pc (p2 + 1) (eAld xA 105 f g) := by
  refine ⟨fun L h v h' he => ?_, fun X C L h v h' he hB st hst kk => ?_⟩
  · obtain ⟨⟨r, h1⟩, e1, he⟩ := ob he
    obtain ⟨a, e2, he⟩ := ob he
    obtain ⟨⟨i, h2⟩, e3, he⟩ := ob he
    split at he
    · cases he; exact (hf.1 _ _ _ _ e1).tr (hg.1 _ _ _ _ e3)
    · cases he
  · obtain ⟨⟨r, h1⟩, e1, he⟩ := ob he
    obtain ⟨a, e2, he⟩ := ob he
    obtain ⟨⟨i, h2⟩, e3, he⟩ := ob he
    split at he
    · next ht =>
      cases he
      simp only at e2 e3 ht hB kk
      subst e2
      have hx : xT h2 a = (105, (xT h2 a).2) := by rw [← ht.1]
      exact hf.2 X C _ _ _ _ e1 ((hg.1 _ _ _ _ e3).tr hB) st hst (hg.2 X C _ _ _ _ e3 hB _ (cats_c _ _ _ hst) (go_aald C hx (by decide) ht.2 hd kk))
    · cases he
theorem xe_gald {f : EE (Option Nat)} {g : EE Int32} (hf : XE cc y ret d z9 n9 jA k pc p1 f) (hg : XE cc y ret d z9 n9 jI (k + 2) p1 p2 g) (hd : decode cc p2 = .ok (.aaload, 1)) : XE cc y ret d z9 n9 jA k pc (p2 + 1) (eAld xA 106 f g) := by
  refine ⟨fun L h v h' he => ?_, fun X C L h v h' he hB st hst kk => ?_⟩
  · obtain ⟨⟨r, h1⟩, e1, he⟩ := ob he
    obtain ⟨a, e2, he⟩ := ob he
    obtain ⟨⟨i, h2⟩, e3, he⟩ := ob he
    split at he
    · cases he; exact (hf.1 _ _ _ _ e1).tr (hg.1 _ _ _ _ e3)
    · cases he
  · obtain ⟨⟨r, h1⟩, e1, he⟩ := ob he
    obtain ⟨a, e2, he⟩ := ob he
    obtain ⟨⟨i, h2⟩, e3, he⟩ := ob he
    split at he
    · next ht =>
      cases he
      simp only at e2 e3 ht hB kk
      subst e2
      have hx : xT h2 a = (106, (xT h2 a).2) := by rw [← ht.1]
      exact hf.2 X C _ _ _ _ e1 ((hg.1 _ _ _ _ e3).tr hB) st hst (hg.2 X C _ _ _ _ e3 hB _ (cats_c _ _ _ hst) (go_aald C hx (by decide) ht.2 hd kk))
    · cases he
theorem xe_len {f : EE (Option Nat)} (hf : XE cc y ret d z9 n9 jA k pc p1 f) (hd : decode cc p1 = .ok (.arraylength, 1)) : XE cc y ret d z9 n9 jI k pc (p1 + 1) (eLen f) := by
  refine ⟨fun L h v h' he => ?_, fun X C L h v h' he hB st hst kk => ?_⟩
  · obtain ⟨⟨r, h1⟩, e1, he⟩ := ob he
    obtain ⟨a, e2, he⟩ := ob he
    split at he
    · cases he; exact hf.1 _ _ _ _ e1
    · cases he
  · obtain ⟨⟨r, h1⟩, e1, he⟩ := ob he
    obtain ⟨a, e2, he⟩ := ob he
    split at he
    · next ht =>
      cases he
      simp only at e2 ht hB kk
      subst e2
      exact hf.2 X C _ _ _ _ e1 hB st hst (go_alen C rfl ht hd kk)
    · cases he
theorem xe_if {c : EE Bool} {ja : α → Value} {a b : EE α} (hc : XC cc y ret d z9 n9 k pc pt pf c) (ha : XE cc y ret d z9 n9 ja k pt p1 a) {off : Int} (hd : decode cc p1 = .ok (.goto off, 3)) (ho : (p1 : Int) + off = (p2 : Int)) (hb : XE cc y ret d z9 n9 ja k pf p2 b) : XE cc y ret d z9 n9 ja k pc p2 (eIf c a b) := by
  refine ⟨fun L h v h' he => ?_, fun X C L h v h' he hB st hst kk => ?_⟩
  · obtain ⟨r, e1, he⟩ := ob he
    split at he
    · exact (hc.1 _ _ _ _ e1).tr (ha.1 _ _ _ _ he)
    · exact (hc.1 _ _ _ _ e1).tr (hb.1 _ _ _ _ he)
  · obtain ⟨⟨r, h1⟩, e1, he⟩ := ob he
    split at he
    · next q =>
      simp only at q
      subst q
      refine hc.2 X C _ _ _ _ e1 ((ha.1 _ _ _ _ he).tr hB) st hst (fun _ => ha.2 X C _ _ _ _ he hB st hst (go_goto C hd ho kk)) (fun z => by cases z)
    · next q =>
      simp only [Bool.not_eq_true] at q
      subst q
      refine hc.2 X C _ _ _ _ e1 ((hb.1 _ _ _ _ he).tr hB) st hst (fun z => by cases z) (fun _ => hb.2 X C _ _ _ _ he hB st hst kk)
theorem xe_cast {t idx : Nat} {f : EE (Option Nat)} (hf : XE cc y ret d z9 n9 jA k pc p1 f) (hc : xCok t) (hw : Cond.classLink y.cls idx (xC t).1 ∈ xtb) (hd : decode cc p1 = .ok (.checkcast idx, 3)) : XE cc y ret d z9 n9 jA k pc (p1 + 3) (eCast t f) := by
  refine ⟨fun L h v h' he => ?_, fun X C L h v h' he hB st hst kk => ?_⟩
  · obtain ⟨⟨r, h1⟩, e1, he⟩ := ob he
    obtain ⟨a, e2, he⟩ := ob he
    split at he
    · cases he; exact hf.1 _ _ _ _ e1
    · cases he
  · obtain ⟨⟨r, h1⟩, e1, he⟩ := ob he
    obtain ⟨a, e2, he⟩ := ob he
    split at he
    · next ht =>
      cases he
      simp only at e2 ht hB kk
      subst e2
      exact hf.2 X C _ _ _ _ e1 hB st hst (go_cast C hc hw ht hd kk)
    · cases he
theorem xa_nil : XA cc y ret d z9 n9 k pc pc aN := by
  refine ⟨fun L h v h' he => ?_, fun X C L h v h' he hB st hst kk => ?_⟩
  · cases he; exact Le.rf _
  · cases he; exact kk
theorem xa_cons {ja : α → Value} {f : EE α} {g : EE (List Value)} (hf : XE cc y ret d z9 n9 ja k pc p1 f) (hg : XA cc y ret d z9 n9 (k + 2) p1 p2 g) : XA cc y ret d z9 n9 k pc p2 (aC ja f g) := by
  refine ⟨fun L h v h' he => ?_, fun X C L h v h' he hB st hst kk => ?_⟩
  · obtain ⟨r, e1, he⟩ := ob he
    obtain ⟨q, e2, he⟩ := ob he
    cases he
    exact (hf.1 _ _ _ _ e1).tr (hg.1 _ _ _ _ e2)
  · obtain ⟨r, e1, he⟩ := ob he
    obtain ⟨q, e2, he⟩ := ob he
    cases he
    exact hf.2 X C _ _ _ _ e1 ((hg.1 _ _ _ _ e2).tr hB) st hst (hg.2 X C _ _ _ _ e2 hB _ (cats_c _ _ _ hst) (by simpa using kk))
variable {y2 : MethodName} {cc2 : ByteArray} {nL2 n2 d2 idx : Nat} {ret2 : Option FieldType} {F : List Value → XH → Option (ρ × XH)}
/-- the arguments are as many as the method takes -/
def aLen (n : Nat) (f : EE (List Value)) : Prop := ∀ L h v h', f L h = some (v, h') → v.length = n
theorem aLen_nil : aLen 0 aN := fun _ _ _ _ he => by cases he; rfl
theorem aLen_cons {n : Nat} {ja : α → Value} {f : EE α} {g : EE (List Value)} (h : aLen n g) : aLen (n + 1) (aC ja f g) := fun L h1 v h' he => by
  obtain ⟨r, e1, he⟩ := ob he
  obtain ⟨q, e2, he⟩ := ob he
  cases he
  simp [h _ _ _ _ e2]
/-- the answer of a call: a value on the stack, or none -/
def XR (cc : ByteArray) (y : MethodName) (ret : Option FieldType) (d : Nat) (z9 : Nat × Nat) (n9 : Nat) (inj : ρ → Option Value) (k pc pc' : Nat) (f : EE ρ) : Prop :=
  (∀ L h v h', f L h = some (v, h') → Le h h') ∧ ∀ X, xCx X cc y ret d z9 n9 → ∀ L h v h', f L h = some (v, h') → Le h' (xEnd X).2 → ∀ st, cats st ≤ k → Go X pc' L ((inj v).toList ++ st) h' → Go X pc L st h
theorem XR.E {ja : ρ → Value} {f : EE ρ} (h : XR cc y ret d z9 n9 (fun v => some (ja v)) k pc p1 f) : XE cc y ret d z9 n9 ja k pc p1 f := ⟨h.1, fun X C L h1 v h' he hB st hst kk => h.2 X C L h1 v h' he hB st hst kk⟩
theorem xr_callS {inj : ρ → Option Value} {as : EE (List Value)} (ha : XA cc y ret d z9 n9 k pc p1 as) (hn : aLen n2 as) (hM : MetX z9 y2 cc2 nL2 ret2 inj d2 F) (hdd : d2 + 1 ≤ d) (wb : xCb y2 cc2 nL2 ret2 n2) (w1 : Cond.methodLink y.cls idx y2 ∈ xtb) (w2 : Cond.static y2 ∈ xtb) (hk : k ≤ 8) (hd : decode cc p1 = .ok (.invokestatic idx, 3)) : XR cc y ret d z9 n9 inj k pc (p1 + 3) (eCallS F as) := by
  refine ⟨fun L h v h' he => ?_, fun X C L h v h' he hB st hst kk => ?_⟩
  · obtain ⟨r, e1, he⟩ := ob he
    exact (ha.1 _ _ _ _ e1).tr (hM.2 _ _ _ _ he).1
  · obtain ⟨r, e1, he⟩ := ob he
    have hle := (hM.2 _ _ _ _ he).1
    exact ha.2 X C _ _ _ _ e1 (Le.tr hle hB) st hst (go_callS C hM hdd wb w1 w2 he (hn _ _ _ _ e1) (Nat.le_trans hst hk) hB.1 hB.2 hd kk)
theorem xr_callSN {inj : ρ → Option Value} {as : EE (List Value)} (ha : XA cc y ret d z9 n9 k pc p1 as) (hn : aLen n2 as) (hM : MetX z9 y2 cc2 nL2 ret2 inj d2 F) (hdd : d2 + 1 ≤ d) (wb : xCb y2 cc2 nL2 ret2 n2) {host : String} (w1 : Cond.methodLinkNest y.cls idx y2 host ∈ xrs) (w2 : Cond.static y2 ∈ xtb) (hk : k ≤ 8) (hd : decode cc p1 = .ok (.invokestatic idx, 3)) : XR cc y ret d z9 n9 inj k pc (p1 + 3) (eCallS F as) := by
  refine ⟨fun L h v h' he => ?_, fun X C L h v h' he hB st hst kk => ?_⟩
  · obtain ⟨r, e1, he⟩ := ob he
    exact (ha.1 _ _ _ _ e1).tr (hM.2 _ _ _ _ he).1
  · obtain ⟨r, e1, he⟩ := ob he
    have hle := (hM.2 _ _ _ _ he).1
    exact ha.2 X C _ _ _ _ e1 (Le.tr hle hB) st hst (go_callSN C hM hdd wb w1 w2 he (hn _ _ _ _ e1) (Nat.le_trans hst hk) hB.1 hB.2 hd kk)
theorem xr_callV {inj : ρ → Option Value} {t : Nat} {f : EE (Option Nat)} {as : EE (List Value)} (hf : XE cc y ret d z9 n9 jA k pc p1 f) (ha : XA cc y ret d z9 n9 (k + 2) p1 p2 as) (hn : aLen n2 as) (hM : MetX z9 y2 cc2 nL2 ret2 inj d2 F) (hdd : d2 + 1 ≤ d) (wb : xCb y2 cc2 nL2 ret2 n2) (w1 : Cond.methodLink y.cls idx y2 ∈ xtb) (w2 : Cond.instanceMethod y2 ∈ xtb) (w3 : Cond.selects y2.cls y2 y2 ∈ xtb) (hc : xCok t) (hcn : (xC t).1 = y2.cls) (hk : k ≤ 8) (hd : decode cc p2 = .ok (.invokevirtual idx, 3)) : XR cc y ret d z9 n9 inj k pc (p2 + 3) (eCallV t F f as) := by
  refine ⟨fun L h v h' he => ?_, fun X C L h v h' he hB st hst kk => ?_⟩
  · obtain ⟨⟨r, h1⟩, e1, he⟩ := ob he
    obtain ⟨a, e2, he⟩ := ob he
    obtain ⟨q, e3, he⟩ := ob he
    split at he
    · exact (hf.1 _ _ _ _ e1).tr ((ha.1 _ _ _ _ e3).tr (hM.2 _ _ _ _ he).1)
    · cases he
  · obtain ⟨⟨r, h1⟩, e1, he⟩ := ob he
    obtain ⟨a, e2, he⟩ := ob he
    obtain ⟨q, e3, he2⟩ := ob he
    split at he2
    · next ht =>
      simp only at e2 e3
      subst e2
      have hle : Le q.2 h' := (hM.2 _ _ _ _ he2).1
      have hle2 := ha.1 _ _ _ _ e3
      exact hf.2 X C _ _ _ _ e1 (hle2.tr (hle.tr hB)) st hst (ha.2 X C _ _ _ _ e3 (hle.tr hB) _ (cats_c _ _ _ hst) (go_callV C hM hdd wb w1 w2 w3 hc hcn ht he2 (hn _ _ _ _ e3) (Nat.le_trans hst hk) hB.1 hB.2 hd kk))
    · cases he2
theorem xe_new {t n : Nat} {F : List Value → XH → Option (Unit × XH)} {i1 : Nat} {as : EE (List Value)} (hd0 : decode cc pc = .ok (.new i1, 3)) (hd1 : decode cc (pc + 3) = .ok (.dup, 1)) (hc : xCok t) (hn0 : (xC t).2.2 = n) (w0 : Cond.classLink y.cls i1 (xC t).1 ∈ xtb) (ha : XA cc y ret d z9 n9 (k + 2 + 2) (pc + 4) p1 as) (hn : aLen n2 as) (hM : MetX z9 y2 cc2 nL2 none (fun _ => none) d2 F) (hdd : d2 + 1 ≤ d) (wb : xCb y2 cc2 nL2 none n2) (wi : y2.name = "<init>") (w1 : Cond.methodLink y.cls idx y2 ∈ xtb ∨ ∃ host, Cond.methodLinkNest y.cls idx y2 host ∈ xrs) (w2 : Cond.instanceMethod y2 ∈ xtb) (hk : k ≤ 6) (hd : decode cc p1 = .ok (.invokespecial idx, 3)) : XE cc y ret d z9 n9 jA k pc (p1 + 3) (eNew t n F as) := by
  have l0 : ∀ h : XH, Le h (xNew h t n) := fun h => ⟨Nat.le_succ _, Nat.le_add_right _ _⟩
  refine ⟨fun L h v h' he => ?_, fun X C L h v h' he hB st hst kk => ?_⟩
  · obtain ⟨q, e1, he⟩ := ob he
    obtain ⟨u, e2, he⟩ := ob he
    cases he
    exact (l0 h).tr ((ha.1 _ _ _ _ e1).tr (hM.2 _ _ _ _ e2).1)
  · obtain ⟨q, e1, he⟩ := ob he
    obtain ⟨u, e2, he⟩ := ob he
    cases he
    subst hn0
    have b1 : Le q.2 u.2 := (hM.2 _ _ _ _ e2).1
    have b2 := ha.1 _ _ _ _ e1
    have b3 := b2.tr (b1.tr hB)
    refine go_new C hc w0 b3.1 b3.2 hd0 (go_dup C hd1 rfl ?_)
    refine ha.2 X C _ _ _ _ e1 (b1.tr hB) _ (cats_c _ _ _ (cats_c _ _ _ hst)) ?_
    rcases w1 with w1 | ⟨host, w1⟩
    · exact go_callI C hM hdd wb wi w1 w2 e2 (hn _ _ _ _ e1) (Nat.le_trans (cats_c _ _ _ hst) (by omega)) hB.1 hB.2 hd kk
    · exact go_callIN C hM hdd wb wi w1 w2 e2 (hn _ _ _ _ e1) (Nat.le_trans (cats_c _ _ _ hst) (by omega)) hB.1 hB.2 hd kk
theorem xe_newa {t : Nat} {aty : ArrayType} {f : EE Int32} (hf : XE cc y ret d z9 n9 jI k pc p1 f) (hty : newarray.typeOf aty = xTy t) (ht : 100 ≤ t ∧ t ≤ 103) (hw : Cond.arrayClass (xTy t) ∈ xtb) (hd : decode cc p1 = .ok (.newarray aty, 2)) : XE cc y ret d z9 n9 jA k pc (p1 + 2) (eNewA t f) := by
  refine ⟨fun L h v h' he => ?_, fun X C L h v h' he hB st hst kk => ?_⟩
  · obtain ⟨r, e1, he⟩ := ob he
    split at he
    · cases he; exact (hf.1 _ _ _ _ e1).tr ⟨Nat.le_succ _, Nat.le_add_right _ _⟩
    · cases he
  · obtain ⟨r, e1, he⟩ := ob he
    split at he
    · next hq =>
      cases he
      exact hf.2 X C _ _ _ _ e1 (Le.tr ⟨Nat.le_succ _, Nat.le_add_right _ _⟩ hB) st hst (go_newa C hty ht hw hq.1 rfl hq.2 hB.1 hB.2 hd kk)
    · cases he
theorem xe_anew {t idx : Nat} {E : String} {f : EE Int32} (hf : XE cc y ret d z9 n9 jI k pc p1 f) (hE : xTy t = .object E) (ht : t = 104 ∨ t = 105) (hw : Cond.classLink y.cls idx E ∈ xtb) (hd : decode cc p1 = .ok (.anewarray idx, 3)) : XE cc y ret d z9 n9 jA k pc (p1 + 3) (eNewA t f) := by
  refine ⟨fun L h v h' he => ?_, fun X C L h v h' he hB st hst kk => ?_⟩
  · obtain ⟨r, e1, he⟩ := ob he
    split at he
    · cases he; exact (hf.1 _ _ _ _ e1).tr ⟨Nat.le_succ _, Nat.le_add_right _ _⟩
    · cases he
  · obtain ⟨r, e1, he⟩ := ob he
    split at he
    · next hq =>
      cases he
      exact hf.2 X C _ _ _ _ e1 (Le.tr ⟨Nat.le_succ _, Nat.le_add_right _ _⟩ hB) st hst (go_anew C hE ht hw hq.1 rfl hq.2 hB.1 hB.2 hd kk)
    · cases he
-- conditions
theorem xc_2 {op : α → β → Bool} {ja : α → Value} {jb : β → Value} {f : EE α} {g : EE β} (hf : XE cc y ret d z9 n9 ja k pc p1 f) (hg : XE cc y ret d z9 n9 jb (k + 2) p1 p2 g) (ins : ∀ X, xCx X cc y ret d z9 n9 → ∀ L st h x z, (op x z = true → Go X pt L st h) → (op x z = false → Go X pf L st h) → Go X p2 L (jb z :: ja x :: st) h) : XC cc y ret d z9 n9 k pc pt pf (eT op f g) := by
  refine ⟨fun L h v h' he => ?_, fun X C L h v h' he hB st hst kt kf => ?_⟩
  · obtain ⟨r, e1, he⟩ := ob he
    obtain ⟨q, e2, he⟩ := ob he
    cases he
    exact (hf.1 _ _ _ _ e1).tr (hg.1 _ _ _ _ e2)
  · obtain ⟨r, e1, he⟩ := ob he
    obtain ⟨q, e2, he⟩ := ob he
    cases he
    exact hf.2 X C _ _ _ _ e1 ((hg.1 _ _ _ _ e2).tr hB) st hst (hg.2 X C _ _ _ _ e2 hB _ (cats_c _ _ _ hst) (ins X C _ _ _ _ _ kt kf))
theorem xc_1 {op : α → Bool} {ja : α → Value} {f : EE α} (hf : XE cc y ret d z9 n9 ja k pc p1 f) (ins : ∀ X, xCx X cc y ret d z9 n9 → ∀ L st h x, (op x = true → Go X pt L st h) → (op x = false → Go X pf L st h) → Go X p1 L (ja x :: st) h) : XC cc y ret d z9 n9 k pc pt pf (eU op f) := by
  refine ⟨fun L h v h' he => ?_, fun X C L h v h' he hB st hst kt kf => ?_⟩
  · obtain ⟨r, e1, he⟩ := ob he
    cases he
    exact hf.1 _ _ _ _ e1
  · obtain ⟨r, e1, he⟩ := ob he
    cases he
    exact hf.2 X C _ _ _ _ e1 hB st hst (ins X C _ _ _ _ kt kf)
theorem nlt_ge {x z : Int32} (h : ¬ x < z) : z ≤ x := Int32.not_lt.mp h
theorem nle_gt {x z : Int32} (h : ¬ x ≤ z) : z < x := Int32.not_le.mp h
theorem lt_nge {x z : Int32} (h : x < z) : ¬ z ≤ x := Int32.not_le.mpr h
theorem le_ngt {x z : Int32} (h : x ≤ z) : ¬ z < x := Int32.not_lt.mpr h
theorem xc_eqT {f g : EE Int32} (hf : XE cc y ret d z9 n9 jI k pc p1 f) (hg : XE cc y ret d z9 n9 jI (k + 2) p1 p2 g) {off : Int} (hd : decode cc p2 = .ok (.if_icmp .eq off, 3)) (ho : (p2 : Int) + off = (pt : Int)) : XC cc y ret d z9 n9 k pc pt (p2 + 3) (eT qEq f g) := xc_2 hf hg (fun _ C _ _ _ x z kt kf => go_icmp_eq C hd ho (fun q => kt (decide_eq_true q)) (fun q => kf (decide_eq_false q)))
theorem xc_eqF {f g : EE Int32} (hf : XE cc y ret d z9 n9 jI k pc p1 f) (hg : XE cc y ret d z9 n9 jI (k + 2) p1 p2 g) {off : Int} (hd : decode cc p2 = .ok (.if_icmp .ne off, 3)) (ho : (p2 : Int) + off = (pf : Int)) : XC cc y ret d z9 n9 k pc (p2 + 3) pf (eT qEq f g) := xc_2 hf hg (fun _ C _ _ _ x z kt kf => go_icmp_ne C hd ho (fun q => kf (decide_eq_false q)) (fun q => kt (decide_eq_true (Classical.not_not.mp q))))
theorem xc_eq0T {f : EE Int32} (hf : XE cc y ret d z9 n9 jI k pc p1 f) {off : Int} (hd : decode cc p1 = .ok (.ifCond .eq off, 3)) (ho : (p1 : Int) + off = (pt : Int)) : XC cc y ret d z9 n9 k pc pt (p1 + 3) (eU (fun x => qEq x 0) f) := xc_1 hf (fun _ C _ _ _ x kt kf => go_if_eq C hd ho (fun q => kt (decide_eq_true q)) (fun q => kf (decide_eq_false q)))
theorem xc_eq0F {f : EE Int32} (hf : XE cc y ret d z9 n9 jI k pc p1 f) {off : Int} (hd : decode cc p1 = .ok (.ifCond .ne off, 3)) (ho : (p1 : Int) + off = (pf : Int)) : XC cc y ret d z9 n9 k pc (p1 + 3) pf (eU (fun x => qEq x 0) f) := xc_1 hf (fun _ C _ _ _ x kt kf => go_if_ne C hd ho (fun q => kf (decide_eq_false q)) (fun q => kt (decide_eq_true (Classical.not_not.mp q))))
theorem xc_leqT {f g : EE Int64} (hf : XE cc y ret d z9 n9 jJ k pc p1 f) (hg : XE cc y ret d z9 n9 jJ (k + 2) p1 p2 g) (hd1 : decode cc p2 = .ok (.lcmp, 1)) {off : Int} (hd : decode cc (p2 + 1) = .ok (.ifCond .eq off, 3)) (ho : ((p2 + 1 : Nat) : Int) + off = (pt : Int)) : XC cc y ret d z9 n9 k pc pt (p2 + 4) (eT rEq f g) := xc_2 hf hg (fun _ C _ _ _ x z kt kf => go_lcmp C hd1 (go_if_eq C hd ho (fun q => kt (decide_eq_true q)) (fun q => kf (decide_eq_false q))))
theorem xc_leqF {f g : EE Int64} (hf : XE cc y ret d z9 n9 jJ k pc p1 f) (hg : XE cc y ret d z9 n9 jJ (k + 2) p1 p2 g) (hd1 : decode cc p2 = .ok (.lcmp, 1)) {off : Int} (hd : decode cc (p2 + 1) = .ok (.ifCond .ne off, 3)) (ho : ((p2 + 1 : Nat) : Int) + off = (pf : Int)) : XC cc y ret d z9 n9 k pc (p2 + 4) pf (eT rEq f g) := xc_2 hf hg (fun _ C _ _ _ x z kt kf => go_lcmp C hd1 (go_if_ne C hd ho (fun q => kf (decide_eq_false q)) (fun q => kt (decide_eq_true (Classical.not_not.mp q)))))
theorem xc_neT {f g : EE Int32} (hf : XE cc y ret d z9 n9 jI k pc p1 f) (hg : XE cc y ret d z9 n9 jI (k + 2) p1 p2 g) {off : Int} (hd : decode cc p2 = .ok (.if_icmp .ne off, 3)) (ho : (p2 : Int) + off = (pt : Int)) : XC cc y ret d z9 n9 k pc pt (p2 + 3) (eT qNe f g) := xc_2 hf hg (fun _ C _ _ _ x z kt kf => go_icmp_ne C hd ho (fun q => kt (decide_eq_true q)) (fun q => kf (decide_eq_false q)))
theorem xc_neF {f g : EE Int32} (hf : XE cc y ret d z9 n9 jI k pc p1 f) (hg : XE cc y ret d z9 n9 jI (k + 2) p1 p2 g) {off : Int} (hd : decode cc p2 = .ok (.if_icmp .eq off, 3)) (ho : (p2 : Int) + off = (pf : Int)) : XC cc y ret d z9 n9 k pc (p2 + 3) pf (eT qNe f g) := xc_2 hf hg (fun _ C _ _ _ x z kt kf => go_icmp_eq C hd ho (fun q => kf (decide_eq_false (fun w => w q))) (fun q => kt (decide_eq_true q)))
theorem xc_ne0T {f : EE Int32} (hf : XE cc y ret d z9 n9 jI k pc p1 f) {off : Int} (hd : decode cc p1 = .ok (.ifCond .ne off, 3)) (ho : (p1 : Int) + off = (pt : Int)) : XC cc y ret d z9 n9 k pc pt (p1 + 3) (eU (fun x => qNe x 0) f) := xc_1 hf (fun _ C _ _ _ x kt kf => go_if_ne C hd ho (fun q => kt (decide_eq_true q)) (fun q => kf (decide_eq_false q)))
theorem xc_ne0F {f : EE Int32} (hf : XE cc y ret d z9 n9 jI k pc p1 f) {off : Int} (hd : decode cc p1 = .ok (.ifCond .eq off, 3)) (ho : (p1 : Int) + off = (pf : Int)) : XC cc y ret d z9 n9 k pc (p1 + 3) pf (eU (fun x => qNe x 0) f) := xc_1 hf (fun _ C _ _ _ x kt kf => go_if_eq C hd ho (fun q => kf (decide_eq_false (fun w => w q))) (fun q => kt (decide_eq_true q)))
theorem xc_lneT {f g : EE Int64} (hf : XE cc y ret d z9 n9 jJ k pc p1 f) (hg : XE cc y ret d z9 n9 jJ (k + 2) p1 p2 g) (hd1 : decode cc p2 = .ok (.lcmp, 1)) {off : Int} (hd : decode cc (p2 + 1) = .ok (.ifCond .ne off, 3)) (ho : ((p2 + 1 : Nat) : Int) + off = (pt : Int)) : XC cc y ret d z9 n9 k pc pt (p2 + 4) (eT rNe f g) := xc_2 hf hg (fun _ C _ _ _ x z kt kf => go_lcmp C hd1 (go_if_ne C hd ho (fun q => kt (decide_eq_true q)) (fun q => kf (decide_eq_false q))))
theorem xc_lneF {f g : EE Int64} (hf : XE cc y ret d z9 n9 jJ k pc p1 f) (hg : XE cc y ret d z9 n9 jJ (k + 2) p1 p2 g) (hd1 : decode cc p2 = .ok (.lcmp, 1)) {off : Int} (hd : decode cc (p2 + 1) = .ok (.ifCond .eq off, 3)) (ho : ((p2 + 1 : Nat) : Int) + off = (pf : Int)) : XC cc y ret d z9 n9 k pc (p2 + 4) pf (eT rNe f g) := xc_2 hf hg (fun _ C _ _ _ x z kt kf => go_lcmp C hd1 (go_if_eq C hd ho (fun q => kf (decide_eq_false (fun w => w q))) (fun q => kt (decide_eq_true q))))
theorem xc_ltT {f g : EE Int32} (hf : XE cc y ret d z9 n9 jI k pc p1 f) (hg : XE cc y ret d z9 n9 jI (k + 2) p1 p2 g) {off : Int} (hd : decode cc p2 = .ok (.if_icmp .lt off, 3)) (ho : (p2 : Int) + off = (pt : Int)) : XC cc y ret d z9 n9 k pc pt (p2 + 3) (eT qLt f g) := xc_2 hf hg (fun _ C _ _ _ x z kt kf => go_icmp_lt C hd ho (fun q => kt (decide_eq_true q)) (fun q => kf (decide_eq_false q)))
theorem xc_ltF {f g : EE Int32} (hf : XE cc y ret d z9 n9 jI k pc p1 f) (hg : XE cc y ret d z9 n9 jI (k + 2) p1 p2 g) {off : Int} (hd : decode cc p2 = .ok (.if_icmp .ge off, 3)) (ho : (p2 : Int) + off = (pf : Int)) : XC cc y ret d z9 n9 k pc (p2 + 3) pf (eT qLt f g) := xc_2 hf hg (fun _ C _ _ _ x z kt kf => go_icmp_ge C hd ho (fun q => kf (decide_eq_false (le_ngt q))) (fun q => kt (decide_eq_true (nle_gt q))))
theorem xc_lt0T {f : EE Int32} (hf : XE cc y ret d z9 n9 jI k pc p1 f) {off : Int} (hd : decode cc p1 = .ok (.ifCond .lt off, 3)) (ho : (p1 : Int) + off = (pt : Int)) : XC cc y ret d z9 n9 k pc pt (p1 + 3) (eU (fun x => qLt x 0) f) := xc_1 hf (fun _ C _ _ _ x kt kf => go_if_lt C hd ho (fun q => kt (decide_eq_true q)) (fun q => kf (decide_eq_false q)))
theorem xc_lt0F {f : EE Int32} (hf : XE cc y ret d z9 n9 jI k pc p1 f) {off : Int} (hd : decode cc p1 = .ok (.ifCond .ge off, 3)) (ho : (p1 : Int) + off = (pf : Int)) : XC cc y ret d z9 n9 k pc (p1 + 3) pf (eU (fun x => qLt x 0) f) := xc_1 hf (fun _ C _ _ _ x kt kf => go_if_ge C hd ho (fun q => kf (decide_eq_false (le_ngt q))) (fun q => kt (decide_eq_true (nle_gt q))))
theorem xc_lltT {f g : EE Int64} (hf : XE cc y ret d z9 n9 jJ k pc p1 f) (hg : XE cc y ret d z9 n9 jJ (k + 2) p1 p2 g) (hd1 : decode cc p2 = .ok (.lcmp, 1)) {off : Int} (hd : decode cc (p2 + 1) = .ok (.ifCond .lt off, 3)) (ho : ((p2 + 1 : Nat) : Int) + off = (pt : Int)) : XC cc y ret d z9 n9 k pc pt (p2 + 4) (eT rLt f g) := xc_2 hf hg (fun _ C _ _ _ x z kt kf => go_lcmp C hd1 (go_if_lt C hd ho (fun q => kt (decide_eq_true q)) (fun q => kf (decide_eq_false q))))
theorem xc_lltF {f g : EE Int64} (hf : XE cc y ret d z9 n9 jJ k pc p1 f) (hg : XE cc y ret d z9 n9 jJ (k + 2) p1 p2 g) (hd1 : decode cc p2 = .ok (.lcmp, 1)) {off : Int} (hd : decode cc (p2 + 1) = .ok (.ifCond .ge off, 3)) (ho : ((p2 + 1 : Nat) : Int) + off = (pf : Int)) : XC cc y ret d z9 n9 k pc (p2 + 4) pf (eT rLt f g) := xc_2 hf hg (fun _ C _ _ _ x z kt kf => go_lcmp C hd1 (go_if_ge C hd ho (fun q => kf (decide_eq_false (le_ngt q))) (fun q => kt (decide_eq_true (nle_gt q)))))
theorem xc_geT {f g : EE Int32} (hf : XE cc y ret d z9 n9 jI k pc p1 f) (hg : XE cc y ret d z9 n9 jI (k + 2) p1 p2 g) {off : Int} (hd : decode cc p2 = .ok (.if_icmp .ge off, 3)) (ho : (p2 : Int) + off = (pt : Int)) : XC cc y ret d z9 n9 k pc pt (p2 + 3) (eT qGe f g) := xc_2 hf hg (fun _ C _ _ _ x z kt kf => go_icmp_ge C hd ho (fun q => kt (decide_eq_true q)) (fun q => kf (decide_eq_false q)))
theorem xc_geF {f g : EE Int32} (hf : XE cc y ret d z9 n9 jI k pc p1 f) (hg : XE cc y ret d z9 n9 jI (k + 2) p1 p2 g) {off : Int} (hd : decode cc p2 = .ok (.if_icmp .lt off, 3)) (ho : (p2 : Int) + off = (pf : Int)) : XC cc y ret d z9 n9 k pc (p2 + 3) pf (eT qGe f g) := xc_2 hf hg (fun _ C _ _ _ x z kt kf => go_icmp_lt C hd ho (fun q => kf (decide_eq_false (lt_nge q))) (fun q => kt (decide_eq_true (nlt_ge q))))
theorem xc_ge0T {f : EE Int32} (hf : XE cc y ret d z9 n9 jI k pc p1 f) {off : Int} (hd : decode cc p1 = .ok (.ifCond .ge off, 3)) (ho : (p1 : Int) + off = (pt : Int)) : XC cc y ret d z9 n9 k pc pt (p1 + 3) (eU (fun x => qGe x 0) f) := xc_1 hf (fun _ C _ _ _ x kt kf => go_if_ge C hd ho (fun q => kt (decide_eq_true q)) (fun q => kf (decide_eq_false q)))
theorem xc_ge0F {f : EE Int32} (hf : XE cc y ret d z9 n9 jI k pc p1 f) {off : Int} (hd : decode cc p1 = .ok (.ifCond .lt off, 3)) (ho : (p1 : Int) + off = (pf : Int)) : XC cc y ret d z9 n9 k pc (p1 + 3) pf (eU (fun x => qGe x 0) f) := xc_1 hf (fun _ C _ _ _ x kt kf => go_if_lt C hd ho (fun q => kf (decide_eq_false (lt_nge q))) (fun q => kt (decide_eq_true (nlt_ge q))))
theorem xc_lgeT {f g : EE Int64} (hf : XE cc y ret d z9 n9 jJ k pc p1 f) (hg : XE cc y ret d z9 n9 jJ (k + 2) p1 p2 g) (hd1 : decode cc p2 = .ok (.lcmp, 1)) {off : Int} (hd : decode cc (p2 + 1) = .ok (.ifCond .ge off, 3)) (ho : ((p2 + 1 : Nat) : Int) + off = (pt : Int)) : XC cc y ret d z9 n9 k pc pt (p2 + 4) (eT rGe f g) := xc_2 hf hg (fun _ C _ _ _ x z kt kf => go_lcmp C hd1 (go_if_ge C hd ho (fun q => kt (decide_eq_true q)) (fun q => kf (decide_eq_false q))))
theorem xc_lgeF {f g : EE Int64} (hf : XE cc y ret d z9 n9 jJ k pc p1 f) (hg : XE cc y ret d z9 n9 jJ (k + 2) p1 p2 g) (hd1 : decode cc p2 = .ok (.lcmp, 1)) {off : Int} (hd : decode cc (p2 + 1) = .ok (.ifCond .lt off, 3)) (ho : ((p2 + 1 : Nat) : Int) + off = (pf : Int)) : XC cc y ret d z9 n9 k pc (p2 + 4) pf (eT rGe f g) := xc_2 hf hg (fun _ C _ _ _ x z kt kf => go_lcmp C hd1 (go_if_lt C hd ho (fun q => kf (decide_eq_false (lt_nge q))) (fun q => kt (decide_eq_true (nlt_ge q)))))
theorem xc_gtT {f g : EE Int32} (hf : XE cc y ret d z9 n9 jI k pc p1 f) (hg : XE cc y ret d z9 n9 jI (k + 2) p1 p2 g) {off : Int} (hd : decode cc p2 = .ok (.if_icmp .gt off, 3)) (ho : (p2 : Int) + off = (pt : Int)) : XC cc y ret d z9 n9 k pc pt (p2 + 3) (eT qGt f g) := xc_2 hf hg (fun _ C _ _ _ x z kt kf => go_icmp_gt C hd ho (fun q => kt (decide_eq_true q)) (fun q => kf (decide_eq_false q)))
theorem xc_gtF {f g : EE Int32} (hf : XE cc y ret d z9 n9 jI k pc p1 f) (hg : XE cc y ret d z9 n9 jI (k + 2) p1 p2 g) {off : Int} (hd : decode cc p2 = .ok (.if_icmp .le off, 3)) (ho : (p2 : Int) + off = (pf : Int)) : XC cc y ret d z9 n9 k pc (p2 + 3) pf (eT qGt f g) := xc_2 hf hg (fun _ C _ _ _ x z kt kf => go_icmp_le C hd ho (fun q => kf (decide_eq_false (le_ngt q))) (fun q => kt (decide_eq_true (nle_gt q))))
theorem xc_gt0T {f : EE Int32} (hf : XE cc y ret d z9 n9 jI k pc p1 f) {off : Int} (hd : decode cc p1 = .ok (.ifCond .gt off, 3)) (ho : (p1 : Int) + off = (pt : Int)) : XC cc y ret d z9 n9 k pc pt (p1 + 3) (eU (fun x => qGt x 0) f) := xc_1 hf (fun _ C _ _ _ x kt kf => go_if_gt C hd ho (fun q => kt (decide_eq_true q)) (fun q => kf (decide_eq_false q)))
theorem xc_gt0F {f : EE Int32} (hf : XE cc y ret d z9 n9 jI k pc p1 f) {off : Int} (hd : decode cc p1 = .ok (.ifCond .le off, 3)) (ho : (p1 : Int) + off = (pf : Int)) : XC cc y ret d z9 n9 k pc (p1 + 3) pf (eU (fun x => qGt x 0) f) := xc_1 hf (fun _ C _ _ _ x kt kf => go_if_le C hd ho (fun q => kf (decide_eq_false (le_ngt q))) (fun q => kt (decide_eq_true (nle_gt q))))
theorem xc_lgtT {f g : EE Int64} (hf : XE cc y ret d z9 n9 jJ k pc p1 f) (hg : XE cc y ret d z9 n9 jJ (k + 2) p1 p2 g) (hd1 : decode cc p2 = .ok (.lcmp, 1)) {off : Int} (hd : decode cc (p2 + 1) = .ok (.ifCond .gt off, 3)) (ho : ((p2 + 1 : Nat) : Int) + off = (pt : Int)) : XC cc y ret d z9 n9 k pc pt (p2 + 4) (eT rGt f g) := xc_2 hf hg (fun _ C _ _ _ x z kt kf => go_lcmp C hd1 (go_if_gt C hd ho (fun q => kt (decide_eq_true q)) (fun q => kf (decide_eq_false q))))
theorem xc_lgtF {f g : EE Int64} (hf : XE cc y ret d z9 n9 jJ k pc p1 f) (hg : XE cc y ret d z9 n9 jJ (k + 2) p1 p2 g) (hd1 : decode cc p2 = .ok (.lcmp, 1)) {off : Int} (hd : decode cc (p2 + 1) = .ok (.ifCond .le off, 3)) (ho : ((p2 + 1 : Nat) : Int) + off = (pf : Int)) : XC cc y ret d z9 n9 k pc (p2 + 4) pf (eT rGt f g) := xc_2 hf hg (fun _ C _ _ _ x z kt kf => go_lcmp C hd1 (go_if_le C hd ho (fun q => kf (decide_eq_false (le_ngt q))) (fun q => kt (decide_eq_true (nle_gt q)))))
theorem xc_leT {f g : EE Int32} (hf : XE cc y ret d z9 n9 jI k pc p1 f) (hg : XE cc y ret d z9 n9 jI (k + 2) p1 p2 g) {off : Int} (hd : decode cc p2 = .ok (.if_icmp .le off, 3)) (ho : (p2 : Int) + off = (pt : Int)) : XC cc y ret d z9 n9 k pc pt (p2 + 3) (eT qLe f g) := xc_2 hf hg (fun _ C _ _ _ x z kt kf => go_icmp_le C hd ho (fun q => kt (decide_eq_true q)) (fun q => kf (decide_eq_false q)))
theorem xc_leF {f g : EE Int32} (hf : XE cc y ret d z9 n9 jI k pc p1 f) (hg : XE cc y ret d z9 n9 jI (k + 2) p1 p2 g) {off : Int} (hd : decode cc p2 = .ok (.if_icmp .gt off, 3)) (ho : (p2 : Int) + off = (pf : Int)) : XC cc y ret d z9 n9 k pc (p2 + 3) pf (eT qLe f g) := xc_2 hf hg (fun _ C _ _ _ x z kt kf => go_icmp_gt C hd ho (fun q => kf (decide_eq_false (lt_nge q))) (fun q => kt (decide_eq_true (nlt_ge q))))
theorem xc_le0T {f : EE Int32} (hf : XE cc y ret d z9 n9 jI k pc p1 f) {off : Int} (hd : decode cc p1 = .ok (.ifCond .le off, 3)) (ho : (p1 : Int) + off = (pt : Int)) : XC cc y ret d z9 n9 k pc pt (p1 + 3) (eU (fun x => qLe x 0) f) := xc_1 hf (fun _ C _ _ _ x kt kf => go_if_le C hd ho (fun q => kt (decide_eq_true q)) (fun q => kf (decide_eq_false q)))
theorem xc_le0F {f : EE Int32} (hf : XE cc y ret d z9 n9 jI k pc p1 f) {off : Int} (hd : decode cc p1 = .ok (.ifCond .gt off, 3)) (ho : (p1 : Int) + off = (pf : Int)) : XC cc y ret d z9 n9 k pc (p1 + 3) pf (eU (fun x => qLe x 0) f) := xc_1 hf (fun _ C _ _ _ x kt kf => go_if_gt C hd ho (fun q => kf (decide_eq_false (lt_nge q))) (fun q => kt (decide_eq_true (nlt_ge q))))
theorem xc_lleT {f g : EE Int64} (hf : XE cc y ret d z9 n9 jJ k pc p1 f) (hg : XE cc y ret d z9 n9 jJ (k + 2) p1 p2 g) (hd1 : decode cc p2 = .ok (.lcmp, 1)) {off : Int} (hd : decode cc (p2 + 1) = .ok (.ifCond .le off, 3)) (ho : ((p2 + 1 : Nat) : Int) + off = (pt : Int)) : XC cc y ret d z9 n9 k pc pt (p2 + 4) (eT rLe f g) := xc_2 hf hg (fun _ C _ _ _ x z kt kf => go_lcmp C hd1 (go_if_le C hd ho (fun q => kt (decide_eq_true q)) (fun q => kf (decide_eq_false q))))
theorem xc_lleF {f g : EE Int64} (hf : XE cc y ret d z9 n9 jJ k pc p1 f) (hg : XE cc y ret d z9 n9 jJ (k + 2) p1 p2 g) (hd1 : decode cc p2 = .ok (.lcmp, 1)) {off : Int} (hd : decode cc (p2 + 1) = .ok (.ifCond .gt off, 3)) (ho : ((p2 + 1 : Nat) : Int) + off = (pf : Int)) : XC cc y ret d z9 n9 k pc (p2 + 4) pf (eT rLe f g) := xc_2 hf hg (fun _ C _ _ _ x z kt kf => go_lcmp C hd1 (go_if_gt C hd ho (fun q => kf (decide_eq_false (lt_nge q))) (fun q => kt (decide_eq_true (nlt_ge q)))))
theorem xc_zT {f : EE Int32} (hf : XE cc y ret d z9 n9 jI k pc p1 f) {off : Int} (hd : decode cc p1 = .ok (.ifCond .ne off, 3)) (ho : (p1 : Int) + off = (pt : Int)) : XC cc y ret d z9 n9 k pc pt (p1 + 3) (cZ f) := xc_1 hf (fun _ C _ _ _ x kt kf => go_if_ne C hd ho (fun q => kt (decide_eq_true q)) (fun q => kf (decide_eq_false q)))
theorem xc_zF {f : EE Int32} (hf : XE cc y ret d z9 n9 jI k pc p1 f) {off : Int} (hd : decode cc p1 = .ok (.ifCond .eq off, 3)) (ho : (p1 : Int) + off = (pf : Int)) : XC cc y ret d z9 n9 k pc (p1 + 3) pf (cZ f) := xc_1 hf (fun _ C _ _ _ x kt kf => go_if_eq C hd ho (fun q => kf (decide_eq_false (fun w => w q))) (fun q => kt (decide_eq_true q)))
theorem xc_nulT {f : EE (Option Nat)} (hf : XE cc y ret d z9 n9 jA k pc p1 f) {off : Int} (hd : decode cc p1 = .ok (.ifnull off, 3)) (ho : (p1 : Int) + off = (pt : Int)) : XC cc y ret d z9 n9 k pc pt (p1 + 3) (cNul f) := xc_1 hf (fun _ C _ _ _ x kt kf => go_ifnull C hd ho (fun q => kt (decide_eq_true q)) (fun q => kf (decide_eq_false q)))
theorem xc_nulF {f : EE (Option Nat)} (hf : XE cc y ret d z9 n9 jA k pc p1 f) {off : Int} (hd : decode cc p1 = .ok (.ifnonnull off, 3)) (ho : (p1 : Int) + off = (pf : Int)) : XC cc y ret d z9 n9 k pc (p1 + 3) pf (cNul f) := xc_1 hf (fun _ C _ _ _ x kt kf => go_ifnonnull C hd ho (fun q => kf (decide_eq_false q)) (fun q => kt (decide_eq_true (Classical.not_not.mp q))))
theorem xc_nnT {f : EE (Option Nat)} (hf : XE cc y ret d z9 n9 jA k pc p1 f) {off : Int} (hd : decode cc p1 = .ok (.ifnonnull off, 3)) (ho : (p1 : Int) + off = (pt : Int)) : XC cc y ret d z9 n9 k pc pt (p1 + 3) (cNN f) := xc_1 hf (fun _ C _ _ _ x kt kf => go_ifnonnull C hd ho (fun q => kt (decide_eq_true q)) (fun q => kf (decide_eq_false q)))
theorem xc_nnF {f : EE (Option Nat)} (hf : XE cc y ret d z9 n9 jA k pc p1 f) {off : Int} (hd : decode cc p1 = .ok (.ifnull off, 3)) (ho : (p1 : Int) + off = (pf : Int)) : XC cc y ret d z9 n9 k pc (p1 + 3) pf (cNN f) := xc_1 hf (fun _ C _ _ _ x kt kf => go_ifnull C hd ho (fun q => kf (decide_eq_false (fun w => w q))) (fun q => kt (decide_eq_true q)))
theorem xc_aneT {f g : EE (Option Nat)} (hf : XE cc y ret d z9 n9 jA k pc p1 f) (hg : XE cc y ret d z9 n9 jA (k + 2) p1 p2 g) {off : Int} (hd : decode cc p2 = .ok (.if_acmp .ne off, 3)) (ho : (p2 : Int) + off = (pt : Int)) : XC cc y ret d z9 n9 k pc pt (p2 + 3) (cAne f g) := xc_2 hf hg (fun _ C _ _ _ x z kt kf => go_acmp_ne C hd ho (fun q => kt (decide_eq_true q)) (fun q => kf (decide_eq_false q)))
theorem xc_aeqF {f g : EE (Option Nat)} (hf : XE cc y ret d z9 n9 jA k pc p1 f) (hg : XE cc y ret d z9 n9 jA (k + 2) p1 p2 g) {off : Int} (hd : decode cc p2 = .ok (.if_acmp .ne off, 3)) (ho : (p2 : Int) + off = (pf : Int)) : XC cc y ret d z9 n9 k pc (p2 + 3) pf (cAeq f g) := xc_2 hf hg (fun _ C _ _ _ x z kt kf => go_acmp_ne C hd ho (fun q => kf (decide_eq_false q)) (fun q => kt (decide_eq_true (Classical.not_not.mp q))))
theorem xc_aeqT {f g : EE (Option Nat)} (hf : XE cc y ret d z9 n9 jA k pc p1 f) (hg : XE cc y ret d z9 n9 jA (k + 2) p1 p2 g) {off : Int} (hd : decode cc p2 = .ok (.if_acmp .eq off, 3)) (ho : (p2 : Int) + off = (pt : Int)) : XC cc y ret d z9 n9 k pc pt (p2 + 3) (cAeq f g) := xc_2 hf hg (fun _ C _ _ _ x z kt kf => go_acmp_eq C hd ho (fun q => kt (decide_eq_true q)) (fun q => kf (decide_eq_false q)))
theorem xc_not {c : EE Bool} (hc : XC cc y ret d z9 n9 k pc pf pt c) : XC cc y ret d z9 n9 k pc pt pf (cNot c) := by
  refine ⟨fun L h v h' he => ?_, fun X C L h v h' he hB st hst kt kf => ?_⟩
  · obtain ⟨r, e1, he⟩ := ob he
    cases he
    exact hc.1 _ _ _ _ e1
  · obtain ⟨r, e1, he⟩ := ob he
    cases he
    exact hc.2 X C _ _ _ _ e1 hB st hst (fun z => kf (by rw [z]; rfl)) (fun z => kt (by rw [z]; rfl))
theorem xc_and {a b : EE Bool} (ha : XC cc y ret d z9 n9 k pc p1 pf a) (hb : XC cc y ret d z9 n9 k p1 pt pf b) : XC cc y ret d z9 n9 k pc pt pf (cAnd a b) := by
  refine ⟨fun L h v h' he => ?_, fun X C L h v h' he hB st hst kt kf => ?_⟩
  · obtain ⟨r, e1, he⟩ := ob he
    split at he
    · exact (ha.1 _ _ _ _ e1).tr (hb.1 _ _ _ _ he)
    · cases he; exact ha.1 _ _ _ _ e1
  · obtain ⟨⟨r, h1⟩, e1, he⟩ := ob he
    split at he
    · next q =>
      simp only at q
      subst q
      exact ha.2 X C _ _ _ _ e1 ((hb.1 _ _ _ _ he).tr hB) st hst (fun _ => hb.2 X C _ _ _ _ he hB st hst kt kf) (fun z => by cases z)
    · next q =>
      simp only [Bool.not_eq_true] at q
      subst q
      cases he
      exact ha.2 X C _ _ _ _ e1 hB st hst (fun z => by cases z) (fun _ => kf rfl)
theorem xc_or {a b : EE Bool} (ha : XC cc y ret d z9 n9 k pc pt p1 a) (hb : XC cc y ret d z9 n9 k p1 pt pf b) : XC cc y ret d z9 n9 k pc pt pf (cOr a b) := by
  refine ⟨fun L h v h' he => ?_, fun X C L h v h' he hB st hst kt kf => ?_⟩
  · obtain ⟨r, e1, he⟩ := ob he
    split at he
    · cases he; exact ha.1 _ _ _ _ e1
    · exact (ha.1 _ _ _ _ e1).tr (hb.1 _ _ _ _ he)
  · obtain ⟨⟨r, h1⟩, e1, he⟩ := ob he
    split at he
    · next q =>
      simp only at q
      subst q
      cases he
      exact ha.2 X C _ _ _ _ e1 hB st hst (fun _ => kt rfl) (fun z => by cases z)
    · next q =>
      simp only [Bool.not_eq_true] at q
      subst q
      exact ha.2 X C _ _ _ _ e1 ((hb.1 _ _ _ _ he).tr hB) st hst (fun z => by cases z) (fun _ => hb.2 X C _ _ _ _ he hB st hst kt kf)
theorem xc_if {c a b : EE Bool} (hc : XC cc y ret d z9 n9 k pc p1 p2 c) (ha : XC cc y ret d z9 n9 k p1 pt pf a) (hb : XC cc y ret d z9 n9 k p2 pt pf b) : XC cc y ret d z9 n9 k pc pt pf (eIf c a b) := by
  refine ⟨fun L h v h' he => ?_, fun X C L h v h' he hB st hst kt kf => ?_⟩
  · obtain ⟨r, e1, he⟩ := ob he
    split at he
    · exact (hc.1 _ _ _ _ e1).tr (ha.1 _ _ _ _ he)
    · exact (hc.1 _ _ _ _ e1).tr (hb.1 _ _ _ _ he)
  · obtain ⟨⟨r, h1⟩, e1, he⟩ := ob he
    split at he
    · next q =>
      simp only at q
      subst q
      exact hc.2 X C _ _ _ _ e1 ((ha.1 _ _ _ _ he).tr hB) st hst (fun _ => ha.2 X C _ _ _ _ he hB st hst kt kf) (fun z => by cases z)
    · next q =>
      simp only [Bool.not_eq_true] at q
      subst q
      exact hc.2 X C _ _ _ _ e1 ((hb.1 _ _ _ _ he).tr hB) st hst (fun z => by cases z) (fun _ => hb.2 X C _ _ _ _ he hB st hst kt kf)
/-- a jump to a jump -/
theorem xc_gt {c : EE Bool} (hc : XC cc y ret d z9 n9 k pc p1 pf c) {off : Int} (hd : decode cc p1 = .ok (.goto off, 3)) (ho : (p1 : Int) + off = (pt : Int)) : XC cc y ret d z9 n9 k pc pt pf c :=
  ⟨hc.1, fun X C L h v h' he hB st hst kt kf => hc.2 X C L h v h' he hB st hst (fun z => go_goto C hd ho (kt z)) kf⟩
theorem xc_gf {c : EE Bool} (hc : XC cc y ret d z9 n9 k pc pt p1 c) {off : Int} (hd : decode cc p1 = .ok (.goto off, 3)) (ho : (p1 : Int) + off = (pf : Int)) : XC cc y ret d z9 n9 k pc pt pf c :=
  ⟨hc.1, fun X C L h v h' he hB st hst kt kf => hc.2 X C L h v h' he hB st hst kt (fun z => go_goto C hd ho (kf z))⟩
variable {inj : ρ → Option Value}
-- statements
theorem xs_nil : XS cc y ret d z9 n9 inj pc pc (sNil (ρ := ρ)) := ⟨fun L h r he => by cases he; exact Le.rf _, fun X C L h r he hB kk => by cases he; exact kk⟩
theorem xs_seq {a b : SS ρ} (ha : XS cc y ret d z9 n9 inj pc p1 a) (hb : XS cc y ret d z9 n9 inj p1 p2 b) : XS cc y ret d z9 n9 inj pc p2 (sSeq a b) := by
  refine ⟨fun L h r he => ?_, fun X C L h r he hB kk => ?_⟩
  · obtain ⟨q, e1, he⟩ := ob he
    cases q with
    | inl q => exact (ha.1 _ _ _ e1).tr (hb.1 _ _ _ he)
    | inr q => cases he; exact ha.1 _ _ _ e1
  · obtain ⟨q, e1, he⟩ := ob he
    cases q with
    | inl q => exact ha.2 X C _ _ _ e1 ((hb.1 _ _ _ he).tr hB) (hb.2 X C _ _ _ he hB kk)
    | inr q => cases he; exact ha.2 X C _ _ _ e1 hB kk
theorem xs_goto {a : SS ρ} (ha : XS cc y ret d z9 n9 inj pc p1 a) {off : Int} (hd : decode cc p1 = .ok (.goto off, 3)) (ho : (p1 : Int) + off = (p2 : Int)) : XS cc y ret d z9 n9 inj pc p2 a :=
  ⟨ha.1, fun X C L h r he hB kk => ha.2 X C L h r he hB (by
    cases r with
    | inl q => exact go_goto C hd ho kk
    | inr q => exact kk)⟩
theorem xs_1 {ja : α → Value} {f : EE α} {g : List Value → XH → α → List Value × XH} (hf : XE cc y ret d z9 n9 ja 0 pc p1 f) (hg : ∀ L h v, (g L h v).2 = h) (ins : ∀ X, xCx X cc y ret d z9 n9 → ∀ L h v, Go X p2 (g L h v).1 [] h → Go X p1 L [ja v] h) : XS cc y ret d z9 n9 inj pc p2 (fun L h => (f L h).bind fun r => some (.inl (g L r.2 r.1)) : SS ρ) := by
  refine ⟨fun L h r he => ?_, fun X C L h r he hB kk => ?_⟩
  · obtain ⟨q, e1, he⟩ := ob he
    cases he
    show Le h (g L q.2 q.1).2
    rw [hg]; exact hf.1 _ _ _ _ e1
  · obtain ⟨q, e1, he⟩ := ob he
    cases he
    have hB' : Le (g L q.2 q.1).2 (xEnd X).2 := hB
    have kk' : Go X p2 (g L q.2 q.1).1 [] (g L q.2 q.1).2 := kk
    rw [hg] at hB' kk'
    exact hf.2 X C _ _ _ _ e1 hB' [] (Nat.le_refl _) (ins X C _ _ _ kk')
theorem xs_istore_n {k0 : Fin 4} {i : Nat} {f : EE Int32} (hf : XE cc y ret d z9 n9 jI 0 pc p1 f) (hd : decode cc p1 = .ok (.istore_n k0, 1)) (hi : (k0 : Nat) = i) (hn : i < n9) : XS cc y ret d z9 n9 inj pc (p1 + 1) (sSetI i f : SS ρ) := xs_1 (g := fun L h v => (stL L i (.int v), h)) hf (fun _ _ _ => rfl) (fun _ C _ _ _ kk => go_istore_n C hd hi hn kk)
theorem xs_istore {i : Nat} {f : EE Int32} (hf : XE cc y ret d z9 n9 jI 0 pc p1 f) (hd : decode cc p1 = .ok (.istore i, 2)) (hn : i < n9) : XS cc y ret d z9 n9 inj pc (p1 + 2) (sSetI i f : SS ρ) := xs_1 (g := fun L h v => (stL L i (.int v), h)) hf (fun _ _ _ => rfl) (fun _ C _ _ _ kk => go_istore C hd hn kk)
theorem xs_lstore_n {k0 : Fin 4} {i : Nat} {f : EE Int64} (hf : XE cc y ret d z9 n9 jJ 0 pc p1 f) (hd : decode cc p1 = .ok (.lstore_n k0, 1)) (hi : (k0 : Nat) = i) (hn : i + 1 < n9) : XS cc y ret d z9 n9 inj pc (p1 + 1) (sSetJ i f : SS ρ) := xs_1 (g := fun L h v => (stL2 L i (.long v), h)) hf (fun _ _ _ => rfl) (fun _ C _ _ _ kk => go_lstore_n C hd hi hn kk)
theorem xs_lstore {i : Nat} {f : EE Int64} (hf : XE cc y ret d z9 n9 jJ 0 pc p1 f) (hd : decode cc p1 = .ok (.lstore i, 2)) (hn : i + 1 < n9) : XS cc y ret d z9 n9 inj pc (p1 + 2) (sSetJ i f : SS ρ) := xs_1 (g := fun L h v => (stL2 L i (.long v), h)) hf (fun _ _ _ => rfl) (fun _ C _ _ _ kk => go_lstore C hd hn kk)
theorem xs_astore_n {k0 : Fin 4} {i : Nat} {f : EE (Option Nat)} (hf : XE cc y ret d z9 n9 jA 0 pc p1 f) (hd : decode cc p1 = .ok (.astore_n k0, 1)) (hi : (k0 : Nat) = i) (hn : i < n9) : XS cc y ret d z9 n9 inj pc (p1 + 1) (sSetA i f : SS ρ) := xs_1 (g := fun L h v => (stL L i (va_rf v), h)) hf (fun _ _ _ => rfl) (fun _ C _ _ _ kk => go_astore_n C hd hi hn kk)
theorem xs_astore {i : Nat} {f : EE (Option Nat)} (hf : XE cc y ret d z9 n9 jA 0 pc p1 f) (hd : decode cc p1 = .ok (.astore i, 2)) (hn : i < n9) : XS cc y ret d z9 n9 inj pc (p1 + 2) (sSetA i f : SS ρ) := xs_1 (g := fun L h v => (stL L i (va_rf v), h)) hf (fun _ _ _ => rfl) (fun _ C _ _ _ kk => go_astore C hd hn kk)
theorem xs_pop {ja : α → Value} {f : EE α} (hf : XE cc y ret d z9 n9 ja 0 pc p1 f) (hc : ∀ v, (ja v).category = 1) (hd : decode cc p1 = .ok (.pop, 1)) : XS cc y ret d z9 n9 inj pc (p1 + 1) (sX f : SS ρ) := xs_1 (g := fun L h _ => (L, h)) hf (fun _ _ _ => rfl) (fun _ C _ _ _ kk => go_pop C hd (hc _) kk)
theorem xs_pop2 {f : EE Int64} (hf : XE cc y ret d z9 n9 jJ 0 pc p1 f) (hd : decode cc p1 = .ok (.pop2, 1)) : XS cc y ret d z9 n9 inj pc (p1 + 1) (sX f : SS ρ) := xs_1 (g := fun L h _ => (L, h)) hf (fun _ _ _ => rfl) (fun _ C _ _ _ kk => go_pop2 C hd rfl kk)
theorem xs_void {f : EE Unit} (hf : XR cc y ret d z9 n9 (fun _ => none) 0 pc p1 f) : XS cc y ret d z9 n9 inj pc p1 (sX f : SS ρ) := by
  refine ⟨fun L h r he => ?_, fun X C L h r he hB kk => ?_⟩
  · obtain ⟨q, e1, he⟩ := ob he
    cases he
    exact hf.1 _ _ _ _ e1
  · obtain ⟨q, e1, he⟩ := ob he
    cases he
    exact hf.2 X C _ _ _ _ e1 hB [] (Nat.le_refl _) kk
theorem xs_iinc {i : Nat} {n : Int} {v : Int32} (hd : decode cc pc = .ok (.iinc i n, 3)) (hv : Int32.ofInt n = v) (hn : i < n9) : XS cc y ret d z9 n9 inj pc (pc + 3) (sInc i v : SS ρ) := by
  refine ⟨fun L h r he => ?_, fun X C L h r he hB kk => ?_⟩
  · obtain ⟨q, e1, he⟩ := ob he
    cases he
    exact Le.rf _
  · obtain ⟨q, e1, he⟩ := ob he
    cases he
    exact go_iinc C hd (gI_eq e1) hv hn kk
/-- a store into a field: which plane -/
def putOK {α : Type} (set : XH → Nat → Nat → α → XH) (ja : α → Value) (t k : Nat) : Prop := (∀ h a v, xPut h (set h a k v) a k (xF t k) (ja v)) ∧ (∀ h a v, Le h (set h a k v) ∧ Le (set h a k v) h) ∧ (∀ v, narrow (xF t k) (ja v) = ja v ∧ fits (xF t k) (ja v) = true)
def finOK (y : MethodName) (t k : Nat) : Prop := ((xC t).2.1 k).2.2.2 = false ∨ (((xC t).2.1 k).2.2.2 = true ∧ y.name = "<init>" ∧ ((xC t).2.1 k).1 = y.cls)
theorem putI {t j : Nat} (hv : xF t j = .int) : putOK sI jI t j := by
  refine ⟨fun h a v => xPut.I (by rw [hv]; exact fun _ _ _ => rfl), fun h a v => ⟨Le.rf _, Le.rf _⟩, fun v => ?_⟩
  rw [hv]; exact ⟨rfl, rfl⟩
theorem putJ {t j : Nat} (hv : xF t j = .long) : putOK sJ jJ t j := by
  refine ⟨fun h a v => xPut.J (by rw [hv]; exact fun _ _ _ => rfl), fun h a v => ⟨Le.rf _, Le.rf _⟩, fun v => ?_⟩
  rw [hv]; exact ⟨rfl, rfl⟩
theorem putA {t j : Nat} (hv : (∃ E, xF t j = .object E) ∨ ∃ e, xF t j = .array e) : putOK sA jA t j := by
  rcases hv with ⟨E, hv⟩ | ⟨E, hv⟩
  · refine ⟨fun h a v => xPut.A (by rw [hv]; exact fun _ _ _ => rfl), fun h a v => ⟨Le.rf _, Le.rf _⟩, fun v => ?_⟩
    rw [hv]; cases v <;> exact ⟨rfl, rfl⟩
  · refine ⟨fun h a v => xPut.A (by rw [hv]; exact fun _ _ _ => rfl), fun h a v => ⟨Le.rf _, Le.rf _⟩, fun v => ?_⟩
    rw [hv]; cases v <;> exact ⟨rfl, rfl⟩
theorem xs_put {set : XH → Nat → Nat → α → XH} {ja : α → Value} {t j : Nat} {o : EE (Option Nat)} {f : EE α} (ho : XE cc y ret d z9 n9 jA 0 pc p1 o) (hf : XE cc y ret d z9 n9 ja 2 p1 p2 f) (hl : xLk y idx t j) (hfin : finOK y t j) (hp : putOK set ja t j) (hd : decode cc p2 = .ok (.putfield idx, 3)) : XS cc y ret d z9 n9 inj pc (p2 + 3) (sPut set t j o f : SS ρ) := by
  refine ⟨fun L h r he => ?_, fun X C L h r he hB kk => ?_⟩
  · obtain ⟨⟨r1, h1⟩, e1, he⟩ := ob he
    obtain ⟨a, e2, he⟩ := ob he
    obtain ⟨q, e3, he⟩ := ob he
    split at he
    · cases he; exact (ho.1 _ _ _ _ e1).tr ((hf.1 _ _ _ _ e3).tr (hp.2.1 _ _ _).1)
    · cases he
  · obtain ⟨⟨r1, h1⟩, e1, he⟩ := ob he
    obtain ⟨a, e2, he⟩ := ob he
    obtain ⟨⟨v, h2⟩, e3, he⟩ := ob he
    split at he
    · next ht =>
      cases he
      simp only at e2 e3 ht
      subst e2
      have hB2 : Le h2 (xEnd X).2 := (hp.2.1 _ _ _).1.tr hB
      exact ho.2 X C _ _ _ _ e1 ((hf.1 _ _ _ _ e3).tr hB2) [] (Nat.le_refl _) (hf.2 X C _ _ _ _ e3 hB2 _ (cats_c _ [] 0 (Nat.le_refl _)) (go_putf C hl ht hfin (hp.1 _ _ _) (hp.2.2 _).1 (hp.2.2 _).2 hd kk))
    · cases he
theorem xs_putC {pl : XH → Nat → Nat → α} {set : XH → Nat → Nat → α → XH} {ja : α → Value} {jb : β → Value} {op : α → β → α} {t j i1 : Nat} {o : EE (Option Nat)} {f : EE β} (ho : XE cc y ret d z9 n9 jA 0 pc p1 o) (hd1 : decode cc p1 = .ok (.dup, 1)) (hd2 : decode cc (p1 + 1) = .ok (.getfield i1, 3)) (hl1 : xLk y i1 t j) (hv : ∀ h a, vV (xF t j) h a j = ja (pl h a j)) (hf : XE cc y ret d z9 n9 jb 4 (p1 + 4) p2 f) (ins : ∀ X, xCx X cc y ret d z9 n9 → ∀ L st h x z, Go X p3 L (ja (op x z) :: st) h → Go X p2 L (jb z :: ja x :: st) h) (hl : xLk y idx t j) (hfin : finOK y t j) (hp : putOK set ja t j) (hd : decode cc p3 = .ok (.putfield idx, 3)) : XS cc y ret d z9 n9 inj pc (p3 + 3) (sPutC pl set op t j o f : SS ρ) := by
  refine ⟨fun L h r he => ?_, fun X C L h r he hB kk => ?_⟩
  · obtain ⟨⟨r1, h1⟩, e1, he⟩ := ob he
    obtain ⟨a, e2, he⟩ := ob he
    split at he
    · obtain ⟨q, e3, he⟩ := ob he
      split at he
      · cases he; exact (ho.1 _ _ _ _ e1).tr ((hf.1 _ _ _ _ e3).tr (hp.2.1 _ _ _).1)
      · cases he
    · cases he
  · obtain ⟨⟨r1, h1⟩, e1, he⟩ := ob he
    obtain ⟨a, e2, he⟩ := ob he
    split at he
    · next ht1 =>
      obtain ⟨⟨v, h2⟩, e3, he⟩ := ob he
      split at he
      · next ht =>
        cases he
        simp only at e2 e3 ht ht1
        subst e2
        have hB2 : Le h2 (xEnd X).2 := (hp.2.1 _ _ _).1.tr hB
        refine ho.2 X C _ _ _ _ e1 ((hf.1 _ _ _ _ e3).tr hB2) [] (Nat.le_refl _) (go_dup C hd1 rfl (go_getf C hl1 ht1 hd2 ?_))
        rw [hv]
        exact hf.2 X C _ _ _ _ e3 hB2 _ (cats_c _ _ 2 (cats_c _ [] 0 (Nat.le_refl _))) (ins X C _ _ _ _ _ (go_putf C hl ht hfin (hp.1 _ _ _) (hp.2.2 _).1 (hp.2.2 _).2 hd kk))
      · cases he
    · cases he
theorem xs_iast {o : EE (Option Nat)} {g : EE Int32} {f : EE Int32} (ho : XE cc y ret d z9 n9 jA 0 pc p1 o) (hg : XE cc y ret d z9 n9 jI 2 p1 p2 g) (hf : XE cc y ret d z9 n9 jI 4 p2 p3 f) (hd : decode cc p3 = .ok (.iastore, 1)) : XS cc y ret d z9 n9 inj pc (p3 + 1) (sAst sI 100 o g f : SS ρ) := by
  refine ⟨fun L h r he => ?_, fun X C L h r he hB kk => ?_⟩
  · obtain ⟨⟨r1, h1⟩, e1, he⟩ := ob he
    obtain ⟨a, e2, he⟩ := ob he
    obtain ⟨i, e3, he⟩ := ob he
    obtain ⟨q, e4, he⟩ := ob he
    split at he
    · cases he; have w := (ho.1 _ _ _ _ e1).tr ((hg.1 _ _ _ _ e3).tr (hf.1 _ _ _ _ e4)); exact w
    · cases he
  · obtain ⟨⟨r1, h1⟩, e1, he⟩ := ob he
    obtain ⟨a, e2, he⟩ := ob he
    obtain ⟨i, e3, he⟩ := ob he
    obtain ⟨⟨v, h3⟩, e4, he⟩ := ob he
    split at he
    · next ht =>
      cases he
      simp only at e2 e3 e4 ht
      subst e2
      have hB2 : Le h3 (xEnd X).2 := hB
      have hx : xT h3 a = (100, (xT h3 a).2) := by rw [← ht.1]
      exact ho.2 X C _ _ _ _ e1 ((hg.1 _ _ _ _ e3).tr ((hf.1 _ _ _ _ e4).tr hB2)) [] (Nat.le_refl _) (hg.2 X C _ _ _ _ e3 ((hf.1 _ _ _ _ e4).tr hB2) _ (cats_c _ [] 0 (Nat.le_refl _)) (hf.2 X C _ _ _ _ e4 hB2 _ (cats_c _ _ 2 (cats_c _ [] 0 (Nat.le_refl _))) (go_iast C hx ht.2 hd kk)))
    · cases he
theorem xs_bast {o : EE (Option Nat)} {g : EE Int32} {f : EE Int32} (ho : XE cc y ret d z9 n9 jA 0 pc p1 o) (hg : XE cc y ret d z9 n9 jI 2 p1 p2 g) (hf : XE cc y ret d z9 n9 jI 4 p2 p3 f) (hd : decode cc p3 = .ok (.bastore, 1)) : XS cc y ret d z9 n9 inj pc (p3 + 1) (sAst sB 101 o g f : SS ρ) := by
  refine ⟨fun L h r he => ?_, fun X C L h r he hB kk => ?_⟩
  · obtain ⟨⟨r1, h1⟩, e1, he⟩ := ob he
    obtain ⟨a, e2, he⟩ := ob he
    obtain ⟨i, e3, he⟩ := ob he
    obtain ⟨q, e4, he⟩ := ob he
    split at he
    · cases he; have w := (ho.1 _ _ _ _ e1).tr ((hg.1 _ _ _ _ e3).tr (hf.1 _ _ _ _ e4)); exact w
    · cases he
  · obtain ⟨⟨r1, h1⟩, e1, he⟩ := ob he
    obtain ⟨a, e2, he⟩ := ob he
    obtain ⟨i, e3, he⟩ := ob he
    obtain ⟨⟨v, h3⟩, e4, he⟩ := ob he
    split at he
    · next ht =>
      cases he
      simp only at e2 e3 e4 ht
      subst e2
      have hB2 : Le h3 (xEnd X).2 := hB
      have hx : xT h3 a = (101, (xT h3 a).2) := by rw [← ht.1]
      exact ho.2 X C _ _ _ _ e1 ((hg.1 _ _ _ _ e3).tr ((hf.1 _ _ _ _ e4).tr hB2)) [] (Nat.le_refl _) (hg.2 X C _ _ _ _ e3 ((hf.1 _ _ _ _ e4).tr hB2) _ (cats_c _ [] 0 (Nat.le_refl _)) (hf.2 X C _ _ _ _ e4 hB2 _ (cats_c _ _ 2 (cats_c _ [] 0 (Nat.le_refl _))) (go_bast C hx ht.2 hd kk)))
    · cases he
theorem xs_last {o : EE (Option Nat)} {g : EE Int32} {f : EE Int64} (ho : XE cc y ret d z9 n9 jA 0 pc p1 o) (hg : XE cc y ret d z9 n9 jI 2 p1 p2 g) (hf : XE cc y ret d z9 n9 jJ 4 p2 p3 f) (hd : decode cc p3 = .ok (.lastore, 1)) : XS cc y ret d z9 n9 inj pc (p3 + 1) (sAst sJ 103 o g f : SS ρ) := by
  refine ⟨fun L h r he => ?_, fun X C L h r he hB kk => ?_⟩
  · obtain ⟨⟨r1, h1⟩, e1, he⟩ := ob he
    obtain ⟨a, e2, he⟩ := ob he
    obtain ⟨i, e3, he⟩ := ob he
    obtain ⟨q, e4, he⟩ := ob he
    split at he
    · cases he; have w := (ho.1 _ _ _ _ e1).tr ((hg.1 _ _ _ _ e3).tr (hf.1 _ _ _ _ e4)); exact w
    · cases he
  · obtain ⟨⟨r1, h1⟩, e1, he⟩ := ob he
    obtain ⟨a, e2, he⟩ := ob he
    obtain ⟨i, e3, he⟩ := ob he
    obtain ⟨⟨v, h3⟩, e4, he⟩ := ob he
    split at he
    · next ht =>
      cases he
      simp only at e2 e3 e4 ht
      subst e2
      have hB2 : Le h3 (xEnd X).2 := hB
      have hx : xT h3 a = (103, (xT h3 a).2) := by rw [← ht.1]
      exact ho.2 X C _ _ _ _ e1 ((hg.1 _ _ _ _ e3).tr ((hf.1 _ _ _ _ e4).tr hB2)) [] (Nat.le_refl _) (hg.2 X C _ _ _ _ e3 ((hf.1 _ _ _ _ e4).tr hB2) _ (cats_c _ [] 0 (Nat.le_refl _)) (hf.2 X C _ _ _ _ e4 hB2 _ (cats_c _ _ 2 (cats_c _ [] 0 (Nat.le_refl _))) (go_last C hx ht.2 hd kk)))
    · cases he
theorem xs_zast {o : EE (Option Nat)} {g f : EE Int32} (ho : XE cc y ret d z9 n9 jA 0 pc p1 o) (hg : XE cc y ret d z9 n9 jI 2 p1 p2 g) (hf : XE cc y ret d z9 n9 jI 4 p2 p3 f) (hd : decode cc p3 = .ok (.bastore, 1)) : XS cc y ret d z9 n9 inj pc (p3 + 1) (sAstZ o g f : SS ρ) := by
  refine ⟨fun L h r he => ?_, fun X C L h r he hB kk => ?_⟩
  · obtain ⟨⟨r1, h1⟩, e1, he⟩ := ob he
    obtain ⟨a, e2, he⟩ := ob he
    obtain ⟨i, e3, he⟩ := ob he
    obtain ⟨q, e4, he⟩ := ob he
    split at he
    · cases he; have w := (ho.1 _ _ _ _ e1).tr ((hg.1 _ _ _ _ e3).tr (hf.1 _ _ _ _ e4)); exact w
    · cases he
  · obtain ⟨⟨r1, h1⟩, e1, he⟩ := ob he
    obtain ⟨a, e2, he⟩ := ob he
    obtain ⟨i, e3, he⟩ := ob he
    obtain ⟨⟨v, h3⟩, e4, he⟩ := ob he
    split at he
    · next ht =>
      cases he
      simp only at e2 e3 e4 ht
      subst e2
      have hB2 : Le h3 (xEnd X).2 := hB
      have hx : xT h3 a = (102, (xT h3 a).2) := by rw [← ht.1]
      exact ho.2 X C _ _ _ _ e1 ((hg.1 _ _ _ _ e3).tr ((hf.1 _ _ _ _ e4).tr hB2)) [] (Nat.le_refl _) (hg.2 X C _ _ _ _ e3 ((hf.1 _ _ _ _ e4).tr hB2) _ (cats_c _ [] 0 (Nat.le_refl _)) (hf.2 X C _ _ _ _ e4 hB2 _ (cats_c _ _ 2 (cats_c _ [] 0 (Nat.le_refl _))) (go_zast C hx ht.2.1 (by rcases ht.2.2 with z | z <;> subst z <;> rfl) hd kk)))
    · cases he
theorem xs_aast {t tv : Nat} {o : EE (Option Nat)} {g : EE Int32} {f : EE (Option Nat)} (ho : XE cc y ret d z9 n9 jA 0 pc p1 o) (hg : XE cc y ret d z9 n9 jI 2 p1 p2 g) (hf : XE cc y ret d z9 n9 jA 4 p2 p3 f) (hc : xCok tv) (ht0 : (t = 104 ∧ tv = 10) ∨ (t = 105 ∧ Cond.castable (xC tv).1 "java/lang/Object" ∈ xrs)) (hd : decode cc p3 = .ok (.aastore, 1)) : XS cc y ret d z9 n9 inj pc (p3 + 1) (sAstA t tv o g f : SS ρ) := by
  refine ⟨fun L h r he => ?_, fun X C L h r he hB kk => ?_⟩
  · obtain ⟨⟨r1, h1⟩, e1, he⟩ := ob he
    obtain ⟨a, e2, he⟩ := ob he
    obtain ⟨i, e3, he⟩ := ob he
    obtain ⟨⟨q, h3⟩, e4, he⟩ := ob he
    obtain ⟨v, e5, he⟩ := ob he
    split at he
    · cases he; have w := (ho.1 _ _ _ _ e1).tr ((hg.1 _ _ _ _ e3).tr (hf.1 _ _ _ _ e4)); exact w
    · cases he
  · obtain ⟨⟨r1, h1⟩, e1, he⟩ := ob he
    obtain ⟨a, e2, he⟩ := ob he
    obtain ⟨i, e3, he⟩ := ob he
    obtain ⟨⟨q, h3⟩, e4, he⟩ := ob he
    obtain ⟨v, e5, he⟩ := ob he
    split at he
    · next ht =>
      cases he
      simp only at e2 e3 e4 e5 ht
      subst e2; subst e5
      have hB2 : Le h3 (xEnd X).2 := hB
      have hx : xT h3 a = (t, (xT h3 a).2) := by rw [← ht.1]
      exact ho.2 X C _ _ _ _ e1 ((hg.1 _ _ _ _ e3).tr ((hf.1 _ _ _ _ e4).tr hB2)) [] (Nat.le_refl _) (hg.2 X C _ _ _ _ e3 ((hf.1 _ _ _ _ e4).tr hB2) _ (cats_c _ [] 0 (Nat.le_refl _)) (hf.2 X C _ _ _ _ e4 hB2 _ (cats_c _ _ 2 (cats_c _ [] 0 (Nat.le_refl _))) (go_aast C hx hc ht.2.2 ht0 ht.2.1 hd kk)))
    · cases he
theorem xs_astC {op : Int32 → Int32 → Int32} {o : EE (Option Nat)} {g f : EE Int32} (ho : XE cc y ret d z9 n9 jA 0 pc p1 o) (hg : XE cc y ret d z9 n9 jI 2 p1 p2 g) (hd1 : decode cc p2 = .ok (.dup2, 1)) (hd2 : decode cc (p2 + 1) = .ok (.iaload, 1)) (hf : XE cc y ret d z9 n9 jI 6 (p2 + 2) p3 f) {p4 : Nat} (ins : ∀ X, xCx X cc y ret d z9 n9 → ∀ L st h x z, Go X p4 L (jI (op x z) :: st) h → Go X p3 L (jI z :: jI x :: st) h) (hd : decode cc p4 = .ok (.iastore, 1)) : XS cc y ret d z9 n9 inj pc (p4 + 1) (sAstC op o g f : SS ρ) := by
  refine ⟨fun L h r he => ?_, fun X C L h r he hB kk => ?_⟩
  · obtain ⟨⟨r1, h1⟩, e1, he⟩ := ob he
    obtain ⟨a, e2, he⟩ := ob he
    obtain ⟨i, e3, he⟩ := ob he
    split at he
    · obtain ⟨q, e4, he⟩ := ob he
      split at he
      · cases he; have w := (ho.1 _ _ _ _ e1).tr ((hg.1 _ _ _ _ e3).tr (hf.1 _ _ _ _ e4)); exact w
      · cases he
    · cases he
  · obtain ⟨⟨r1, h1⟩, e1, he⟩ := ob he
    obtain ⟨a, e2, he⟩ := ob he
    obtain ⟨⟨i, h2⟩, e3, he⟩ := ob he
    split at he
    · next ht1 =>
      obtain ⟨⟨v, h3⟩, e4, he⟩ := ob he
      split at he
      · next ht =>
        cases he
        simp only at e2 e3 e4 ht ht1
        subst e2
        have hB2 : Le h3 (xEnd X).2 := hB
        have hx1 : xT h2 a = (100, (xT h2 a).2) := by rw [← ht1.1]
        have hx : xT h3 a = (100, (xT h3 a).2) := by rw [← ht.1]
        exact ho.2 X C _ _ _ _ e1 ((hg.1 _ _ _ _ e3).tr ((hf.1 _ _ _ _ e4).tr hB2)) [] (Nat.le_refl _) (hg.2 X C _ _ _ _ e3 ((hf.1 _ _ _ _ e4).tr hB2) _ (cats_c _ [] 0 (Nat.le_refl _)) (go_dup2 C hd1 rfl rfl (go_iald C hx1 ht1.2 hd2 (hf.2 X C _ _ _ _ e4 hB2 _ (cats_c _ _ 4 (cats_c _ _ 2 (cats_c _ [] 0 (Nat.le_refl _)))) (ins X C _ _ _ _ _ (go_iast C hx ht.2 hd kk))))))
      · cases he
    · cases he
theorem xs_if {c : EE Bool} {a b : SS ρ} (hc : XC cc y ret d z9 n9 0 pc pt pf c) (ha : XS cc y ret d z9 n9 inj pt p2 a) (hb : XS cc y ret d z9 n9 inj pf p2 b) : XS cc y ret d z9 n9 inj pc p2 (sIf c a b) := by
  refine ⟨fun L h r he => ?_, fun X C L h r he hB kk => ?_⟩
  · obtain ⟨q, e1, he⟩ := ob he
    split at he
    · exact (hc.1 _ _ _ _ e1).tr (ha.1 _ _ _ he)
    · exact (hc.1 _ _ _ _ e1).tr (hb.1 _ _ _ he)
  · obtain ⟨⟨q, h1⟩, e1, he⟩ := ob he
    split at he
    · next z =>
      simp only at z
      subst z
      exact hc.2 X C _ _ _ _ e1 ((ha.1 _ _ _ he).tr hB) [] (Nat.le_refl _) (fun _ => ha.2 X C _ _ _ he hB kk) (fun z => by cases z)
    · next z =>
      simp only [Bool.not_eq_true] at z
      subst z
      exact hc.2 X C _ _ _ _ e1 ((hb.1 _ _ _ he).tr hB) [] (Nat.le_refl _) (fun z => by cases z) (fun _ => hb.2 X C _ _ _ he hB kk)
theorem xs_loop {c : EE Bool} {b : SS ρ} (hc : XC cc y ret d z9 n9 0 pc pt pf c) (hb : XS cc y ret d z9 n9 inj pt pc b) (n : Nat) : XS cc y ret d z9 n9 inj pc pf (sLoop c b n) := by
  induction n with
  | zero => exact ⟨fun L h r he => (by cases he), fun X C L h r he => (by cases he)⟩
  | succ n ih =>
    refine ⟨fun L h r he => ?_, fun X C L h r he hB kk => ?_⟩
    · obtain ⟨q, e1, he⟩ := ob he
      split at he
      · obtain ⟨w, e2, he⟩ := ob he
        cases w with
        | inl w => exact (hc.1 _ _ _ _ e1).tr ((hb.1 _ _ _ e2).tr (ih.1 _ _ _ he))
        | inr w => cases he; exact (hc.1 _ _ _ _ e1).tr (hb.1 _ _ _ e2)
      · cases he; exact hc.1 _ _ _ _ e1
    · obtain ⟨⟨q, h1⟩, e1, he⟩ := ob he
      split at he
      · next z =>
        simp only at z
        subst z
        obtain ⟨w, e2, he⟩ := ob he
        cases w with
        | inl w => exact hc.2 X C _ _ _ _ e1 ((hb.1 _ _ _ e2).tr ((ih.1 _ _ _ he).tr hB)) [] (Nat.le_refl _) (fun _ => hb.2 X C _ _ _ e2 ((ih.1 _ _ _ he).tr hB) (ih.2 X C _ _ _ he hB kk)) (fun z => by cases z)
        | inr w => cases he; exact hc.2 X C _ _ _ _ e1 ((hb.1 _ _ _ e2).tr hB) [] (Nat.le_refl _) (fun _ => hb.2 X C _ _ _ e2 hB kk) (fun z => by cases z)
      · next z =>
        simp only [Bool.not_eq_true] at z
        subst z
        cases he
        exact hc.2 X C _ _ _ _ e1 hB [] (Nat.le_refl _) (fun z => by cases z) (fun _ => kk)
theorem xs_r {f : EE ρ} {ja : ρ → Value} (hf : XE cc y ret d z9 n9 ja 0 pc p1 f) (ins : ∀ X, xCx X cc y ret d z9 n9 → ∀ L v h, xEnd X = (some (ja v), h) → Go X p1 L [ja v] h) : XS cc y ret d z9 n9 (fun v => some (ja v)) pc p2 (sRet f) := by
  refine ⟨fun L h r he => ?_, fun X C L h r he hB kk => ?_⟩
  · obtain ⟨q, e1, he⟩ := ob he
    cases he
    exact hf.1 _ _ _ _ e1
  · obtain ⟨q, e1, he⟩ := ob he
    cases he
    exact hf.2 X C _ _ _ _ e1 hB [] (Nat.le_refl _) (ins X C _ _ _ kk)
theorem xs_iret {f : EE Int32} (hf : XE cc y (some .int) d z9 n9 jI 0 pc p1 f) (hd : decode cc p1 = .ok (.ireturn, 1)) : XS cc y (some .int) d z9 n9 (fun v => some (jI v)) pc p2 (sRet f) := xs_r hf (fun _ C _ _ _ kk => go_iret C kk hd)
theorem xs_lret {f : EE Int64} (hf : XE cc y (some .long) d z9 n9 jJ 0 pc p1 f) (hd : decode cc p1 = .ok (.lreturn, 1)) : XS cc y (some .long) d z9 n9 (fun v => some (jJ v)) pc p2 (sRet f) := xs_r hf (fun _ C _ _ _ kk => go_lret C kk hd)
theorem xs_aret {rt : FieldType} {f : EE (Option Nat)} (hf : XE cc y (some rt) d z9 n9 jA 0 pc p1 f) (hrt : (∃ n, rt = .object n) ∨ ∃ t, rt = .array t) (hd : decode cc p1 = .ok (.areturn, 1)) : XS cc y (some rt) d z9 n9 (fun v => some (jA v)) pc p2 (sRet f) := xs_r hf (fun _ C _ _ _ kk => go_aret C hrt kk hd)
theorem xs_zret {f : EE Int32} (hf : XE cc y (some .boolean) d z9 n9 jI 0 pc p1 f) (hd : decode cc p1 = .ok (.ireturn, 1)) : XS cc y (some .boolean) d z9 n9 (fun v => some (jI v)) pc p2 (sRetZ f) := by
  refine ⟨fun L h r he => ?_, fun X C L h r he hB kk => ?_⟩
  · obtain ⟨q, e1, he⟩ := ob he
    split at he
    · cases he; exact hf.1 _ _ _ _ e1
    · cases he
  · obtain ⟨q, e1, he⟩ := ob he
    split at he
    · next hz => cases he; exact hf.2 X C _ _ _ _ e1 hB [] (Nat.le_refl _) (go_zret C hz kk hd)
    · cases he
theorem xs_vret (hd : decode cc pc = .ok (.return_, 1)) : XS cc y none d z9 n9 (fun _ => none) pc p2 sRetV := ⟨fun L h r he => by cases he; exact Le.rf _, fun X C L h r he hB kk => by cases he; exact go_vret C kk hd⟩
theorem met_of {s : SS ρ} {pads : List Value} (hb : XS cc y ret d z9 n9 inj 0 pc s) (hy : plainName y.cls = true) (hnl : n9 ≤ 45) (hp : pads = List.replicate pads.length xD) : MetX z9 y cc n9 ret inj d (mB n9 pads s) := by
  have key : ∀ as h v h', mB n9 pads s as h = some (v, h') → (lay as).length + pads.length = n9 ∧ s (lay as ++ pads) h = some (.inr (v, h')) := by
    intro as h v h' he
    unfold mB at he
    split at he
    · next hl =>
      obtain ⟨r, e1, he⟩ := ob he
      cases r with
      | inl q => cases he
      | inr q => cases he; exact ⟨hl, e1⟩
    · cases he
  refine MetX.of hy hnl (fun as h v h' he => ?_) (fun as h v h' he => ?_) (fun X C as h v h' he hE => ?_)
  · exact hb.1 _ _ _ (key as h v h' he).2
  · have := (key as h v h' he).1; omega
  · obtain ⟨k1, k2⟩ := key as h v h' he
    rw [hp, show pads.length = n9 - (lay as).length by omega] at k2
    exact hb.2 X C _ _ _ k2 (by rw [hE]; exact Le.rf _) hE
end ND
