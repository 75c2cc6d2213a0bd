/-! nothing of the class writes into the script -/
section FR
variable {α β γ ρ : Type}
def Fz (h h' : XH) : Prop := ∀ b, b < xN h → (xT h b).1 = 200 → b < xN h' ∧ xT h' b = xT h b ∧ ∀ k, xI h' b k = xI h b k
theorem Fz.r (h : XH) : Fz h h := fun _ hb _ => ⟨hb, rfl, fun _ => rfl⟩
theorem Fz.t {a b c : XH} (h1 : Fz a b) (h2 : Fz b c) : Fz a c := fun q hq ht => by
  obtain ⟨a1, a2, a3⟩ := h1 q hq ht
  obtain ⟨b1, b2, b3⟩ := h2 q a1 (by rw [a2]; exact ht)
  exact ⟨b1, b2.trans a2, fun k => (b3 k).trans (a3 k)⟩
def FE (e : List Value → XH → Option (α × XH)) : Prop := ∀ L h r, e L h = some r → Fz h r.2
def FS (s : SS ρ) : Prop := ∀ L h r, s L h = some r → Fz h (SRh r)
def Wr (set : XH → Nat → Nat → α → XH) : Prop := ∀ h a k v, (xT h a).1 ≠ 200 → Fz h (set h a k v)
theorem bnd {o : Option α} {f : α → Option β} {r : β} (e : o.bind f = some r) : ∃ a, o = some a ∧ f a = some r := by
  cases o with
  | none => cases e
  | some a => exact ⟨a, rfl, e⟩
theorem W_sI : Wr sI := fun h a k v ht b hb h2 => ⟨hb, rfl, fun j => by
  simp only [xI_sI]
  rw [u2_n _ _ (Or.inl (fun e => by rw [e] at h2; exact ht h2))]⟩
theorem W_sB : Wr sB := fun h a k v ht b hb h2 => W_sI h a k _ ht b hb h2
theorem W_sJ : Wr sJ := fun h a k v ht b hb h2 => ⟨hb, rfl, fun j => rfl⟩
theorem W_sA : Wr sA := fun h a k v ht b hb h2 => ⟨hb, rfl, fun j => rfl⟩
theorem W_nw (h : XH) (t n : Nat) : Fz h (xNew h t n) := fun b hb h2 => ⟨Nat.lt_succ_of_lt hb, xT_nn hb, fun k => xI_nn hb⟩
theorem FR_k {a : α} : FE (fun _ h => some (a, h)) := fun L h r e => by cases e; exact Fz.r _
theorem FR_eI {n : Int32} : FE (eI n) := fun L h r e => by cases e; exact Fz.r _
theorem FR_eJ {n : Int64} : FE (eJ n) := fun L h r e => by cases e; exact Fz.r _
theorem FR_eN : FE eN := fun L h r e => by cases e; exact Fz.r _
theorem FR_aN : FE aN := fun L h r e => by cases e; exact Fz.r _
theorem FR_eZ {z : Nat × Nat} : FE (eZ z) := fun L h r e => by cases e; exact Fz.r _
theorem FR_eMi {z : Nat × Nat} : FE (eMi z) := fun L h r e => by cases e; exact Fz.r _
theorem FR_eDead : FE (eDead : EE α) := fun L h r e => by cases e
theorem FR_eLI {k : Nat} : FE (eLI k) := fun L h r e => by obtain ⟨a, _, e⟩ := bnd e; cases e; exact Fz.r _
theorem FR_eLJ {k : Nat} : FE (eLJ k) := fun L h r e => by obtain ⟨a, _, e⟩ := bnd e; cases e; exact Fz.r _
theorem FR_eLA {k : Nat} : FE (eLA k) := fun L h r e => by obtain ⟨a, _, e⟩ := bnd e; cases e; exact Fz.r _
theorem FR_eT {op : α → β → γ} {f : EE α} {g : EE β} (hf : FE f) (hg : FE g) : FE (eT op f g) := fun L h r e => by
  obtain ⟨a, e1, e⟩ := bnd e
  obtain ⟨b, e2, e⟩ := bnd e
  cases e
  exact (hf _ _ _ e1).t (hg _ _ _ e2)
theorem FR_eP {op : α → β → Option γ} {f : EE α} {g : EE β} (hf : FE f) (hg : FE g) : FE (eP op f g) := fun L h r e => by
  obtain ⟨a, e1, e⟩ := bnd e
  obtain ⟨b, e2, e⟩ := bnd e
  obtain ⟨v, _, e⟩ := bnd e
  cases e
  exact (hf _ _ _ e1).t (hg _ _ _ e2)
theorem FR_eU {op : α → β} {f : EE α} (hf : FE f) : FE (eU op f) := fun L h r e => by
  obtain ⟨a, e1, e⟩ := bnd e
  cases e
  exact hf _ _ _ e1
theorem FR_cZ {f : EE Int32} (hf : FE f) : FE (cZ f) := FR_eU hf
theorem FR_cNul {f : EE (Option Nat)} (hf : FE f) : FE (cNul f) := FR_eU hf
theorem FR_cNN {f : EE (Option Nat)} (hf : FE f) : FE (cNN f) := FR_eU hf
theorem FR_cNot {f : EE Bool} (hf : FE f) : FE (cNot f) := FR_eU hf
theorem FR_cAeq {f g : EE (Option Nat)} (hf : FE f) (hg : FE g) : FE (cAeq f g) := FR_eT hf hg
theorem FR_cAne {f g : EE (Option Nat)} (hf : FE f) (hg : FE g) : FE (cAne f g) := FR_eT hf hg
theorem FR_eIf {c : EE Bool} {f g : EE α} (hc : FE c) (hf : FE f) (hg : FE g) : FE (eIf c f g) := fun L h r e => by
  obtain ⟨a, e1, e⟩ := bnd e
  split at e
  · exact (hc _ _ _ e1).t (hf _ _ _ e)
  · exact (hc _ _ _ e1).t (hg _ _ _ e)
theorem FR_cAnd {f g : EE Bool} (hf : FE f) (hg : FE g) : FE (cAnd f g) := FR_eIf hf hg FR_k
theorem FR_cOr {f g : EE Bool} (hf : FE f) (hg : FE g) : FE (cOr f g) := FR_eIf hf FR_k hg
theorem ifs_e {p : Prop} [Decidable p] {a r : α} (e : (if p then some a else none) = some r) : p ∧ a = r := by
  split at e
  · rename_i hp
    exact ⟨hp, Option.some.inj e⟩
  · cases e
theorem ifo_e {p : Prop} [Decidable p] {a : Option α} {r : α} (e : (if p then a else none) = some r) : p ∧ a = some r := by
  split at e
  · rename_i hp
    exact ⟨hp, e⟩
  · cases e
theorem FR_eGet {pl : XH → Nat → Nat → α} {t k : Nat} {f : EE (Option Nat)} (hf : FE f) : FE (eGet pl t k f) := fun L h r e => by
  obtain ⟨a, e1, e⟩ := bnd e
  obtain ⟨b, _, e⟩ := bnd e
  obtain ⟨_, e⟩ := ifs_e e
  subst e
  exact hf _ _ _ e1
theorem FR_eAld {pl : XH → Nat → Nat → α} {t : Nat} {f : EE (Option Nat)} {g : EE Int32} (hf : FE f) (hg : FE g) : FE (eAld pl t f g) := fun L h r e => by
  obtain ⟨a, e1, e⟩ := bnd e
  obtain ⟨b, _, e⟩ := bnd e
  obtain ⟨c, e2, e⟩ := bnd e
  obtain ⟨_, e⟩ := ifs_e e
  subst e
  exact (hf _ _ _ e1).t (hg _ _ _ e2)
theorem FR_eLen {f : EE (Option Nat)} (hf : FE f) : FE (eLen f) := fun L h r e => by
  obtain ⟨a, e1, e⟩ := bnd e
  obtain ⟨b, _, e⟩ := bnd e
  obtain ⟨_, e⟩ := ifs_e e
  subst e
  exact hf _ _ _ e1
theorem FR_eCast {t : Nat} {f : EE (Option Nat)} (hf : FE f) : FE (eCast t f) := fun L h r e => by
  obtain ⟨a, e1, e⟩ := bnd e
  obtain ⟨b, _, e⟩ := bnd e
  obtain ⟨_, e⟩ := ifs_e e
  subst e
  exact hf L h a e1
theorem FR_eCls {z : Nat × Nat} {f : EE (Option Nat)} (hf : FE f) : FE (eCls z f) := fun L h r e => by
  obtain ⟨a, e1, e⟩ := bnd e
  obtain ⟨b, _, e⟩ := bnd e
  obtain ⟨_, e⟩ := ifs_e e
  subst e
  exact hf L h a e1
theorem FR_aC {inj : α → Value} {f : EE α} {g : EE (List Value)} (hf : FE f) (hg : FE g) : FE (aC inj f g) := fun L h r e => by
  obtain ⟨a, e1, e⟩ := bnd e
  obtain ⟨b, e2, e⟩ := bnd e
  cases e
  exact (hf L h a e1).t (hg L a.2 b e2)
theorem FR_eCallS {F : List Value → XH → Option (ρ × XH)} {as : EE (List Value)} (hF : FE F) (ha : FE as) : FE (eCallS F as) := fun L h r e => by
  obtain ⟨a, e1, e⟩ := bnd e
  exact (ha _ _ _ e1).t (hF _ _ _ e)
theorem FR_eCallV {t : Nat} {F : List Value → XH → Option (ρ × XH)} {f : EE (Option Nat)} {as : EE (List Value)} (hF : FE F) (hf : FE f) (ha : FE as) : FE (eCallV t F f as) := fun L h r e => by
  obtain ⟨a, e1, e⟩ := bnd e
  obtain ⟨b, _, e⟩ := bnd e
  obtain ⟨c, e2, e⟩ := bnd e
  obtain ⟨_, e⟩ := ifo_e e
  exact ((hf _ _ _ e1).t (ha _ _ _ e2)).t (hF _ _ _ e)
theorem FR_eNew {t n : Nat} {F : List Value → XH → Option (Unit × XH)} {as : EE (List Value)} (hF : FE F) (ha : FE as) : FE (eNew t n F as) := fun L h r e => by
  obtain ⟨a, e1, e⟩ := bnd e
  obtain ⟨b, e2, e⟩ := bnd e
  cases e
  exact ((W_nw h t n).t (ha _ _ _ e1)).t (hF _ _ _ e2)
theorem FR_eNewA {t : Nat} {f : EE Int32} (hf : FE f) : FE (eNewA t f) := fun L h r e => by
  obtain ⟨a, e1, e⟩ := bnd e
  obtain ⟨_, e⟩ := ifs_e e
  subst e
  exact (hf _ _ _ e1).t (W_nw _ _ _)
theorem FR_eSt {f : EE (Option Nat)} {g v : EE Int32} (hf : FE f) (hg : FE g) (hv : FE v) : FE (eSt f g v) := fun L h r e => by
  obtain ⟨a, e1, e⟩ := bnd e
  obtain ⟨b, _, e⟩ := bnd e
  obtain ⟨c, e2, e⟩ := bnd e
  obtain ⟨d, e3, e⟩ := bnd e
  obtain ⟨w, e⟩ := ifs_e e
  subst e
  exact (((hf _ _ _ e1).t (hg _ _ _ e2)).t (hv _ _ _ e3)).t (W_sI _ _ _ _ (by rw [w.1]; decide))
theorem FR_eSetA {t k : Nat} {o f : EE (Option Nat)} (ht : t ≠ 200) (ho : FE o) (hf : FE f) : FE (eSetA t k o f) := fun L h r e => by
  obtain ⟨a, e1, e⟩ := bnd e
  obtain ⟨b, _, e⟩ := bnd e
  obtain ⟨c, e2, e⟩ := bnd e
  obtain ⟨w, e⟩ := ifs_e e
  subst e
  exact ((ho _ _ _ e1).t (hf _ _ _ e2)).t (W_sA _ _ _ _ (by rw [w]; exact ht))
theorem FR_sNil : FS (sNil : SS ρ) := fun L h r e => by cases e; exact Fz.r _
theorem FR_sDead : FS (sDead : SS ρ) := fun L h r e => by cases e
theorem FR_sRetV : FS sRetV := fun L h r e => by cases e; exact Fz.r _
theorem FR_sInc {k : Nat} {v : Int32} : FS (sInc k v : SS ρ) := fun L h r e => by obtain ⟨a, _, e⟩ := bnd e; cases e; exact Fz.r _
theorem FR_sObj : FS (sObj : SS ρ) := fun L h r e => by
  obtain ⟨a, _, e⟩ := bnd e
  obtain ⟨b, _, e⟩ := bnd e
  cases e
  exact Fz.r _
theorem FR_sSup {F : List Value → XH → Option (Unit × XH)} (hF : FE F) : FS (sSup F : SS ρ) := fun L h r e => by
  obtain ⟨a, _, e⟩ := bnd e
  obtain ⟨b, _, e⟩ := bnd e
  obtain ⟨c, e1, e⟩ := bnd e
  cases e
  exact hF _ _ _ e1
theorem FR_sSetI {k : Nat} {f : EE Int32} (hf : FE f) : FS (sSetI k f : SS ρ) := fun L h r e => by obtain ⟨a, e1, e⟩ := bnd e; cases e; exact hf _ _ _ e1
theorem FR_sSetJ {k : Nat} {f : EE Int64} (hf : FE f) : FS (sSetJ k f : SS ρ) := fun L h r e => by obtain ⟨a, e1, e⟩ := bnd e; cases e; exact hf _ _ _ e1
theorem FR_sSetA {k : Nat} {f : EE (Option Nat)} (hf : FE f) : FS (sSetA k f : SS ρ) := fun L h r e => by obtain ⟨a, e1, e⟩ := bnd e; cases e; exact hf _ _ _ e1
theorem FR_sX {f : EE α} (hf : FE f) : FS (sX f : SS ρ) := fun L h r e => by obtain ⟨a, e1, e⟩ := bnd e; cases e; exact hf _ _ _ e1
theorem FR_sRet {f : EE ρ} (hf : FE f) : FS (sRet f) := fun L h r e => by obtain ⟨a, e1, e⟩ := bnd e; cases e; exact hf _ _ _ e1
theorem FR_sRetZ {f : EE Int32} (hf : FE f) : FS (sRetZ f) := fun L h r e => by
  obtain ⟨a, e1, e⟩ := bnd e
  obtain ⟨_, e⟩ := ifs_e e
  subst e
  exact hf _ _ _ e1
theorem FR_sIf {c : EE Bool} {a b : SS ρ} (hc : FE c) (ha : FS a) (hb : FS b) : FS (sIf c a b) := fun L h r e => by
  obtain ⟨q, e1, e⟩ := bnd e
  split at e
  · exact (hc _ _ _ e1).t (ha _ _ _ e)
  · exact (hc _ _ _ e1).t (hb _ _ _ e)
theorem FR_ite {p : Prop} [Decidable p] {a b : SS ρ} (ha : FS a) (hb : FS b) : FS (if p then a else b) := by
  split
  · exact ha
  · exact hb
theorem FR_sSw {f : EE Int32} {g : Int32 → SS ρ} (hf : FE f) (hg : ∀ x, FS (g x)) : FS (sSw f g) := fun L h r e => by
  obtain ⟨a, e1, e⟩ := bnd e
  exact (hf _ _ _ e1).t (hg _ _ _ _ e)
theorem FR_sSeq {a b : SS ρ} (ha : FS a) (hb : FS b) : FS (sSeq a b) := fun L h r e => by
  obtain ⟨q, e1, e⟩ := bnd e
  have f1 := ha _ _ _ e1
  cases q with
  | inl q => exact f1.t (hb _ _ _ e)
  | inr q =>
    cases e
    exact f1
theorem FR_sPut {set : XH → Nat → Nat → α → XH} {t k : Nat} {o : EE (Option Nat)} {f : EE α} (hs : Wr set) (ht : t ≠ 200) (ho : FE o) (hf : FE f) : FS (sPut set t k o f : SS ρ) := fun L h r e => by
  obtain ⟨a, e1, e⟩ := bnd e
  obtain ⟨b, _, e⟩ := bnd e
  obtain ⟨c, e2, e⟩ := bnd e
  obtain ⟨w, e⟩ := ifs_e e
  subst e
  exact ((ho _ _ _ e1).t (hf _ _ _ e2)).t (hs _ _ _ _ (by rw [w]; exact ht))
theorem FR_sPutZ {t k : Nat} {o : EE (Option Nat)} {f : EE Int32} (ht : t ≠ 200) (ho : FE o) (hf : FE f) : FS (sPutZ t k o f : SS ρ) := fun L h r e => by
  obtain ⟨a, e1, e⟩ := bnd e
  obtain ⟨b, _, e⟩ := bnd e
  obtain ⟨c, e2, e⟩ := bnd e
  obtain ⟨w, e⟩ := ifs_e e
  subst e
  exact ((ho _ _ _ e1).t (hf _ _ _ e2)).t (W_sI _ _ _ _ (by rw [w.1]; exact ht))
theorem FR_sPutC {pl : XH → Nat → Nat → α} {set : XH → Nat → Nat → α → XH} {op : α → β → α} {t k : Nat} {o : EE (Option Nat)} {f : EE β} (hs : Wr set) (ht : t ≠ 200) (ho : FE o) (hf : FE f) : FS (sPutC pl set op t k o f : SS ρ) := fun L h r e => by
  obtain ⟨a, e1, e⟩ := bnd e
  obtain ⟨b, _, e⟩ := bnd e
  obtain ⟨_, e⟩ := ifo_e e
  obtain ⟨c, e2, e⟩ := bnd e
  obtain ⟨w, e⟩ := ifs_e e
  subst e
  exact ((ho _ _ _ e1).t (hf _ _ _ e2)).t (hs _ _ _ _ (by rw [w]; exact ht))
theorem FR_sAst {set : XH → Nat → Nat → α → XH} {t : Nat} {o : EE (Option Nat)} {g : EE Int32} {f : EE α} (hs : Wr set) (ht : t ≠ 200) (ho : FE o) (hg : FE g) (hf : FE f) : FS (sAst set t o g f : SS ρ) := fun L h r e => by
  obtain ⟨a, e1, e⟩ := bnd e
  obtain ⟨b, _, e⟩ := bnd e
  obtain ⟨i, e2, e⟩ := bnd e
  obtain ⟨c, e3, e⟩ := bnd e
  obtain ⟨w, e⟩ := ifs_e e
  subst e
  exact (((ho _ _ _ e1).t (hg _ _ _ e2)).t (hf _ _ _ e3)).t (hs _ _ _ _ (by rw [w.1]; exact ht))
theorem FR_sAstC {op : Int32 → Int32 → Int32} {o : EE (Option Nat)} {g f : EE Int32} (ho : FE o) (hg : FE g) (hf : FE f) : FS (sAstC op o g f : SS ρ) := fun L h r e => by
  obtain ⟨a, e1, e⟩ := bnd e
  obtain ⟨b, _, e⟩ := bnd e
  obtain ⟨i, e2, e⟩ := bnd e
  obtain ⟨_, e⟩ := ifo_e e
  obtain ⟨c, e3, e⟩ := bnd e
  obtain ⟨w, e⟩ := ifs_e e
  subst e
  exact (((ho _ _ _ e1).t (hg _ _ _ e2)).t (hf _ _ _ e3)).t (W_sI _ _ _ _ (by rw [w.1]; decide))
theorem FR_sAstO {o : EE (Option Nat)} {g : EE Int32} {f : EE (Option Nat)} (ho : FE o) (hg : FE g) (hf : FE f) : FS (sAstO o g f : SS ρ) := fun L h r e => by
  obtain ⟨a, e1, e⟩ := bnd e
  obtain ⟨b, _, e⟩ := bnd e
  obtain ⟨i, e2, e⟩ := bnd e
  obtain ⟨c, e3, e⟩ := bnd e
  obtain ⟨v, _, e⟩ := bnd e
  obtain ⟨w, e⟩ := ifs_e e
  subst e
  exact (((ho _ _ _ e1).t (hg _ _ _ e2)).t (hf _ _ _ e3)).t (W_sA _ _ _ _ (by rw [w.1]; decide))
theorem FR_sCpI {o1 o2 : EE (Option Nat)} {g1 g2 g3 : EE Int32} (h1 : FE o1) (h2 : FE g1) (h3 : FE o2) (h4 : FE g2) (h5 : FE g3) : FS (sCpI o1 g1 o2 g2 g3 : SS ρ) := fun L h r e => by
  obtain ⟨a, e1, e⟩ := bnd e
  obtain ⟨a', _, e⟩ := bnd e
  obtain ⟨b, e2, e⟩ := bnd e
  obtain ⟨c, e3, e⟩ := bnd e
  obtain ⟨c', _, e⟩ := bnd e
  obtain ⟨d, e4, e⟩ := bnd e
  obtain ⟨f, e5, e⟩ := bnd e
  obtain ⟨w, e⟩ := ifs_e e
  subst e
  refine (((((h1 _ _ _ e1).t (h2 _ _ _ e2)).t (h3 _ _ _ e3)).t (h4 _ _ _ e4)).t (h5 _ _ _ e5)).t ?_
  intro q hq ht
  refine ⟨hq, rfl, fun k => ?_⟩
  show cp2 (xI f.2) _ _ c' _ _ q k = xI f.2 q k
  unfold cp2
  rw [if_neg (fun z => by rw [z.1, w.2.1] at ht; exact absurd ht (by decide))]
theorem FR_sCpA {o1 o2 : EE (Option Nat)} {g1 g2 g3 : EE Int32} (h1 : FE o1) (h2 : FE g1) (h3 : FE o2) (h4 : FE g2) (h5 : FE g3) : FS (sCpA o1 g1 o2 g2 g3 : SS ρ) := fun L h r e => by
  obtain ⟨a, e1, e⟩ := bnd e
  obtain ⟨a', _, e⟩ := bnd e
  obtain ⟨b, e2, e⟩ := bnd e
  obtain ⟨c, e3, e⟩ := bnd e
  obtain ⟨c', _, e⟩ := bnd e
  obtain ⟨d, e4, e⟩ := bnd e
  obtain ⟨f, e5, e⟩ := bnd e
  obtain ⟨w, e⟩ := ifs_e e
  subst e
  exact (((((h1 _ _ _ e1).t (h2 _ _ _ e2)).t (h3 _ _ _ e3)).t (h4 _ _ _ e4)).t (h5 _ _ _ e5)).t (fun q hq ht => ⟨hq, rfl, fun k => rfl⟩)
theorem FR_sLoop {c : EE Bool} {b : SS ρ} (hc : FE c) (hb : FS b) : ∀ n, FS (sLoop c b n)
  | 0 => fun L h r e => by cases e
  | n + 1 => fun L h r e => by
    rw [sLoop_s] at e
    obtain ⟨a, e1, e⟩ := bnd e
    have f1 := hc _ _ _ e1
    split at e
    · obtain ⟨q, e2, e⟩ := bnd e
      have f2 := hb _ _ _ e2
      cases q with
      | inl q => exact (f1.t f2).t (FR_sLoop hc hb n _ _ _ e)
      | inr q =>
        cases e
        exact f1.t f2
    · cases e
      exact f1
theorem FR_mB {n : Nat} {pads : List Value} {s : SS ρ} (hs : FS s) : FE (mB n pads s) := fun L h r e => by
  rw [mB_s] at e
  obtain ⟨_, e⟩ := ifo_e e
  obtain ⟨q, e1, e⟩ := bnd e
  have f1 := hs _ _ _ e1
  cases q with
  | inl q => cases e
  | inr q =>
    cases e
    exact f1
end FR
