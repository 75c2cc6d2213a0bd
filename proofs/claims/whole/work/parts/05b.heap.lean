theorem vV_ty (ty : FieldType) : (∀ h a k, vV ty h a k = .int (xI h a k)) ∨ (∀ h a k, vV ty h a k = .long (xJ h a k)) ∨ (∀ h a k, vV ty h a k = va_rf (xA h a k)) := by
  cases ty
  case long => exact Or.inr (Or.inl fun _ _ _ => rfl)
  case object => exact Or.inr (Or.inr fun _ _ _ => rfl)
  case array => exact Or.inr (Or.inr fun _ _ _ => rfl)
  all_goals exact Or.inl fun _ _ _ => rfl
theorem vV_of (ty : FieldType) {h h' : XH} {a k : Nat} (hi : xI h' a k = xI h a k) (hj : xJ h' a k = xJ h a k) (ha : xA h' a k = xA h a k) : vV ty h' a k = vV ty h a k := by
  rcases vV_ty ty with q | q | q
  · rw [q, q, hi]
  · rw [q, q, hj]
  · rw [q, q, ha]
theorem up2_s {α : Type} {f : Nat → Nat → α} {a k : Nat} {x : α} : up2 f a k x a k = x := if_pos ⟨rfl, rfl⟩
theorem up2_a {α : Type} {f : Nat → Nat → α} {a k b j : Nat} {x : α} (h : b ≠ a) : up2 f a k x b j = f b j := if_neg (fun z => h z.1)
theorem up2_k {α : Type} {f : Nat → Nat → α} {a k b j : Nat} {x : α} (h : j ≠ k) : up2 f a k x b j = f b j := if_neg (fun z => h z.2)
/-- h' is h but for the values at one address -/
def xSame (h h' : XH) (a : Nat) : Prop := xT h' = xT h ∧ xN h' = xN h ∧ xS h' = xS h ∧ (∀ b k, b ≠ a → xI h' b k = xI h b k ∧ xJ h' b k = xJ h b k ∧ xA h' b k = xA h b k)
theorem xRep.write {G : XG} {s : State} {h h' : XH} {H H1 : Heap} {a : Nat} (hR : xRep G s h H) (hs : xSame h h' a) (hz : H1.size = H.size) (oq : ∀ q : Nat, q ≠ a → H1[q]? = H[q]?) (ha : gB G ≤ a)
    (hobj : ∀ t n, xT h a = (t, n) → t ≠ 0 → t < 100 → ∀ r : vw_C, xcl[t]? = some r → n = r.2.2 → t_OB a (gC G t) r.2.2 (gF G t) H1 (fun k => vV (xF t k) h' a k))
    (harr : ∀ t n, xT h a = (t, n) → 100 ≤ t → t < 200 → H1[a]? = some (arrV (gA G t) n (fun k => vV (xTy t) h' a k))) : xRep G s h' H1 := by
  obtain ⟨h1, h2, h3, h4, h5⟩ := hR
  obtain ⟨s1, s2, s3, s4⟩ := hs
  have kk : ∀ ty b k, b ≠ a → vV ty h' b k = vV ty h b k := fun ty b k hb => vV_of ty (s4 b k hb).1 (s4 b k hb).2.1 (s4 b k hb).2.2
  refine ⟨by rw [hz, s2]; exact h1, by rw [s2]; exact h2, fun b t n hb h0 hl => ?_, fun b t n hb h0 hl => ?_, fun b t n hb h0 => ?_⟩
  · rw [s1] at hb
    obtain ⟨g1, g2, r, g3, g4, g5⟩ := h3 b t n hb h0 hl
    refine ⟨g1, by rw [s2]; exact g2, r, g3, g4, ?_⟩
    by_cases e : b = a
    · subst e
      exact hobj t n hb h0 hl r g3 g4
    · exact (g5.kept (oq b e)).to (fun k _ => (kk _ b k e).symm)
  · rw [s1] at hb
    obtain ⟨g1, g2, g4, g3⟩ := h4 b t n hb h0 hl
    refine ⟨g1, by rw [s2]; exact g2, g4, ?_⟩
    by_cases e : b = a
    · subst e
      exact harr t n hb h0 hl
    · rw [oq b e, g3, show (fun k => vV (xTy t) h' b k) = (fun k => vV (xTy t) h b k) from funext fun k => kk _ b k e]
  · rw [s1] at hb
    obtain ⟨g1, cell, g2, g3, g4, g5, g6⟩ := h5 b t n hb h0
    have e : b ≠ a := by omega
    exact ⟨g1, cell, by rw [oq b e]; exact g2, g3, g4, g5, fun k hk => by rw [kk _ b k e]; exact g6 k hk⟩
theorem xSame.I (h : XH) (a k : Nat) (x : Int32) : xSame h (sI h a k x) a := ⟨rfl, rfl, rfl, fun _ _ hb => ⟨up2_a hb, rfl, rfl⟩⟩
theorem xSame.J (h : XH) (a k : Nat) (x : Int64) : xSame h (sJ h a k x) a := ⟨rfl, rfl, rfl, fun _ _ hb => ⟨rfl, up2_a hb, rfl⟩⟩
theorem xSame.A (h : XH) (a k : Nat) (x : Option Nat) : xSame h (sA h a k x) a := ⟨rfl, rfl, rfl, fun _ _ hb => ⟨rfl, rfl, up2_a hb⟩⟩
/-- a store of one value of a kind: plane, value, new heap -/
def xPut (h h' : XH) (a k : Nat) (ty : FieldType) (v : Value) : Prop := xSame h h' a ∧ vV ty h' a k = v ∧ ∀ ty' j, j ≠ k → vV ty' h' a j = vV ty' h a j
theorem xPut.I {h : XH} {a k : Nat} {x : Int32} {ty : FieldType} (ht : ∀ h a k, vV ty h a k = .int (xI h a k)) : xPut h (sI h a k x) a k ty (.int x) :=
  ⟨xSame.I h a k x, by rw [ht]; exact congrArg Value.int up2_s, fun ty' j hj => vV_of ty' (up2_k hj) rfl rfl⟩
theorem xPut.J {h : XH} {a k : Nat} {x : Int64} {ty : FieldType} (ht : ∀ h a k, vV ty h a k = .long (xJ h a k)) : xPut h (sJ h a k x) a k ty (.long x) :=
  ⟨xSame.J h a k x, by rw [ht]; exact congrArg Value.long up2_s, fun ty' j hj => vV_of ty' rfl (up2_k hj) rfl⟩
theorem xPut.A {h : XH} {a k : Nat} {x : Option Nat} {ty : FieldType} (ht : ∀ h a k, vV ty h a k = va_rf (xA h a k)) : xPut h (sA h a k x) a k ty (va_rf x) :=
  ⟨xSame.A h a k x, by rw [ht]; exact congrArg va_rf up2_s, fun ty' j hj => vV_of ty' rfl rfl (up2_k hj)⟩
theorem xRep.obj {G : XG} {s : State} {h : XH} {H : Heap} (hR : xRep G s h H) {a t : Nat} (hc : xCok t) (ha : (xT h a).1 = t) : gB G ≤ a ∧ t_OB a (gC G t) (xC t).2.2 (gF G t) H (fun k => vV (xF t k) h a k) := by
  obtain ⟨g1, g2, r, g3, g4, g5⟩ := hR.2.2.1 a t (xT h a).2 (by rw [← ha]) hc.1.1 hc.1.2
  cases g3.symm.trans hc.2.1
  exact ⟨g1, g5⟩
theorem xRep.arr {G : XG} {s : State} {h : XH} {H : Heap} (hR : xRep G s h H) {a t n : Nat} (ha : xT h a = (t, n)) (h1 : 100 ≤ t) (h2 : t < 200) : gB G ≤ a ∧ t < 107 ∧ H[a]? = some (arrV (gA G t) n (fun k => vV (xTy t) h a k)) := by
  obtain ⟨g1, g2, g4, g3⟩ := hR.2.2.2.1 a t n ha h1 h2
  exact ⟨g1, g4, g3⟩
section HP
variable {X : XX} {cc : ByteArray} {y : MethodName} {ret : Option FieldType} {d pc n9 : Nat} {z9 : Nat × Nat} {L st : List Value} {h : XH}
/-- how a field is named: kind of the object, its place, the pool's number -/
def xLk (y : MethodName) (idx t k : Nat) : Prop := xCok t ∧ k < (xC t).2.2 ∧ ∃ ref, Cond.fieldLink y.cls idx ref ((xC t).2.1 k).2.1 ((xC t).2.1 k).2.2.1 ∈ xtb ∧ (ref = ((xC t).2.1 k).1 ∨ Cond.sameField ref ((xC t).2.1 k).1 ((xC t).2.1 k).2.1 ((xC t).2.1 k).2.2.1 ∈ xtb)
theorem go_getf (C : xCx X cc y ret d z9 n9) {idx t k a : Nat} (hl : xLk y idx t k) (ha : (xT h a).1 = t) (hd : decode cc pc = .ok (.getfield idx, 3)) (kk : Go X (pc + 3) L (vV (xF t k) h a k :: st) h) : Go X pc L (.ref a :: st) h := by
  obtain ⟨p, l, e, R, s, m, args, below, meth, c, G, h0, ov, hF, nL⟩ := X
  intro H locs ls hR hS hL h1 h2
  obtain ⟨hx, hb, hml, hown, hts, hK, hRm, hret, hlk, hnm, hzz, hn9⟩ := C
  obtain ⟨hc, hk, ref, hw, hsame⟩ := hl
  obtain ⟨-, cell, q1, q2, q3, q4⟩ := hR.obj hc ha
  obtain ⟨kS, hfc, kC, hkC, hkind⟩ := hK.1 t _ hc.1.1 hc.2.1
  obtain ⟨cf, kf, fi, f, hi, hsl⟩ := kS k hk
  have hi2 : s.fieldFound? ref ((xC t).2.1 k).2.1 ((xC t).2.1 k).2.2.1 = some (cf, kf, fi, f) := by
    rcases hsame with z | z
    · rw [z]; exact hi
    · exact u_same (hts _ z) _ hi
  refine W.getf hx hb hown (hts _ hw) hi2 (u_facts hfc hkC (u_lays hts hc.2.2.1 hk) hi).1 q1 (by rw [q3]; exact fun z => by cases z) (v := vV (xF t k) h a k) ?_ rfl rfl hd (kk H locs ls hR hS hL h1 h2)
  rw [hsl, q4 k hk]
theorem go_putf (C : xCx X cc y ret d z9 n9) {idx t k a : Nat} {v : Value} {h' : XH} (hl : xLk y idx t k) (ha : (xT h a).1 = t) (hfin : ((xC t).2.1 k).2.2.2 = false ∨ (((xC t).2.1 k).2.2.2 = true ∧ y.name = "<init>" ∧ ((xC t).2.1 k).1 = y.cls)) (hp : xPut h h' a k (xF t k) v) (hn : narrow (xF t k) v = v) (hfit : fits (xF t k) v = true) (hd : decode cc pc = .ok (.putfield idx, 3)) (kk : Go X (pc + 3) L st h') : Go X pc L (v :: .ref a :: st) h := by
  obtain ⟨p, l, e, R, s, m, args, below, meth, c, G, h0, ov, hF, nL⟩ := X
  intro H locs ls hR hS hL h1 h2
  obtain ⟨hx, hb, hml, hown, hts, hK, hRm, hret, hlk, hnm, hzz, hn9⟩ := C
  obtain ⟨hc, hk, ref, hw, hsame⟩ := hl
  obtain ⟨gb, cell, q1, q2, q3, q4⟩ := hR.obj hc ha
  have hkn := hK.1 t _ hc.1.1 hc.2.1
  obtain ⟨kS, hfc, kC, hkC, hkind⟩ := hkn
  obtain ⟨cf, kf, fi, f, hi, hsl⟩ := kS k hk
  have hi2 : s.fieldFound? ref ((xC t).2.1 k).2.1 ((xC t).2.1 k).2.2.1 = some (cf, kf, fi, f) := by
    rcases hsame with z | z
    · rw [z]; exact hi
    · exact u_same (hts _ z) _ hi
  have hap : ∀ x z, x < (xC t).2.2 → z < (xC t).2.2 → x ≠ z → gF G t x ≠ gF G t z := by
    intro x z hx1 hz1 hne
    obtain ⟨_, _, _, fa, hia, ea⟩ := kS x hx1
    obtain ⟨_, _, _, fb, hib, eb⟩ := kS z hz1
    rw [← ea, ← eb]
    refine u_apart (u_lays hts hc.2.2.1 hx1) (u_lays hts hc.2.2.1 hz1) hia hib ?_
    rw [(State.fieldFound?_type hia (hc.2.2.2.1 x hx1)).1, (State.fieldFound?_type hib (hc.2.2.2.1 z hz1)).1]
    exact hc.2.2.2.2.1 x hx1 z hz1 hne
  have hst := (u_facts hfc hkC (u_lays hts hc.2.2.1 hk) hi).1
  have hlay := hts _ (hc.2.2.1 _ (u_in_lay hk))
  have fin : ∀ H' : Heap, H'[a]? = some (cell.setSlot f.slot v) → H'.size = H.size → (∀ q : Nat, q ≠ a → H'[q]? = H[q]?) → W p l e R s m args below meth c H' (locs ++ [⟨a, f.slot⟩]) (xN h - xN h0) (xS h - xS h0) (MQ below (QX G ov hF) args s (xN hF - xN h0) (xS hF - xS h0) (gO G)) (F0 m (pc + 3) ls st) := by
    intro H' e1 e2 e3
    have hN : xN h' = xN h := hp.1.2.1
    have hSl : xS h' = xS h := hp.1.2.2.1
    have := kk H' (locs ++ [⟨a, f.slot⟩]) ls (hR.write hp.1 e2 e3 gb (fun t' n ht' _ _ r hr _ => ?_) (fun t' n ht' z _ => ?_)) (hS.put e2 e3 gb) hL (by rw [hN]; exact h1) (by rw [hSl]; exact h2)
    · rw [hN, hSl] at this
      exact this
    · have et : t' = t := by rw [← ha, ht']
      subst et
      cases hr.symm.trans hc.2.1
      rw [hsl] at e1
      refine t_OB.to (V := updV (fun j => vV (xF t' j) h a j) k v) ⟨_, e1, q2, q3, t_set q4 hap hk v⟩ (fun j _ => ?_)
      by_cases ej : j = k
      · subst ej
        simp only [updV, if_pos]
        exact hp.2.1.symm
      · simp only [updV, if_neg ej]
        exact (hp.2.2 _ j ej).symm
    · have et : t' = t := by rw [← ha, ht']
      have := hc.1.2
      omega
  rcases hfin with hfin | ⟨hfin, hni, hdecl⟩
  · unfold u_lay at hlay
    rw [if_neg (by rw [hfin]; decide)] at hlay
    exact W.putK hx hb (f := f) ⟨hown, hts _ hw, ⟨_, _, _, hi2⟩, hst⟩ (by rw [q2]; exact u_store hfc hkC hkind hlay hi (hc.2.2.2.1 k hk) hn hfit) q1 q3 (by rw [hsl]; exact k2_hasslot (q4 k hk)) rfl rfl hd fin
  · unfold u_lay at hlay
    rw [if_pos hfin] at hlay
    have hcf : m.cls = cf := by
      obtain ⟨_, _, c', _, _, _, -, -, hf', -, -, -, hown2, -⟩ := Cond.laysFinal_spec hlay
      have e1 : c' = cf := by have := hi.symm.trans hf'; simp at this; exact this.1.symm
      rw [hdecl] at hown2
      rw [← e1]; exact Option.some.inj (hown.symm.trans hown2)
    exact W.putFinK hx hb hown (hts _ hw) hi2 hst hcf (hnm.trans hni) (by rw [q2]; exact u_fits hfc hkC hkind (Or.inr hlay) hi (hc.2.2.2.1 k hk) hn hfit) q1 q3 (by rw [hsl]; exact k2_hasslot (q4 k hk)) rfl rfl hd fin
theorem go_alen (C : xCx X cc y ret d z9 n9) {a t n : Nat} (ha : xT h a = (t, n)) (ht : 100 ≤ t) (hd : decode cc pc = .ok (.arraylength, 1)) (kk : Go X (pc + 1) L (.int (Int32.ofNat n) :: st) h) : Go X pc L (.ref a :: st) h := by
  obtain ⟨p, l, e, R, s, m, args, below, meth, c, G, h0, ov, hF, nL⟩ := X
  intro H locs ls hR hS hL h1 h2
  obtain ⟨hx, hb, hml, hown, hts, hK, hRm, hret, hlk, hnm, hzz, hn9⟩ := C
  by_cases hl : t < 200
  · obtain ⟨-, g2, g3⟩ := hR.arr ha ht hl
    exact W.alen hx hb g3 ((hK.2.1 t ht g2).1 n _) (by rw [arrV_size]) rfl rfl hd (kk H locs ls hR hS hL h1 h2)
  · obtain ⟨-, cell, g2, g3, -, g5, -⟩ := hR.2.2.2.2 a t n ha (by omega)
    exact W.alen hx hb g2 g3 g5.2 rfl rfl hd (kk H locs ls hR hS hL h1 h2)
theorem go_iald (C : xCx X cc y ret d z9 n9) {a n : Nat} {i : Int32} (ha : xT h a = (100, n)) (hi : ¬ (i < 0 ∨ n ≤ i.toNatClampNeg)) (hd : decode cc pc = .ok (.iaload, 1)) (kk : Go X (pc + 1) L (.int (xI h a i.toNatClampNeg) :: st) h) : Go X pc L (.int i :: .ref a :: st) h := by
  obtain ⟨p, l, e, R, s, m, args, below, meth, c, G, h0, ov, hF, nL⟩ := X
  intro H locs ls hR hS hL h1 h2
  obtain ⟨hx, hb, hml, hown, hts, hK, hRm, hret, hlk, hnm, hzz, hn9⟩ := C
  obtain ⟨-, g2, g3⟩ := hR.arr ha (by decide) (by decide)
  have hlt : i.toNatClampNeg < n := Nat.not_le.mp fun q => hi (Or.inr q)
  exact W.iald (v := .int (xI h a i.toNatClampNeg)) hx hb g3 ((hK.2.1 100 (by decide) (by decide)).1 n _) (fun q => by cases q) (by rw [arrV_size]; exact hi) (by rw [arrV_read _ _ hlt]; rfl) rfl rfl hd (kk H locs ls hR hS hL h1 h2)
theorem go_bald (C : xCx X cc y ret d z9 n9) {a n : Nat} {i : Int32} (ha : xT h a = (101, n)) (hi : ¬ (i < 0 ∨ n ≤ i.toNatClampNeg)) (hd : decode cc pc = .ok (.baload, 1)) (kk : Go X (pc + 1) L (.int (xI h a i.toNatClampNeg) :: st) h) : Go X pc L (.int i :: .ref a :: st) h := by
  obtain ⟨p, l, e, R, s, m, args, below, meth, c, G, h0, ov, hF, nL⟩ := X
  intro H locs ls hR hS hL h1 h2
  obtain ⟨hx, hb, hml, hown, hts, hK, hRm, hret, hlk, hnm, hzz, hn9⟩ := C
  obtain ⟨-, g2, g3⟩ := hR.arr ha (by decide) (by decide)
  have hlt : i.toNatClampNeg < n := Nat.not_le.mp fun q => hi (Or.inr q)
  exact W.bald (v := .int (xI h a i.toNatClampNeg)) hx hb g3 ((hK.2.1 101 (by decide) (by decide)).1 n _) (fun q => by cases q) (by rw [arrV_size]; exact hi) (by rw [arrV_read _ _ hlt]; rfl) rfl rfl hd (kk H locs ls hR hS hL h1 h2)
theorem go_zald (C : xCx X cc y ret d z9 n9) {a n : Nat} {i : Int32} (ha : xT h a = (102, n)) (hi : ¬ (i < 0 ∨ n ≤ i.toNatClampNeg)) (hd : decode cc pc = .ok (.baload, 1)) (kk : Go X (pc + 1) L (.int (xI h a i.toNatClampNeg) :: st) h) : Go X pc L (.int i :: .ref a :: st) h := by
  obtain ⟨p, l, e, R, s, m, args, below, meth, c, G, h0, ov, hF, nL⟩ := X
  intro H locs ls hR hS hL h1 h2
  obtain ⟨hx, hb, hml, hown, hts, hK, hRm, hret, hlk, hnm, hzz, hn9⟩ := C
  obtain ⟨-, g2, g3⟩ := hR.arr ha (by decide) (by decide)
  have hlt : i.toNatClampNeg < n := Nat.not_le.mp fun q => hi (Or.inr q)
  exact W.zald (v := .int (xI h a i.toNatClampNeg)) hx hb g3 ((hK.2.1 102 (by decide) (by decide)).1 n _) (fun q => by cases q) (by rw [arrV_size]; exact hi) (by rw [arrV_read _ _ hlt]; rfl) rfl rfl hd (kk H locs ls hR hS hL h1 h2)
theorem go_lald (C : xCx X cc y ret d z9 n9) {a n : Nat} {i : Int32} (ha : xT h a = (103, n)) (hi : ¬ (i < 0 ∨ n ≤ i.toNatClampNeg)) (hd : decode cc pc = .ok (.laload, 1)) (kk : Go X (pc + 1) L (.long (xJ h a i.toNatClampNeg) :: st) h) : Go X pc L (.int i :: .ref a :: st) h := by
  obtain ⟨p, l, e, R, s, m, args, below, meth, c, G, h0, ov, hF, nL⟩ := X
  intro H locs ls hR hS hL h1 h2
  obtain ⟨hx, hb, hml, hown, hts, hK, hRm, hret, hlk, hnm, hzz, hn9⟩ := C
  obtain ⟨-, g2, g3⟩ := hR.arr ha (by decide) (by decide)
  have hlt : i.toNatClampNeg < n := Nat.not_le.mp fun q => hi (Or.inr q)
  exact W.lald (v := .long (xJ h a i.toNatClampNeg)) hx hb g3 ((hK.2.1 103 (by decide) (by decide)).1 n _) (fun q => by cases q) (by rw [arrV_size]; exact hi) (by rw [arrV_read _ _ hlt]; rfl) rfl rfl hd (kk H locs ls hR hS hL h1 h2)
theorem go_iald0 (C : xCx X cc y ret d z9 n9) {a n : Nat} {i : Int32} (ha : xT h a = (200, n)) (hi : ¬ (i < 0 ∨ n ≤ i.toNatClampNeg)) (hd : decode cc pc = .ok (.iaload, 1)) (kk : Go X (pc + 1) L (.int (xI h a i.toNatClampNeg) :: st) h) : Go X pc L (.int i :: .ref a :: st) h := by
  obtain ⟨p, l, e, R, s, m, args, below, meth, c, G, h0, ov, hF, nL⟩ := X
  intro H locs ls hR hS hL h1 h2
  obtain ⟨hx, hb, hml, hown, hts, hK, hRm, hret, hlk, hnm, hzz, hn9⟩ := C
  obtain ⟨-, cell, g2, g3, g4, g5, g6⟩ := hR.2.2.2.2 a 200 n ha (by decide)
  have hlt : i.toNatClampNeg < n := Nat.not_le.mp fun q => hi (Or.inr q)
  exact W.iald (v := .int (xI h a i.toNatClampNeg)) hx hb g2 g3 g4 (fun z => hi (z.imp id (fun w => Nat.le_trans g5.1 w))) (g6 _ hlt) rfl rfl hd (kk H locs ls hR hS hL h1 h2)
theorem go_aald (C : xCx X cc y ret d z9 n9) {a n t : Nat} {i : Int32} (ha : xT h a = (t, n)) (ht : 104 ≤ t ∧ t ≤ 106) (hi : ¬ (i < 0 ∨ n ≤ i.toNatClampNeg)) (hd : decode cc pc = .ok (.aaload, 1)) (kk : Go X (pc + 1) L (va_rf (xA h a i.toNatClampNeg) :: st) h) : Go X pc L (.int i :: .ref a :: st) h := by
  obtain ⟨p, l, e, R, s, m, args, below, meth, c, G, h0, ov, hF, nL⟩ := X
  intro H locs ls hR hS hL h1 h2
  obtain ⟨hx, hb, hml, hown, hts, hK, hRm, hret, hlk, hnm, hzz, hn9⟩ := C
  obtain ⟨-, g2, g3⟩ := hR.arr ha (by omega) (by omega)
  have hlt : i.toNatClampNeg < n := Nat.not_le.mp fun q => hi (Or.inr q)
  have hr : (xTy t).isReference = true ∧ vV (xTy t) h a i.toNatClampNeg = va_rf (xA h a i.toNatClampNeg) := by
    rcases (show t = 104 ∨ t = 105 ∨ t = 106 by omega) with z | z | z <;> subst z <;> exact ⟨rfl, rfl⟩
  exact W.aald (v := va_rf (xA h a i.toNatClampNeg)) hx hb g3 ((hK.2.1 t (by omega) g2).1 n _) hr.1 (fun q => by cases q) (by rw [arrV_size]; exact hi) (by rw [arrV_read _ _ hlt, hr.2]) rfl rfl hd (kk H locs ls hR hS hL h1 h2)
theorem xRep.store {G : XG} {s : State} {h' : XH} {H H1 : Heap} {a t n k : Nat} {v : Value} (hR : xRep G s h H) (ha : xT h a = (t, n)) (h1 : 100 ≤ t) (h2 : t < 200) (hp : xPut h h' a k (xTy t) v) (e1 : H1[a]? = some ((arrV (gA G t) n (fun k => vV (xTy t) h a k)).setSlot k v)) (e2 : H1.size = H.size) (e3 : ∀ q : Nat, q ≠ a → H1[q]? = H[q]?) : xRep G s h' H1 := by
  obtain ⟨gb, -, -⟩ := hR.arr ha h1 h2
  refine hR.write hp.1 e2 e3 gb (fun t' n' ht' _ z => ?_) (fun t' n' ht' _ _ => ?_)
  · rw [ha] at ht'; cases ht'; omega
  · rw [ha] at ht'; cases ht'
    rw [e1, arrV_store]
    congr 2
    funext j
    by_cases ej : j = k
    · subst ej
      simp only [updV, if_pos]
      exact hp.2.1.symm
    · simp only [updV, if_neg ej]
      exact (hp.2.2 _ j ej).symm
theorem go_iast (C : xCx X cc y ret d z9 n9) {a n : Nat} {i : Int32} {x : Int32} (ha : xT h a = (100, n)) (hi : ¬ (i < 0 ∨ n ≤ i.toNatClampNeg)) (hd : decode cc pc = .ok (.iastore, 1)) (kk : Go X (pc + 1) L st (sI h a i.toNatClampNeg x)) : Go X pc L (.int x :: .int i :: .ref a :: st) h := by
  obtain ⟨p, l, e, R, s, m, args, below, meth, c, G, h0, ov, hF, nL⟩ := X
  intro H locs ls hR hS hL h1 h2
  obtain ⟨hx, hb, hml, hown, hts, hK, hRm, hret, hlk, hnm, hzz, hn9⟩ := C
  obtain ⟨gb, g2, g3⟩ := hR.arr ha (by decide) (by decide)
  refine W.iast hx hb g3 ((hK.2.1 100 (by decide) (by decide)).1 n _) (fun q => by cases q) (by rw [arrV_size]; exact hi) rfl rfl hd (fun H1 e1 e2 e3 => ?_)
  exact kk H1 _ ls (hR.store ha (by decide) (by decide) (xPut.I (fun _ _ _ => rfl)) e1 e2 e3) (hS.put e2 e3 gb) hL h1 h2
theorem go_bast (C : xCx X cc y ret d z9 n9) {a n : Nat} {i : Int32} {x : Int32} (ha : xT h a = (101, n)) (hi : ¬ (i < 0 ∨ n ≤ i.toNatClampNeg)) (hd : decode cc pc = .ok (.bastore, 1)) (kk : Go X (pc + 1) L st (sI h a i.toNatClampNeg x.toInt8.toInt32)) : Go X pc L (.int x :: .int i :: .ref a :: st) h := by
  obtain ⟨p, l, e, R, s, m, args, below, meth, c, G, h0, ov, hF, nL⟩ := X
  intro H locs ls hR hS hL h1 h2
  obtain ⟨hx, hb, hml, hown, hts, hK, hRm, hret, hlk, hnm, hzz, hn9⟩ := C
  obtain ⟨gb, g2, g3⟩ := hR.arr ha (by decide) (by decide)
  refine W.bast hx hb g3 ((hK.2.1 101 (by decide) (by decide)).1 n _) (fun q => by cases q) (by rw [arrV_size]; exact hi) rfl rfl hd (fun H1 e1 e2 e3 => ?_)
  exact kk H1 _ ls (hR.store ha (by decide) (by decide) (xPut.I (fun _ _ _ => rfl)) e1 e2 e3) (hS.put e2 e3 gb) hL h1 h2
theorem go_last (C : xCx X cc y ret d z9 n9) {a n : Nat} {i : Int32} {x : Int64} (ha : xT h a = (103, n)) (hi : ¬ (i < 0 ∨ n ≤ i.toNatClampNeg)) (hd : decode cc pc = .ok (.lastore, 1)) (kk : Go X (pc + 1) L st (sJ h a i.toNatClampNeg x)) : Go X pc L (.long x :: .int i :: .ref a :: st) h := by
  obtain ⟨p, l, e, R, s, m, args, below, meth, c, G, h0, ov, hF, nL⟩ := X
  intro H locs ls hR hS hL h1 h2
  obtain ⟨hx, hb, hml, hown, hts, hK, hRm, hret, hlk, hnm, hzz, hn9⟩ := C
  obtain ⟨gb, g2, g3⟩ := hR.arr ha (by decide) (by decide)
  refine W.last hx hb g3 ((hK.2.1 103 (by decide) (by decide)).1 n _) (fun q => by cases q) (by rw [arrV_size]; exact hi) rfl rfl hd (fun H1 e1 e2 e3 => ?_)
  exact kk H1 _ ls (hR.store ha (by decide) (by decide) (xPut.J (fun _ _ _ => rfl)) e1 e2 e3) (hS.put e2 e3 gb) hL h1 h2
theorem go_zast (C : xCx X cc y ret d z9 n9) {a n : Nat} {i : Int32} {x : Int32} (ha : xT h a = (102, n)) (hi : ¬ (i < 0 ∨ n ≤ i.toNatClampNeg)) (hz : narrow .boolean (.int x) = .int x) (hd : decode cc pc = .ok (.bastore, 1)) (kk : Go X (pc + 1) L st (sI h a i.toNatClampNeg x)) : Go X pc L (.int x :: .int i :: .ref a :: st) h := by
  obtain ⟨p, l, e, R, s, m, args, below, meth, c, G, h0, ov, hF, nL⟩ := X
  intro H locs ls hR hS hL h1 h2
  obtain ⟨hx, hb, hml, hown, hts, hK, hRm, hret, hlk, hnm, hzz, hn9⟩ := C
  obtain ⟨gb, g2, g3⟩ := hR.arr ha (by decide) (by decide)
  refine W.zast hx hb g3 ((hK.2.1 102 (by decide) (by decide)).1 n _) (fun q => by cases q) (by rw [arrV_size]; exact hi) rfl rfl hd (fun H1 e1 e2 e3 => ?_); rw [hz] at e1
  exact kk H1 _ ls (hR.store ha (by decide) (by decide) (xPut.I (fun _ _ _ => rfl)) e1 e2 e3) (hS.put e2 e3 gb) hL h1 h2
theorem go_aast (C : xCx X cc y ret d z9 n9) {a n t tv v : Nat} {i : Int32} (ha : xT h a = (t, n)) (hc : xCok tv) (hv : (xT h v).1 = tv) (ht : (t = 104 ∧ tv = 10) ∨ (t = 105 ∧ Cond.castable (xC tv).1 "java/lang/Object" ∈ xrs)) (hi : ¬ (i < 0 ∨ n ≤ i.toNatClampNeg)) (hd : decode cc pc = .ok (.aastore, 1)) (kk : Go X (pc + 1) L st (sA h a i.toNatClampNeg (some v))) : Go X pc L (.ref v :: .int i :: .ref a :: st) h := by
  obtain ⟨p, l, e, R, s, m, args, below, meth, c, G, h0, ov, hF, nL⟩ := X
  intro H locs ls hR hS hL h1 h2
  obtain ⟨hx, hb, hml, hown, hts, hK, hRm, hret, hlk, hnm, hzz, hn9⟩ := C
  have htr : 100 ≤ t ∧ t < 107 := by rcases ht with ⟨z, -⟩ | ⟨z, -⟩ <;> omega
  obtain ⟨gb, -, g3⟩ := hR.arr ha htr.1 (by omega)
  obtain ⟨-, cellV, q1, q2, q3, -⟩ := hR.obj hc hv
  have hcls := (hK.1 tv _ hc.1.1 hc.2.1).2
  obtain ⟨kC, hkC, hkind⟩ := hcls.2
  have hra := (hK.2.1 t htr.1 htr.2).2
  have hlt : i.toNatClampNeg < n := Nat.not_le.mp fun q => hi (Or.inr q)
  have hi0 : ¬ i < 0 := fun q => hi (Or.inl q)
  have key : ∃ (kA : Class) (comp : ClassId) (kE : Class), s.vm.classes[gA G t]? = some kA ∧ (∃ E, kA.kind = .array comp (.object E)) ∧ s.vm.classes[comp]? = some kE ∧ s.vm.assignable (gC G tv) comp = true ∧ (∀ h a k, vV (xTy t) h a k = va_rf (xA h a k)) := by
    rcases ht with ⟨z1, z2⟩ | ⟨z1, z2⟩
    · subst z1; subst z2
      obtain ⟨kA, comp, k1, k2, k3, -⟩ := (show va_RA s (gA G 104) (.object "ReadersRoom$Row") from hra)
      have hcomp : comp = gC G 10 := Option.some.inj (k3.symm.trans hcls.1)
      subst hcomp
      exact ⟨kA, _, kC, k1, ⟨_, k2⟩, hkC, va_assign hcls, fun _ _ _ => rfl⟩
    · subst z1
      obtain ⟨kA, comp, k1, k2, k3, -⟩ := (show va_RA s (gA G 105) (.object "java/lang/Object") from hra)
      obtain ⟨kE, hkE, -⟩ := Vm.findClass_spec k3
      obtain ⟨c0, t0, f1, f2, f3⟩ := Cond.castable_spec (va_Nw.use (A := args) rfl (hK.2.2.2.2.2.1 _ z2))
      cases hcls.1.symm.trans f1
      cases k3.symm.trans f2
      exact ⟨kA, _, kE, k1, ⟨_, k2⟩, hkE, f3, fun _ _ _ => rfl⟩
  obtain ⟨kA, comp, kE, k1, ⟨E, k2⟩, k3, k4, k5⟩ := key
  refine W.aast hx hb g3 (fun q h => by cases h) (fun h => by cases h) k1 k2 rfl k3 ⟨hi0, by rw [arrV_size]; exact hlt⟩ q1 (fun q h => by rw [q3] at h; cases h) (by rw [q2]; exact hkC) (by rw [q2]; exact k4) rfl rfl hd (fun H1 e1 e2 e3 => ?_)
  exact kk H1 _ ls (hR.store ha htr.1 (by omega) (xPut.A k5) e1 e2 e3) (hS.put e2 e3 gb) hL h1 h2
theorem xT_new (h : XH) (t n b : Nat) : xT (xNew h t n) b = if b = xN h then (t, n) else xT h b := rfl
theorem vV_new (h : XH) (t n : Nat) (ty : FieldType) (b k : Nat) : vV ty (xNew h t n) b k = if b = xN h then vV0 ty else vV ty h b k := by
  by_cases e : b = xN h
  · rw [if_pos e]
    cases ty <;> simp [vV, vV0, xNew, xI, xJ, xA, row0, e, va_rf] <;> simp [xN]
  · rw [if_neg e]
    exact vV_of ty (if_neg e) (if_neg e) (if_neg e)
theorem xRep.grow {G : XG} {s : State} {H H1 : Heap} {t n : Nat} (hR : xRep G s h H) (hz : H1.size = xN h + 1) (oq : ∀ q : Nat, q < xN h → H1[q]? = H[q]?)
    (hobj : t < 100 → ∃ r : vw_C, xcl[t]? = some r ∧ n = r.2.2 ∧ t_OB (xN h) (gC G t) r.2.2 (gF G t) H1 (fun k => vV (xF t k) (xNew h t n) (xN h) k))
    (harr : 100 ≤ t → t < 107 ∧ H1[xN h]? = some (arrV (gA G t) n (fun k => vV (xTy t) (xNew h t n) (xN h) k))) : xRep G s (xNew h t n) H1 := by
  obtain ⟨r1, r2, r3, r4, r5⟩ := hR
  have kk : ∀ ty b k, b ≠ xN h → vV ty (xNew h t n) b k = vV ty h b k := fun ty b k hb => by rw [vV_new, if_neg hb]
  have hN : xN (xNew h t n) = xN h + 1 := rfl
  refine ⟨hz, by rw [hN]; omega, fun b t' n' hb h0 hl => ?_, fun b t' n' hb h0 hl => ?_, fun b t' n' hb h0 => ?_⟩
  · rw [xT_new] at hb
    by_cases e : b = xN h
    · rw [if_pos e] at hb
      cases hb
      obtain ⟨r, g3, g4, g5⟩ := hobj hl
      rw [e, hN]
      exact ⟨r2, by omega, r, g3, g4, g5⟩
    · rw [if_neg e] at hb
      obtain ⟨g1, g2, r, g3, g4, g5⟩ := r3 b t' n' hb h0 hl
      exact ⟨g1, by rw [hN]; omega, r, g3, g4, (g5.kept (oq b g2)).to (fun k _ => (kk _ b k e).symm)⟩
  · rw [xT_new] at hb
    by_cases e : b = xN h
    · rw [if_pos e] at hb
      cases hb
      obtain ⟨g3, g4⟩ := harr h0
      rw [e, hN]
      exact ⟨r2, by omega, g3, g4⟩
    · rw [if_neg e] at hb
      obtain ⟨g1, g2, g3, g4⟩ := r4 b t' n' hb h0 hl
      refine ⟨g1, by rw [hN]; omega, g3, ?_⟩
      rw [oq b g2, g4, show (fun k => vV (xTy t') (xNew h t n) b k) = (fun k => vV (xTy t') h b k) from funext fun k => kk _ b k e]
  · rw [xT_new] at hb
    by_cases e : b = xN h
    · rw [if_pos e] at hb
      cases hb
      have := (harr (by omega)).1
      omega
    · rw [if_neg e] at hb
      obtain ⟨g1, cell, g2, g3, g4, g5, g6⟩ := r5 b t' n' hb h0
      exact ⟨g1, cell, by rw [oq b (by omega)]; exact g2, g3, g4, g5, fun k hk => by rw [kk _ b k e]; exact g6 k hk⟩
theorem va_S.more {A : Nat → Prop} {H0 H H1 : Heap} {locs : List Loc} {n : Nat} (hS : va_S A H0 H locs) (hn : H.size = n) (hz : H1.size = n + 1) (oq : ∀ q : Nat, q < n → H1[q]? = H[q]?) : va_S A H0 H1 locs :=
  ⟨Nat.le_trans hS.1 (by omega), fun q h1 h2 => (oq q (by have := hS.1; omega)).trans (hS.2.1 q h1 h2), hS.2.2⟩
theorem go_new (C : xCx X cc y ret d z9 n9) {idx t : Nat} (hc : xCok t) (hw : Cond.classLink y.cls idx (xC t).1 ∈ xtb) (hN : xN h + 1 ≤ xN (xEnd X).2) (hSl : xS h + (xC t).2.2 ≤ xS (xEnd X).2) (hd : decode cc pc = .ok (.new idx, 3)) (kk : Go X (pc + 3) L (.ref (xN h) :: st) (xNew h t (xC t).2.2)) : Go X pc L st h := by
  obtain ⟨p, l, e, R, s, m, args, below, meth, c, G, h0, ov, hF, nL⟩ := X
  intro H locs ls hR hS hL h1 h2
  obtain ⟨hx, hb, hml, hown, hts, hK, hRm, hret, hlk, hnm, hzz, hn9⟩ := C
  have hkn := hK.1 t _ hc.1.1 hc.2.1
  have hsz : H.size = xN h := hR.1
  have hN' : xN h + 1 ≤ xN hF := hN
  have hS' : xS h + (xC t).2.2 ≤ xS hF := hSl
  refine W.newcK hx hb hown (hts _ hw) (hts _ hc.2.2.2.2.2.2.1) (hts _ hc.2.2.2.2.2.2.2) rfl hd (Nat.le_trans (by omega) hRm.2.1) (Nat.le_trans (by omega) hRm.2.2.1) hkn.2.1 hsz (fun H1 kC hkC e1 z1 o1 => ?_)
  have hR1 : xRep G s (xNew h t (xC t).2.2) H1 := by
    refine hR.grow z1 o1 (fun _ => ⟨_, hc.2.1, rfl, ?_⟩) (fun z => by have := hc.1.2; omega)
    refine (u_born (xF t) hts hc.2.2.1 hkn hkC e1 hc.2.2.2.1).to (fun k hk => ?_)
    rw [vV_new, if_pos rfl, hc.2.2.2.2.2.1 k hk]
  have := kk H1 locs ls hR1 (hS.more hsz z1 o1) hL (by show _ ≤ xN h + 1; omega) (by show _ ≤ xS h + _; omega)
  rw [show xN (xNew h t (xC t).2.2) - xN h0 = xN h - xN h0 + 1 by show xN h + 1 - xN h0 = _; omega, show xS (xNew h t (xC t).2.2) - xS h0 = xS h - xS h0 + (xC t).2.2 by show xS h + _ - xS h0 = _; omega] at this
  exact this
theorem dflt_prim {t : Nat} (ht : 100 ≤ t ∧ t ≤ 103) : defaultValue (xTy t) = vV0 (xTy t) := by
  rcases (show t = 100 ∨ t = 101 ∨ t = 102 ∨ t = 103 by omega) with z | z | z | z <;> subst z <;> rfl
theorem ra_prim {s : State} {t : Nat} {cA : ClassId} (ht : 100 ≤ t ∧ t ≤ 103) (hr : va_RA s cA (xTy t)) : s.vm.findClass ("[" ++ (xTy t).toString) = some cA := by
  rcases (show t = 100 ∨ t = 101 ∨ t = 102 ∨ t = 103 by omega) with z | z | z | z <;> subst z <;> exact hr
theorem go_newa (C : xCx X cc y ret d z9 n9) {t N : Nat} {n : Int32} {aty : ArrayType} (hty : newarray.typeOf aty = xTy t) (ht : 100 ≤ t ∧ t ≤ 103) (hw : Cond.arrayClass (xTy t) ∈ xtb) (hn : ¬ n < 0) (hNn : n.toNatClampNeg = N) (hby : N ≤ 65536) (hN : xN h + 1 ≤ xN (xEnd X).2) (hSl : xS h + N ≤ xS (xEnd X).2) (hd : decode cc pc = .ok (.newarray aty, 2)) (kk : Go X (pc + 2) L (.ref (xN h) :: st) (xNew h t N)) : Go X pc L (.int n :: st) h := by
  obtain ⟨p, l, e, R, s, m, args, below, meth, c, G, h0, ov, hF, nL⟩ := X
  intro H locs ls hR hS hL h1 h2
  obtain ⟨hx, hb, hml, hown, hts, hK, hRm, hret, hlk, hnm, hzz, hn9⟩ := C
  have hsz : H.size = xN h := hR.1
  have hN' : xN h + 1 ≤ xN hF := hN
  have hS' : xS h + N ≤ xS hF := hSl
  have hcb : componentBytes (xTy t) ≤ 8 := by
    rcases (show t = 100 ∨ t = 101 ∨ t = 102 ∨ t = 103 by omega) with z | z | z | z <;> subst z <;> decide
  refine va_newaK hx hb (by rw [hty]; exact hts _ hw) rfl hd rfl hn hNn (by rw [hty]; exact Nat.le_trans (Nat.mul_le_mul hby hcb) (by decide)) (Nat.le_trans (by omega) hRm.2.1) (Nat.le_trans (by omega) hRm.2.2.1) hsz (fun H1 cA e1 z1 o1 hA hF0 => ?_)
  rw [hty] at e1 hA hF0
  have hcA : cA = gA G t := Option.some.inj (hF0.symm.trans (ra_prim ht (hK.2.1 t ht.1 (by omega)).2))
  subst hcA
  have hR1 : xRep G s (xNew h t N) H1 := by
    refine hR.grow z1 o1 (fun z => by omega) (fun _ => ⟨by omega, ?_⟩)
    rw [e1]
    congr 2
    funext k
    rw [vV_new, if_pos rfl, dflt_prim ht]
  have := kk H1 locs ls hR1 (hS.more hsz z1 o1) hL (by show _ ≤ xN h + 1; omega) (by show _ ≤ xS h + _; omega)
  rw [show xN (xNew h t N) - xN h0 = xN h - xN h0 + 1 by show xN h + 1 - xN h0 = _; omega, show xS (xNew h t N) - xS h0 = xS h - xS h0 + N by show xS h + _ - xS h0 = _; omega] at this
  exact this
theorem go_anew (C : xCx X cc y ret d z9 n9) {idx t N : Nat} {n : Int32} {E : String} (hE : xTy t = .object E) (ht : t = 104 ∨ t = 105) (hw : Cond.classLink y.cls idx E ∈ xtb) (hn : ¬ n < 0) (hNn : n.toNatClampNeg = N) (hby : N ≤ 65536) (hN : xN h + 1 ≤ xN (xEnd X).2) (hSl : xS h + N ≤ xS (xEnd X).2) (hd : decode cc pc = .ok (.anewarray idx, 3)) (kk : Go X (pc + 3) L (.ref (xN h) :: st) (xNew h t N)) : Go X pc L (.int n :: st) h := by
  obtain ⟨p, l, e, R, s, m, args, below, meth, c, G, h0, ov, hF, nL⟩ := X
  intro H locs ls hR hS hL h1 h2
  obtain ⟨hx, hb, hml, hown, hts, hK, hRm, hret, hlk, hnm, hzz, hn9⟩ := C
  have hsz : H.size = xN h := hR.1
  have hN' : xN h + 1 ≤ xN hF := hN
  have hS' : xS h + N ≤ xS hF := hSl
  subst hNn
  have hao : (Cond.arrayOver (.object E)).before args s = true := by
    rcases ht with z | z <;> subst z <;> cases hE
    · exact va_AO.use hK.2.2.2.2.2.2.1
    · exact va_AO.use hK.2.2.2.2.2.2.2.1
  refine W.anew hx hb hown (hts _ hw) hao rfl hd rfl hn (by omega) (Nat.le_trans (by omega) hRm.2.1) (Nat.le_trans (by omega) hRm.2.2.1) (fun cA kA comp f1 f2 f3 f4 => ?_)
  have hra := (hK.2.1 t (by omega) (by omega)).2
  rw [hE] at hra
  obtain ⟨kA', comp', k1, k2, k3, k4⟩ := hra
  have hcA : cA = gA G t := Option.some.inj (f1.symm.trans k4)
  subst hcA
  have o1 : ∀ q : Nat, q < xN h → (H.push { cls := gA G t, slots := Array.replicate n.toNatClampNeg Value.null, vm := .none })[q]? = H[q]? := fun q hq => by
    rw [Array.getElem?_push, if_neg (by omega)]
  have hR1 : xRep G s (xNew h t n.toNatClampNeg) (H.push { cls := gA G t, slots := Array.replicate n.toNatClampNeg Value.null, vm := .none }) := by
    refine hR.grow (by simp [hsz]) o1 (fun z => by omega) (fun _ => ⟨by omega, ?_⟩)
    rw [Array.getElem?_push, if_pos hsz.symm, arrV_new]
    congr 2
    funext k
    rw [vV_new, if_pos rfl, hE]
    rfl
  have := kk _ locs ls hR1 (hS.more hsz (by simp [hsz]) o1) hL (by show _ ≤ xN h + 1; omega) (by show _ ≤ xS h + _; omega)
  rw [show xN (xNew h t n.toNatClampNeg) - xN h0 = xN h - xN h0 + 1 by show xN h + 1 - xN h0 = _; omega, show xS (xNew h t n.toNatClampNeg) - xS h0 = xS h - xS h0 + n.toNatClampNeg by show xS h + _ - xS h0 = _; omega] at this
  rw [hsz]
  exact this
theorem go_cast (C : xCx X cc y ret d z9 n9) {idx a t : Nat} (hc : xCok t) (hw : Cond.classLink y.cls idx (xC t).1 ∈ xtb) (ha : (xT h a).1 = t) (hd : decode cc pc = .ok (.checkcast idx, 3)) (kk : Go X (pc + 3) L (.ref a :: st) h) : Go X pc L (.ref a :: st) h := by
  obtain ⟨p, l, e, R, s, m, args, below, meth, c, G, h0, ov, hF, nL⟩ := X
  intro H locs ls hR hS hL h1 h2
  obtain ⟨hx, hb, hml, hown, hts, hK, hRm, hret, hlk, hnm, hzz, hn9⟩ := C
  obtain ⟨-, cell, q1, q2, q3, -⟩ := hR.obj hc ha
  have hcls := (hK.1 t _ hc.1.1 hc.2.1).2
  intro T hT Y
  obtain ⟨vm', Y', stp⟩ := Y.checkcastYes hx hown (hts _ hw) (by rw [hT]; exact q1) (by rw [q3]; rfl) hcls.1 (by rw [q2]; exact va_assign hcls) (g := F0 m pc ls (.ref a :: st)) rfl rfl (by rw [hb]; exact hd)
  obtain ⟨t2, a1, b1⟩ := kk H locs ls hR hS hL h1 h2 (T.setVm vm') hT Y'
  exact ⟨t2, stp t2 a1, b1⟩
theorem go_getZ (C : xCx X cc y ret d z9 n9) {idx : Nat} (hw : Cond.fieldLink y.cls idx "java/util/ArrayList" "DEFAULTCAPACITY_EMPTY_ELEMENTDATA" "[Ljava/lang/Object;" ∈ xtb) (hd : decode cc pc = .ok (.getstatic idx, 3)) (kk : Go X (pc + 3) L (.ref z9.1 :: st) h) : Go X pc L st h := by
  obtain ⟨p, l, e, R, s, m, args, below, meth, c, G, h0, ov, hF, nL⟩ := X
  intro H locs ls hR hS hL h1 h2
  obtain ⟨hx, hb, hml, hown, hts, hK, hRm, hret, hlk, hnm, hzz, hn9⟩ := C
  subst hzz
  exact va_gets hx hb hK.2.2.1 hS hown (hts _ hw) (fun _ z => z) hd (kk H locs ls hR hS hL h1 h2)
end HP
