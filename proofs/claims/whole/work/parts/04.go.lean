theorem xLs.r1 {nL : Nat} {L : List Value} {ls ls' : Array Slot} {i : Nat} {v : Value} (h : xLs nL L ls) (g : lv_has ls' nL ((i, v) :: (xl L 0).filter (fun q => !(q.1 == i) && !(q.1 + 1 == i && q.2.category == 2)))) : xLs nL (stL L i v) ls' := by
  refine ⟨by rw [stL_len]; exact h.1, g.1, g.2.1, fun q hq => g.2.2 q ?_⟩
  obtain ⟨z1, z2, z3⟩ := (xl_mem _ 0 q).mp hq
  rcases stL_get L i v q.1 q.2 z3 z1 with ⟨a, b⟩ | ⟨a, b, d⟩
  · obtain ⟨q1, q2⟩ := q
    simp only at a b
    subst a; subst b
    exact List.mem_cons_self
  · refine List.mem_cons_of_mem _ (List.mem_filter.mpr ⟨(xl_mem L 0 q).mpr ⟨z1, z2, b⟩, ?_⟩)
    simp only [Bool.and_eq_true, Bool.not_eq_true', beq_eq_false_iff_ne, ne_eq, Bool.and_eq_false_iff]
    refine ⟨a, ?_⟩
    by_cases z : q.1 + 1 = i
    · exact Or.inr (fun w => d ⟨z, w⟩)
    · exact Or.inl z
theorem xLs.r2 {nL : Nat} {L : List Value} {ls ls' : Array Slot} {i : Nat} {v : Value} (h : xLs nL L ls) (g : lv_has ls' nL ((i, v) :: (xl L 0).filter (fun q => !(q.1 == i) && (!(q.1 == i + 1) && !(q.1 + 1 == i && q.2.category == 2))))) : xLs nL (stL2 L i v) ls' := by
  refine ⟨by unfold stL2; rw [kill_len, stL_len]; exact h.1, g.1, g.2.1, fun q hq => g.2.2 q ?_⟩
  obtain ⟨z1, z2, z3⟩ := (xl_mem _ 0 q).mp hq
  obtain ⟨y1, y2⟩ := kill_get _ _ _ _ z3 z1
  rcases stL_get L i v q.1 q.2 y2 z1 with ⟨a, b⟩ | ⟨a, b, d⟩
  · obtain ⟨q1, q2⟩ := q
    simp only at a b
    subst a; subst b
    exact List.mem_cons_self
  · refine List.mem_cons_of_mem _ (List.mem_filter.mpr ⟨(xl_mem L 0 q).mpr ⟨z1, z2, b⟩, ?_⟩)
    simp only [Bool.and_eq_true, Bool.not_eq_true', beq_eq_false_iff_ne, ne_eq, Bool.and_eq_false_iff]
    refine ⟨a, by simpa using y1, ?_⟩
    by_cases z : q.1 + 1 = i
    · exact Or.inr (fun w => d ⟨z, w⟩)
    · exact Or.inl z
abbrev XX : Type := Program × Launch × Env × Room × State × MethodId × Array Value × List Frame × Method × Code × XG × XH × Option Value × XH × Nat
def QX (G : XG) (ov : Option Value) (h' : XH) : Array Value → State → Outcome → State → Prop := fun _ st o t => o = .returned ov ∧ xRep G t h' t.heap ∧ va_F (gO G) st t
def PX (G : XG) (as : List Value) (h : XH) : Array Value → State → Prop := fun a U => a = as.toArray ∧ xRep G U h U.heap ∧ xK G U
def Go (X : XX) (pc : Nat) (L st : List Value) (h : XH) : Prop := match X with
  | (p, l, e, R, s, m, args, below, meth, c, G, h0, ov, hF, nL) => ∀ (H : Heap) (locs : List Loc) (ls : Array Slot), xRep G s h H → va_S (gO G) s.heap H locs → xLs nL L ls → xN h0 ≤ xN h → xS h0 ≤ xS h →
    W p l e R s m args below meth c H locs (xN h - xN h0) (xS h - xS h0) (MQ below (QX G ov hF) args s (xN hF - xN h0) (xS hF - xS h0) (gO G)) (F0 m pc ls st)
def xCx (X : XX) (cc : ByteArray) (y : MethodName) (ret : Option FieldType) (d : Nat) (z : Nat × Nat) (n9 : Nat) : Prop := match X with
  | (p, _, _, R, s, m, args, _, meth, c, G, h0, _, hF, nL) => p.tables.exec = Jvm.exec ∧ c.code = cc ∧ c.maxLocals = nL ∧ s.vm.findClass y.cls = some m.cls ∧ (∀ w ∈ xtb, w.before args s = true) ∧ xK G s ∧ (d ≤ R.frames ∧ xN hF - xN h0 ≤ R.cells ∧ xS hF - xS h0 ≤ R.slots ∧ 64 * d ≤ R.locals) ∧ meth.sig.returnType = ret ∧ meth.locks = false ∧ meth.name = y.name ∧ (gZ G, gM G) = z ∧ nL = n9
def xEnd (X : XX) : Option Value × XH := match X with
  | (_, _, _, _, _, _, _, _, _, _, _, _, ov, hF, _) => (ov, hF)
theorem xCx.nl {p : Program} {l : Launch} {e : Env} {R : Room} {s : State} {m : MethodId} {args : Array Value} {below : List Frame} {meth : Method} {c : Code} {G : XG} {h0 : XH} {ov : Option Value} {hF : XH} {nL n9 d : Nat} {z9 : Nat × Nat} {cc : ByteArray} {y : MethodName} {ret : Option FieldType} (C : xCx (p, l, e, R, s, m, args, below, meth, c, G, h0, ov, hF, nL) cc y ret d z9 n9) : nL = n9 := C.2.2.2.2.2.2.2.2.2.2.2
def xnL (X : XX) : Nat := match X with
  | (_, _, _, _, _, _, _, _, _, _, _, _, _, _, nL) => nL
section GO
variable {X : XX} {cc : ByteArray} {y : MethodName} {ret : Option FieldType} {d pc n9 : Nat} {z9 : Nat × Nat} {L st : List Value} {h : XH}

theorem go_iconst (C : xCx X cc y ret d z9 n9) {n : Int} {v : Int32} (hd : decode cc pc = .ok (.iconst n, 1)) (hv : Int32.ofInt n = v) (k : Go X (pc + 1) L (.int v :: st) h) : Go X pc L (st) h := by
  obtain ⟨p, l, e, R, s, m, args, below, meth, c, G, h0, ov, hF, nL⟩ := X
  intro H locs ls hR hS hL h1 h2
  exact lv_iconst C.1 C.2.1 hd hv (k H locs ls hR hS hL h1 h2)
theorem go_bipush (C : xCx X cc y ret d z9 n9) {n : Int} {v : Int32} (hd : decode cc pc = .ok (.bipush n, 2)) (hv : (Int8.ofInt n).toInt32 = v) (k : Go X (pc + 2) L (.int v :: st) h) : Go X pc L (st) h := by
  obtain ⟨p, l, e, R, s, m, args, below, meth, c, G, h0, ov, hF, nL⟩ := X
  intro H locs ls hR hS hL h1 h2
  exact lv_bipush C.1 C.2.1 hd hv (k H locs ls hR hS hL h1 h2)
theorem go_sipush (C : xCx X cc y ret d z9 n9) {n : Int} {v : Int32} (hd : decode cc pc = .ok (.sipush n, 3)) (hv : (Int16.ofInt n).toInt32 = v) (k : Go X (pc + 3) L (.int v :: st) h) : Go X pc L (st) h := by
  obtain ⟨p, l, e, R, s, m, args, below, meth, c, G, h0, ov, hF, nL⟩ := X
  intro H locs ls hR hS hL h1 h2
  exact lv_sipush C.1 C.2.1 hd hv (k H locs ls hR hS hL h1 h2)
theorem go_ldc (C : xCx X cc y ret d z9 n9) {idx : Nat} {v : Int32} (hd : decode cc pc = .ok (.ldc idx, 2)) (hw : Cond.constant y.cls idx v ∈ xtb) (k : Go X (pc + 2) L (.int v :: st) h) : Go X pc L (st) h := by
  obtain ⟨p, l, e, R, s, m, args, below, meth, c, G, h0, ov, hF, nL⟩ := X
  intro H locs ls hR hS hL h1 h2
  exact lv_ldc C.1 C.2.1 C.2.2.2.1 (C.2.2.2.2.1 _ hw) hd (k H locs ls hR hS hL h1 h2)
theorem go_ldcw (C : xCx X cc y ret d z9 n9) {idx : Nat} {v : Int32} (hd : decode cc pc = .ok (.ldc_w idx, 3)) (hw : Cond.constant y.cls idx v ∈ xtb) (k : Go X (pc + 3) L (.int v :: st) h) : Go X pc L (st) h := by
  obtain ⟨p, l, e, R, s, m, args, below, meth, c, G, h0, ov, hF, nL⟩ := X
  intro H locs ls hR hS hL h1 h2
  exact lv_ldcw C.1 C.2.1 C.2.2.2.1 (C.2.2.2.2.1 _ hw) hd (k H locs ls hR hS hL h1 h2)
theorem go_lconst (C : xCx X cc y ret d z9 n9) {n : Fin 2} {v : Int64} (hd : decode cc pc = .ok (.lconst n, 1)) (hv : Int64.ofNat (n : Nat) = v) (k : Go X (pc + 1) L (.long v :: st) h) : Go X pc L (st) h := by
  obtain ⟨p, l, e, R, s, m, args, below, meth, c, G, h0, ov, hF, nL⟩ := X
  intro H locs ls hR hS hL h1 h2
  exact lv_lconst C.1 C.2.1 hd hv (k H locs ls hR hS hL h1 h2)
theorem go_ldc2 (C : xCx X cc y ret d z9 n9) {idx : Nat} {v : Int64} (hd : decode cc pc = .ok (.ldc2_w idx, 3)) (hw : Cond.constantLong y.cls idx v ∈ xtb) (k : Go X (pc + 3) L (.long v :: st) h) : Go X pc L (st) h := by
  obtain ⟨p, l, e, R, s, m, args, below, meth, c, G, h0, ov, hF, nL⟩ := X
  intro H locs ls hR hS hL h1 h2
  exact lv_ldc2 C.1 C.2.1 C.2.2.2.1 (C.2.2.2.2.1 _ hw) hd (k H locs ls hR hS hL h1 h2)
theorem go_null (C : xCx X cc y ret d z9 n9)  (hd : decode cc pc = .ok (.aconst_null, 1))  (k : Go X (pc + 1) L (.null :: st) h) : Go X pc L (st) h := by
  obtain ⟨p, l, e, R, s, m, args, below, meth, c, G, h0, ov, hF, nL⟩ := X
  intro H locs ls hR hS hL h1 h2
  exact lv_null C.1 C.2.1 hd (k H locs ls hR hS hL h1 h2)
theorem go_iload_n (C : xCx X cc y ret d z9 n9) {k0 : Fin 4} {i : Nat} {x : Int32} (hd : decode cc pc = .ok (.iload_n k0, 1)) (hi : (k0 : Nat) = i) (hl : L[i]? = some (.int x)) (k : Go X (pc + 1) L (.int x :: st) h) : Go X pc L (st) h := by
  obtain ⟨p, l, e, R, s, m, args, below, meth, c, G, h0, ov, hF, nL⟩ := X
  intro H locs ls hR hS hL h1 h2
  exact lv_iload_n C.1 C.2.1 hd hi (hL.at hl (fun z => by cases z)) (k H locs ls hR hS hL h1 h2)
theorem go_iload (C : xCx X cc y ret d z9 n9) {i : Nat} {x : Int32} (hd : decode cc pc = .ok (.iload i, 2)) (hl : L[i]? = some (.int x)) (k : Go X (pc + 2) L (.int x :: st) h) : Go X pc L (st) h := by
  obtain ⟨p, l, e, R, s, m, args, below, meth, c, G, h0, ov, hF, nL⟩ := X
  intro H locs ls hR hS hL h1 h2
  exact lv_iload C.1 C.2.1 hd (hL.at hl (fun z => by cases z)) (k H locs ls hR hS hL h1 h2)
theorem go_lload_n (C : xCx X cc y ret d z9 n9) {k0 : Fin 4} {i : Nat} {x : Int64} (hd : decode cc pc = .ok (.lload_n k0, 1)) (hi : (k0 : Nat) = i) (hl : L[i]? = some (.long x)) (k : Go X (pc + 1) L (.long x :: st) h) : Go X pc L (st) h := by
  obtain ⟨p, l, e, R, s, m, args, below, meth, c, G, h0, ov, hF, nL⟩ := X
  intro H locs ls hR hS hL h1 h2
  exact lv_lload_n C.1 C.2.1 hd hi (hL.at hl (fun z => by cases z)) (k H locs ls hR hS hL h1 h2)
theorem go_lload (C : xCx X cc y ret d z9 n9) {i : Nat} {x : Int64} (hd : decode cc pc = .ok (.lload i, 2)) (hl : L[i]? = some (.long x)) (k : Go X (pc + 2) L (.long x :: st) h) : Go X pc L (st) h := by
  obtain ⟨p, l, e, R, s, m, args, below, meth, c, G, h0, ov, hF, nL⟩ := X
  intro H locs ls hR hS hL h1 h2
  exact lv_lload C.1 C.2.1 hd (hL.at hl (fun z => by cases z)) (k H locs ls hR hS hL h1 h2)
theorem rf_ne (r : Option Nat) : va_rf r ≠ xD := by cases r <;> (intro z; cases z)
theorem rf_cat (r : Option Nat) : (va_rf r).category = 1 := by cases r <;> rfl
theorem go_aload_n (C : xCx X cc y ret d z9 n9) {k0 : Fin 4} {i : Nat} {r : Option Nat} (hd : decode cc pc = .ok (.aload_n k0, 1)) (hi : (k0 : Nat) = i) (hl : L[i]? = some (va_rf r)) (k : Go X (pc + 1) L (va_rf r :: st) h) : Go X pc L st h := by
  obtain ⟨p, l, e, R, s, m, args, below, meth, c, G, h0, ov, hF, nL⟩ := X
  intro H locs ls hR hS hL h1 h2
  cases r with
  | none => exact lv_aload_nN C.1 C.2.1 hd hi (hL.at hl (fun z => by cases z)) (k H locs ls hR hS hL h1 h2)
  | some a => exact lv_aload_n C.1 C.2.1 hd hi (hL.at hl (fun z => by cases z)) (k H locs ls hR hS hL h1 h2)
theorem go_aload (C : xCx X cc y ret d z9 n9) {i : Nat} {r : Option Nat} (hd : decode cc pc = .ok (.aload i, 2)) (hl : L[i]? = some (va_rf r)) (k : Go X (pc + 2) L (va_rf r :: st) h) : Go X pc L st h := by
  obtain ⟨p, l, e, R, s, m, args, below, meth, c, G, h0, ov, hF, nL⟩ := X
  intro H locs ls hR hS hL h1 h2
  cases r with
  | none => exact lv_aloadN C.1 C.2.1 hd (hL.at hl (fun z => by cases z)) (k H locs ls hR hS hL h1 h2)
  | some a => exact lv_aload C.1 C.2.1 hd (hL.at hl (fun z => by cases z)) (k H locs ls hR hS hL h1 h2)
theorem go_istore_n (C : xCx X cc y ret d z9 n9) {k0 : Fin 4} {i : Nat} {x : Int32} (hd : decode cc pc = .ok (.istore_n k0, 1)) (hi : (k0 : Nat) = i) (hn : i < n9) (k : Go X (pc + 1) (stL L i (.int x)) st h) : Go X pc L (.int x :: st) h := by
  obtain ⟨p, l, e, R, s, m, args, below, meth, c, G, h0, ov, hF, nL⟩ := X
  intro H locs ls hR hS hL h1 h2
  exact lv_istore_n C.1 C.2.1 hd hi hL.2 (C.nl.symm ▸ hn) rfl (fun ls1 g1 => k H locs ls1 hR hS (hL.r1 g1) h1 h2)
theorem go_istore (C : xCx X cc y ret d z9 n9) {i : Nat} {x : Int32} (hd : decode cc pc = .ok (.istore i, 2)) (hn : i < n9) (k : Go X (pc + 2) (stL L i (.int x)) st h) : Go X pc L (.int x :: st) h := by
  obtain ⟨p, l, e, R, s, m, args, below, meth, c, G, h0, ov, hF, nL⟩ := X
  intro H locs ls hR hS hL h1 h2
  exact lv_istore C.1 C.2.1 hd hL.2 (C.nl.symm ▸ hn) rfl (fun ls1 g1 => k H locs ls1 hR hS (hL.r1 g1) h1 h2)
theorem go_lstore_n (C : xCx X cc y ret d z9 n9) {k0 : Fin 4} {i : Nat} {x : Int64} (hd : decode cc pc = .ok (.lstore_n k0, 1)) (hi : (k0 : Nat) = i) (hn : i + 1 < n9) (k : Go X (pc + 1) (stL2 L i (.long x)) st h) : Go X pc L (.long x :: st) h := by
  obtain ⟨p, l, e, R, s, m, args, below, meth, c, G, h0, ov, hF, nL⟩ := X
  intro H locs ls hR hS hL h1 h2
  exact lv_lstore_n C.1 C.2.1 hd hi hL.2 (C.nl.symm ▸ hn) rfl (fun ls1 g1 => k H locs ls1 hR hS (hL.r2 g1) h1 h2)
theorem go_lstore (C : xCx X cc y ret d z9 n9) {i : Nat} {x : Int64} (hd : decode cc pc = .ok (.lstore i, 2)) (hn : i + 1 < n9) (k : Go X (pc + 2) (stL2 L i (.long x)) st h) : Go X pc L (.long x :: st) h := by
  obtain ⟨p, l, e, R, s, m, args, below, meth, c, G, h0, ov, hF, nL⟩ := X
  intro H locs ls hR hS hL h1 h2
  exact lv_lstore C.1 C.2.1 hd hL.2 (C.nl.symm ▸ hn) rfl (fun ls1 g1 => k H locs ls1 hR hS (hL.r2 g1) h1 h2)
theorem go_astore_n (C : xCx X cc y ret d z9 n9) {k0 : Fin 4} {i : Nat} {r : Option Nat} (hd : decode cc pc = .ok (.astore_n k0, 1)) (hi : (k0 : Nat) = i) (hn : i < n9) (k : Go X (pc + 1) (stL L i (va_rf r)) st h) : Go X pc L (va_rf r :: st) h := by
  obtain ⟨p, l, e, R, s, m, args, below, meth, c, G, h0, ov, hF, nL⟩ := X
  intro H locs ls hR hS hL h1 h2
  cases r with
  | none => exact lv_astore_nN C.1 C.2.1 hd hi hL.2 (C.nl.symm ▸ hn) rfl (fun ls1 g1 => k H locs ls1 hR hS (hL.r1 g1) h1 h2)
  | some a => exact lv_astore_n C.1 C.2.1 hd hi hL.2 (C.nl.symm ▸ hn) rfl (fun ls1 g1 => k H locs ls1 hR hS (hL.r1 g1) h1 h2)
theorem go_astore (C : xCx X cc y ret d z9 n9) {i : Nat} {r : Option Nat} (hd : decode cc pc = .ok (.astore i, 2)) (hn : i < n9) (k : Go X (pc + 2) (stL L i (va_rf r)) st h) : Go X pc L (va_rf r :: st) h := by
  obtain ⟨p, l, e, R, s, m, args, below, meth, c, G, h0, ov, hF, nL⟩ := X
  intro H locs ls hR hS hL h1 h2
  cases r with
  | none => exact lv_astoreN C.1 C.2.1 hd hL.2 (C.nl.symm ▸ hn) rfl (fun ls1 g1 => k H locs ls1 hR hS (hL.r1 g1) h1 h2)
  | some a => exact lv_astore C.1 C.2.1 hd hL.2 (C.nl.symm ▸ hn) rfl (fun ls1 g1 => k H locs ls1 hR hS (hL.r1 g1) h1 h2)
theorem go_iinc (C : xCx X cc y ret d z9 n9) {i : Nat} {n : Int} {x v : Int32} (hd : decode cc pc = .ok (.iinc i n, 3)) (hl : L[i]? = some (.int x)) (hv : Int32.ofInt n = v) (hn : i < n9) (k : Go X (pc + 3) (stL L i (.int (x + v))) st h) : Go X pc L st h := by
  obtain ⟨p, l, e, R, s, m, args, below, meth, c, G, h0, ov, hF, nL⟩ := X
  intro H locs ls hR hS hL h1 h2
  obtain ⟨kk, hk⟩ := List.getElem?_of_mem ((xl_mem L 0 (i, .int x)).mpr ⟨(fun z => by cases z), Nat.zero_le _, hl⟩)
  exact lv_iinc C.1 C.2.1 hd hL.2 hk (by rw [hv]) (C.nl.symm ▸ hn) rfl (fun ls1 g1 => k H locs ls1 hR hS (hL.r1 g1) h1 h2)
theorem go_iadd (C : xCx X cc y ret d z9 n9) {x z : Int32} (hd : decode cc pc = .ok (.iadd, 1))  (k : Go X (pc + 1) L (.int (x + z) :: st) h) : Go X pc L (.int z :: .int x :: st) h := by
  obtain ⟨p, l, e, R, s, m, args, below, meth, c, G, h0, ov, hF, nL⟩ := X
  intro H locs ls hR hS hL h1 h2
  exact lv_iadd C.1 C.2.1 hd (k H locs ls hR hS hL h1 h2)
theorem go_isub (C : xCx X cc y ret d z9 n9) {x z : Int32} (hd : decode cc pc = .ok (.isub, 1))  (k : Go X (pc + 1) L (.int (x - z) :: st) h) : Go X pc L (.int z :: .int x :: st) h := by
  obtain ⟨p, l, e, R, s, m, args, below, meth, c, G, h0, ov, hF, nL⟩ := X
  intro H locs ls hR hS hL h1 h2
  exact lv_isub C.1 C.2.1 hd (k H locs ls hR hS hL h1 h2)
theorem go_imul (C : xCx X cc y ret d z9 n9) {x z : Int32} (hd : decode cc pc = .ok (.imul, 1))  (k : Go X (pc + 1) L (.int (x * z) :: st) h) : Go X pc L (.int z :: .int x :: st) h := by
  obtain ⟨p, l, e, R, s, m, args, below, meth, c, G, h0, ov, hF, nL⟩ := X
  intro H locs ls hR hS hL h1 h2
  exact lv_imul C.1 C.2.1 hd (k H locs ls hR hS hL h1 h2)
theorem go_iand (C : xCx X cc y ret d z9 n9) {x z : Int32} (hd : decode cc pc = .ok (.iand, 1))  (k : Go X (pc + 1) L (.int (x &&& z) :: st) h) : Go X pc L (.int z :: .int x :: st) h := by
  obtain ⟨p, l, e, R, s, m, args, below, meth, c, G, h0, ov, hF, nL⟩ := X
  intro H locs ls hR hS hL h1 h2
  exact lv_iand C.1 C.2.1 hd (k H locs ls hR hS hL h1 h2)
theorem go_ior (C : xCx X cc y ret d z9 n9) {x z : Int32} (hd : decode cc pc = .ok (.ior, 1))  (k : Go X (pc + 1) L (.int (x ||| z) :: st) h) : Go X pc L (.int z :: .int x :: st) h := by
  obtain ⟨p, l, e, R, s, m, args, below, meth, c, G, h0, ov, hF, nL⟩ := X
  intro H locs ls hR hS hL h1 h2
  exact lv_ior C.1 C.2.1 hd (k H locs ls hR hS hL h1 h2)
theorem go_ishl (C : xCx X cc y ret d z9 n9) {x z : Int32} (hd : decode cc pc = .ok (.ishl, 1))  (k : Go X (pc + 1) L (.int (x <<< (z &&& 31)) :: st) h) : Go X pc L (.int z :: .int x :: st) h := by
  obtain ⟨p, l, e, R, s, m, args, below, meth, c, G, h0, ov, hF, nL⟩ := X
  intro H locs ls hR hS hL h1 h2
  exact lv_ishl C.1 C.2.1 hd (k H locs ls hR hS hL h1 h2)
theorem go_ishr (C : xCx X cc y ret d z9 n9) {x z : Int32} (hd : decode cc pc = .ok (.ishr, 1))  (k : Go X (pc + 1) L (.int (x >>> (z &&& 31)) :: st) h) : Go X pc L (.int z :: .int x :: st) h := by
  obtain ⟨p, l, e, R, s, m, args, below, meth, c, G, h0, ov, hF, nL⟩ := X
  intro H locs ls hR hS hL h1 h2
  exact lv_ishr C.1 C.2.1 hd (k H locs ls hR hS hL h1 h2)
theorem go_iushr (C : xCx X cc y ret d z9 n9) {x z : Int32} (hd : decode cc pc = .ok (.iushr, 1))  (k : Go X (pc + 1) L (.int ((x.toUInt32 >>> (z.toUInt32 &&& Int32.toUInt32 31)).toInt32) :: st) h) : Go X pc L (.int z :: .int x :: st) h := by
  obtain ⟨p, l, e, R, s, m, args, below, meth, c, G, h0, ov, hF, nL⟩ := X
  intro H locs ls hR hS hL h1 h2
  exact lv_iushr C.1 C.2.1 hd rfl (k H locs ls hR hS hL h1 h2)
theorem go_idiv (C : xCx X cc y ret d z9 n9) {x z : Int32} (hd : decode cc pc = .ok (.idiv, 1)) (hne : ¬ z = 0) (k : Go X (pc + 1) L (.int (x / z) :: st) h) : Go X pc L (.int z :: .int x :: st) h := by
  obtain ⟨p, l, e, R, s, m, args, below, meth, c, G, h0, ov, hF, nL⟩ := X
  intro H locs ls hR hS hL h1 h2
  exact lv_idiv C.1 C.2.1 hd hne (k H locs ls hR hS hL h1 h2)
theorem go_irem (C : xCx X cc y ret d z9 n9) {x z : Int32} (hd : decode cc pc = .ok (.irem, 1)) (hne : ¬ z = 0) (k : Go X (pc + 1) L (.int (x - x / z * z) :: st) h) : Go X pc L (.int z :: .int x :: st) h := by
  obtain ⟨p, l, e, R, s, m, args, below, meth, c, G, h0, ov, hF, nL⟩ := X
  intro H locs ls hR hS hL h1 h2
  exact lv_irem C.1 C.2.1 hd hne (k H locs ls hR hS hL h1 h2)
theorem go_ladd (C : xCx X cc y ret d z9 n9) {x z : Int64} (hd : decode cc pc = .ok (.ladd, 1))  (k : Go X (pc + 1) L (.long (x + z) :: st) h) : Go X pc L (.long z :: .long x :: st) h := by
  obtain ⟨p, l, e, R, s, m, args, below, meth, c, G, h0, ov, hF, nL⟩ := X
  intro H locs ls hR hS hL h1 h2
  exact lv_ladd C.1 C.2.1 hd (k H locs ls hR hS hL h1 h2)
theorem go_lsub (C : xCx X cc y ret d z9 n9) {x z : Int64} (hd : decode cc pc = .ok (.lsub, 1))  (k : Go X (pc + 1) L (.long (x - z) :: st) h) : Go X pc L (.long z :: .long x :: st) h := by
  obtain ⟨p, l, e, R, s, m, args, below, meth, c, G, h0, ov, hF, nL⟩ := X
  intro H locs ls hR hS hL h1 h2
  exact lv_lsub C.1 C.2.1 hd (k H locs ls hR hS hL h1 h2)
theorem go_lmul (C : xCx X cc y ret d z9 n9) {x z : Int64} (hd : decode cc pc = .ok (.lmul, 1))  (k : Go X (pc + 1) L (.long (x * z) :: st) h) : Go X pc L (.long z :: .long x :: st) h := by
  obtain ⟨p, l, e, R, s, m, args, below, meth, c, G, h0, ov, hF, nL⟩ := X
  intro H locs ls hR hS hL h1 h2
  exact lv_lmul C.1 C.2.1 hd (k H locs ls hR hS hL h1 h2)
theorem go_ldiv (C : xCx X cc y ret d z9 n9) {x z : Int64} (hd : decode cc pc = .ok (.ldiv, 1)) (hne : ¬ z = 0) (k : Go X (pc + 1) L (.long (x / z) :: st) h) : Go X pc L (.long z :: .long x :: st) h := by
  obtain ⟨p, l, e, R, s, m, args, below, meth, c, G, h0, ov, hF, nL⟩ := X
  intro H locs ls hR hS hL h1 h2
  exact lv_ldiv C.1 C.2.1 hd hne (k H locs ls hR hS hL h1 h2)
theorem go_lrem (C : xCx X cc y ret d z9 n9) {x z : Int64} (hd : decode cc pc = .ok (.lrem, 1)) (hne : ¬ z = 0) (k : Go X (pc + 1) L (.long (x - x / z * z) :: st) h) : Go X pc L (.long z :: .long x :: st) h := by
  obtain ⟨p, l, e, R, s, m, args, below, meth, c, G, h0, ov, hF, nL⟩ := X
  intro H locs ls hR hS hL h1 h2
  exact lv_lrem C.1 C.2.1 hd hne (k H locs ls hR hS hL h1 h2)
theorem go_lcmp (C : xCx X cc y ret d z9 n9) {x z : Int64} (hd : decode cc pc = .ok (.lcmp, 1))  (k : Go X (pc + 1) L (.int (lg_cmp x z) :: st) h) : Go X pc L (.long z :: .long x :: st) h := by
  obtain ⟨p, l, e, R, s, m, args, below, meth, c, G, h0, ov, hF, nL⟩ := X
  intro H locs ls hR hS hL h1 h2
  exact W.lcmp C.1 C.2.1 hd (k H locs ls hR hS hL h1 h2)
theorem go_ineg (C : xCx X cc y ret d z9 n9) {x : Int32} (hd : decode cc pc = .ok (.ineg, 1))  (k : Go X (pc + 1) L (.int (-x) :: st) h) : Go X pc L (.int x :: st) h := by
  obtain ⟨p, l, e, R, s, m, args, below, meth, c, G, h0, ov, hF, nL⟩ := X
  intro H locs ls hR hS hL h1 h2
  exact lv_ineg C.1 C.2.1 hd (k H locs ls hR hS hL h1 h2)
theorem go_i2l (C : xCx X cc y ret d z9 n9) {x : Int32} (hd : decode cc pc = .ok (.i2l, 1))  (k : Go X (pc + 1) L (.long x.toInt64 :: st) h) : Go X pc L (.int x :: st) h := by
  obtain ⟨p, l, e, R, s, m, args, below, meth, c, G, h0, ov, hF, nL⟩ := X
  intro H locs ls hR hS hL h1 h2
  exact lv_i2l C.1 C.2.1 hd rfl (k H locs ls hR hS hL h1 h2)
theorem go_l2i (C : xCx X cc y ret d z9 n9) {x : Int64} (hd : decode cc pc = .ok (.l2i, 1))  (k : Go X (pc + 1) L (.int x.toInt32 :: st) h) : Go X pc L (.long x :: st) h := by
  obtain ⟨p, l, e, R, s, m, args, below, meth, c, G, h0, ov, hF, nL⟩ := X
  intro H locs ls hR hS hL h1 h2
  exact lv_l2i C.1 C.2.1 hd rfl (k H locs ls hR hS hL h1 h2)
theorem go_i2b (C : xCx X cc y ret d z9 n9) {x : Int32} (hd : decode cc pc = .ok (.i2b, 1))  (k : Go X (pc + 1) L (.int x.toInt8.toInt32 :: st) h) : Go X pc L (.int x :: st) h := by
  obtain ⟨p, l, e, R, s, m, args, below, meth, c, G, h0, ov, hF, nL⟩ := X
  intro H locs ls hR hS hL h1 h2
  exact lv_i2b C.1 C.2.1 hd rfl (k H locs ls hR hS hL h1 h2)
theorem go_dup (C : xCx X cc y ret d z9 n9) {v : Value} (hd : decode cc pc = .ok (.dup, 1)) (hv : v.category = 1) (k : Go X (pc + 1) L (v :: v :: st) h) : Go X pc L (v :: st) h := by
  obtain ⟨p, l, e, R, s, m, args, below, meth, c, G, h0, ov, hF, nL⟩ := X
  intro H locs ls hR hS hL h1 h2
  exact lv_dup C.1 C.2.1 hd hv (k H locs ls hR hS hL h1 h2)
theorem go_pop (C : xCx X cc y ret d z9 n9) {v : Value} (hd : decode cc pc = .ok (.pop, 1)) (hv : v.category = 1) (k : Go X (pc + 1) L (st) h) : Go X pc L (v :: st) h := by
  obtain ⟨p, l, e, R, s, m, args, below, meth, c, G, h0, ov, hF, nL⟩ := X
  intro H locs ls hR hS hL h1 h2
  exact lv_pop C.1 C.2.1 hd hv (k H locs ls hR hS hL h1 h2)
theorem go_pop2 (C : xCx X cc y ret d z9 n9) {v : Value} (hd : decode cc pc = .ok (.pop2, 1)) (hv : v.category = 2) (k : Go X (pc + 1) L (st) h) : Go X pc L (v :: st) h := by
  obtain ⟨p, l, e, R, s, m, args, below, meth, c, G, h0, ov, hF, nL⟩ := X
  intro H locs ls hR hS hL h1 h2
  exact lv_pop2_2 C.1 C.2.1 hd hv (k H locs ls hR hS hL h1 h2)
theorem go_dup2 (C : xCx X cc y ret d z9 n9) {v w : Value} (hd : decode cc pc = .ok (.dup2, 1)) (hv : v.category = 1) (hw : w.category = 1) (k : Go X (pc + 1) L (v :: w :: v :: w :: st) h) : Go X pc L (v :: w :: st) h := by
  obtain ⟨p, l, e, R, s, m, args, below, meth, c, G, h0, ov, hF, nL⟩ := X
  intro H locs ls hR hS hL h1 h2
  exact lv_dup2_11 C.1 C.2.1 hd hv hw (k H locs ls hR hS hL h1 h2)
theorem go_dup_x1 (C : xCx X cc y ret d z9 n9) {v w : Value} (hd : decode cc pc = .ok (.dup_x1, 1)) (hv : v.category = 1) (hw : w.category = 1) (k : Go X (pc + 1) L (v :: w :: v :: st) h) : Go X pc L (v :: w :: st) h := by
  obtain ⟨p, l, e, R, s, m, args, below, meth, c, G, h0, ov, hF, nL⟩ := X
  intro H locs ls hR hS hL h1 h2
  exact lv_dup_x1 C.1 C.2.1 hd hv hw (k H locs ls hR hS hL h1 h2)
theorem go_goto (C : xCx X cc y ret d z9 n9) {off : Int} {tgt : Nat} (hd : decode cc pc = .ok (.goto off, 3)) (ht : (pc : Int) + off = (tgt : Int)) (k : Go X tgt L st h) : Go X pc L st h := by
  obtain ⟨p, l, e, R, s, m, args, below, meth, c, G, h0, ov, hF, nL⟩ := X
  intro H locs ls hR hS hL h1 h2
  exact lv_goto C.1 C.2.1 hd ht (k H locs ls hR hS hL h1 h2)
theorem go_icmp_eq (C : xCx X cc y ret d z9 n9) {x z : Int32} {off : Int} {tgt : Nat} (hd : decode cc pc = .ok (.if_icmp .eq off, 3)) (ht : (pc : Int) + off = (tgt : Int)) (kt : x = z → Go X tgt L st h) (kf : ¬ (x = z) → Go X (pc + 3) L st h) : Go X pc L (.int z :: .int x :: st) h := by
  obtain ⟨p, l, e, R, s, m, args, below, meth, c, G, h0, ov, hF, nL⟩ := X
  intro H locs ls hR hS hL h1 h2
  exact lv_icmp_eq C.1 C.2.1 hd ht (fun q => kt q H locs ls hR hS hL h1 h2) (fun q => kf q H locs ls hR hS hL h1 h2)
theorem go_if_eq (C : xCx X cc y ret d z9 n9) {x : Int32} {off : Int} {tgt : Nat} (hd : decode cc pc = .ok (.ifCond .eq off, 3)) (ht : (pc : Int) + off = (tgt : Int)) (kt : x = 0 → Go X tgt L st h) (kf : ¬ (x = 0) → Go X (pc + 3) L st h) : Go X pc L (.int x :: st) h := by
  obtain ⟨p, l, e, R, s, m, args, below, meth, c, G, h0, ov, hF, nL⟩ := X
  intro H locs ls hR hS hL h1 h2
  exact lv_if_eq C.1 C.2.1 hd ht (fun q => kt q H locs ls hR hS hL h1 h2) (fun q => kf q H locs ls hR hS hL h1 h2)
theorem go_icmp_ne (C : xCx X cc y ret d z9 n9) {x z : Int32} {off : Int} {tgt : Nat} (hd : decode cc pc = .ok (.if_icmp .ne off, 3)) (ht : (pc : Int) + off = (tgt : Int)) (kt : ¬ x = z → Go X tgt L st h) (kf : ¬ (¬ x = z) → Go X (pc + 3) L st h) : Go X pc L (.int z :: .int x :: st) h := by
  obtain ⟨p, l, e, R, s, m, args, below, meth, c, G, h0, ov, hF, nL⟩ := X
  intro H locs ls hR hS hL h1 h2
  exact lv_icmp_ne C.1 C.2.1 hd ht (fun q => kt q H locs ls hR hS hL h1 h2) (fun q => kf (fun w => w q) H locs ls hR hS hL h1 h2)
theorem go_if_ne (C : xCx X cc y ret d z9 n9) {x : Int32} {off : Int} {tgt : Nat} (hd : decode cc pc = .ok (.ifCond .ne off, 3)) (ht : (pc : Int) + off = (tgt : Int)) (kt : ¬ x = 0 → Go X tgt L st h) (kf : ¬ (¬ x = 0) → Go X (pc + 3) L st h) : Go X pc L (.int x :: st) h := by
  obtain ⟨p, l, e, R, s, m, args, below, meth, c, G, h0, ov, hF, nL⟩ := X
  intro H locs ls hR hS hL h1 h2
  exact lv_if_ne C.1 C.2.1 hd ht (fun q => kt q H locs ls hR hS hL h1 h2) (fun q => kf (fun w => w q) H locs ls hR hS hL h1 h2)
theorem go_icmp_lt (C : xCx X cc y ret d z9 n9) {x z : Int32} {off : Int} {tgt : Nat} (hd : decode cc pc = .ok (.if_icmp .lt off, 3)) (ht : (pc : Int) + off = (tgt : Int)) (kt : x < z → Go X tgt L st h) (kf : ¬ (x < z) → Go X (pc + 3) L st h) : Go X pc L (.int z :: .int x :: st) h := by
  obtain ⟨p, l, e, R, s, m, args, below, meth, c, G, h0, ov, hF, nL⟩ := X
  intro H locs ls hR hS hL h1 h2
  exact lv_icmp_lt C.1 C.2.1 hd ht (fun q => kt q H locs ls hR hS hL h1 h2) (fun q => kf q H locs ls hR hS hL h1 h2)
theorem go_if_lt (C : xCx X cc y ret d z9 n9) {x : Int32} {off : Int} {tgt : Nat} (hd : decode cc pc = .ok (.ifCond .lt off, 3)) (ht : (pc : Int) + off = (tgt : Int)) (kt : x < 0 → Go X tgt L st h) (kf : ¬ (x < 0) → Go X (pc + 3) L st h) : Go X pc L (.int x :: st) h := by
  obtain ⟨p, l, e, R, s, m, args, below, meth, c, G, h0, ov, hF, nL⟩ := X
  intro H locs ls hR hS hL h1 h2
  exact lv_if_lt C.1 C.2.1 hd ht (fun q => kt q H locs ls hR hS hL h1 h2) (fun q => kf q H locs ls hR hS hL h1 h2)
theorem go_icmp_ge (C : xCx X cc y ret d z9 n9) {x z : Int32} {off : Int} {tgt : Nat} (hd : decode cc pc = .ok (.if_icmp .ge off, 3)) (ht : (pc : Int) + off = (tgt : Int)) (kt : z ≤ x → Go X tgt L st h) (kf : ¬ (z ≤ x) → Go X (pc + 3) L st h) : Go X pc L (.int z :: .int x :: st) h := by
  obtain ⟨p, l, e, R, s, m, args, below, meth, c, G, h0, ov, hF, nL⟩ := X
  intro H locs ls hR hS hL h1 h2
  exact lv_icmp_ge C.1 C.2.1 hd ht (fun q => kt q H locs ls hR hS hL h1 h2) (fun q => kf q H locs ls hR hS hL h1 h2)
theorem go_if_ge (C : xCx X cc y ret d z9 n9) {x : Int32} {off : Int} {tgt : Nat} (hd : decode cc pc = .ok (.ifCond .ge off, 3)) (ht : (pc : Int) + off = (tgt : Int)) (kt : 0 ≤ x → Go X tgt L st h) (kf : ¬ (0 ≤ x) → Go X (pc + 3) L st h) : Go X pc L (.int x :: st) h := by
  obtain ⟨p, l, e, R, s, m, args, below, meth, c, G, h0, ov, hF, nL⟩ := X
  intro H locs ls hR hS hL h1 h2
  exact lv_if_ge C.1 C.2.1 hd ht (fun q => kt q H locs ls hR hS hL h1 h2) (fun q => kf q H locs ls hR hS hL h1 h2)
theorem go_icmp_gt (C : xCx X cc y ret d z9 n9) {x z : Int32} {off : Int} {tgt : Nat} (hd : decode cc pc = .ok (.if_icmp .gt off, 3)) (ht : (pc : Int) + off = (tgt : Int)) (kt : z < x → Go X tgt L st h) (kf : ¬ (z < x) → Go X (pc + 3) L st h) : Go X pc L (.int z :: .int x :: st) h := by
  obtain ⟨p, l, e, R, s, m, args, below, meth, c, G, h0, ov, hF, nL⟩ := X
  intro H locs ls hR hS hL h1 h2
  exact lv_icmp_gt C.1 C.2.1 hd ht (fun q => kt q H locs ls hR hS hL h1 h2) (fun q => kf q H locs ls hR hS hL h1 h2)
theorem go_if_gt (C : xCx X cc y ret d z9 n9) {x : Int32} {off : Int} {tgt : Nat} (hd : decode cc pc = .ok (.ifCond .gt off, 3)) (ht : (pc : Int) + off = (tgt : Int)) (kt : 0 < x → Go X tgt L st h) (kf : ¬ (0 < x) → Go X (pc + 3) L st h) : Go X pc L (.int x :: st) h := by
  obtain ⟨p, l, e, R, s, m, args, below, meth, c, G, h0, ov, hF, nL⟩ := X
  intro H locs ls hR hS hL h1 h2
  exact lv_if_gt C.1 C.2.1 hd ht (fun q => kt q H locs ls hR hS hL h1 h2) (fun q => kf q H locs ls hR hS hL h1 h2)
theorem go_icmp_le (C : xCx X cc y ret d z9 n9) {x z : Int32} {off : Int} {tgt : Nat} (hd : decode cc pc = .ok (.if_icmp .le off, 3)) (ht : (pc : Int) + off = (tgt : Int)) (kt : x ≤ z → Go X tgt L st h) (kf : ¬ (x ≤ z) → Go X (pc + 3) L st h) : Go X pc L (.int z :: .int x :: st) h := by
  obtain ⟨p, l, e, R, s, m, args, below, meth, c, G, h0, ov, hF, nL⟩ := X
  intro H locs ls hR hS hL h1 h2
  exact lv_icmp_le C.1 C.2.1 hd ht (fun q => kt q H locs ls hR hS hL h1 h2) (fun q => kf q H locs ls hR hS hL h1 h2)
theorem go_if_le (C : xCx X cc y ret d z9 n9) {x : Int32} {off : Int} {tgt : Nat} (hd : decode cc pc = .ok (.ifCond .le off, 3)) (ht : (pc : Int) + off = (tgt : Int)) (kt : x ≤ 0 → Go X tgt L st h) (kf : ¬ (x ≤ 0) → Go X (pc + 3) L st h) : Go X pc L (.int x :: st) h := by
  obtain ⟨p, l, e, R, s, m, args, below, meth, c, G, h0, ov, hF, nL⟩ := X
  intro H locs ls hR hS hL h1 h2
  exact lv_if_le C.1 C.2.1 hd ht (fun q => kt q H locs ls hR hS hL h1 h2) (fun q => kf q H locs ls hR hS hL h1 h2)
theorem go_ifnull (C : xCx X cc y ret d z9 n9) {r : Option Nat} {off : Int} {tgt : Nat} (hd : decode cc pc = .ok (.ifnull off, 3)) (ht : (pc : Int) + off = (tgt : Int)) (kt : r = none → Go X tgt L st h) (kf : ¬ r = none → Go X (pc + 3) L st h) : Go X pc L (va_rf r :: st) h := by
  obtain ⟨p, l, e, R, s, m, args, below, meth, c, G, h0, ov, hF, nL⟩ := X
  intro H locs ls hR hS hL h1 h2
  cases r with
  | none => exact lv_ifnullN C.1 C.2.1 hd ht (kt rfl H locs ls hR hS hL h1 h2)
  | some a => exact lv_ifnull C.1 C.2.1 hd (kf (fun z => by cases z) H locs ls hR hS hL h1 h2)
theorem go_ifnonnull (C : xCx X cc y ret d z9 n9) {r : Option Nat} {off : Int} {tgt : Nat} (hd : decode cc pc = .ok (.ifnonnull off, 3)) (ht : (pc : Int) + off = (tgt : Int)) (kt : ¬ r = none → Go X tgt L st h) (kf : ¬ (¬ r = none) → Go X (pc + 3) L st h) : Go X pc L (va_rf r :: st) h := by
  obtain ⟨p, l, e, R, s, m, args, below, meth, c, G, h0, ov, hF, nL⟩ := X
  intro H locs ls hR hS hL h1 h2
  cases r with
  | none => exact lv_ifnonnullN C.1 C.2.1 hd (kf (fun z => z rfl) H locs ls hR hS hL h1 h2)
  | some a => exact lv_ifnonnull C.1 C.2.1 hd ht (kt (fun z => by cases z) H locs ls hR hS hL h1 h2)
theorem go_acmp_eq (C : xCx X cc y ret d z9 n9) {r r2 : Option Nat} {off : Int} {tgt : Nat} (hd : decode cc pc = .ok (.if_acmp .eq off, 3)) (ht : (pc : Int) + off = (tgt : Int)) (kt : r = r2 → Go X tgt L st h) (kf : ¬ r = r2 → Go X (pc + 3) L st h) : Go X pc L (va_rf r2 :: va_rf r :: st) h := by
  obtain ⟨p, l, e, R, s, m, args, below, meth, c, G, h0, ov, hF, nL⟩ := X
  intro H locs ls hR hS hL h1 h2
  exact lv_acmp_eq C.1 C.2.1 hd ht (fun q => kt q H locs ls hR hS hL h1 h2) (fun q => kf q H locs ls hR hS hL h1 h2)
theorem go_acmp_ne (C : xCx X cc y ret d z9 n9) {r r2 : Option Nat} {off : Int} {tgt : Nat} (hd : decode cc pc = .ok (.if_acmp .ne off, 3)) (ht : (pc : Int) + off = (tgt : Int)) (kt : ¬ r = r2 → Go X tgt L st h) (kf : ¬ (¬ r = r2) → Go X (pc + 3) L st h) : Go X pc L (va_rf r2 :: va_rf r :: st) h := by
  obtain ⟨p, l, e, R, s, m, args, below, meth, c, G, h0, ov, hF, nL⟩ := X
  intro H locs ls hR hS hL h1 h2
  exact lv_acmp_ne C.1 C.2.1 hd ht (fun q => kt q H locs ls hR hS hL h1 h2) (fun q => kf (fun w => w q) H locs ls hR hS hL h1 h2)
theorem go_tableOut (C : xCx X cc y ret d z9 n9) {dflt lo hi : Int} {offs : Array Int} {len : Nat} {x : Int32} {tgt : Nat} (hd : decode cc pc = .ok (.tableswitch dflt lo hi offs, len)) (hq : x.toInt < lo ∨ hi < x.toInt) (ht : (pc : Int) + dflt = (tgt : Int)) (k : Go X tgt L st h) : Go X pc L (.int x :: st) h := by
  obtain ⟨p, l, e, R, s, m, args, below, meth, c, G, h0, ov, hF, nL⟩ := X
  intro H locs ls hR hS hL h1 h2
  exact lv_tableOut C.1 C.2.1 hd hq ht (k H locs ls hR hS hL h1 h2)
theorem go_tableIn (C : xCx X cc y ret d z9 n9) {dflt lo hi : Int} {offs : Array Int} {len : Nat} {x : Int32} {off : Int} {tgt : Nat} (hd : decode cc pc = .ok (.tableswitch dflt lo hi offs, len)) (q1 : ¬ x.toInt < lo) (q2 : ¬ hi < x.toInt) (ho : offs[(x.toInt - lo).toNat]? = some off) (ht : (pc : Int) + off = (tgt : Int)) (k : Go X tgt L st h) : Go X pc L (.int x :: st) h := by
  obtain ⟨p, l, e, R, s, m, args, below, meth, c, G, h0, ov, hF, nL⟩ := X
  intro H locs ls hR hS hL h1 h2
  exact lv_tableIn C.1 C.2.1 hd q1 q2 ho ht (k H locs ls hR hS hL h1 h2)
theorem go_lookup (C : xCx X cc y ret d z9 n9) {dflt : Int} {ps : Array (Int × Int)} {len : Nat} {x : Int32} {off : Int} {tgt : Nat} (hd : decode cc pc = .ok (.lookupswitch dflt ps, len)) (hp : (ps.toList.zip (ps.toList.drop 1)).all (fun (a, next) => a.1 < next.1) = true) (ho : Op.lookupswitch.offset ps.toList dflt x.toInt = off) (ht : (pc : Int) + off = (tgt : Int)) (k : Go X tgt L st h) : Go X pc L (.int x :: st) h := by
  obtain ⟨p, l, e, R, s, m, args, below, meth, c, G, h0, ov, hF, nL⟩ := X
  intro H locs ls hR hS hL h1 h2
  exact lv_lookup C.1 C.2.1 hd hp ho ht (k H locs ls hR hS hL h1 h2)
end GO
