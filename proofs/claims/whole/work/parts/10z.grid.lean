/-! a row of rows: the outer row first, then each inner one, laid into its place -/
def gOut (c : ClassId) (N b i : Nat) : Cell := arrV c N (fun j => if j < i then .ref (b + 1 + j) else .null)
def gSt (s : State) (c comp : ClassId) (N M : Nat) : Nat → State
  | 0 => s.pushCell (gOut c N s.heap.size 0)
  | i + 1 => ((gSt s c comp N M i).pushCell (arrV comp M (fun _ => .int 0))).setCell s.heap.size (gOut c N s.heap.size (i + 1))
theorem gOut_set (c : ClassId) (N b i : Nat) : (gOut c N b i).setSlot i (.ref (b + 1 + i)) = gOut c N b (i + 1) := by
  unfold gOut
  rw [arrV_store]
  congr 1
  funext j
  simp only [updV]
  by_cases e : j = i
  · subst e; rw [if_pos rfl, if_pos (by omega)]
  · rw [if_neg e]
    by_cases q : j < i
    · rw [if_pos q, if_pos (by omega)]
    · rw [if_neg q, if_neg (by omega)]
theorem gOut_0 (c : ClassId) (N b : Nat) : gOut c N b 0 = arrV c N (fun _ => .null) := by
  unfold gOut
  congr 1
theorem gSt_f (s : State) (c comp : ClassId) (N M : Nat) : ∀ i, (gSt s c comp N M i).heap.size = s.heap.size + 1 + i ∧ (gSt s c comp N M i).heap[s.heap.size]? = some (gOut c N s.heap.size i) ∧ (gSt s c comp N M i).vm = s.vm ∧ (gSt s c comp N M i).slotsUsed = s.slotsUsed + N + i * M ∧ (∀ a, a < s.heap.size → (gSt s c comp N M i).heap[a]? = s.heap[a]?) ∧ (∀ j, j < i → (gSt s c comp N M i).heap[s.heap.size + 1 + j]? = some (arrV comp M (fun _ => .int 0)))
  | 0 => by
    refine ⟨by simp [gSt], by simp [gSt], rfl, ?_, fun a ha => State.heap_pushCell_of_lt _ _ ha, fun j hj => absurd hj (Nat.not_lt_zero _)⟩
    simp [gSt, gOut, arrV_size]
  | i + 1 => by
    obtain ⟨a1, a2, a3, a4, a5, a6⟩ := gSt_f s c comp N M i
    have hlt : s.heap.size < (gSt s c comp N M i).heap.size := by omega
    have hb' : ((gSt s c comp N M i).pushCell (arrV comp M (fun _ => .int 0))).heap[s.heap.size]? = some (gOut c N s.heap.size i) := by rw [State.heap_pushCell_of_lt (h := hlt)]; exact a2
    refine ⟨?_, State.heap_setCell_self hb', by simp [gSt, a3], ?_, fun a ha => ?_, fun j hj => ?_⟩
    · simp [gSt, State.setCell, a1]; omega
    · simp [gSt, a4, arrV_size, Nat.succ_mul]; omega
    · show (((gSt s c comp N M i).pushCell _).setCell s.heap.size _).heap[a]? = _
      have hx : a < (gSt s c comp N M i).heap.size := by omega
      rw [State.heap_setCell_other (Nat.ne_of_gt ha), State.heap_pushCell_of_lt (h := hx)]
      exact a5 a ha
    · show (((gSt s c comp N M i).pushCell _).setCell s.heap.size _).heap[s.heap.size + 1 + j]? = _
      rw [State.heap_setCell_other (show s.heap.size ≠ s.heap.size + 1 + j by omega)]
      by_cases q : j = i
      · subst q
        rw [← a1]
        simp
      · have hx : s.heap.size + 1 + j < (gSt s c comp N M i).heap.size := by omega
        rw [State.heap_pushCell_of_lt (h := hx)]
        exact a6 j (by omega)
theorem gSt_top (s : State) (f : JFrame) (c comp : ClassId) (N M : Nat) : ∀ i, gSt (s.setTop f) c comp N M i = (gSt s c comp N M i).setTop f
  | 0 => rfl
  | i + 1 => by simp only [gSt, gSt_top s f c comp N M i, State.heap_setTop, State.pushCell_setTop, State.setCell_setTop]
section GW
variable {E : CtlPost} {e : Env} {d : Bool} {acts : List Action} {s : State}
theorem g_newArray {c comp : ClassId} {k : Class} {type : FieldType} {len : Nat} {init : Value} (hk : s.vm.classes[c]? = some k) (hkind : k.kind = .array comp type) (hl : ¬ len > e.platform.arrayLengthLimit) (hb : ¬ len * componentBytes type > e.platform.maxHeapBytes) (hfit : fits type init = true) (hdef : init.isDefault = true) {Q : Addr → Pre}
    (h1 : s.heap.size < e.platform.maxCells) (h2 : s.slotsUsed + len ≤ e.platform.maxSlots) (hq : Q s.heap.size d acts (s.pushCell (arrV c len (fun _ => init)))) : wp (Jvm.newArray c len init) Q E e d acts s := by
  have hall : ((Array.replicate len init).all (fun v => v.isDefault)) = true := by
    rw [Array.all_replicate]; split <;> simp [hdef]
  have hda : allocActs (Array.replicate len init) s.heap.size acts = acts := by
    unfold allocActs; rw [if_pos hall]
  rw [← arrV_new] at hq
  simp only [Jvm.newArray, Jvm.arrayFits, wp_bind', W.ask, W.ite, hl, if_false, wp_pure', W.theClass, hk, hkind, hb, W.alloc, W.stop, Option.some.injEq, exists_eq_left', Array.size_replicate, hda]
  rw [if_neg (by omega)]
  refine ⟨h1, h2, fun i v hv => ?_, hq⟩
  simp only [Array.getElem?_replicate] at hv
  split at hv
  · cases hv; simp [State.fitsSlot, State.slotType?, hk, hkind, hfit]
  · cases hv
theorem g_make {c comp cc : ClassId} {k kc : Class} {n m : Int32} (hk : s.vm.classes[c]? = some k) (hkind : k.kind = .array comp (.array .int)) (hkc : s.vm.classes[comp]? = some kc) (hkindc : kc.kind = .array cc .int) (hn : ¬ n < 0) (hm : ¬ m < 0)
    (hl1 : ¬ n.toNatClampNeg > e.platform.arrayLengthLimit) (hh1 : ¬ n.toNatClampNeg * 4 > e.platform.maxHeapBytes) (hl2 : ¬ m.toNatClampNeg > e.platform.arrayLengthLimit) (hh2 : ¬ m.toNatClampNeg * 4 > e.platform.maxHeapBytes)
    (hc : s.heap.size + 1 + n.toNatClampNeg ≤ e.platform.maxCells) (hs : s.slotsUsed + n.toNatClampNeg + n.toNatClampNeg * m.toNatClampNeg ≤ e.platform.maxSlots)
    {Q : Addr → Pre} (hq : ∀ d' acts', Q s.heap.size d' acts' (gSt s c comp n.toNatClampNeg m.toNatClampNeg n.toNatClampNeg)) : wp (Jvm.Op.multianewarray.make c [n, m]) Q E e d acts s := by
  have hfind : ([m].find? (fun x => decide (x < 0))) = none := by simp [hm]
  rw [Jvm.Op.multianewarray.make]
  simp only [wp_bind', W.ite, hn, if_false, wp_pure', W.theClass, hk, hkind, Option.some.injEq, exists_eq_left']
  refine g_newArray hk hkind hl1 hh1 rfl rfl (by omega) (by have := Nat.zero_le (n.toNatClampNeg * m.toNatClampNeg); omega) ?_
  simp only [hfind]
  rw [ite_self, wp_bind', Std.Legacy.Range.forIn_eq_forIn_range']
  rw [show ([:n.toNatClampNeg] : Std.Legacy.Range).size = n.toNatClampNeg by simp [Std.Legacy.Range.size]]
  rw [← gOut_0 c n.toNatClampNeg s.heap.size]
  refine wp_forIn_inv (fun rest s' => ∃ i, i ≤ n.toNatClampNeg ∧ rest = List.range' i (n.toNatClampNeg - i) ∧ s' = gSt s c comp n.toNatClampNeg m.toNatClampNeg i) _ _ ⟨0, Nat.zero_le _, rfl, rfl⟩ ?_ ?_
  · rintro x rest s' d' acts' Q' ⟨i, hi, hl, rfl⟩ hnext
    have hlt : i < n.toNatClampNeg := by
      apply Nat.lt_of_not_le
      intro z
      rw [show n.toNatClampNeg - i = 0 by omega] at hl
      simp at hl
    rw [show n.toNatClampNeg - i = (n.toNatClampNeg - (i + 1)) + 1 by omega, List.range'_succ] at hl
    obtain ⟨e1, hrest⟩ := List.cons.inj hl
    subst e1
    obtain ⟨a1, a2, a3, a4, -, -⟩ := gSt_f s c comp n.toNatClampNeg m.toNatClampNeg x
    have hmul : x * m.toNatClampNeg + m.toNatClampNeg ≤ n.toNatClampNeg * m.toNatClampNeg := by
      have := Nat.mul_le_mul_right m.toNatClampNeg (show x + 1 ≤ n.toNatClampNeg from hlt)
      rw [Nat.succ_mul] at this; exact this
    simp only [wp_bind']
    rw [Jvm.Op.multianewarray.make]
    simp only [wp_bind', W.ite, hm, if_false, wp_pure', W.theClass, a3, hkc, hkindc, Option.some.injEq, exists_eq_left']
    refine g_newArray (by rw [a3]; exact hkc) hkindc hl2 hh2 rfl rfl (by rw [a1]; omega) (by rw [a4]; omega) ?_
    have hlt0 : s.heap.size < (gSt s c comp n.toNatClampNeg m.toNatClampNeg x).heap.size := by omega
    simp only [wp_bind', W.writeLoc, wp_pure']
    refine ⟨gOut c n.toNatClampNeg s.heap.size x, by rw [State.heap_pushCell_of_lt (h := hlt0)]; exact a2, by simp [gOut, arrV], by simp only [gOut, arrV_size]; exact hlt, ?_, hnext _ _ _ ⟨x + 1, hlt, hrest, ?_⟩⟩
    · simp [gOut, arrV, State.fitsSlot, State.slotType?, a3, hk, hkind]; rfl
    · rw [a1, gOut_set]; rfl
  · rintro s' d' acts' ⟨i, hi, hl, rfl⟩
    have hiN : i = n.toNatClampNeg := by
      apply Nat.le_antisymm hi
      apply Nat.le_of_not_lt
      intro z
      rw [show n.toNatClampNeg - i = (n.toNatClampNeg - (i + 1)) + 1 by omega, List.range'_succ] at hl
      cases hl
    subst hiN
    simp only [wp_pure']
    exact hq _ _
end GW
section GD
variable {p : Program} {l : Launch} {e : Env} {R : Room} {s : State} {m : MethodId} {args : Array Value} {below : List Frame} {meth : Method} {c : Code} {T : State} {locs : List Loc} {cells slots : Nat}
theorem g_stand (Y : Stand p l e R s m args below meth c T locs cells slots) (cA comp : ClassId) (N M : Nat) : ∀ i, Stand p l e R s m args below meth c (gSt T cA comp N M i) (locs ++ (List.range i).map fun j => ⟨T.heap.size, j⟩) (cells + 1 + i) (slots + N + i * M)
  | 0 => by
    have h := Y.pushed (gOut cA N T.heap.size 0)
    rw [show (gOut cA N T.heap.size 0).slots.size = N from arrV_size _ _ _] at h
    simpa [gSt] using h
  | i + 1 => by
    have Yi := g_stand Y cA comp N M i
    obtain ⟨a1, a2, -, -, -, -⟩ := gSt_f T cA comp N M i
    have hx : T.heap.size < (gSt T cA comp N M i).heap.size := by omega
    have hcell : ((gSt T cA comp N M i).pushCell (arrV comp M (fun _ => .int 0))).heap[T.heap.size]? = some (gOut cA N T.heap.size i) := by rw [State.heap_pushCell_of_lt (h := hx)]; exact a2
    have h := (Yi.pushed (arrV comp M (fun _ => .int 0))).stored hcell i (.ref (T.heap.size + 1 + i))
    rw [show (arrV comp M (fun _ => Value.int 0)).slots.size = M from arrV_size _ _ _, gOut_set] at h
    rw [List.range_succ, List.map_append, ← List.append_assoc, show slots + N + (i + 1) * M = slots + N + i * M + M by rw [Nat.succ_mul]; omega]
    exact h
end GD
section GG
variable {X : XX} {cc : ByteArray} {y : MethodName} {ret : Option FieldType} {d pc n9 idx : Nat} {z9 : Nat × Nat} {L st : List Value} {h : XH}
theorem vV_new2 (h : XH) (n m : Nat) (ty : FieldType) (b k : Nat) (hb : b < xN h) : vV ty (xNew2 h n m) b k = vV ty h b k := by
  refine vV_of ty ?_ ?_ ?_
  · show (if xN h ≤ b then (0 : Int32) else xI h b k) = _
    rw [if_neg (by omega)]
  · show (if xN h ≤ b then (0 : Int64) else xJ h b k) = _
    rw [if_neg (by omega)]
  · show (if b = xN h then _ else if xN h ≤ b then none else xA h b k) = _
    rw [if_neg (by omega), if_neg (by omega)]
theorem xT_new2 (h : XH) (n m b : Nat) : xT (xNew2 h n m) b = if b = xN h then (106, n) else if xN h < b ∧ b ≤ xN h + n then (100, m) else xT h b := rfl
theorem xRep.grid {G : XG} {s : State} {H H1 : Heap} {n m : Nat} (hR : xRep G s h H) (hz : H1.size = xN h + 1 + n) (oq : ∀ q : Nat, q < xN h → H1[q]? = H[q]?) (h0 : H1[xN h]? = some (gOut (gA G 106) n (xN h) n)) (hi : ∀ j, j < n → H1[xN h + 1 + j]? = some (arrV (gA G 100) m (fun _ => .int 0))) : xRep G s (xNew2 h n m) H1 := by
  obtain ⟨r1, r2, r3, r4, r5⟩ := hR
  have hN : xN (xNew2 h n m) = xN h + 1 + n := rfl
  refine ⟨hz, by rw [hN]; omega, fun b t' n' hb q0 ql => ?_, fun b t' n' hb q0 ql => ?_, fun b t' n' hb q0 => ?_⟩
  · rw [xT_new2] at hb
    by_cases e : b = xN h
    · rw [if_pos e] at hb; cases hb; omega
    · rw [if_neg e] at hb
      by_cases e2 : xN h < b ∧ b ≤ xN h + n
      · rw [if_pos e2] at hb; cases hb; omega
      · rw [if_neg e2] at hb
        obtain ⟨g1, g2, r, g3, g4, g5⟩ := r3 b t' n' hb q0 ql
        exact ⟨g1, by rw [hN]; omega, r, g3, g4, (g5.kept (oq b g2)).to (fun k _ => (vV_new2 h n m _ b k g2).symm)⟩
  · rw [xT_new2] at hb
    by_cases e : b = xN h
    · rw [if_pos e] at hb; cases hb
      subst e
      refine ⟨r2, by rw [hN]; omega, by decide, ?_⟩
      rw [h0]
      unfold gOut
      congr 2
      funext k
      show _ = va_rf (if xN h = xN h then (if k < n then some (xN h + 1 + k) else none) else _)
      rw [if_pos rfl]
      by_cases q : k < n
      · rw [if_pos q, if_pos q]; rfl
      · rw [if_neg q, if_neg q]; rfl
    · rw [if_neg e] at hb
      by_cases e2 : xN h < b ∧ b ≤ xN h + n
      · rw [if_pos e2] at hb; cases hb
        refine ⟨by omega, by rw [hN]; omega, by decide, ?_⟩
        have := hi (b - (xN h + 1)) (by omega)
        rw [show xN h + 1 + (b - (xN h + 1)) = b by omega] at this
        rw [this]
        congr 2
        funext k
        show _ = Value.int (if xN h ≤ b then (0 : Int32) else xI h b k)
        rw [if_pos (by omega)]
      · rw [if_neg e2] at hb
        obtain ⟨g1, g2, g3, g4⟩ := r4 b t' n' hb q0 ql
        refine ⟨g1, by rw [hN]; omega, g3, ?_⟩
        rw [oq b g2, g4, show (fun k => vV (xTy t') (xNew2 h n m) b k) = (fun k => vV (xTy t') h b k) from funext fun k => vV_new2 h n m _ b k g2]
  · rw [xT_new2] at hb
    by_cases e : b = xN h
    · rw [if_pos e] at hb; cases hb; omega
    · rw [if_neg e] at hb
      by_cases e2 : xN h < b ∧ b ≤ xN h + n
      · rw [if_pos e2] at hb; cases hb; omega
      · rw [if_neg e2] at hb
        obtain ⟨g1, cell, g2, g3, g4, g5, g6⟩ := r5 b t' n' hb q0
        exact ⟨g1, cell, by rw [oq b (by omega)]; exact g2, g3, g4, g5, fun k hk => by rw [vV_new2 h n m _ b k (by omega)]; exact g6 k hk⟩
theorem go_new2 (C : xCx X cc y ret d z9 n9) (w1 : Cond.classLink y.cls idx "[[I" ∈ xtb) {n m : Int32} (hn : ¬ n < 0) (hm : ¬ m < 0) (hn1 : n.toNatClampNeg ≤ 100) (hm1 : m.toNatClampNeg ≤ 100) (hB : Le (xNew2 h n.toNatClampNeg m.toNatClampNeg) (xEnd X).2) (hd : decode cc pc = .ok (.multianewarray idx 2, 4)) (kk : Go X (pc + 4) L (.ref (xN h) :: st) (xNew2 h n.toNatClampNeg m.toNatClampNeg)) : Go X pc L (.int m :: .int n :: st) h := by
  obtain ⟨p, l, e, R, s, mm, args, below, meth, c, G, h0, ov, hF, nL⟩ := X
  intro H locs ls hR hS hL h1 h2
  obtain ⟨hx, hb, hml, hown, hts, hK, hRm, hret, hlk, hnm, hzz, hn9⟩ := C
  subst hb
  have b1 : xN h + 1 + n.toNatClampNeg ≤ xN hF := hB.1
  have b2 : xS h + n.toNatClampNeg + n.toNatClampNeg * m.toNatClampNeg ≤ xS hF := hB.2
  have hsz : H.size = xN h := hR.1
  intro T hT Y
  subst hT
  obtain ⟨kA, hkA, hkindA⟩ := hK.2.2.2.2.2.2.2.2
  obtain ⟨-, kC, hkC, cm, hkindC⟩ := (hK.2.1 100 (by decide) (by decide)).1 0 (fun _ => .null)
  have hfa : s.vm.findClass "[[I" = some (gA G 106) := (hK.2.1 106 (by decide) (by decide)).2
  have hpl : e.platform.magicAccessors = ({} : Platform).magicAccessors := by rw [Y.admits.platform]
  obtain ⟨c0, hfc0, hcl⟩ := Cond.classLink_spec hown (hts _ w1) e.platform hpl
  cases hfa.symm.trans hfc0
  obtain ⟨hg₁, hwarm₁, hready₁⟩ := State.classEntry (e := e) Y.warmed hcl
  generalize T.vm.noted mm.cls idx (.cls (gA G 106)) = vm₁ at hg₁ hwarm₁ hready₁
  have hal : s.vm.Alike vm₁ := hwarm₁.alike
  obtain ⟨kA₁, hkA₁, heA⟩ := hal.2.2 _ _ hkA
  obtain ⟨kC₁, hkC₁, heC⟩ := hal.2.2 _ _ hkC
  have hkindA₁ : kA₁.kind = .array (gA G 100) (.array .int) := by rw [heA]; exact hkindA
  have hkindC₁ : kC₁.kind = .array cm .int := by rw [heC]; exact hkindC
  have Y₁ := Y.noted hwarm₁
  have YF := g_stand Y₁ (gA G 106) (gA G 100) n.toNatClampNeg m.toNatClampNeg n.toNatClampNeg
  obtain ⟨f1, f2, f3, f4, f5, f6⟩ := gSt_f (T.setVm vm₁) (gA G 106) (gA G 100) n.toNatClampNeg m.toNatClampNeg n.toNatClampNeg
  have hmr : xN h - xN h0 + (1 + n.toNatClampNeg) ≤ R.cells := Nat.le_trans (by omega) hRm.2.1
  have hmr2 : xS h - xS h0 + (n.toNatClampNeg + n.toNatClampNeg * m.toNatClampNeg) ≤ R.slots := Nat.le_trans (by omega) hRm.2.2.1
  obtain ⟨hr1, hr2⟩ := Y.roomAbove hmr hmr2
  have hR1 : xRep G s (xNew2 h n.toNatClampNeg m.toNatClampNeg) (gSt (T.setVm vm₁) (gA G 106) (gA G 100) n.toNatClampNeg m.toNatClampNeg n.toNatClampNeg).heap := by
    have hsz' : (T.setVm vm₁).heap.size = xN h := hsz
    rw [hsz'] at f1 f2 f5 f6
    exact hR.grid f1 f5 f2 f6
  have hS1 : va_S (gO G) s.heap (gSt (T.setVm vm₁) (gA G 106) (gA G 100) n.toNatClampNeg m.toNatClampNeg n.toNatClampNeg).heap (locs ++ (List.range n.toNatClampNeg).map fun j => ⟨(T.setVm vm₁).heap.size, j⟩) := by
    refine ⟨?_, fun q g1 g2 => ?_, fun q hq => ?_⟩
    · rw [f1]; have := hS.1; show _ ≤ T.heap.size + 1 + _; omega
    · rw [f5 q (Nat.lt_of_lt_of_le g1 hS.1)]
      exact hS.2.1 q g1 g2
    · rcases List.mem_append.mp hq with w | w
      · exact hS.2.2 q w
      · obtain ⟨j, -, hj⟩ := List.mem_map.mp w
        rw [← hj]
        show gB G ≤ T.heap.size
        rw [hsz]; exact hR.2.1
  have fin := kk _ _ ls hR1 hS1 hL (by show _ ≤ xN h + 1 + _; omega) (by show _ ≤ xS h + _ + _; omega)
  rw [show xN (xNew2 h n.toNatClampNeg m.toNatClampNeg) - xN h0 = xN h - xN h0 + 1 + n.toNatClampNeg by show xN h + 1 + _ - xN h0 = _; omega, show xS (xNew2 h n.toNatClampNeg m.toNatClampNeg) - xS h0 = xS h - xS h0 + n.toNatClampNeg + n.toNatClampNeg * m.toNatClampNeg by show xS h + _ + _ - xS h0 = _; omega] at fin
  obtain ⟨t2, a1, bb1⟩ := fin _ rfl YF
  refine ⟨t2, ?_, bb1⟩
  have hl1 : ¬ n.toNatClampNeg > e.platform.arrayLengthLimit := by rw [Launch.admits_arrayLengthLimit Y.admits]; omega
  have hh1 : ¬ n.toNatClampNeg * 4 > e.platform.maxHeapBytes := by rw [Launch.admits_maxHeapBytes Y.admits]; omega
  have hl2 : ¬ m.toNatClampNeg > e.platform.arrayLengthLimit := by rw [Launch.admits_arrayLengthLimit Y.admits]; omega
  have hh2 : ¬ m.toNatClampNeg * 4 > e.platform.maxHeapBytes := by rw [Launch.admits_maxHeapBytes Y.admits]; omega
  jvm_step Y.here [hx, hd]
  simp only [Jvm.Op.multianewarray.sem, wp_bind', W.resolveClassAt_links (State.method?_setTop (F0 mm pc ls (.int m :: .int n :: st)) Y.here.top) hg₁]
  rw [W.popN, if_neg (by decide)]
  refine ⟨F0 mm pc ls (.int m :: .int n :: st), State.topJava?_setTop' (s := T.setVm vm₁) _ Y.here.top, [.int n, .int m], st, rfl, rfl, ?_⟩
  simp only [List.mapM_cons, List.mapM_nil, wp_bind', wp_pure']
  refine g_make (k := kA₁) (kc := kC₁) (comp := gA G 100) (cc := cm) hkA₁ hkindA₁ hkC₁ hkindC₁ hn hm hl1 hh1 hl2 hh2 (by show T.heap.size + 1 + _ ≤ _; omega) (by show T.slotsUsed + _ + _ ≤ _; omega) (fun d' acts' => ?_)
  have eS : ((T.setTop (F0 mm pc ls (.int m :: .int n :: st))).setVm vm₁).setTop (F0 mm pc ls st) = (T.setVm vm₁).setTop (F0 mm pc ls st) := by
    show ((T.setVm vm₁).setTop _).setTop _ = _
    rw [State.setTop_setTop]
  rw [eS, gSt_top]
  simp only [wp_bind', W.mark, W.pushRef, State.topJava?_setTop' _ YF.here.top, Option.some.injEq, exists_eq_left', State.setTop_setTop, State.heap_setTop]
  intro acts
  simp [jvm, YF.here.top]
  rw [← hsz] at a1
  exact a1
end GG
section GX
variable {cc : ByteArray} {y : MethodName} {ret : Option FieldType} {d n9 k pc p1 p2 idx : Nat} {z9 : Nat × Nat}
theorem xe_new2 {f g : EE Int32} (hf : XE cc y ret d z9 n9 jI k pc p1 f) (hg : XE cc y ret d z9 n9 jI (k + 2) p1 p2 g) (w1 : Cond.classLink y.cls idx "[[I" ∈ xtb) (hd : decode cc p2 = .ok (.multianewarray idx 2, 4)) : XE cc y ret d z9 n9 jA k pc (p2 + 4) (eNew2 f g) := by
  have l0 : ∀ (h : XH) (n m : Nat), Le h (xNew2 h n m) := fun h n m => ⟨by show _ ≤ xN h + 1 + n; omega, by show _ ≤ xS h + n + n * m; omega⟩
  refine ⟨fun L h v h' he => ?_, fun X C L h v h' he hB st hst kk => ?_⟩
  · obtain ⟨r, e1, he⟩ := ob he
    obtain ⟨q, e2, he⟩ := ob he
    split at he
    · cases he; exact (hf.1 _ _ _ _ e1).tr ((hg.1 _ _ _ _ e2).tr (l0 _ _ _))
    · cases he
  · obtain ⟨r, e1, he⟩ := ob he
    obtain ⟨q, e2, he⟩ := ob he
    split at he
    · next ht =>
      cases he
      have l1 := (l0 q.2 r.1.toNatClampNeg q.1.toNatClampNeg).tr hB
      exact hf.2 X C _ _ _ _ e1 ((hg.1 _ _ _ _ e2).tr l1) st hst (hg.2 X C _ _ _ _ e2 l1 _ (cats_c _ _ _ hst) (go_new2 C w1 ht.1 ht.2.1 ht.2.2.1 ht.2.2.2 hB hd kk))
    · cases he
end GX
