/-! the plain heap: three planes of values by address and place, what stands at an address (tag, size), the next address, the slots used -/
abbrev XH : Type := (Nat → Nat → Int32) × (Nat → Nat → Int64) × (Nat → Nat → Option Nat) × (Nat → Nat × Nat) × Nat × Nat
def xI (h : XH) : Nat → Nat → Int32 := h.1
def xJ (h : XH) : Nat → Nat → Int64 := h.2.1
def xA (h : XH) : Nat → Nat → Option Nat := h.2.2.1
def xT (h : XH) : Nat → Nat × Nat := h.2.2.2.1
def xN (h : XH) : Nat := h.2.2.2.2.1
def xS (h : XH) : Nat := h.2.2.2.2.2
def up2 {α : Type} (f : Nat → Nat → α) (a k : Nat) (x : α) : Nat → Nat → α := fun b j => if b = a ∧ j = k then x else f b j
def row0 {α : Type} (f : Nat → Nat → α) (a : Nat) (x : α) : Nat → Nat → α := fun b j => if b = a then x else f b j
def cp2 {α : Type} (f : Nat → Nat → α) (a sp b dp n : Nat) : Nat → Nat → α := fun q j => if q = b ∧ dp ≤ j ∧ j < dp + n then f a (sp + (j - dp)) else f q j
def sI (h : XH) (a k : Nat) (x : Int32) : XH := (up2 (xI h) a k x, xJ h, xA h, xT h, xN h, xS h)
def sJ (h : XH) (a k : Nat) (x : Int64) : XH := (xI h, up2 (xJ h) a k x, xA h, xT h, xN h, xS h)
def sA (h : XH) (a k : Nat) (x : Option Nat) : XH := (xI h, xJ h, up2 (xA h) a k x, xT h, xN h, xS h)
def xNew (h : XH) (t n : Nat) : XH := (row0 (xI h) (xN h) 0, row0 (xJ h) (xN h) 0, row0 (xA h) (xN h) none, (fun b => if b = xN h then (t, n) else xT h b), xN h + 1, xS h + n)
def xCpI (h : XH) (a sp b dp n : Nat) : XH := (cp2 (xI h) a sp b dp n, xJ h, xA h, xT h, xN h, xS h)
def xCpA (h : XH) (a sp b dp n : Nat) : XH := (xI h, xJ h, cp2 (xA h) a sp b dp n, xT h, xN h, xS h)
/-- the dead value of a place among the locals that holds nothing -/
abbrev xD : Value := .retAddr 0
def xTy (t : Nat) : FieldType := match t with
  | 101 => .byte
  | 102 => .boolean
  | 103 => .long
  | 104 => .object "ReadersRoom$Row"
  | 105 => .object "java/lang/Object"
  | 106 => .array .int
  | 205 => .object "java/lang/Object"
  | _ => .int
abbrev xcl : List vw_C := (RJx4a65c, TJx4a65c, 3) :: vwCl
def xF (t : Nat) : Nat → FieldType := match t with
  | 1 => tyJx4a65c
  | 2 => tyX0
  | 3 => tyX1
  | 4 => tyX2
  | 5 => tyX3
  | 6 => tyX4
  | 7 => tyX5
  | 8 => tyX6
  | 9 => tyX7
  | 10 => tyX8
  | 11 => tyX9
  | 12 => tyX10
  | 13 => tyX11
  | _ => tyX12
def vV (ty : FieldType) (h : XH) (a k : Nat) : Value := match ty with
  | .long => .long (xJ h a k)
  | .object _ => va_rf (xA h a k)
  | .array _ => va_rf (xA h a k)
  | _ => .int (xI h a k)
/-- what the machine's tables say: numbers of the made kinds, of their places, of the kinds of rows; the empty row of the lists, the mirror, the first address of ours -/
abbrev XG : Type := (Nat → ClassId) × (Nat → Nat → Nat) × (Nat → ClassId) × Nat × Nat × Nat
def gC (G : XG) : Nat → ClassId := G.1
def gF (G : XG) : Nat → Nat → Nat := G.2.1
def gA (G : XG) : Nat → ClassId := G.2.2.1
def gZ (G : XG) : Nat := G.2.2.2.1
def gM (G : XG) : Nat := G.2.2.2.2.1
def gB (G : XG) : Nat := G.2.2.2.2.2
def gO (G : XG) : Nat → Prop := fun q => gB G ≤ q
def xRep (G : XG) (s : State) (h : XH) (H : Heap) : Prop :=
  H.size = xN h ∧ gB G ≤ xN h ∧
  (∀ a t n, xT h a = (t, n) → t ≠ 0 → t < 100 → gB G ≤ a ∧ a < xN h ∧ ∃ r : vw_C, xcl[t]? = some r ∧ n = r.2.2 ∧ t_OB a (gC G t) r.2.2 (gF G t) H (fun k => vV (xF t k) h a k)) ∧
  (∀ a t n, xT h a = (t, n) → 100 ≤ t → t < 200 → gB G ≤ a ∧ a < xN h ∧ t < 107 ∧ H[a]? = some (arrV (gA G t) n (fun k => vV (xTy t) h a k))) ∧
  (∀ a t n, xT h a = (t, n) → 200 ≤ t → a < gB G ∧ ∃ cell : Cell, H[a]? = some cell ∧ s.isArrayOf cell (xTy t) ∧ cell.vm ≠ .unknown ∧ (n ≤ cell.slots.size ∧ cell.slots.size.toInt32 = Int32.ofNat n) ∧ ∀ k, k < n → cell.slots[k]? = some (vV (xTy t) h a k))
def xgood (w : Cond) : Bool := (w.onTables && w.keeps) || (match w with | .arrayClass _ => true | _ => false)
/-- the tables' words that every method may name, and the others -/
def xtb : List Cond := lw_tbl.filter xgood
def xspec (w : Cond) : Bool := match w with
  | .castable _ _ => true
  | .methodLinkNest _ _ _ _ => true
  | .declares _ => true
  | _ => false
def xrs : List Cond := lw_tbl.filter xspec
theorem tbl_good : ∀ w ∈ xtb, (w.onTables && w.keeps) = true ∨ ∃ ty, w = .arrayClass ty := by
  intro w hw
  have h := (List.mem_filter.mp hw).2
  rcases Bool.or_eq_true_iff.mp h with h | h
  · exact Or.inl h
  · right
    cases w <;> first | exact ⟨_, rfl⟩ | cases h
/-- rows of rows: their parts are rows of ints -/
def xGr (G : XG) (s : State) : Prop := ∃ k : Class, s.vm.classes[gA G 106]? = some k ∧ k.kind = .array (gA G 100) (.array .int)
theorem xGr.moved {G : XG} {u U : State} (hvm : u.vm.Alike U.vm) (h : xGr G u) : xGr G U := by
  obtain ⟨k, h1, h2⟩ := h
  obtain ⟨k', hk', he⟩ := hvm.2.2 _ _ h1
  exact ⟨k', hk', by rw [he]; exact h2⟩
def xK (G : XG) (s : State) : Prop :=
  (∀ t r, t ≠ 0 → xcl[t]? = some r → u_Kn s r.1 r.2.1 r.2.2 (gC G t) (gF G t)) ∧
  (∀ t, 100 ≤ t → t < 107 → ArrOfT s (gA G t) (xTy t) ∧ va_RA s (gA G t) (xTy t)) ∧
  va_Z "java/util/ArrayList" "DEFAULTCAPACITY_EMPTY_ELEMENTDATA" "[Ljava/lang/Object;" (.ref (gZ G)) (gO G) s s.heap ∧
  va_Mi "[Ljava/lang/Object;" (gM G) s ∧ gB G ≤ s.heap.size ∧ (∀ w ∈ xrs, va_Nw w s) ∧ va_AO "ReadersRoom$Row" s ∧ va_AO "java/lang/Object" s ∧ xGr G s
theorem xrs_moved {u U : State} (hW : u.WarmedH U.vm) {w : Cond} (hw : w ∈ xrs) (h : va_Nw w u) : va_Nw w U := by
  have hg := (List.mem_filter.mp hw).2
  cases w with
  | castable a b => exact h.warmC hW
  | methodLinkNest a b c d => exact h.warmM hW
  | declares a => exact h.warmD hW
  | _ => cases hg
theorem xRep.moved {G : XG} {u U : State} {h : XH} {H : Heap} (hvm : u.vm.Alike U.vm) (hR : xRep G u h H) : xRep G U h H := by
  obtain ⟨h1, h2, h3, h4, h5⟩ := hR
  refine ⟨h1, h2, h3, h4, fun a t n ht hl => ?_⟩
  obtain ⟨g1, cell, g2, g3, g4⟩ := h5 a t n ht hl
  exact ⟨g1, cell, g2, State.isArrayOf_alike hvm g3, g4⟩
theorem xK.moved {G : XG} {u U : State} (hW : u.WarmedH U.vm) (hz : u.heap.size ≤ U.heap.size) (hk : ∀ q : Nat, q < u.heap.size → ¬ gO G q → U.heap[q]? = u.heap[q]?) (h : xK G u) : xK G U := by
  obtain ⟨h1, h2, h3, h4, h5, h6, h7, h8, h9⟩ := h
  have hvm := hW.alike
  exact ⟨fun t r ht hr => u_Kn_moved hvm (h1 t r ht hr), fun t ha hb => ⟨arrOfT_moved hvm (h2 t ha hb).1, (h2 t ha hb).2.moved hvm⟩, (h3.moved hvm).kept hk, h4.moved hvm, Nat.le_trans h5 hz, fun w hw => xrs_moved hW hw (h6 w hw), h7.moved hvm, h8.moved hvm, h9.moved hvm⟩
/-! the places among the locals -/
def xl (L : List Value) (i : Nat) : List (Nat × Value) := match L with
  | [] => []
  | v :: t => if v = xD then xl t (i + 1) else (i, v) :: xl t (i + 1)
theorem xl_mem : ∀ (L : List Value) (i : Nat) (q : Nat × Value), q ∈ xl L i ↔ q.2 ≠ xD ∧ i ≤ q.1 ∧ L[q.1 - i]? = some q.2
  | [], i, q => by simp [xl]
  | v :: t, i, (k, w) => by
    have ih := xl_mem t (i + 1) (k, w)
    unfold xl
    by_cases hk : k = i
    · subst hk
      have n1 : ¬ (k, w) ∈ xl t (k + 1) := fun z => by have := (ih.mp z).2.1; simp only at this; omega
      by_cases hv : v = xD
      · rw [if_pos hv]
        constructor
        · exact fun z => absurd z n1
        · rintro ⟨z1, -, z2⟩
          simp at z2
          exact absurd (z2.symm.trans hv) z1
      · rw [if_neg hv]
        constructor
        · intro z
          rcases List.mem_cons.mp z with z | z
          · cases z
            exact ⟨hv, Nat.le_refl _, by simp⟩
          · exact absurd z n1
        · rintro ⟨z1, -, z2⟩
          simp at z2
          subst z2
          exact List.mem_cons_self
    · have e : (k, w) ∈ (if v = xD then xl t (i + 1) else (i, v) :: xl t (i + 1)) ↔ (k, w) ∈ xl t (i + 1) := by
        by_cases hv : v = xD
        · rw [if_pos hv]
        · rw [if_neg hv]
          constructor
          · intro z
            rcases List.mem_cons.mp z with z | z
            · cases z
              exact absurd rfl hk
            · exact z
          · exact List.mem_cons_of_mem _
      rw [e, ih]
      constructor
      · rintro ⟨a, b, d⟩
        refine ⟨a, by simp only at b ⊢; omega, ?_⟩
        simp only at b d ⊢
        rw [show k - i = (k - (i + 1)) + 1 by omega]
        simpa using d
      · rintro ⟨a, b, d⟩
        simp only at b d ⊢
        refine ⟨a, by omega, ?_⟩
        rw [show k - i = (k - (i + 1)) + 1 by omega] at d
        simpa using d
def xLs (nL : Nat) (L : List Value) (ls : Array Slot) : Prop := L.length = nL ∧ lv_has ls nL (xl L 0)
theorem xLs.at {nL : Nat} {L : List Value} {ls : Array Slot} (h : xLs nL L ls) {k : Nat} {v : Value} (hk : L[k]? = some v) (hv : v ≠ xD) : ls[k]? = some (.val v) :=
  h.2.2.2 (k, v) ((xl_mem L 0 (k, v)).mpr ⟨hv, Nat.zero_le _, hk⟩)
/-- storing a value of one place -/
def stL : List Value → Nat → Value → List Value
  | [], _, _ => []
  | _ :: L, 0, v => v :: L
  | w :: L, i + 1, v => (if i = 0 ∧ w.category = 2 then xD else w) :: stL L i v
def kill (L : List Value) (i : Nat) : List Value := match L, i with
  | [], _ => []
  | _ :: t, 0 => xD :: t
  | v :: t, i + 1 => v :: kill t i
/-- storing a value of two places -/
def stL2 (L : List Value) (i : Nat) (v : Value) : List Value := kill (stL L i v) (i + 1)
theorem stL_len : ∀ (L : List Value) (i : Nat) (v : Value), (stL L i v).length = L.length
  | [], _, _ => rfl
  | _ :: _, 0, _ => rfl
  | _ :: L, i + 1, v => by simp [stL, stL_len L i v]
theorem kill_len : ∀ (L : List Value) (i : Nat), (kill L i).length = L.length
  | [], _ => by simp [kill]
  | _ :: _, 0 => by simp [kill]
  | _ :: L, i + 1 => by simp [kill, kill_len L i]
theorem stL_get : ∀ (L : List Value) (i : Nat) (v : Value) (k : Nat) (w : Value), (stL L i v)[k]? = some w → w ≠ xD → (k = i ∧ w = v) ∨ (k ≠ i ∧ L[k]? = some w ∧ ¬ (k + 1 = i ∧ w.category = 2))
  | [], _, _, k, w => by simp [stL]
  | u :: L, 0, v, k, w => by
    intro h hw
    cases k with
    | zero => simp [stL] at h; exact Or.inl ⟨rfl, h.symm⟩
    | succ k => simp [stL] at h; exact Or.inr ⟨by omega, by simpa using h, by omega⟩
  | u :: L, i + 1, v, k, w => by
    intro h hw
    cases k with
    | zero =>
      simp only [stL, List.getElem?_cons_zero, Option.some.injEq] at h
      by_cases z : i = 0 ∧ u.category = 2
      · rw [if_pos z] at h
        exact absurd h.symm hw
      · rw [if_neg z] at h
        subst h
        exact Or.inr ⟨by omega, by simp, fun q => z ⟨by omega, q.2⟩⟩
    | succ k =>
      simp only [stL, List.getElem?_cons_succ] at h
      rcases stL_get L i v k w h hw with ⟨a, b⟩ | ⟨a, b, d⟩
      · exact Or.inl ⟨by omega, b⟩
      · exact Or.inr ⟨by omega, by simpa using b, fun q => d ⟨by omega, q.2⟩⟩
theorem kill_get : ∀ (L : List Value) (i k : Nat) (w : Value), (kill L i)[k]? = some w → w ≠ xD → k ≠ i ∧ L[k]? = some w
  | [], _, k, w => by simp [kill]
  | u :: L, 0, k, w => by
    intro h hw
    cases k with
    | zero => simp [kill] at h; exact absurd h.symm hw
    | succ k => simp [kill] at h; exact ⟨by omega, by simpa using h⟩
  | u :: L, i + 1, k, w => by
    intro h hw
    cases k with
    | zero => simp [kill] at h; exact ⟨by omega, by simpa using h⟩
    | succ k =>
      simp only [kill, List.getElem?_cons_succ] at h
      obtain ⟨a, b⟩ := kill_get L i k w h hw
      exact ⟨by omega, by simpa using b⟩
theorem xLs.st1 {nL : Nat} {L : List Value} {ls : Array Slot} {i : Nat} {v : Value} (h : xLs nL L ls) (hi : i < nL) (hc : v.category = 1) : ∃ ls', storeLocals ls i v = some ls' ∧ xLs nL (stL L i v) ls' := by
  obtain ⟨ls', e, g⟩ := lv_store1 h.2 hi hc
  refine ⟨ls', e, by rw [stL_len]; exact h.1, g.1, g.2.1, fun q hq => g.2.2 q ?_⟩
  obtain ⟨z1, z2, z3⟩ := (xl_mem _ 0 q).mp hq
  rcases stL_get L i v q.1 q.2 z3 z1 with ⟨a, b⟩ | ⟨a, b, d⟩
  · obtain ⟨q1, q2⟩ := q
    simp only at a b
    subst a; subst b
    exact List.mem_cons_self
  · refine List.mem_cons_of_mem _ (List.mem_filter.mpr ⟨(xl_mem L 0 q).mpr ⟨z1, z2, b⟩, ?_⟩)
    simp only [Bool.and_eq_true, Bool.not_eq_true', beq_eq_false_iff_ne, ne_eq, Bool.and_eq_false_iff]
    refine ⟨a, ?_⟩
    by_cases z : q.1 + 1 = i
    · exact Or.inr (fun w => d ⟨z, w⟩)
    · exact Or.inl z
theorem xLs.st2 {nL : Nat} {L : List Value} {ls : Array Slot} {i : Nat} {v : Value} (h : xLs nL L ls) (hi : i + 1 < nL) (hc : v.category = 2) : ∃ ls', storeLocals ls i v = some ls' ∧ xLs nL (stL2 L i v) ls' := by
  obtain ⟨ls', e, g⟩ := lv_store2 h.2 hi hc
  refine ⟨ls', e, by unfold stL2; rw [kill_len, stL_len]; exact h.1, g.1, g.2.1, fun q hq => g.2.2 q ?_⟩
  obtain ⟨z1, z2, z3⟩ := (xl_mem _ 0 q).mp hq
  obtain ⟨y1, y2⟩ := kill_get _ _ _ _ z3 z1
  rcases stL_get L i v q.1 q.2 y2 z1 with ⟨a, b⟩ | ⟨a, b, d⟩
  · obtain ⟨q1, q2⟩ := q
    simp only at a b
    subst a; subst b
    exact List.mem_cons_self
  · refine List.mem_cons_of_mem _ (List.mem_filter.mpr ⟨(xl_mem L 0 q).mpr ⟨z1, z2, b⟩, ?_⟩)
    simp only [Bool.and_eq_true, Bool.not_eq_true', beq_eq_false_iff_ne, ne_eq, Bool.and_eq_false_iff]
    refine ⟨a, by simpa using y1, ?_⟩
    by_cases z : q.1 + 1 = i
    · exact Or.inr (fun w => d ⟨z, w⟩)
    · exact Or.inl z
/-- the locals at a method's entry -/
def lay : List Value → List Value
  | [] => []
  | v :: t => if v.category = 2 then v :: xD :: lay t else v :: lay t
theorem lay_sl : ∀ vs : List Value, (lay vs).length = (lg_sl vs).length
  | [] => rfl
  | v :: t => by
    have ih := lay_sl t
    simp only [lg_sl, List.flatMap_cons, List.length_append] at ih ⊢
    unfold lay
    by_cases h : v.category = 2
    · simp [if_pos h, ih]; omega
    · simp [if_neg h, ih]; omega
theorem lay_get : ∀ (vs : List Value) (i k : Nat) (w : Value), (lay vs)[k]? = some w → w ≠ xD → (i + k, w) ∈ lv_args i vs
  | [], i, k, w => by simp [lay]
  | v :: t, i, k, w => by
    intro h hw
    unfold lay at h
    unfold lv_args
    by_cases hc : v.category = 2
    · rw [if_pos hc] at h
      match k, h with
      | 0, h =>
        simp at h
        subst h
        exact List.mem_cons_self
      | 1, h =>
        simp at h
        exact absurd h.symm hw
      | k + 2, h =>
        simp only [List.getElem?_cons_succ] at h
        have := lay_get t (i + v.category) k w h hw
        rw [hc] at this ⊢
        refine List.mem_cons_of_mem _ ?_
        rw [show i + (k + 2) = i + 2 + k by omega]
        exact this
    · have hc1 : v.category = 1 := by rcases lv_cat v with z | z <;> omega
      rw [if_neg hc] at h
      match k, h with
      | 0, h =>
        simp at h
        subst h
        exact List.mem_cons_self
      | k + 1, h =>
        simp only [List.getElem?_cons_succ] at h
        have := lay_get t (i + v.category) k w h hw
        rw [hc1] at this ⊢
        refine List.mem_cons_of_mem _ ?_
        rw [show i + (k + 1) = i + 1 + k by omega]
        exact this
theorem xLs.entry (vs : List Value) {n pad : Nat} (h : (lay vs).length + pad = n) : xLs n (lay vs ++ List.replicate pad xD) ((lg_sl vs ++ List.replicate (n - (lg_sl vs).length) Slot.unset).toArray) := by
  obtain ⟨g1, g2, g3⟩ := lv_entry vs (n := n) (by rw [← lay_sl]; omega)
  refine ⟨by simp [h], g1, g2, fun q hq => g3 q ?_⟩
  obtain ⟨z1, z2, z3⟩ := (xl_mem _ 0 q).mp hq
  simp only [Nat.sub_zero] at z3
  have hk : (lay vs)[q.1]? = some q.2 := by
    by_cases hl : q.1 < (lay vs).length
    · rwa [List.getElem?_append_left hl] at z3
    · rw [List.getElem?_append_right (by omega), List.getElem?_replicate] at z3
      split at z3
      · exact absurd (Option.some.inj z3).symm z1
      · cases z3
  have := lay_get vs 0 q.1 q.2 hk z1
  rwa [Nat.zero_add] at this
