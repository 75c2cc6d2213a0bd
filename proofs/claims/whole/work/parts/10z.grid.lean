section GD
variable {cc : ByteArray} {y : MethodName} {ret : Option FieldType} {d n9 k pc p1 p2 idx : Nat} {z9 : Nat × Nat}
theorem xe_new2 {f g : EE Int32} (hf : XE cc y ret d z9 n9 jI k pc p1 f) (hg : XE cc y ret d z9 n9 jI (k + 2) p1 p2 g) (w1 : Cond.classLink y.cls idx "[[I" ∈ xtb) (hd : decode cc p2 = .ok (.multianewarray idx 2, 4)) : XE cc y ret d z9 n9 jA k pc (p2 + 4) (eNew2 f g) := by
  sorry
end GD
