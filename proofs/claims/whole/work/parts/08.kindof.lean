def kdx (c : Int32) : Int32 := if c = 104 then 0 else if c = 98 then 1 else if c = 109 then 2 else if c = 119 then 3 else if c = 113 then 4 else if c = 100 then 5 else -1
theorem eSX4_kindOf : yX4_kindOf.cls ≠ "java/lang/invoke/MethodHandle" ∧ yX4_kindOf.cls ≠ "java/lang/invoke/VarHandle" ∧ (parseMethodDescriptor yX4_kindOf.desc).map (fun d => d.parameters.length) = some 1 := by decide +kernel
abbrev rmX4_kindOf : Room := { frames := 5, cells := 0, slots := 0, locals := 120 }
def fX4_kindOf (g : Nat) (p0 : Int32) : Option Int32 := some (kdx (p0.toUInt32 % 65536).toInt32)
theorem kX4_kindOf (l : Launch) (D : va_G) (cI cJ : ClassId) (sz g : Nat) (p0 : Int32) (r : Int32) (hf : fX4_kindOf g p0 = some r) : Met l yX4_kindOf wsX4_kindOf rmX4_kindOf (va_Pc [.int p0] (sPc D (tyL cI cJ) [] sz)) (qI D (tyL cI cJ) [] sz [] r) 0 0 (va_A [] sz) := by
  sorry
