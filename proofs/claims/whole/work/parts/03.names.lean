/-! ===== BEGIN printed: names, fields, word lists, decode rows ===== -/
def RX0 : String := "LimbRegisters$Division"
def TX0 : u_T := fun k => match k with
  | 0 => ("LimbRegisters$Division", "quotient", "LLimbRegisters$Natural;", true)
  | 1 => ("LimbRegisters$Division", "rest", "LLimbRegisters$Natural;", true)
  | _ => ("LimbRegisters$Division", "lifted", "LLimbRegisters$Natural;", true)
def tyX0 : Nat → FieldType := fun k => match k with
  | 0 => .object "LimbRegisters$Natural"
  | 1 => .object "LimbRegisters$Natural"
  | _ => .object "LimbRegisters$Natural"
theorem nmX0 : ∀ a, a < 3 → ∀ b, b < 3 → a ≠ b → (TX0 a).2.1 ≠ (TX0 b).2.1 := by decide +kernel
theorem tyX0_ok : ∀ k, k < 3 → parseFieldDescriptor (TX0 k).2.2.1 = some (tyX0 k) := by decide +kernel
def RX1 : String := "LimbRegisters$Euclid"
def TX1 : u_T := fun k => match k with
  | 0 => ("LimbRegisters$Euclid", "divisor", "LLimbRegisters$Natural;", true)
  | 1 => ("LimbRegisters$Euclid", "factor", "LLimbRegisters$Natural;", true)
  | 2 => ("LimbRegisters$Euclid", "factorBelow", "Z", false)
  | 3 => ("LimbRegisters$Euclid", "next", "LLimbRegisters$Natural;", true)
  | 4 => ("LimbRegisters$Euclid", "nextFactor", "LLimbRegisters$Natural;", true)
  | 5 => ("LimbRegisters$Euclid", "sum", "LLimbRegisters$Natural;", true)
  | _ => ("LimbRegisters$Euclid", "division", "LLimbRegisters$Division;", true)
def tyX1 : Nat → FieldType := fun k => match k with
  | 0 => .object "LimbRegisters$Natural"
  | 1 => .object "LimbRegisters$Natural"
  | 2 => .boolean
  | 3 => .object "LimbRegisters$Natural"
  | 4 => .object "LimbRegisters$Natural"
  | 5 => .object "LimbRegisters$Natural"
  | _ => .object "LimbRegisters$Division"
theorem nmX1 : ∀ a, a < 7 → ∀ b, b < 7 → a ≠ b → (TX1 a).2.1 ≠ (TX1 b).2.1 := by decide +kernel
theorem tyX1_ok : ∀ k, k < 7 → parseFieldDescriptor (TX1 k).2.2.1 = some (tyX1 k) := by decide +kernel
def RX2 : String := "LimbRegisters$Natural"
def TX2 : u_T := fun k => match k with
  | 0 => ("LimbRegisters$Natural", "limbs", "[J", true)
  | _ => ("LimbRegisters$Natural", "used", "I", false)
def tyX2 : Nat → FieldType := fun k => match k with
  | 0 => .array .long
  | _ => .int
theorem nmX2 : ∀ a, a < 2 → ∀ b, b < 2 → a ≠ b → (TX2 a).2.1 ≠ (TX2 b).2.1 := by decide +kernel
theorem tyX2_ok : ∀ k, k < 2 → parseFieldDescriptor (TX2 k).2.2.1 = some (tyX2 k) := by decide +kernel
def RX3 : String := "LimbRegisters$Residues"
def TX3 : u_T := fun k => match k with
  | 0 => ("LimbRegisters$Residues", "found", "LLimbRegisters$Natural;", true)
  | 1 => ("LimbRegisters$Residues", "base", "LLimbRegisters$Natural;", true)
  | 2 => ("LimbRegisters$Residues", "product", "LLimbRegisters$Natural;", true)
  | _ => ("LimbRegisters$Residues", "division", "LLimbRegisters$Division;", true)
def tyX3 : Nat → FieldType := fun k => match k with
  | 0 => .object "LimbRegisters$Natural"
  | 1 => .object "LimbRegisters$Natural"
  | 2 => .object "LimbRegisters$Natural"
  | _ => .object "LimbRegisters$Division"
theorem nmX3 : ∀ a, a < 4 → ∀ b, b < 4 → a ≠ b → (TX3 a).2.1 ≠ (TX3 b).2.1 := by decide +kernel
theorem tyX3_ok : ∀ k, k < 4 → parseFieldDescriptor (TX3 k).2.2.1 = some (tyX3 k) := by decide +kernel
def RX4 : String := "LimbRegisters$Roots"
def TX4 : u_T := fun k => match k with
  | 0 => ("LimbRegisters$Roots", "found", "LLimbRegisters$Natural;", true)
  | 1 => ("LimbRegisters$Roots", "trial", "LLimbRegisters$Natural;", true)
  | 2 => ("LimbRegisters$Roots", "reached", "LLimbRegisters$Natural;", true)
  | _ => ("LimbRegisters$Roots", "product", "LLimbRegisters$Natural;", true)
def tyX4 : Nat → FieldType := fun k => match k with
  | 0 => .object "LimbRegisters$Natural"
  | 1 => .object "LimbRegisters$Natural"
  | 2 => .object "LimbRegisters$Natural"
  | _ => .object "LimbRegisters$Natural"
theorem nmX4 : ∀ a, a < 4 → ∀ b, b < 4 → a ≠ b → (TX4 a).2.1 ≠ (TX4 b).2.1 := by decide +kernel
theorem tyX4_ok : ∀ k, k < 4 → parseFieldDescriptor (TX4 k).2.2.1 = some (tyX4 k) := by decide +kernel
def RX5 : String := "LimbRegisters$Text"
def TX5 : u_T := fun k => match k with
  | 0 => ("LimbRegisters$Text", "codes", "[B", true)
  | _ => ("LimbRegisters$Text", "count", "I", false)
def tyX5 : Nat → FieldType := fun k => match k with
  | 0 => .array .byte
  | _ => .int
theorem nmX5 : ∀ a, a < 2 → ∀ b, b < 2 → a ≠ b → (TX5 a).2.1 ≠ (TX5 b).2.1 := by decide +kernel
theorem tyX5_ok : ∀ k, k < 2 → parseFieldDescriptor (TX5 k).2.2.1 = some (tyX5 k) := by decide +kernel
def RX6 : String := "LimbRegisters$Whole"
def TX6 : u_T := fun k => match k with
  | 0 => ("LimbRegisters$Whole", "size", "LLimbRegisters$Natural;", true)
  | _ => ("LimbRegisters$Whole", "below", "Z", false)
def tyX6 : Nat → FieldType := fun k => match k with
  | 0 => .object "LimbRegisters$Natural"
  | _ => .boolean
theorem nmX6 : ∀ a, a < 2 → ∀ b, b < 2 → a ≠ b → (TX6 a).2.1 ≠ (TX6 b).2.1 := by decide +kernel
theorem tyX6_ok : ∀ k, k < 2 → parseFieldDescriptor (TX6 k).2.2.1 = some (tyX6 k) := by decide +kernel
def RX7 : String := "LimbRegisters"
def TX7 : u_T := fun k => match k with
  | 0 => ("LimbRegisters", "registers", "[LLimbRegisters$Whole;", true)
  | 1 => ("LimbRegisters", "answer", "LLimbRegisters$Whole;", true)
  | 2 => ("LimbRegisters", "text", "LLimbRegisters$Text;", true)
  | 3 => ("LimbRegisters", "division", "LLimbRegisters$Division;", true)
  | 4 => ("LimbRegisters", "roots", "LLimbRegisters$Roots;", true)
  | 5 => ("LimbRegisters", "residues", "LLimbRegisters$Residues;", true)
  | _ => ("LimbRegisters", "euclid", "LLimbRegisters$Euclid;", true)
def tyX7 : Nat → FieldType := fun k => match k with
  | 0 => .array (.object "LimbRegisters$Whole")
  | 1 => .object "LimbRegisters$Whole"
  | 2 => .object "LimbRegisters$Text"
  | 3 => .object "LimbRegisters$Division"
  | 4 => .object "LimbRegisters$Roots"
  | 5 => .object "LimbRegisters$Residues"
  | _ => .object "LimbRegisters$Euclid"
theorem nmX7 : ∀ a, a < 7 → ∀ b, b < 7 → a ≠ b → (TX7 a).2.1 ≠ (TX7 b).2.1 := by decide +kernel
theorem tyX7_ok : ∀ k, k < 7 → parseFieldDescriptor (TX7 k).2.2.1 = some (tyX7 k) := by decide +kernel
def RX8 : String := "LimbRegistersModel"
def TX8 : u_T := fun k => match k with
  | _ => ("", "", "", false)
def tyX8 : Nat → FieldType := fun k => match k with
  | _ => .int
theorem nmX8 : ∀ a, a < 0 → ∀ b, b < 0 → a ≠ b → (TX8 a).2.1 ≠ (TX8 b).2.1 := by decide +kernel
theorem tyX8_ok : ∀ k, k < 0 → parseFieldDescriptor (TX8 k).2.2.1 = some (tyX8 k) := by decide +kernel
def RJ6 : String := "java/lang/Integer"
def TJ6 : u_T := fun k => match k with
  | _ => ("", "", "", false)
def tyJ6 : Nat → FieldType := fun k => match k with
  | _ => .int
theorem nmJ6 : ∀ a, a < 0 → ∀ b, b < 0 → a ≠ b → (TJ6 a).2.1 ≠ (TJ6 b).2.1 := by decide +kernel
theorem tyJ6_ok : ∀ k, k < 0 → parseFieldDescriptor (TJ6 k).2.2.1 = some (tyJ6 k) := by decide +kernel
def RJ13 : String := "java/lang/Long"
def TJ13 : u_T := fun k => match k with
  | _ => ("", "", "", false)
def tyJ13 : Nat → FieldType := fun k => match k with
  | _ => .int
theorem nmJ13 : ∀ a, a < 0 → ∀ b, b < 0 → a ≠ b → (TJ13 a).2.1 ≠ (TJ13 b).2.1 := by decide +kernel
theorem tyJ13_ok : ∀ k, k < 0 → parseFieldDescriptor (TJ13 k).2.2.1 = some (tyJ13 k) := by decide +kernel
def RJ9 : String := "java/lang/Math"
def TJ9 : u_T := fun k => match k with
  | _ => ("", "", "", false)
def tyJ9 : Nat → FieldType := fun k => match k with
  | _ => .int
theorem nmJ9 : ∀ a, a < 0 → ∀ b, b < 0 → a ≠ b → (TJ9 a).2.1 ≠ (TJ9 b).2.1 := by decide +kernel
theorem tyJ9_ok : ∀ k, k < 0 → parseFieldDescriptor (TJ9 k).2.2.1 = some (tyJ9 k) := by decide +kernel
def RJ0 : String := "java/lang/String"
def TJ0 : u_T := fun k => match k with
  | _ => ("", "", "", false)
def tyJ0 : Nat → FieldType := fun k => match k with
  | _ => .int
theorem nmJ0 : ∀ a, a < 0 → ∀ b, b < 0 → a ≠ b → (TJ0 a).2.1 ≠ (TJ0 b).2.1 := by decide +kernel
theorem tyJ0_ok : ∀ k, k < 0 → parseFieldDescriptor (TJ0 k).2.2.1 = some (tyJ0 k) := by decide +kernel
def RL : String := "LimbRegistersLaw"
