/-! constructors, by the kit's rows: what each makes -/
def tycX0 : Nat → FieldType := fun k => match k with
  | _ => .array .int
theorem tycX0_ok : ∀ k, k < 1 → parseFieldDescriptor (TX0 k).2.2.1 = some (tycX0 k) := by decide +kernel
theorem nmcX0 : ∀ a, a < 1 → ∀ b, b < 1 → a ≠ b → (TX0 a).2.1 ≠ (TX0 b).2.1 := by decide +kernel
abbrev bcX0 : ByteArray := prog_2_method_1_code
def ycX0 : MethodName := ⟨"AntLease$House", "<init>", "()V"⟩
theorem dcX0_0 : decode bcX0 0 = .ok (.aload_n 0, 1) := by decide +kernel
theorem dcX0_1 : decode bcX0 1 = .ok (.invokespecial 3, 3) := by decide +kernel
theorem dcX0_4 : decode bcX0 4 = .ok (.aload_n 0, 1) := by decide +kernel
theorem dcX0_5 : decode bcX0 5 = .ok (.bipush 28, 2) := by decide +kernel
theorem dcX0_7 : decode bcX0 7 = .ok (.newarray .int, 2) := by decide +kernel
theorem dcX0_9 : decode bcX0 9 = .ok (.putfield 11, 3) := by decide +kernel
theorem dcX0_12 : decode bcX0 12 = .ok (.return_, 1) := by decide +kernel
def tycX1 : Nat → FieldType := fun k => match k with
  | 0 => .int
  | _ => .int
theorem tycX1_ok : ∀ k, k < 2 → parseFieldDescriptor (TX1 k).2.2.1 = some (tycX1 k) := by decide +kernel
theorem nmcX1 : ∀ a, a < 2 → ∀ b, b < 2 → a ≠ b → (TX1 a).2.1 ≠ (TX1 b).2.1 := by decide +kernel
abbrev bcX1 : ByteArray := prog_3_method_1_code
def ycX1 : MethodName := ⟨"AntLease$Least", "<init>", "()V"⟩
theorem dcX1_0 : decode bcX1 0 = .ok (.aload_n 0, 1) := by decide +kernel
theorem dcX1_1 : decode bcX1 1 = .ok (.invokespecial 3, 3) := by decide +kernel
theorem dcX1_4 : decode bcX1 4 = .ok (.aload_n 0, 1) := by decide +kernel
theorem dcX1_5 : decode bcX1 5 = .ok (.bipush (-9), 2) := by decide +kernel
theorem dcX1_7 : decode bcX1 7 = .ok (.putfield 9, 3) := by decide +kernel
theorem dcX1_10 : decode bcX1 10 = .ok (.aload_n 0, 1) := by decide +kernel
theorem dcX1_11 : decode bcX1 11 = .ok (.bipush (-9), 2) := by decide +kernel
theorem dcX1_13 : decode bcX1 13 = .ok (.putfield 15, 3) := by decide +kernel
theorem dcX1_16 : decode bcX1 16 = .ok (.return_, 1) := by decide +kernel
def tycX2 : Nat → FieldType := fun k => match k with
  | 0 => .array .int
  | 1 => .int
  | _ => .int
theorem tycX2_ok : ∀ k, k < 3 → parseFieldDescriptor (TX2 k).2.2.1 = some (tycX2 k) := by decide +kernel
theorem nmcX2 : ∀ a, a < 3 → ∀ b, b < 3 → a ≠ b → (TX2 a).2.1 ≠ (TX2 b).2.1 := by decide +kernel
abbrev bcX2 : ByteArray := prog_4_method_1_code
def ycX2 : MethodName := ⟨"AntLease$Past", "<init>", "()V"⟩
theorem dcX2_0 : decode bcX2 0 = .ok (.aload_n 0, 1) := by decide +kernel
theorem dcX2_1 : decode bcX2 1 = .ok (.invokespecial 5, 3) := by decide +kernel
theorem dcX2_4 : decode bcX2 4 = .ok (.aload_n 0, 1) := by decide +kernel
theorem dcX2_5 : decode bcX2 5 = .ok (.sipush 420, 3) := by decide +kernel
theorem dcX2_8 : decode bcX2 8 = .ok (.newarray .int, 2) := by decide +kernel
theorem dcX2_10 : decode bcX2 10 = .ok (.putfield 13, 3) := by decide +kernel
theorem dcX2_13 : decode bcX2 13 = .ok (.aload_n 0, 1) := by decide +kernel
theorem dcX2_14 : decode bcX2 14 = .ok (.iconst 0, 1) := by decide +kernel
theorem dcX2_15 : decode bcX2 15 = .ok (.putfield 17, 3) := by decide +kernel
theorem dcX2_18 : decode bcX2 18 = .ok (.aload_n 0, 1) := by decide +kernel
theorem dcX2_19 : decode bcX2 19 = .ok (.iconst 0, 1) := by decide +kernel
theorem dcX2_20 : decode bcX2 20 = .ok (.putfield 21, 3) := by decide +kernel
theorem dcX2_23 : decode bcX2 23 = .ok (.return_, 1) := by decide +kernel
def tycX4 : Nat → FieldType := fun k => match k with
  | 0 => .int
  | 1 => .int
  | _ => .int
theorem tycX4_ok : ∀ k, k < 3 → parseFieldDescriptor (TX4 k).2.2.1 = some (tycX4 k) := by decide +kernel
theorem nmcX4 : ∀ a, a < 3 → ∀ b, b < 3 → a ≠ b → (TX4 a).2.1 ≠ (TX4 b).2.1 := by decide +kernel
abbrev bcX4 : ByteArray := prog_6_method_1_code
def ycX4 : MethodName := ⟨"AntLease$Said", "<init>", "()V"⟩
theorem dcX4_0 : decode bcX4 0 = .ok (.aload_n 0, 1) := by decide +kernel
theorem dcX4_1 : decode bcX4 1 = .ok (.invokespecial 3, 3) := by decide +kernel
theorem dcX4_4 : decode bcX4 4 = .ok (.aload_n 0, 1) := by decide +kernel
theorem dcX4_5 : decode bcX4 5 = .ok (.iconst 0, 1) := by decide +kernel
theorem dcX4_6 : decode bcX4 6 = .ok (.putfield 9, 3) := by decide +kernel
theorem dcX4_9 : decode bcX4 9 = .ok (.aload_n 0, 1) := by decide +kernel
theorem dcX4_10 : decode bcX4 10 = .ok (.iconst 0, 1) := by decide +kernel
theorem dcX4_11 : decode bcX4 11 = .ok (.putfield 15, 3) := by decide +kernel
theorem dcX4_14 : decode bcX4 14 = .ok (.aload_n 0, 1) := by decide +kernel
theorem dcX4_15 : decode bcX4 15 = .ok (.iconst 0, 1) := by decide +kernel
theorem dcX4_16 : decode bcX4 16 = .ok (.putfield 18, 3) := by decide +kernel
theorem dcX4_19 : decode bcX4 19 = .ok (.return_, 1) := by decide +kernel
def tycX5 : Nat → FieldType := fun k => match k with
  | 0 => .array .int
  | _ => .int
theorem tycX5_ok : ∀ k, k < 2 → parseFieldDescriptor (TX5 k).2.2.1 = some (tycX5 k) := by decide +kernel
theorem nmcX5 : ∀ a, a < 2 → ∀ b, b < 2 → a ≠ b → (TX5 a).2.1 ≠ (TX5 b).2.1 := by decide +kernel
abbrev bcX5 : ByteArray := prog_7_method_1_code
def ycX5 : MethodName := ⟨"AntLease$Slots", "<init>", "()V"⟩
theorem dcX5_0 : decode bcX5 0 = .ok (.aload_n 0, 1) := by decide +kernel
theorem dcX5_1 : decode bcX5 1 = .ok (.invokespecial 3, 3) := by decide +kernel
theorem dcX5_4 : decode bcX5 4 = .ok (.aload_n 0, 1) := by decide +kernel
theorem dcX5_5 : decode bcX5 5 = .ok (.bipush 56, 2) := by decide +kernel
theorem dcX5_7 : decode bcX5 7 = .ok (.newarray .int, 2) := by decide +kernel
theorem dcX5_9 : decode bcX5 9 = .ok (.putfield 13, 3) := by decide +kernel
theorem dcX5_12 : decode bcX5 12 = .ok (.aload_n 0, 1) := by decide +kernel
theorem dcX5_13 : decode bcX5 13 = .ok (.iconst 0, 1) := by decide +kernel
theorem dcX5_14 : decode bcX5 14 = .ok (.putfield 17, 3) := by decide +kernel
theorem dcX5_17 : decode bcX5 17 = .ok (.return_, 1) := by decide +kernel
def tycX6 : Nat → FieldType := fun k => match k with
  | 0 => .array .int
  | _ => .int
theorem tycX6_ok : ∀ k, k < 2 → parseFieldDescriptor (TX6 k).2.2.1 = some (tycX6 k) := by decide +kernel
theorem nmcX6 : ∀ a, a < 2 → ∀ b, b < 2 → a ≠ b → (TX6 a).2.1 ≠ (TX6 b).2.1 := by decide +kernel
abbrev bcX6 : ByteArray := prog_8_method_1_code
def ycX6 : MethodName := ⟨"AntLease$Text", "<init>", "()V"⟩
theorem dcX6_0 : decode bcX6 0 = .ok (.aload_n 0, 1) := by decide +kernel
theorem dcX6_1 : decode bcX6 1 = .ok (.invokespecial 3, 3) := by decide +kernel
theorem dcX6_4 : decode bcX6 4 = .ok (.aload_n 0, 1) := by decide +kernel
theorem dcX6_5 : decode bcX6 5 = .ok (.bipush 48, 2) := by decide +kernel
theorem dcX6_7 : decode bcX6 7 = .ok (.newarray .int, 2) := by decide +kernel
theorem dcX6_9 : decode bcX6 9 = .ok (.putfield 11, 3) := by decide +kernel
theorem dcX6_12 : decode bcX6 12 = .ok (.aload_n 0, 1) := by decide +kernel
theorem dcX6_13 : decode bcX6 13 = .ok (.iconst 0, 1) := by decide +kernel
theorem dcX6_14 : decode bcX6 14 = .ok (.putfield 15, 3) := by decide +kernel
theorem dcX6_17 : decode bcX6 17 = .ok (.return_, 1) := by decide +kernel
def tycX7 : Nat → FieldType := fun k => match k with
  | 0 => .object "AntLease$Text"
  | 1 => .object "AntLease$House"
  | 2 => .object "AntLease$House"
  | 3 => .object "AntLease$Past"
  | 4 => .object "AntLease$Slots"
  | 5 => .object "AntLease$Said"
  | 6 => .object "AntLease$Least"
  | 7 => .array .int
  | 8 => .array .int
  | _ => .long
theorem tycX7_ok : ∀ k, k < 10 → parseFieldDescriptor (TX7 k).2.2.1 = some (tycX7 k) := by decide +kernel
theorem nmcX7 : ∀ a, a < 10 → ∀ b, b < 10 → a ≠ b → (TX7 a).2.1 ≠ (TX7 b).2.1 := by decide +kernel
abbrev bcX7 : ByteArray := prog_1_method_1_code
def ycX7 : MethodName := ⟨"AntLease", "<init>", "()V"⟩
theorem dcX7_0 : decode bcX7 0 = .ok (.aload_n 0, 1) := by decide +kernel
theorem dcX7_1 : decode bcX7 1 = .ok (.invokespecial 1, 3) := by decide +kernel
theorem dcX7_4 : decode bcX7 4 = .ok (.aload_n 0, 1) := by decide +kernel
theorem dcX7_5 : decode bcX7 5 = .ok (.new 7, 3) := by decide +kernel
theorem dcX7_8 : decode bcX7 8 = .ok (.dup, 1) := by decide +kernel
theorem dcX7_9 : decode bcX7 9 = .ok (.invokespecial 9, 3) := by decide +kernel
theorem dcX7_12 : decode bcX7 12 = .ok (.putfield 10, 3) := by decide +kernel
theorem dcX7_15 : decode bcX7 15 = .ok (.aload_n 0, 1) := by decide +kernel
theorem dcX7_16 : decode bcX7 16 = .ok (.new 16, 3) := by decide +kernel
theorem dcX7_19 : decode bcX7 19 = .ok (.dup, 1) := by decide +kernel
theorem dcX7_20 : decode bcX7 20 = .ok (.invokespecial 18, 3) := by decide +kernel
theorem dcX7_23 : decode bcX7 23 = .ok (.putfield 19, 3) := by decide +kernel
theorem dcX7_26 : decode bcX7 26 = .ok (.aload_n 0, 1) := by decide +kernel
theorem dcX7_27 : decode bcX7 27 = .ok (.new 16, 3) := by decide +kernel
theorem dcX7_30 : decode bcX7 30 = .ok (.dup, 1) := by decide +kernel
theorem dcX7_31 : decode bcX7 31 = .ok (.invokespecial 18, 3) := by decide +kernel
theorem dcX7_34 : decode bcX7 34 = .ok (.putfield 23, 3) := by decide +kernel
theorem dcX7_37 : decode bcX7 37 = .ok (.aload_n 0, 1) := by decide +kernel
theorem dcX7_38 : decode bcX7 38 = .ok (.new 26, 3) := by decide +kernel
theorem dcX7_41 : decode bcX7 41 = .ok (.dup, 1) := by decide +kernel
theorem dcX7_42 : decode bcX7 42 = .ok (.invokespecial 28, 3) := by decide +kernel
theorem dcX7_45 : decode bcX7 45 = .ok (.putfield 29, 3) := by decide +kernel
theorem dcX7_48 : decode bcX7 48 = .ok (.aload_n 0, 1) := by decide +kernel
theorem dcX7_49 : decode bcX7 49 = .ok (.new 33, 3) := by decide +kernel
theorem dcX7_52 : decode bcX7 52 = .ok (.dup, 1) := by decide +kernel
theorem dcX7_53 : decode bcX7 53 = .ok (.invokespecial 35, 3) := by decide +kernel
theorem dcX7_56 : decode bcX7 56 = .ok (.putfield 36, 3) := by decide +kernel
theorem dcX7_59 : decode bcX7 59 = .ok (.aload_n 0, 1) := by decide +kernel
theorem dcX7_60 : decode bcX7 60 = .ok (.new 40, 3) := by decide +kernel
theorem dcX7_63 : decode bcX7 63 = .ok (.dup, 1) := by decide +kernel
theorem dcX7_64 : decode bcX7 64 = .ok (.invokespecial 42, 3) := by decide +kernel
theorem dcX7_67 : decode bcX7 67 = .ok (.putfield 43, 3) := by decide +kernel
theorem dcX7_70 : decode bcX7 70 = .ok (.aload_n 0, 1) := by decide +kernel
theorem dcX7_71 : decode bcX7 71 = .ok (.new 47, 3) := by decide +kernel
theorem dcX7_74 : decode bcX7 74 = .ok (.dup, 1) := by decide +kernel
theorem dcX7_75 : decode bcX7 75 = .ok (.invokespecial 49, 3) := by decide +kernel
theorem dcX7_78 : decode bcX7 78 = .ok (.putfield 50, 3) := by decide +kernel
theorem dcX7_81 : decode bcX7 81 = .ok (.aload_n 0, 1) := by decide +kernel
theorem dcX7_82 : decode bcX7 82 = .ok (.iconst 4, 1) := by decide +kernel
theorem dcX7_83 : decode bcX7 83 = .ok (.newarray .int, 2) := by decide +kernel
theorem dcX7_85 : decode bcX7 85 = .ok (.putfield 54, 3) := by decide +kernel
theorem dcX7_88 : decode bcX7 88 = .ok (.aload_n 0, 1) := by decide +kernel
theorem dcX7_89 : decode bcX7 89 = .ok (.bipush 6, 2) := by decide +kernel
theorem dcX7_91 : decode bcX7 91 = .ok (.newarray .int, 2) := by decide +kernel
theorem dcX7_93 : decode bcX7 93 = .ok (.putfield 58, 3) := by decide +kernel
theorem dcX7_96 : decode bcX7 96 = .ok (.aload_n 0, 1) := by decide +kernel
theorem dcX7_97 : decode bcX7 97 = .ok (.lconst 0, 1) := by decide +kernel
theorem dcX7_98 : decode bcX7 98 = .ok (.putfield 61, 3) := by decide +kernel
theorem dcX7_101 : decode bcX7 101 = .ok (.return_, 1) := by decide +kernel
def tycX8 : Nat → FieldType := fun k => match k with
  | 0 => .int
  | 1 => .array .int
  | 2 => .int
  | 3 => .int
  | 4 => .int
  | 5 => .int
  | 6 => .array .int
  | 7 => .int
  | 8 => .int
  | 9 => .int
  | 10 => .int
  | 11 => .array .int
  | 12 => .int
  | 13 => .array .int
  | 14 => .array .int
  | 15 => .array .int
  | 16 => .array .int
  | 17 => .int
  | 18 => .array .int
  | 19 => .array .boolean
  | 20 => .int
  | 21 => .array .int
  | 22 => .array .int
  | 23 => .long
  | 24 => .int
  | 25 => .int
  | 26 => .int
  | 27 => .int
  | 28 => .int
  | 29 => .int
  | 30 => .array .int
  | _ => .array .int
theorem tycX8_ok : ∀ k, k < 32 → parseFieldDescriptor (TX8 k).2.2.1 = some (tycX8 k) := by decide +kernel
theorem nmcX8 : ∀ a, a < 32 → ∀ b, b < 32 → a ≠ b → (TX8 a).2.1 ≠ (TX8 b).2.1 := by decide +kernel
abbrev bcX8 : ByteArray := prog_10_method_1_code
def ycX8 : MethodName := ⟨"AntLeaseModel", "<init>", "()V"⟩
theorem dcX8_0 : decode bcX8 0 = .ok (.aload_n 0, 1) := by decide +kernel
theorem dcX8_1 : decode bcX8 1 = .ok (.invokespecial 1, 3) := by decide +kernel
theorem dcX8_4 : decode bcX8 4 = .ok (.aload_n 0, 1) := by decide +kernel
theorem dcX8_5 : decode bcX8 5 = .ok (.bipush 48, 2) := by decide +kernel
theorem dcX8_7 : decode bcX8 7 = .ok (.newarray .int, 2) := by decide +kernel
theorem dcX8_9 : decode bcX8 9 = .ok (.putfield 7, 3) := by decide +kernel
theorem dcX8_12 : decode bcX8 12 = .ok (.aload_n 0, 1) := by decide +kernel
theorem dcX8_13 : decode bcX8 13 = .ok (.iconst 4, 1) := by decide +kernel
theorem dcX8_14 : decode bcX8 14 = .ok (.newarray .int, 2) := by decide +kernel
theorem dcX8_16 : decode bcX8 16 = .ok (.putfield 13, 3) := by decide +kernel
theorem dcX8_19 : decode bcX8 19 = .ok (.aload_n 0, 1) := by decide +kernel
theorem dcX8_20 : decode bcX8 20 = .ok (.bipush 8, 2) := by decide +kernel
theorem dcX8_22 : decode bcX8 22 = .ok (.newarray .int, 2) := by decide +kernel
theorem dcX8_24 : decode bcX8 24 = .ok (.putfield 16, 3) := by decide +kernel
theorem dcX8_27 : decode bcX8 27 = .ok (.aload_n 0, 1) := by decide +kernel
theorem dcX8_28 : decode bcX8 28 = .ok (.iconst 5, 1) := by decide +kernel
theorem dcX8_29 : decode bcX8 29 = .ok (.newarray .int, 2) := by decide +kernel
theorem dcX8_31 : decode bcX8 31 = .ok (.putfield 19, 3) := by decide +kernel
theorem dcX8_34 : decode bcX8 34 = .ok (.aload_n 0, 1) := by decide +kernel
theorem dcX8_35 : decode bcX8 35 = .ok (.bipush 21, 2) := by decide +kernel
theorem dcX8_37 : decode bcX8 37 = .ok (.newarray .int, 2) := by decide +kernel
theorem dcX8_39 : decode bcX8 39 = .ok (.putfield 22, 3) := by decide +kernel
theorem dcX8_42 : decode bcX8 42 = .ok (.aload_n 0, 1) := by decide +kernel
theorem dcX8_43 : decode bcX8 43 = .ok (.bipush 21, 2) := by decide +kernel
theorem dcX8_45 : decode bcX8 45 = .ok (.newarray .int, 2) := by decide +kernel
theorem dcX8_47 : decode bcX8 47 = .ok (.putfield 25, 3) := by decide +kernel
theorem dcX8_50 : decode bcX8 50 = .ok (.aload_n 0, 1) := by decide +kernel
theorem dcX8_51 : decode bcX8 51 = .ok (.sipush 294, 3) := by decide +kernel
theorem dcX8_54 : decode bcX8 54 = .ok (.newarray .int, 2) := by decide +kernel
theorem dcX8_56 : decode bcX8 56 = .ok (.putfield 28, 3) := by decide +kernel
theorem dcX8_59 : decode bcX8 59 = .ok (.aload_n 0, 1) := by decide +kernel
theorem dcX8_60 : decode bcX8 60 = .ok (.bipush 42, 2) := by decide +kernel
theorem dcX8_62 : decode bcX8 62 = .ok (.newarray .int, 2) := by decide +kernel
theorem dcX8_64 : decode bcX8 64 = .ok (.putfield 31, 3) := by decide +kernel
theorem dcX8_67 : decode bcX8 67 = .ok (.aload_n 0, 1) := by decide +kernel
theorem dcX8_68 : decode bcX8 68 = .ok (.iconst 2, 1) := by decide +kernel
theorem dcX8_69 : decode bcX8 69 = .ok (.newarray .boolean, 2) := by decide +kernel
theorem dcX8_71 : decode bcX8 71 = .ok (.putfield 34, 3) := by decide +kernel
theorem dcX8_74 : decode bcX8 74 = .ok (.aload_n 0, 1) := by decide +kernel
theorem dcX8_75 : decode bcX8 75 = .ok (.bipush 6, 2) := by decide +kernel
theorem dcX8_77 : decode bcX8 77 = .ok (.newarray .int, 2) := by decide +kernel
theorem dcX8_79 : decode bcX8 79 = .ok (.putfield 38, 3) := by decide +kernel
theorem dcX8_82 : decode bcX8 82 = .ok (.aload_n 0, 1) := by decide +kernel
theorem dcX8_83 : decode bcX8 83 = .ok (.bipush 6, 2) := by decide +kernel
theorem dcX8_85 : decode bcX8 85 = .ok (.newarray .int, 2) := by decide +kernel
theorem dcX8_87 : decode bcX8 87 = .ok (.putfield 41, 3) := by decide +kernel
theorem dcX8_90 : decode bcX8 90 = .ok (.aload_n 0, 1) := by decide +kernel
theorem dcX8_91 : decode bcX8 91 = .ok (.bipush 18, 2) := by decide +kernel
theorem dcX8_93 : decode bcX8 93 = .ok (.newarray .int, 2) := by decide +kernel
theorem dcX8_95 : decode bcX8 95 = .ok (.putfield 44, 3) := by decide +kernel
theorem dcX8_98 : decode bcX8 98 = .ok (.aload_n 0, 1) := by decide +kernel
theorem dcX8_99 : decode bcX8 99 = .ok (.bipush 16, 2) := by decide +kernel
theorem dcX8_101 : decode bcX8 101 = .ok (.newarray .int, 2) := by decide +kernel
theorem dcX8_103 : decode bcX8 103 = .ok (.putfield 47, 3) := by decide +kernel
theorem dcX8_106 : decode bcX8 106 = .ok (.return_, 1) := by decide +kernel
def tbC : List Cond := [(Jvm.Cond.laysFinal "AntLease$House" "AntLease$House" "cells" "[I"),
  (Jvm.Cond.lays "AntLease$Least" "AntLease$Least" "grains" "I"),
  (Jvm.Cond.lays "AntLease$Least" "AntLease$Least" "figures" "I"),
  (Jvm.Cond.laysFinal "AntLease$Past" "AntLease$Past" "rows" "[I"),
  (Jvm.Cond.lays "AntLease$Past" "AntLease$Past" "first" "I"),
  (Jvm.Cond.lays "AntLease$Past" "AntLease$Past" "size" "I"),
  (Jvm.Cond.lays "AntLease$Said" "AntLease$Said" "size" "I"),
  (Jvm.Cond.lays "AntLease$Said" "AntLease$Said" "knew" "I"),
  (Jvm.Cond.lays "AntLease$Said" "AntLease$Said" "knewNot" "I"),
  (Jvm.Cond.laysFinal "AntLease$Slots" "AntLease$Slots" "rows" "[I"),
  (Jvm.Cond.lays "AntLease$Slots" "AntLease$Slots" "taken" "I"),
  (Jvm.Cond.laysFinal "AntLease$Text" "AntLease$Text" "bytes" "[I"),
  (Jvm.Cond.lays "AntLease$Text" "AntLease$Text" "length" "I"),
  (Jvm.Cond.laysFinal "AntLease" "AntLease" "text" "LAntLease$Text;"),
  (Jvm.Cond.laysFinal "AntLease" "AntLease" "now" "LAntLease$House;"),
  (Jvm.Cond.laysFinal "AntLease" "AntLease" "trial" "LAntLease$House;"),
  (Jvm.Cond.laysFinal "AntLease" "AntLease" "past" "LAntLease$Past;"),
  (Jvm.Cond.laysFinal "AntLease" "AntLease" "slots" "LAntLease$Slots;"),
  (Jvm.Cond.laysFinal "AntLease" "AntLease" "said" "LAntLease$Said;"),
  (Jvm.Cond.laysFinal "AntLease" "AntLease" "fewest" "LAntLease$Least;"),
  (Jvm.Cond.laysFinal "AntLease" "AntLease" "doings" "[I"),
  (Jvm.Cond.laysFinal "AntLease" "AntLease" "chances" "[I"),
  (Jvm.Cond.lays "AntLease" "AntLease" "theSeed" "J"),
  (Jvm.Cond.lays "AntLeaseModel" "AntLeaseModel" "thrown" "I"),
  (Jvm.Cond.laysFinal "AntLeaseModel" "AntLeaseModel" "text" "[I"),
  (Jvm.Cond.lays "AntLeaseModel" "AntLeaseModel" "textSize" "I"),
  (Jvm.Cond.lays "AntLeaseModel" "AntLeaseModel" "place" "I"),
  (Jvm.Cond.lays "AntLeaseModel" "AntLeaseModel" "skirting" "I"),
  (Jvm.Cond.lays "AntLeaseModel" "AntLeaseModel" "foods" "I"),
  (Jvm.Cond.laysFinal "AntLeaseModel" "AntLeaseModel" "kind" "[I"),
  (Jvm.Cond.lays "AntLeaseModel" "AntLeaseModel" "things" "I"),
  (Jvm.Cond.lays "AntLeaseModel" "AntLeaseModel" "readSkirting" "I"),
  (Jvm.Cond.lays "AntLeaseModel" "AntLeaseModel" "readWill" "I"),
  (Jvm.Cond.lays "AntLeaseModel" "AntLeaseModel" "readFoods" "I"),
  (Jvm.Cond.laysFinal "AntLeaseModel" "AntLeaseModel" "readFood" "[I"),
  (Jvm.Cond.lays "AntLeaseModel" "AntLeaseModel" "readThings" "I"),
  (Jvm.Cond.laysFinal "AntLeaseModel" "AntLeaseModel" "readAt" "[I"),
  (Jvm.Cond.laysFinal "AntLeaseModel" "AntLeaseModel" "page" "[I"),
  (Jvm.Cond.laysFinal "AntLeaseModel" "AntLeaseModel" "trial" "[I"),
  (Jvm.Cond.laysFinal "AntLeaseModel" "AntLeaseModel" "book" "[I"),
  (Jvm.Cond.lays "AntLeaseModel" "AntLeaseModel" "acts" "I"),
  (Jvm.Cond.laysFinal "AntLeaseModel" "AntLeaseModel" "kept" "[I"),
  (Jvm.Cond.laysFinal "AntLeaseModel" "AntLeaseModel" "isKept" "[Z"),
  (Jvm.Cond.lays "AntLeaseModel" "AntLeaseModel" "said" "I"),
  (Jvm.Cond.laysFinal "AntLeaseModel" "AntLeaseModel" "saidAt" "[I"),
  (Jvm.Cond.laysFinal "AntLeaseModel" "AntLeaseModel" "saidIs" "[I"),
  (Jvm.Cond.lays "AntLeaseModel" "AntLeaseModel" "seed" "J"),
  (Jvm.Cond.lays "AntLeaseModel" "AntLeaseModel" "leastMany" "I"),
  (Jvm.Cond.lays "AntLeaseModel" "AntLeaseModel" "leastWay" "I"),
  (Jvm.Cond.lays "AntLeaseModel" "AntLeaseModel" "lineMany" "I"),
  (Jvm.Cond.lays "AntLeaseModel" "AntLeaseModel" "lineFirst" "I"),
  (Jvm.Cond.lays "AntLeaseModel" "AntLeaseModel" "restMany" "I"),
  (Jvm.Cond.lays "AntLeaseModel" "AntLeaseModel" "restFirst" "I"),
  (Jvm.Cond.laysFinal "AntLeaseModel" "AntLeaseModel" "gains" "[I"),
  (Jvm.Cond.laysFinal "AntLeaseModel" "AntLeaseModel" "value" "[I"),
  (Jvm.Cond.code ({ cls := "AntLease$House", name := "<init>", desc := "()V" } : Jvm.MethodName) prog_2_method_1_code (1 : Nat) (Option.none : Option Jvm.ClassFile.FieldType)),
  (Jvm.Cond.instanceMethod ({ cls := "AntLease$House", name := "<init>", desc := "()V" } : Jvm.MethodName)),
  (Jvm.Cond.initialized "AntLease$House"),
  (Jvm.Cond.instantiable "AntLease$House" (1 : Nat)),
  (Jvm.Cond.code ({ cls := "AntLease$Least", name := "<init>", desc := "()V" } : Jvm.MethodName) prog_3_method_1_code (1 : Nat) (Option.none : Option Jvm.ClassFile.FieldType)),
  (Jvm.Cond.instanceMethod ({ cls := "AntLease$Least", name := "<init>", desc := "()V" } : Jvm.MethodName)),
  (Jvm.Cond.initialized "AntLease$Least"),
  (Jvm.Cond.instantiable "AntLease$Least" (2 : Nat)),
  (Jvm.Cond.code ({ cls := "AntLease$Past", name := "<init>", desc := "()V" } : Jvm.MethodName) prog_4_method_1_code (1 : Nat) (Option.none : Option Jvm.ClassFile.FieldType)),
  (Jvm.Cond.instanceMethod ({ cls := "AntLease$Past", name := "<init>", desc := "()V" } : Jvm.MethodName)),
  (Jvm.Cond.initialized "AntLease$Past"),
  (Jvm.Cond.instantiable "AntLease$Past" (3 : Nat)),
  (Jvm.Cond.code ({ cls := "AntLease$Said", name := "<init>", desc := "()V" } : Jvm.MethodName) prog_6_method_1_code (1 : Nat) (Option.none : Option Jvm.ClassFile.FieldType)),
  (Jvm.Cond.instanceMethod ({ cls := "AntLease$Said", name := "<init>", desc := "()V" } : Jvm.MethodName)),
  (Jvm.Cond.initialized "AntLease$Said"),
  (Jvm.Cond.instantiable "AntLease$Said" (3 : Nat)),
  (Jvm.Cond.code ({ cls := "AntLease$Slots", name := "<init>", desc := "()V" } : Jvm.MethodName) prog_7_method_1_code (1 : Nat) (Option.none : Option Jvm.ClassFile.FieldType)),
  (Jvm.Cond.instanceMethod ({ cls := "AntLease$Slots", name := "<init>", desc := "()V" } : Jvm.MethodName)),
  (Jvm.Cond.initialized "AntLease$Slots"),
  (Jvm.Cond.instantiable "AntLease$Slots" (2 : Nat)),
  (Jvm.Cond.code ({ cls := "AntLease$Text", name := "<init>", desc := "()V" } : Jvm.MethodName) prog_8_method_1_code (1 : Nat) (Option.none : Option Jvm.ClassFile.FieldType)),
  (Jvm.Cond.instanceMethod ({ cls := "AntLease$Text", name := "<init>", desc := "()V" } : Jvm.MethodName)),
  (Jvm.Cond.initialized "AntLease$Text"),
  (Jvm.Cond.instantiable "AntLease$Text" (2 : Nat)),
  (Jvm.Cond.code ({ cls := "AntLease", name := "<init>", desc := "()V" } : Jvm.MethodName) prog_1_method_1_code (1 : Nat) (Option.none : Option Jvm.ClassFile.FieldType)),
  (Jvm.Cond.instanceMethod ({ cls := "AntLease", name := "<init>", desc := "()V" } : Jvm.MethodName)),
  (Jvm.Cond.initialized "AntLease"),
  (Jvm.Cond.instantiable "AntLease" (10 : Nat)),
  (Jvm.Cond.code ({ cls := "AntLeaseModel", name := "<init>", desc := "()V" } : Jvm.MethodName) prog_10_method_1_code (1 : Nat) (Option.none : Option Jvm.ClassFile.FieldType)),
  (Jvm.Cond.instanceMethod ({ cls := "AntLeaseModel", name := "<init>", desc := "()V" } : Jvm.MethodName)),
  (Jvm.Cond.initialized "AntLeaseModel"),
  (Jvm.Cond.instantiable "AntLeaseModel" (32 : Nat)),
  (Jvm.Cond.methodLink "AntLease$House" (3 : Nat) ({ cls := "java/lang/Object", name := "<init>", desc := "()V" } : Jvm.MethodName)),
  (Jvm.Cond.instanceMethod ({ cls := "java/lang/Object", name := "<init>", desc := "()V" } : Jvm.MethodName)),
  (Jvm.Cond.code ({ cls := "java/lang/Object", name := "<init>", desc := "()V" } : Jvm.MethodName) object_method_1_code (1 : Nat) (Option.none : Option Jvm.ClassFile.FieldType)),
  (Jvm.Cond.arrayClass Jvm.ClassFile.FieldType.int),
  (Jvm.Cond.fieldLink "AntLease$House" (11 : Nat) "AntLease$House" "cells" "[I"),
  (Jvm.Cond.methodLink "AntLease$Least" (3 : Nat) ({ cls := "java/lang/Object", name := "<init>", desc := "()V" } : Jvm.MethodName)),
  (Jvm.Cond.fieldLink "AntLease$Least" (9 : Nat) "AntLease$Least" "grains" "I"),
  (Jvm.Cond.fieldLink "AntLease$Least" (15 : Nat) "AntLease$Least" "figures" "I"),
  (Jvm.Cond.methodLink "AntLease$Past" (5 : Nat) ({ cls := "java/lang/Object", name := "<init>", desc := "()V" } : Jvm.MethodName)),
  (Jvm.Cond.fieldLink "AntLease$Past" (13 : Nat) "AntLease$Past" "rows" "[I"),
  (Jvm.Cond.fieldLink "AntLease$Past" (17 : Nat) "AntLease$Past" "first" "I"),
  (Jvm.Cond.fieldLink "AntLease$Past" (21 : Nat) "AntLease$Past" "size" "I"),
  (Jvm.Cond.methodLink "AntLease$Said" (3 : Nat) ({ cls := "java/lang/Object", name := "<init>", desc := "()V" } : Jvm.MethodName)),
  (Jvm.Cond.fieldLink "AntLease$Said" (9 : Nat) "AntLease$Said" "size" "I"),
  (Jvm.Cond.fieldLink "AntLease$Said" (15 : Nat) "AntLease$Said" "knew" "I"),
  (Jvm.Cond.fieldLink "AntLease$Said" (18 : Nat) "AntLease$Said" "knewNot" "I"),
  (Jvm.Cond.methodLink "AntLease$Slots" (3 : Nat) ({ cls := "java/lang/Object", name := "<init>", desc := "()V" } : Jvm.MethodName)),
  (Jvm.Cond.fieldLink "AntLease$Slots" (13 : Nat) "AntLease$Slots" "rows" "[I"),
  (Jvm.Cond.fieldLink "AntLease$Slots" (17 : Nat) "AntLease$Slots" "taken" "I"),
  (Jvm.Cond.methodLink "AntLease$Text" (3 : Nat) ({ cls := "java/lang/Object", name := "<init>", desc := "()V" } : Jvm.MethodName)),
  (Jvm.Cond.fieldLink "AntLease$Text" (11 : Nat) "AntLease$Text" "bytes" "[I"),
  (Jvm.Cond.fieldLink "AntLease$Text" (15 : Nat) "AntLease$Text" "length" "I"),
  (Jvm.Cond.methodLink "AntLease" (1 : Nat) ({ cls := "java/lang/Object", name := "<init>", desc := "()V" } : Jvm.MethodName)),
  (Jvm.Cond.classLink "AntLease" (7 : Nat) "AntLease$Text"),
  (Jvm.Cond.methodLink "AntLease" (9 : Nat) ({ cls := "AntLease$Text", name := "<init>", desc := "()V" } : Jvm.MethodName)),
  (Jvm.Cond.fieldLink "AntLease" (10 : Nat) "AntLease" "text" "LAntLease$Text;"),
  (Jvm.Cond.classLink "AntLease" (16 : Nat) "AntLease$House"),
  (Jvm.Cond.methodLink "AntLease" (18 : Nat) ({ cls := "AntLease$House", name := "<init>", desc := "()V" } : Jvm.MethodName)),
  (Jvm.Cond.fieldLink "AntLease" (19 : Nat) "AntLease" "now" "LAntLease$House;"),
  (Jvm.Cond.fieldLink "AntLease" (23 : Nat) "AntLease" "trial" "LAntLease$House;"),
  (Jvm.Cond.classLink "AntLease" (26 : Nat) "AntLease$Past"),
  (Jvm.Cond.methodLink "AntLease" (28 : Nat) ({ cls := "AntLease$Past", name := "<init>", desc := "()V" } : Jvm.MethodName)),
  (Jvm.Cond.fieldLink "AntLease" (29 : Nat) "AntLease" "past" "LAntLease$Past;"),
  (Jvm.Cond.classLink "AntLease" (33 : Nat) "AntLease$Slots"),
  (Jvm.Cond.methodLink "AntLease" (35 : Nat) ({ cls := "AntLease$Slots", name := "<init>", desc := "()V" } : Jvm.MethodName)),
  (Jvm.Cond.fieldLink "AntLease" (36 : Nat) "AntLease" "slots" "LAntLease$Slots;"),
  (Jvm.Cond.classLink "AntLease" (40 : Nat) "AntLease$Said"),
  (Jvm.Cond.methodLink "AntLease" (42 : Nat) ({ cls := "AntLease$Said", name := "<init>", desc := "()V" } : Jvm.MethodName)),
  (Jvm.Cond.fieldLink "AntLease" (43 : Nat) "AntLease" "said" "LAntLease$Said;"),
  (Jvm.Cond.classLink "AntLease" (47 : Nat) "AntLease$Least"),
  (Jvm.Cond.methodLink "AntLease" (49 : Nat) ({ cls := "AntLease$Least", name := "<init>", desc := "()V" } : Jvm.MethodName)),
  (Jvm.Cond.fieldLink "AntLease" (50 : Nat) "AntLease" "fewest" "LAntLease$Least;"),
  (Jvm.Cond.fieldLink "AntLease" (54 : Nat) "AntLease" "doings" "[I"),
  (Jvm.Cond.fieldLink "AntLease" (58 : Nat) "AntLease" "chances" "[I"),
  (Jvm.Cond.fieldLink "AntLease" (61 : Nat) "AntLease" "theSeed" "J"),
  (Jvm.Cond.methodLink "AntLeaseModel" (1 : Nat) ({ cls := "java/lang/Object", name := "<init>", desc := "()V" } : Jvm.MethodName)),
  (Jvm.Cond.fieldLink "AntLeaseModel" (7 : Nat) "AntLeaseModel" "text" "[I"),
  (Jvm.Cond.fieldLink "AntLeaseModel" (13 : Nat) "AntLeaseModel" "kind" "[I"),
  (Jvm.Cond.fieldLink "AntLeaseModel" (16 : Nat) "AntLeaseModel" "readFood" "[I"),
  (Jvm.Cond.fieldLink "AntLeaseModel" (19 : Nat) "AntLeaseModel" "readAt" "[I"),
  (Jvm.Cond.fieldLink "AntLeaseModel" (22 : Nat) "AntLeaseModel" "page" "[I"),
  (Jvm.Cond.fieldLink "AntLeaseModel" (25 : Nat) "AntLeaseModel" "trial" "[I"),
  (Jvm.Cond.fieldLink "AntLeaseModel" (28 : Nat) "AntLeaseModel" "book" "[I"),
  (Jvm.Cond.fieldLink "AntLeaseModel" (31 : Nat) "AntLeaseModel" "kept" "[I"),
  (Jvm.Cond.arrayClass Jvm.ClassFile.FieldType.boolean),
  (Jvm.Cond.fieldLink "AntLeaseModel" (34 : Nat) "AntLeaseModel" "isKept" "[Z"),
  (Jvm.Cond.fieldLink "AntLeaseModel" (38 : Nat) "AntLeaseModel" "saidAt" "[I"),
  (Jvm.Cond.fieldLink "AntLeaseModel" (41 : Nat) "AntLeaseModel" "saidIs" "[I"),
  (Jvm.Cond.fieldLink "AntLeaseModel" (44 : Nat) "AntLeaseModel" "gains" "[I"),
  (Jvm.Cond.fieldLink "AntLeaseModel" (47 : Nat) "AntLeaseModel" "value" "[I")]
theorem tbC_in : ∀ w ∈ tbC, w ∈ lw_tbl := by
  intro w hw
  have hp : tbC = [73, 129, 131, 85, 87, 89, 114, 116, 118, 100, 102, 60, 62, 144, 146, 148, 150, 152, 154, 156, 158, 160, 162, 667, 669, 671, 673, 675, 677, 679, 681, 683, 685, 687, 689, 691, 693, 695, 697, 699, 701, 703, 705, 707, 709, 711, 713, 715, 717, 719, 721, 723, 725, 727, 729, 70, 69, 34, 67, 125, 124, 38, 122, 80, 79, 35, 77, 109, 108, 37, 106, 96, 95, 36, 93, 56, 55, 33, 53, 48, 47, 32, 45, 633, 632, 39, 630, 71, 50, 51, 65, 72, 126, 127, 128, 81, 82, 83, 84, 110, 111, 112, 113, 97, 98, 99, 57, 58, 59, 49, 52, 54, 134, 66, 68, 135, 136, 76, 78, 137, 92, 94, 138, 105, 107, 139, 121, 123, 140, 141, 142, 143, 634, 636, 641, 646, 648, 649, 650, 651, 653, 732, 654, 656, 657, 665, 666].filterMap (fun i => lw_tbl[i]?) := by decide +kernel
  rw [hp] at hw
  obtain ⟨i, -, hi⟩ := List.mem_filterMap.mp hw
  exact List.mem_of_getElem? hi
theorem tbC_good : ∀ w ∈ tbC, goodWord w = true := List.all_eq_true.mp (by decide +kernel)
theorem inCX0 : ∀ w ∈ u_ws RX0 TX0 1, w ∈ tbC := by decide +kernel
theorem inCX1 : ∀ w ∈ u_ws RX1 TX1 2, w ∈ tbC := by decide +kernel
theorem inCX2 : ∀ w ∈ u_ws RX2 TX2 3, w ∈ tbC := by decide +kernel
theorem inCX4 : ∀ w ∈ u_ws RX4 TX4 3, w ∈ tbC := by decide +kernel
theorem inCX5 : ∀ w ∈ u_ws RX5 TX5 2, w ∈ tbC := by decide +kernel
theorem inCX6 : ∀ w ∈ u_ws RX6 TX6 2, w ∈ tbC := by decide +kernel
theorem inCX7 : ∀ w ∈ u_ws RX7 TX7 10, w ∈ tbC := by decide +kernel
theorem inCX8 : ∀ w ∈ u_ws RX8 TX8 32, w ∈ tbC := by decide +kernel
theorem inC {Y : Cond} {us : List Cond} (h : ∀ w ∈ us, w ∈ tbC) : ∀ w ∈ us, w ∈ Y :: tbC := fun w hw => List.mem_cons_of_mem _ (h w hw)
theorem hC {Y : Cond} {args : Array Value} {s : State} (hts : ∀ w ∈ Y :: tbC, w.before args s = true) (i : Nat) {w : Cond} (h : tbC[i]? = some w) : w.before args s = true := hts w (List.mem_cons_of_mem _ (List.mem_of_getElem? h))
theorem gC {Y Z : Cond} (hz : Z ∈ tbC) : GoodIn (Y :: tbC) (Z :: tbC) := fun w hw => by
  rcases List.mem_cons.mp hw with rfl | hw
  · exact ⟨List.mem_cons_of_mem _ hz, good_of_word (tbC_good _ hz)⟩
  · exact ⟨List.mem_cons_of_mem _ hw, good_of_word (tbC_good _ hw)⟩
theorem ca_0 {D : va_G} {cl : List vw_C} {cA : Nat → ClassId} {cB : ClassId} {s : State} (h : va_K D cl (pm_tys cA) s) (h2 : va_K D cl (pm_tys cA ++ [(cB, .int)]) s) : cB = cA 0 := by
  have a : s.vm.findClass _ = some (cA 0) := (h.2 0 (cA 0, .int) rfl).2
  have b : s.vm.findClass _ = some cB := (h2.2 2 (cB, .int) rfl).2
  exact Option.some.inj (b.symm.trans a)
theorem ca_1 {D : va_G} {cl : List vw_C} {cA : Nat → ClassId} {cB : ClassId} {s : State} (h : va_K D cl (pm_tys cA) s) (h2 : va_K D cl (pm_tys cA ++ [(cB, .boolean)]) s) : cB = cA 1 := by
  have a : s.vm.findClass _ = some (cA 1) := (h.2 1 (cA 1, .boolean) rfl).2
  have b : s.vm.findClass _ = some cB := (h2.2 2 (cB, .boolean) rfl).2
  exact Option.some.inj (b.symm.trans a)
set_option maxHeartbeats 4000000 in
set_option maxRecDepth 100000 in
theorem ct_X0 (l : Launch) (D : va_G) (cA : Nat → ClassId) (h0 sz : Nat) : Met l ycX0 (.code ycX0 bcX0 1 none :: tbC) ({ frames := 1, cells := 1, slots := 28, locals := 12 }) (va_Pc [.ref h0] (fun U => U.heap.size = sz ∧ va_P D cls9 [(h0, .inr (0, [.null]))] U.heap ∧ va_K D cls9 (pm_tys cA) U ∧ va_D (fun _ => True) [(h0, .inr (0, [.null]))])) (va_Qv (fun _ : Unit => True) (fun _ t => ∃ q1 : Nat, va_P D cls9 [(h0, .inr (0, [.ref q1])), (q1, .inl (cA 0, 28, .inl (fun _ => 0)))] t.heap ∧ va_D (va_A [(h0, .inr (0, [.null]))] sz) [(h0, .inr (0, [.ref q1])), (q1, .inl (cA 0, 28, .inl (fun _ => 0)))]) (va_A [(h0, .inr (0, [.null]))] sz)) 1 28 (va_A [(h0, .inr (0, [.null]))] sz) := by
  refine Met.ofW (cc := bcX0) (maxL := 1) (ret := none) (by decide) rfl ?_
  intro p e s m args below meth c s₁ B hml hv
  obtain ⟨rfl, hsz, hP, hK, hD0⟩ := hv
  have hx := B.exec
  have hb := B.bytes
  have hr := B.returns
  have hts := atoms_spec (ws := .code ycX0 bcX0 1 none :: tbC) B.pre
  have hown : s.vm.findClass RX0 = some m.cls := findClass_of_methodNamed B.named
  have hlocks := B.notSynchronized
  have hin : meth.name = "<init>" := (name_of_methodNamed B.named B.method).1
  subst hsz
  have hD := hD0.self (sz := s.heap.size)
  generalize hAe : va_A [(h0, .inr (0, [.null]))] s.heap.size = A at hD ⊢
  have hA : ∀ q : Nat, s.heap.size ≤ q → A q := fun q h => by rw [← hAe]; exact Or.inr h
  clear hAe hD0
  have hS : va_S A s.heap s.heap [] := va_S.rf
  have hl := lv_entry ([.ref h0]) (n := 1) (Nat.le_of_ble_eq_true rfl)
  rw [lg_entry_eq]
  generalize (lg_sl ([.ref h0]) ++ List.replicate (1 - (lg_sl ([.ref h0])).length) Slot.unset).toArray = ls at hl ⊢
  have hl : lv_has ls 1 [(0, .ref h0)] := hl
  refine lv_aload_n hx hb dcX0_0 rfl (lv_at hl 0 rfl) ?_
  refine W.objInit hx hb hown (hC hts 87 (w := .methodLink RX0 3 objectInit) (by decide +kernel)) (hC hts 88 (w := .instanceMethod objectInit) (by decide +kernel)) (hC hts 89 (w := .code objectInit ⟨#[0xb1]⟩ 1 none) (by decide +kernel)) rfl (by rw [hml]; exact hl.1) rfl dcX0_1 (Nat.le_of_ble_eq_true rfl) (Nat.le_of_ble_eq_true rfl) ?_
  refine W.eq (g2 := F0 m 4 ls []) rfl ?_
  refine lv_aload_n hx hb dcX0_4 rfl (lv_at hl 0 rfl) ?_
  refine lv_bipush (v := 28) hx hb dcX0_5 (by decide) ?_
  refine va_newa (atype := .int) (N' := 28) (a0 := (28, .inl (fun _ => 0))) hx hb (hC hts 90 (w := .arrayClass .int) (by decide +kernel)) rfl hK hP hD hS hA (fun _ => rfl) (by decide) (by decide) (Nat.le_of_ble_eq_true rfl) (Nat.le_of_ble_eq_true rfl) (Nat.le_of_ble_eq_true rfl) dcX0_7 (fun q1 cB H hK5 hP hD hS => ?_)
  obtain rfl : cB = cA 0 := ca_0 hK hK5
  clear hK5
  have hP : va_P D cls9 [(h0, .inr (0, [.null])), (q1, .inl (cA 0, 28, .inl (fun _ => 0)))] H := hP
  have hD : va_D A [(h0, .inr (0, [.null])), (q1, .inl (cA 0, 28, .inl (fun _ => 0)))] := hD
  refine W.widen (k := 1) (n := 28) (Nat.le_of_ble_eq_true rfl) (Nat.le_of_ble_eq_true rfl) ?_
  refine va_putF (D := D) (ci := 0) (v := .ref q1) (ty := .array .int) (C := RX0) (T := TX0) (N := 1) hx hb hts (inC inCX0) tycX0 tycX0_ok nmcX0 hown hK hP hD hS 0 rfl rfl 0 (by decide) (hC hts 91 (w := .fieldLink RX0 11 "AntLease$House" "cells" "[I") (by decide +kernel)) (fun _ h9 => h9) rfl hin rfl (by decide +kernel) rfl rfl (Nat.le_of_ble_eq_true rfl) dcX0_9 (fun H locs hP hD hS => ?_)
  have hP : va_P D cls9 [(h0, .inr (0, [.ref q1])), (q1, .inl (cA 0, 28, .inl (fun _ => 0)))] H := hP
  have hD : va_D A [(h0, .inr (0, [.ref q1])), (q1, .inl (cA 0, 28, .inl (fun _ => 0)))] := hD
  refine W.widen (k := 1) (n := 28) (Nat.le_of_ble_eq_true rfl) (Nat.le_of_ble_eq_true rfl) ?_
  exact W.vret hx hb hr (fun t ht hW => ⟨⟨(), rfl, trivial, q1, by rw [ht]; exact hP, hD⟩, hS.F ht⟩) hS.2.2 dcX0_12
set_option maxHeartbeats 4000000 in
set_option maxRecDepth 100000 in
theorem ct_X1 (l : Launch) (D : va_G) (cA : Nat → ClassId) (h0 sz : Nat) : Met l ycX1 (.code ycX1 bcX1 1 none :: tbC) ({ frames := 1, cells := 0, slots := 0, locals := 12 }) (va_Pc [.ref h0] (fun U => U.heap.size = sz ∧ va_P D cls9 [(h0, .inr (1, [.int 0, .int 0]))] U.heap ∧ va_K D cls9 (pm_tys cA) U ∧ va_D (fun _ => True) [(h0, .inr (1, [.int 0, .int 0]))])) (va_Qv (fun _ : Unit => True) (fun _ t => va_P D cls9 [(h0, .inr (1, [.int (-9), .int (-9)]))] t.heap ∧ va_D (va_A [(h0, .inr (1, [.int 0, .int 0]))] sz) [(h0, .inr (1, [.int (-9), .int (-9)]))]) (va_A [(h0, .inr (1, [.int 0, .int 0]))] sz)) 0 0 (va_A [(h0, .inr (1, [.int 0, .int 0]))] sz) := by
  refine Met.ofW (cc := bcX1) (maxL := 1) (ret := none) (by decide) rfl ?_
  intro p e s m args below meth c s₁ B hml hv
  obtain ⟨rfl, hsz, hP, hK, hD0⟩ := hv
  have hx := B.exec
  have hb := B.bytes
  have hr := B.returns
  have hts := atoms_spec (ws := .code ycX1 bcX1 1 none :: tbC) B.pre
  have hown : s.vm.findClass RX1 = some m.cls := findClass_of_methodNamed B.named
  have hlocks := B.notSynchronized
  have hin : meth.name = "<init>" := (name_of_methodNamed B.named B.method).1
  subst hsz
  have hD := hD0.self (sz := s.heap.size)
  generalize hAe : va_A [(h0, .inr (1, [.int 0, .int 0]))] s.heap.size = A at hD ⊢
  have hA : ∀ q : Nat, s.heap.size ≤ q → A q := fun q h => by rw [← hAe]; exact Or.inr h
  clear hAe hD0
  have hS : va_S A s.heap s.heap [] := va_S.rf
  have hl := lv_entry ([.ref h0]) (n := 1) (Nat.le_of_ble_eq_true rfl)
  rw [lg_entry_eq]
  generalize (lg_sl ([.ref h0]) ++ List.replicate (1 - (lg_sl ([.ref h0])).length) Slot.unset).toArray = ls at hl ⊢
  have hl : lv_has ls 1 [(0, .ref h0)] := hl
  refine lv_aload_n hx hb dcX1_0 rfl (lv_at hl 0 rfl) ?_
  refine W.objInit hx hb hown (hC hts 92 (w := .methodLink RX1 3 objectInit) (by decide +kernel)) (hC hts 88 (w := .instanceMethod objectInit) (by decide +kernel)) (hC hts 89 (w := .code objectInit ⟨#[0xb1]⟩ 1 none) (by decide +kernel)) rfl (by rw [hml]; exact hl.1) rfl dcX1_1 (Nat.le_of_ble_eq_true rfl) (Nat.le_of_ble_eq_true rfl) ?_
  refine W.eq (g2 := F0 m 4 ls []) rfl ?_
  refine lv_aload_n hx hb dcX1_4 rfl (lv_at hl 0 rfl) ?_
  refine lv_bipush (v := -9) hx hb dcX1_5 (by decide) ?_
  refine va_put (D := D) (ci := 1) (v := .int (-9)) (ty := .int) (C := RX1) (T := TX1) (N := 2) hx hb hts (inC inCX1) tycX1 tycX1_ok nmcX1 hown hK hP hD hS 0 rfl rfl 0 (by decide) (hC hts 93 (w := .fieldLink RX1 9 "AntLease$Least" "grains" "I") (by decide +kernel)) (fun _ h9 => h9) rfl (by decide +kernel) rfl rfl (Nat.le_of_ble_eq_true rfl) dcX1_7 (fun H locs hP hD hS => ?_)
  have hP : va_P D cls9 [(h0, .inr (1, [.int (-9), .int 0]))] H := hP
  have hD : va_D A [(h0, .inr (1, [.int (-9), .int 0]))] := hD
  refine lv_aload_n hx hb dcX1_10 rfl (lv_at hl 0 rfl) ?_
  refine lv_bipush (v := -9) hx hb dcX1_11 (by decide) ?_
  refine va_put (D := D) (ci := 1) (v := .int (-9)) (ty := .int) (C := RX1) (T := TX1) (N := 2) hx hb hts (inC inCX1) tycX1 tycX1_ok nmcX1 hown hK hP hD hS 0 rfl rfl 1 (by decide) (hC hts 94 (w := .fieldLink RX1 15 "AntLease$Least" "figures" "I") (by decide +kernel)) (fun _ h9 => h9) rfl (by decide +kernel) rfl rfl (Nat.le_of_ble_eq_true rfl) dcX1_13 (fun H locs hP hD hS => ?_)
  have hP : va_P D cls9 [(h0, .inr (1, [.int (-9), .int (-9)]))] H := hP
  have hD : va_D A [(h0, .inr (1, [.int (-9), .int (-9)]))] := hD
  refine W.widen (k := 0) (n := 0) (Nat.le_of_ble_eq_true rfl) (Nat.le_of_ble_eq_true rfl) ?_
  exact W.vret hx hb hr (fun t ht hW => ⟨⟨(), rfl, trivial, by rw [ht]; exact hP, hD⟩, hS.F ht⟩) hS.2.2 dcX1_16
set_option maxHeartbeats 4000000 in
set_option maxRecDepth 100000 in
theorem ct_X2 (l : Launch) (D : va_G) (cA : Nat → ClassId) (h0 sz : Nat) : Met l ycX2 (.code ycX2 bcX2 1 none :: tbC) ({ frames := 1, cells := 1, slots := 420, locals := 12 }) (va_Pc [.ref h0] (fun U => U.heap.size = sz ∧ va_P D cls9 [(h0, .inr (2, [.null, .int 0, .int 0]))] U.heap ∧ va_K D cls9 (pm_tys cA) U ∧ va_D (fun _ => True) [(h0, .inr (2, [.null, .int 0, .int 0]))])) (va_Qv (fun _ : Unit => True) (fun _ t => ∃ q1 : Nat, va_P D cls9 [(h0, .inr (2, [.ref q1, .int 0, .int 0])), (q1, .inl (cA 0, 420, .inl (fun _ => 0)))] t.heap ∧ va_D (va_A [(h0, .inr (2, [.null, .int 0, .int 0]))] sz) [(h0, .inr (2, [.ref q1, .int 0, .int 0])), (q1, .inl (cA 0, 420, .inl (fun _ => 0)))]) (va_A [(h0, .inr (2, [.null, .int 0, .int 0]))] sz)) 1 420 (va_A [(h0, .inr (2, [.null, .int 0, .int 0]))] sz) := by
  refine Met.ofW (cc := bcX2) (maxL := 1) (ret := none) (by decide) rfl ?_
  intro p e s m args below meth c s₁ B hml hv
  obtain ⟨rfl, hsz, hP, hK, hD0⟩ := hv
  have hx := B.exec
  have hb := B.bytes
  have hr := B.returns
  have hts := atoms_spec (ws := .code ycX2 bcX2 1 none :: tbC) B.pre
  have hown : s.vm.findClass RX2 = some m.cls := findClass_of_methodNamed B.named
  have hlocks := B.notSynchronized
  have hin : meth.name = "<init>" := (name_of_methodNamed B.named B.method).1
  subst hsz
  have hD := hD0.self (sz := s.heap.size)
  generalize hAe : va_A [(h0, .inr (2, [.null, .int 0, .int 0]))] s.heap.size = A at hD ⊢
  have hA : ∀ q : Nat, s.heap.size ≤ q → A q := fun q h => by rw [← hAe]; exact Or.inr h
  clear hAe hD0
  have hS : va_S A s.heap s.heap [] := va_S.rf
  have hl := lv_entry ([.ref h0]) (n := 1) (Nat.le_of_ble_eq_true rfl)
  rw [lg_entry_eq]
  generalize (lg_sl ([.ref h0]) ++ List.replicate (1 - (lg_sl ([.ref h0])).length) Slot.unset).toArray = ls at hl ⊢
  have hl : lv_has ls 1 [(0, .ref h0)] := hl
  refine lv_aload_n hx hb dcX2_0 rfl (lv_at hl 0 rfl) ?_
  refine W.objInit hx hb hown (hC hts 95 (w := .methodLink RX2 5 objectInit) (by decide +kernel)) (hC hts 88 (w := .instanceMethod objectInit) (by decide +kernel)) (hC hts 89 (w := .code objectInit ⟨#[0xb1]⟩ 1 none) (by decide +kernel)) rfl (by rw [hml]; exact hl.1) rfl dcX2_1 (Nat.le_of_ble_eq_true rfl) (Nat.le_of_ble_eq_true rfl) ?_
  refine W.eq (g2 := F0 m 4 ls []) rfl ?_
  refine lv_aload_n hx hb dcX2_4 rfl (lv_at hl 0 rfl) ?_
  refine lv_sipush (v := 420) hx hb dcX2_5 (by decide) ?_
  refine va_newa (atype := .int) (N' := 420) (a0 := (420, .inl (fun _ => 0))) hx hb (hC hts 90 (w := .arrayClass .int) (by decide +kernel)) rfl hK hP hD hS hA (fun _ => rfl) (by decide) (by decide) (Nat.le_of_ble_eq_true rfl) (Nat.le_of_ble_eq_true rfl) (Nat.le_of_ble_eq_true rfl) dcX2_8 (fun q1 cB H hK5 hP hD hS => ?_)
  obtain rfl : cB = cA 0 := ca_0 hK hK5
  clear hK5
  have hP : va_P D cls9 [(h0, .inr (2, [.null, .int 0, .int 0])), (q1, .inl (cA 0, 420, .inl (fun _ => 0)))] H := hP
  have hD : va_D A [(h0, .inr (2, [.null, .int 0, .int 0])), (q1, .inl (cA 0, 420, .inl (fun _ => 0)))] := hD
  refine W.widen (k := 1) (n := 420) (Nat.le_of_ble_eq_true rfl) (Nat.le_of_ble_eq_true rfl) ?_
  refine va_putF (D := D) (ci := 2) (v := .ref q1) (ty := .array .int) (C := RX2) (T := TX2) (N := 3) hx hb hts (inC inCX2) tycX2 tycX2_ok nmcX2 hown hK hP hD hS 0 rfl rfl 0 (by decide) (hC hts 96 (w := .fieldLink RX2 13 "AntLease$Past" "rows" "[I") (by decide +kernel)) (fun _ h9 => h9) rfl hin rfl (by decide +kernel) rfl rfl (Nat.le_of_ble_eq_true rfl) dcX2_10 (fun H locs hP hD hS => ?_)
  have hP : va_P D cls9 [(h0, .inr (2, [.ref q1, .int 0, .int 0])), (q1, .inl (cA 0, 420, .inl (fun _ => 0)))] H := hP
  have hD : va_D A [(h0, .inr (2, [.ref q1, .int 0, .int 0])), (q1, .inl (cA 0, 420, .inl (fun _ => 0)))] := hD
  refine lv_aload_n hx hb dcX2_13 rfl (lv_at hl 0 rfl) ?_
  refine lv_iconst (v := 0) hx hb dcX2_14 (by decide) ?_
  refine va_put (D := D) (ci := 2) (v := .int 0) (ty := .int) (C := RX2) (T := TX2) (N := 3) hx hb hts (inC inCX2) tycX2 tycX2_ok nmcX2 hown hK hP hD hS 0 rfl rfl 1 (by decide) (hC hts 97 (w := .fieldLink RX2 17 "AntLease$Past" "first" "I") (by decide +kernel)) (fun _ h9 => h9) rfl (by decide +kernel) rfl rfl (Nat.le_of_ble_eq_true rfl) dcX2_15 (fun H locs hP hD hS => ?_)
  have hP : va_P D cls9 [(h0, .inr (2, [.ref q1, .int 0, .int 0])), (q1, .inl (cA 0, 420, .inl (fun _ => 0)))] H := hP
  have hD : va_D A [(h0, .inr (2, [.ref q1, .int 0, .int 0])), (q1, .inl (cA 0, 420, .inl (fun _ => 0)))] := hD
  refine lv_aload_n hx hb dcX2_18 rfl (lv_at hl 0 rfl) ?_
  refine lv_iconst (v := 0) hx hb dcX2_19 (by decide) ?_
  refine va_put (D := D) (ci := 2) (v := .int 0) (ty := .int) (C := RX2) (T := TX2) (N := 3) hx hb hts (inC inCX2) tycX2 tycX2_ok nmcX2 hown hK hP hD hS 0 rfl rfl 2 (by decide) (hC hts 98 (w := .fieldLink RX2 21 "AntLease$Past" "size" "I") (by decide +kernel)) (fun _ h9 => h9) rfl (by decide +kernel) rfl rfl (Nat.le_of_ble_eq_true rfl) dcX2_20 (fun H locs hP hD hS => ?_)
  have hP : va_P D cls9 [(h0, .inr (2, [.ref q1, .int 0, .int 0])), (q1, .inl (cA 0, 420, .inl (fun _ => 0)))] H := hP
  have hD : va_D A [(h0, .inr (2, [.ref q1, .int 0, .int 0])), (q1, .inl (cA 0, 420, .inl (fun _ => 0)))] := hD
  refine W.widen (k := 1) (n := 420) (Nat.le_of_ble_eq_true rfl) (Nat.le_of_ble_eq_true rfl) ?_
  exact W.vret hx hb hr (fun t ht hW => ⟨⟨(), rfl, trivial, q1, by rw [ht]; exact hP, hD⟩, hS.F ht⟩) hS.2.2 dcX2_23
set_option maxHeartbeats 4000000 in
set_option maxRecDepth 100000 in
theorem ct_X4 (l : Launch) (D : va_G) (cA : Nat → ClassId) (h0 sz : Nat) : Met l ycX4 (.code ycX4 bcX4 1 none :: tbC) ({ frames := 1, cells := 0, slots := 0, locals := 12 }) (va_Pc [.ref h0] (fun U => U.heap.size = sz ∧ va_P D cls9 [(h0, .inr (4, [.int 0, .int 0, .int 0]))] U.heap ∧ va_K D cls9 (pm_tys cA) U ∧ va_D (fun _ => True) [(h0, .inr (4, [.int 0, .int 0, .int 0]))])) (va_Qv (fun _ : Unit => True) (fun _ t => va_P D cls9 [(h0, .inr (4, [.int 0, .int 0, .int 0]))] t.heap ∧ va_D (va_A [(h0, .inr (4, [.int 0, .int 0, .int 0]))] sz) [(h0, .inr (4, [.int 0, .int 0, .int 0]))]) (va_A [(h0, .inr (4, [.int 0, .int 0, .int 0]))] sz)) 0 0 (va_A [(h0, .inr (4, [.int 0, .int 0, .int 0]))] sz) := by
  refine Met.ofW (cc := bcX4) (maxL := 1) (ret := none) (by decide) rfl ?_
  intro p e s m args below meth c s₁ B hml hv
  obtain ⟨rfl, hsz, hP, hK, hD0⟩ := hv
  have hx := B.exec
  have hb := B.bytes
  have hr := B.returns
  have hts := atoms_spec (ws := .code ycX4 bcX4 1 none :: tbC) B.pre
  have hown : s.vm.findClass RX4 = some m.cls := findClass_of_methodNamed B.named
  have hlocks := B.notSynchronized
  have hin : meth.name = "<init>" := (name_of_methodNamed B.named B.method).1
  subst hsz
  have hD := hD0.self (sz := s.heap.size)
  generalize hAe : va_A [(h0, .inr (4, [.int 0, .int 0, .int 0]))] s.heap.size = A at hD ⊢
  have hA : ∀ q : Nat, s.heap.size ≤ q → A q := fun q h => by rw [← hAe]; exact Or.inr h
  clear hAe hD0
  have hS : va_S A s.heap s.heap [] := va_S.rf
  have hl := lv_entry ([.ref h0]) (n := 1) (Nat.le_of_ble_eq_true rfl)
  rw [lg_entry_eq]
  generalize (lg_sl ([.ref h0]) ++ List.replicate (1 - (lg_sl ([.ref h0])).length) Slot.unset).toArray = ls at hl ⊢
  have hl : lv_has ls 1 [(0, .ref h0)] := hl
  refine lv_aload_n hx hb dcX4_0 rfl (lv_at hl 0 rfl) ?_
  refine W.objInit hx hb hown (hC hts 99 (w := .methodLink RX4 3 objectInit) (by decide +kernel)) (hC hts 88 (w := .instanceMethod objectInit) (by decide +kernel)) (hC hts 89 (w := .code objectInit ⟨#[0xb1]⟩ 1 none) (by decide +kernel)) rfl (by rw [hml]; exact hl.1) rfl dcX4_1 (Nat.le_of_ble_eq_true rfl) (Nat.le_of_ble_eq_true rfl) ?_
  refine W.eq (g2 := F0 m 4 ls []) rfl ?_
  refine lv_aload_n hx hb dcX4_4 rfl (lv_at hl 0 rfl) ?_
  refine lv_iconst (v := 0) hx hb dcX4_5 (by decide) ?_
  refine va_put (D := D) (ci := 4) (v := .int 0) (ty := .int) (C := RX4) (T := TX4) (N := 3) hx hb hts (inC inCX4) tycX4 tycX4_ok nmcX4 hown hK hP hD hS 0 rfl rfl 0 (by decide) (hC hts 100 (w := .fieldLink RX4 9 "AntLease$Said" "size" "I") (by decide +kernel)) (fun _ h9 => h9) rfl (by decide +kernel) rfl rfl (Nat.le_of_ble_eq_true rfl) dcX4_6 (fun H locs hP hD hS => ?_)
  have hP : va_P D cls9 [(h0, .inr (4, [.int 0, .int 0, .int 0]))] H := hP
  have hD : va_D A [(h0, .inr (4, [.int 0, .int 0, .int 0]))] := hD
  refine lv_aload_n hx hb dcX4_9 rfl (lv_at hl 0 rfl) ?_
  refine lv_iconst (v := 0) hx hb dcX4_10 (by decide) ?_
  refine va_put (D := D) (ci := 4) (v := .int 0) (ty := .int) (C := RX4) (T := TX4) (N := 3) hx hb hts (inC inCX4) tycX4 tycX4_ok nmcX4 hown hK hP hD hS 0 rfl rfl 1 (by decide) (hC hts 101 (w := .fieldLink RX4 15 "AntLease$Said" "knew" "I") (by decide +kernel)) (fun _ h9 => h9) rfl (by decide +kernel) rfl rfl (Nat.le_of_ble_eq_true rfl) dcX4_11 (fun H locs hP hD hS => ?_)
  have hP : va_P D cls9 [(h0, .inr (4, [.int 0, .int 0, .int 0]))] H := hP
  have hD : va_D A [(h0, .inr (4, [.int 0, .int 0, .int 0]))] := hD
  refine lv_aload_n hx hb dcX4_14 rfl (lv_at hl 0 rfl) ?_
  refine lv_iconst (v := 0) hx hb dcX4_15 (by decide) ?_
  refine va_put (D := D) (ci := 4) (v := .int 0) (ty := .int) (C := RX4) (T := TX4) (N := 3) hx hb hts (inC inCX4) tycX4 tycX4_ok nmcX4 hown hK hP hD hS 0 rfl rfl 2 (by decide) (hC hts 102 (w := .fieldLink RX4 18 "AntLease$Said" "knewNot" "I") (by decide +kernel)) (fun _ h9 => h9) rfl (by decide +kernel) rfl rfl (Nat.le_of_ble_eq_true rfl) dcX4_16 (fun H locs hP hD hS => ?_)
  have hP : va_P D cls9 [(h0, .inr (4, [.int 0, .int 0, .int 0]))] H := hP
  have hD : va_D A [(h0, .inr (4, [.int 0, .int 0, .int 0]))] := hD
  refine W.widen (k := 0) (n := 0) (Nat.le_of_ble_eq_true rfl) (Nat.le_of_ble_eq_true rfl) ?_
  exact W.vret hx hb hr (fun t ht hW => ⟨⟨(), rfl, trivial, by rw [ht]; exact hP, hD⟩, hS.F ht⟩) hS.2.2 dcX4_19
set_option maxHeartbeats 4000000 in
set_option maxRecDepth 100000 in
theorem ct_X5 (l : Launch) (D : va_G) (cA : Nat → ClassId) (h0 sz : Nat) : Met l ycX5 (.code ycX5 bcX5 1 none :: tbC) ({ frames := 1, cells := 1, slots := 56, locals := 12 }) (va_Pc [.ref h0] (fun U => U.heap.size = sz ∧ va_P D cls9 [(h0, .inr (5, [.null, .int 0]))] U.heap ∧ va_K D cls9 (pm_tys cA) U ∧ va_D (fun _ => True) [(h0, .inr (5, [.null, .int 0]))])) (va_Qv (fun _ : Unit => True) (fun _ t => ∃ q1 : Nat, va_P D cls9 [(h0, .inr (5, [.ref q1, .int 0])), (q1, .inl (cA 0, 56, .inl (fun _ => 0)))] t.heap ∧ va_D (va_A [(h0, .inr (5, [.null, .int 0]))] sz) [(h0, .inr (5, [.ref q1, .int 0])), (q1, .inl (cA 0, 56, .inl (fun _ => 0)))]) (va_A [(h0, .inr (5, [.null, .int 0]))] sz)) 1 56 (va_A [(h0, .inr (5, [.null, .int 0]))] sz) := by
  refine Met.ofW (cc := bcX5) (maxL := 1) (ret := none) (by decide) rfl ?_
  intro p e s m args below meth c s₁ B hml hv
  obtain ⟨rfl, hsz, hP, hK, hD0⟩ := hv
  have hx := B.exec
  have hb := B.bytes
  have hr := B.returns
  have hts := atoms_spec (ws := .code ycX5 bcX5 1 none :: tbC) B.pre
  have hown : s.vm.findClass RX5 = some m.cls := findClass_of_methodNamed B.named
  have hlocks := B.notSynchronized
  have hin : meth.name = "<init>" := (name_of_methodNamed B.named B.method).1
  subst hsz
  have hD := hD0.self (sz := s.heap.size)
  generalize hAe : va_A [(h0, .inr (5, [.null, .int 0]))] s.heap.size = A at hD ⊢
  have hA : ∀ q : Nat, s.heap.size ≤ q → A q := fun q h => by rw [← hAe]; exact Or.inr h
  clear hAe hD0
  have hS : va_S A s.heap s.heap [] := va_S.rf
  have hl := lv_entry ([.ref h0]) (n := 1) (Nat.le_of_ble_eq_true rfl)
  rw [lg_entry_eq]
  generalize (lg_sl ([.ref h0]) ++ List.replicate (1 - (lg_sl ([.ref h0])).length) Slot.unset).toArray = ls at hl ⊢
  have hl : lv_has ls 1 [(0, .ref h0)] := hl
  refine lv_aload_n hx hb dcX5_0 rfl (lv_at hl 0 rfl) ?_
  refine W.objInit hx hb hown (hC hts 103 (w := .methodLink RX5 3 objectInit) (by decide +kernel)) (hC hts 88 (w := .instanceMethod objectInit) (by decide +kernel)) (hC hts 89 (w := .code objectInit ⟨#[0xb1]⟩ 1 none) (by decide +kernel)) rfl (by rw [hml]; exact hl.1) rfl dcX5_1 (Nat.le_of_ble_eq_true rfl) (Nat.le_of_ble_eq_true rfl) ?_
  refine W.eq (g2 := F0 m 4 ls []) rfl ?_
  refine lv_aload_n hx hb dcX5_4 rfl (lv_at hl 0 rfl) ?_
  refine lv_bipush (v := 56) hx hb dcX5_5 (by decide) ?_
  refine va_newa (atype := .int) (N' := 56) (a0 := (56, .inl (fun _ => 0))) hx hb (hC hts 90 (w := .arrayClass .int) (by decide +kernel)) rfl hK hP hD hS hA (fun _ => rfl) (by decide) (by decide) (Nat.le_of_ble_eq_true rfl) (Nat.le_of_ble_eq_true rfl) (Nat.le_of_ble_eq_true rfl) dcX5_7 (fun q1 cB H hK5 hP hD hS => ?_)
  obtain rfl : cB = cA 0 := ca_0 hK hK5
  clear hK5
  have hP : va_P D cls9 [(h0, .inr (5, [.null, .int 0])), (q1, .inl (cA 0, 56, .inl (fun _ => 0)))] H := hP
  have hD : va_D A [(h0, .inr (5, [.null, .int 0])), (q1, .inl (cA 0, 56, .inl (fun _ => 0)))] := hD
  refine W.widen (k := 1) (n := 56) (Nat.le_of_ble_eq_true rfl) (Nat.le_of_ble_eq_true rfl) ?_
  refine va_putF (D := D) (ci := 5) (v := .ref q1) (ty := .array .int) (C := RX5) (T := TX5) (N := 2) hx hb hts (inC inCX5) tycX5 tycX5_ok nmcX5 hown hK hP hD hS 0 rfl rfl 0 (by decide) (hC hts 104 (w := .fieldLink RX5 13 "AntLease$Slots" "rows" "[I") (by decide +kernel)) (fun _ h9 => h9) rfl hin rfl (by decide +kernel) rfl rfl (Nat.le_of_ble_eq_true rfl) dcX5_9 (fun H locs hP hD hS => ?_)
  have hP : va_P D cls9 [(h0, .inr (5, [.ref q1, .int 0])), (q1, .inl (cA 0, 56, .inl (fun _ => 0)))] H := hP
  have hD : va_D A [(h0, .inr (5, [.ref q1, .int 0])), (q1, .inl (cA 0, 56, .inl (fun _ => 0)))] := hD
  refine lv_aload_n hx hb dcX5_12 rfl (lv_at hl 0 rfl) ?_
  refine lv_iconst (v := 0) hx hb dcX5_13 (by decide) ?_
  refine va_put (D := D) (ci := 5) (v := .int 0) (ty := .int) (C := RX5) (T := TX5) (N := 2) hx hb hts (inC inCX5) tycX5 tycX5_ok nmcX5 hown hK hP hD hS 0 rfl rfl 1 (by decide) (hC hts 105 (w := .fieldLink RX5 17 "AntLease$Slots" "taken" "I") (by decide +kernel)) (fun _ h9 => h9) rfl (by decide +kernel) rfl rfl (Nat.le_of_ble_eq_true rfl) dcX5_14 (fun H locs hP hD hS => ?_)
  have hP : va_P D cls9 [(h0, .inr (5, [.ref q1, .int 0])), (q1, .inl (cA 0, 56, .inl (fun _ => 0)))] H := hP
  have hD : va_D A [(h0, .inr (5, [.ref q1, .int 0])), (q1, .inl (cA 0, 56, .inl (fun _ => 0)))] := hD
  refine W.widen (k := 1) (n := 56) (Nat.le_of_ble_eq_true rfl) (Nat.le_of_ble_eq_true rfl) ?_
  exact W.vret hx hb hr (fun t ht hW => ⟨⟨(), rfl, trivial, q1, by rw [ht]; exact hP, hD⟩, hS.F ht⟩) hS.2.2 dcX5_17
set_option maxHeartbeats 4000000 in
set_option maxRecDepth 100000 in
theorem ct_X6 (l : Launch) (D : va_G) (cA : Nat → ClassId) (h0 sz : Nat) : Met l ycX6 (.code ycX6 bcX6 1 none :: tbC) ({ frames := 1, cells := 1, slots := 48, locals := 12 }) (va_Pc [.ref h0] (fun U => U.heap.size = sz ∧ va_P D cls9 [(h0, .inr (6, [.null, .int 0]))] U.heap ∧ va_K D cls9 (pm_tys cA) U ∧ va_D (fun _ => True) [(h0, .inr (6, [.null, .int 0]))])) (va_Qv (fun _ : Unit => True) (fun _ t => ∃ q1 : Nat, va_P D cls9 [(h0, .inr (6, [.ref q1, .int 0])), (q1, .inl (cA 0, 48, .inl (fun _ => 0)))] t.heap ∧ va_D (va_A [(h0, .inr (6, [.null, .int 0]))] sz) [(h0, .inr (6, [.ref q1, .int 0])), (q1, .inl (cA 0, 48, .inl (fun _ => 0)))]) (va_A [(h0, .inr (6, [.null, .int 0]))] sz)) 1 48 (va_A [(h0, .inr (6, [.null, .int 0]))] sz) := by
  refine Met.ofW (cc := bcX6) (maxL := 1) (ret := none) (by decide) rfl ?_
  intro p e s m args below meth c s₁ B hml hv
  obtain ⟨rfl, hsz, hP, hK, hD0⟩ := hv
  have hx := B.exec
  have hb := B.bytes
  have hr := B.returns
  have hts := atoms_spec (ws := .code ycX6 bcX6 1 none :: tbC) B.pre
  have hown : s.vm.findClass RX6 = some m.cls := findClass_of_methodNamed B.named
  have hlocks := B.notSynchronized
  have hin : meth.name = "<init>" := (name_of_methodNamed B.named B.method).1
  subst hsz
  have hD := hD0.self (sz := s.heap.size)
  generalize hAe : va_A [(h0, .inr (6, [.null, .int 0]))] s.heap.size = A at hD ⊢
  have hA : ∀ q : Nat, s.heap.size ≤ q → A q := fun q h => by rw [← hAe]; exact Or.inr h
  clear hAe hD0
  have hS : va_S A s.heap s.heap [] := va_S.rf
  have hl := lv_entry ([.ref h0]) (n := 1) (Nat.le_of_ble_eq_true rfl)
  rw [lg_entry_eq]
  generalize (lg_sl ([.ref h0]) ++ List.replicate (1 - (lg_sl ([.ref h0])).length) Slot.unset).toArray = ls at hl ⊢
  have hl : lv_has ls 1 [(0, .ref h0)] := hl
  refine lv_aload_n hx hb dcX6_0 rfl (lv_at hl 0 rfl) ?_
  refine W.objInit hx hb hown (hC hts 106 (w := .methodLink RX6 3 objectInit) (by decide +kernel)) (hC hts 88 (w := .instanceMethod objectInit) (by decide +kernel)) (hC hts 89 (w := .code objectInit ⟨#[0xb1]⟩ 1 none) (by decide +kernel)) rfl (by rw [hml]; exact hl.1) rfl dcX6_1 (Nat.le_of_ble_eq_true rfl) (Nat.le_of_ble_eq_true rfl) ?_
  refine W.eq (g2 := F0 m 4 ls []) rfl ?_
  refine lv_aload_n hx hb dcX6_4 rfl (lv_at hl 0 rfl) ?_
  refine lv_bipush (v := 48) hx hb dcX6_5 (by decide) ?_
  refine va_newa (atype := .int) (N' := 48) (a0 := (48, .inl (fun _ => 0))) hx hb (hC hts 90 (w := .arrayClass .int) (by decide +kernel)) rfl hK hP hD hS hA (fun _ => rfl) (by decide) (by decide) (Nat.le_of_ble_eq_true rfl) (Nat.le_of_ble_eq_true rfl) (Nat.le_of_ble_eq_true rfl) dcX6_7 (fun q1 cB H hK5 hP hD hS => ?_)
  obtain rfl : cB = cA 0 := ca_0 hK hK5
  clear hK5
  have hP : va_P D cls9 [(h0, .inr (6, [.null, .int 0])), (q1, .inl (cA 0, 48, .inl (fun _ => 0)))] H := hP
  have hD : va_D A [(h0, .inr (6, [.null, .int 0])), (q1, .inl (cA 0, 48, .inl (fun _ => 0)))] := hD
  refine W.widen (k := 1) (n := 48) (Nat.le_of_ble_eq_true rfl) (Nat.le_of_ble_eq_true rfl) ?_
  refine va_putF (D := D) (ci := 6) (v := .ref q1) (ty := .array .int) (C := RX6) (T := TX6) (N := 2) hx hb hts (inC inCX6) tycX6 tycX6_ok nmcX6 hown hK hP hD hS 0 rfl rfl 0 (by decide) (hC hts 107 (w := .fieldLink RX6 11 "AntLease$Text" "bytes" "[I") (by decide +kernel)) (fun _ h9 => h9) rfl hin rfl (by decide +kernel) rfl rfl (Nat.le_of_ble_eq_true rfl) dcX6_9 (fun H locs hP hD hS => ?_)
  have hP : va_P D cls9 [(h0, .inr (6, [.ref q1, .int 0])), (q1, .inl (cA 0, 48, .inl (fun _ => 0)))] H := hP
  have hD : va_D A [(h0, .inr (6, [.ref q1, .int 0])), (q1, .inl (cA 0, 48, .inl (fun _ => 0)))] := hD
  refine lv_aload_n hx hb dcX6_12 rfl (lv_at hl 0 rfl) ?_
  refine lv_iconst (v := 0) hx hb dcX6_13 (by decide) ?_
  refine va_put (D := D) (ci := 6) (v := .int 0) (ty := .int) (C := RX6) (T := TX6) (N := 2) hx hb hts (inC inCX6) tycX6 tycX6_ok nmcX6 hown hK hP hD hS 0 rfl rfl 1 (by decide) (hC hts 108 (w := .fieldLink RX6 15 "AntLease$Text" "length" "I") (by decide +kernel)) (fun _ h9 => h9) rfl (by decide +kernel) rfl rfl (Nat.le_of_ble_eq_true rfl) dcX6_14 (fun H locs hP hD hS => ?_)
  have hP : va_P D cls9 [(h0, .inr (6, [.ref q1, .int 0])), (q1, .inl (cA 0, 48, .inl (fun _ => 0)))] H := hP
  have hD : va_D A [(h0, .inr (6, [.ref q1, .int 0])), (q1, .inl (cA 0, 48, .inl (fun _ => 0)))] := hD
  refine W.widen (k := 1) (n := 48) (Nat.le_of_ble_eq_true rfl) (Nat.le_of_ble_eq_true rfl) ?_
  exact W.vret hx hb hr (fun t ht hW => ⟨⟨(), rfl, trivial, q1, by rw [ht]; exact hP, hD⟩, hS.F ht⟩) hS.2.2 dcX6_17
set_option maxHeartbeats 4000000 in
set_option maxRecDepth 100000 in
theorem ct_X7 (l : Launch) (D : va_G) (cA : Nat → ClassId) (h0 sz : Nat) : Met l ycX7 (.code ycX7 bcX7 1 none :: tbC) ({ frames := 2, cells := 14, slots := 604, locals := 32 }) (va_Pc [.ref h0] (fun U => U.heap.size = sz ∧ va_P D cls9 [(h0, .inr (7, [.null, .null, .null, .null, .null, .null, .null, .null, .null, .long 0]))] U.heap ∧ va_K D cls9 (pm_tys cA) U ∧ va_D (fun _ => True) [(h0, .inr (7, [.null, .null, .null, .null, .null, .null, .null, .null, .null, .long 0]))])) (va_Qv (fun _ : Unit => True) (fun _ t => ∃ q1 : Nat, ∃ q2 : Nat, ∃ q3 : Nat, ∃ q4 : Nat, ∃ q5 : Nat, ∃ q6 : Nat, ∃ q7 : Nat, ∃ q8 : Nat, ∃ q9 : Nat, ∃ q10 : Nat, ∃ q11 : Nat, ∃ q12 : Nat, ∃ q13 : Nat, ∃ q14 : Nat, va_P D cls9 [(h0, .inr (7, [.ref q1, .ref q3, .ref q5, .ref q7, .ref q9, .ref q11, .ref q12, .ref q13, .ref q14, .long 0])), (q1, .inr (6, [.ref q2, .int 0])), (q2, .inl (cA 0, 48, .inl (fun _ => 0))), (q3, .inr (0, [.ref q4])), (q4, .inl (cA 0, 28, .inl (fun _ => 0))), (q5, .inr (0, [.ref q6])), (q6, .inl (cA 0, 28, .inl (fun _ => 0))), (q7, .inr (2, [.ref q8, .int 0, .int 0])), (q8, .inl (cA 0, 420, .inl (fun _ => 0))), (q9, .inr (5, [.ref q10, .int 0])), (q10, .inl (cA 0, 56, .inl (fun _ => 0))), (q11, .inr (4, [.int 0, .int 0, .int 0])), (q12, .inr (1, [.int (-9), .int (-9)])), (q13, .inl (cA 0, 4, .inl (fun _ => 0))), (q14, .inl (cA 0, 6, .inl (fun _ => 0)))] t.heap ∧ va_D (va_A [(h0, .inr (7, [.null, .null, .null, .null, .null, .null, .null, .null, .null, .long 0]))] sz) [(h0, .inr (7, [.ref q1, .ref q3, .ref q5, .ref q7, .ref q9, .ref q11, .ref q12, .ref q13, .ref q14, .long 0])), (q1, .inr (6, [.ref q2, .int 0])), (q2, .inl (cA 0, 48, .inl (fun _ => 0))), (q3, .inr (0, [.ref q4])), (q4, .inl (cA 0, 28, .inl (fun _ => 0))), (q5, .inr (0, [.ref q6])), (q6, .inl (cA 0, 28, .inl (fun _ => 0))), (q7, .inr (2, [.ref q8, .int 0, .int 0])), (q8, .inl (cA 0, 420, .inl (fun _ => 0))), (q9, .inr (5, [.ref q10, .int 0])), (q10, .inl (cA 0, 56, .inl (fun _ => 0))), (q11, .inr (4, [.int 0, .int 0, .int 0])), (q12, .inr (1, [.int (-9), .int (-9)])), (q13, .inl (cA 0, 4, .inl (fun _ => 0))), (q14, .inl (cA 0, 6, .inl (fun _ => 0)))]) (va_A [(h0, .inr (7, [.null, .null, .null, .null, .null, .null, .null, .null, .null, .long 0]))] sz)) 14 604 (va_A [(h0, .inr (7, [.null, .null, .null, .null, .null, .null, .null, .null, .null, .long 0]))] sz) := by
  refine Met.ofW (cc := bcX7) (maxL := 1) (ret := none) (by decide) rfl ?_
  intro p e s m args below meth c s₁ B hml hv
  obtain ⟨rfl, hsz, hP, hK, hD0⟩ := hv
  have hx := B.exec
  have hb := B.bytes
  have hr := B.returns
  have hts := atoms_spec (ws := .code ycX7 bcX7 1 none :: tbC) B.pre
  have hown : s.vm.findClass RX7 = some m.cls := findClass_of_methodNamed B.named
  have hlocks := B.notSynchronized
  have hin : meth.name = "<init>" := (name_of_methodNamed B.named B.method).1
  subst hsz
  have hD := hD0.self (sz := s.heap.size)
  generalize hAe : va_A [(h0, .inr (7, [.null, .null, .null, .null, .null, .null, .null, .null, .null, .long 0]))] s.heap.size = A at hD ⊢
  have hA : ∀ q : Nat, s.heap.size ≤ q → A q := fun q h => by rw [← hAe]; exact Or.inr h
  clear hAe hD0
  have hS : va_S A s.heap s.heap [] := va_S.rf
  have hl := lv_entry ([.ref h0]) (n := 1) (Nat.le_of_ble_eq_true rfl)
  rw [lg_entry_eq]
  generalize (lg_sl ([.ref h0]) ++ List.replicate (1 - (lg_sl ([.ref h0])).length) Slot.unset).toArray = ls at hl ⊢
  have hl : lv_has ls 1 [(0, .ref h0)] := hl
  refine lv_aload_n hx hb dcX7_0 rfl (lv_at hl 0 rfl) ?_
  refine W.objInit hx hb hown (hC hts 109 (w := .methodLink RX7 1 objectInit) (by decide +kernel)) (hC hts 88 (w := .instanceMethod objectInit) (by decide +kernel)) (hC hts 89 (w := .code objectInit ⟨#[0xb1]⟩ 1 none) (by decide +kernel)) rfl (by rw [hml]; exact hl.1) rfl dcX7_1 (Nat.le_of_ble_eq_true rfl) (Nat.le_of_ble_eq_true rfl) ?_
  refine W.eq (g2 := F0 m 4 ls []) rfl ?_
  refine lv_aload_n hx hb dcX7_4 rfl (lv_at hl 0 rfl) ?_
  refine va_new (ci := 6) (fs := [.null, .int 0]) (C := RX6) (T := TX6) (N := 2) hx hb hts (inC inCX6) tycX6 tycX6_ok hown (hC hts 110 (w := .classLink RX7 7 RX6) (by decide +kernel)) (hC hts 78 (w := .instantiable RX6 2) (by decide +kernel)) (hC hts 77 (w := .initialized RX6) (by decide +kernel)) hK hP hD hS hA rfl (by decide +kernel) (Nat.le_of_ble_eq_true rfl) (Nat.le_of_ble_eq_true rfl) dcX7_5 (fun q1 H hP hD hS => ?_)
  have hP : va_P D cls9 [(h0, .inr (7, [.null, .null, .null, .null, .null, .null, .null, .null, .null, .long 0])), (q1, .inr (6, [.null, .int 0]))] H := hP
  have hD : va_D A [(h0, .inr (7, [.null, .null, .null, .null, .null, .null, .null, .null, .null, .long 0])), (q1, .inr (6, [.null, .int 0]))] := hD
  refine W.widen (k := 1) (n := 2) (Nat.le_of_ble_eq_true rfl) (Nat.le_of_ble_eq_true rfl) ?_
  refine lv_dup hx hb dcX7_8 rfl ?_
  have hPc := hP.sub (ws' := [(q1, .inr (6, [.null, .int 0]))]) [1] rfl
  have hDc := hD.sub (ws' := [(q1, .inr (6, [.null, .int 0]))]) [1] (by decide) rfl
  have hFc := va_free (wc := [(q1, .inr (6, [.null, .int 0]))]) hD hS hA [1] rfl
  refine va_callv (va_runI (As := []) (rest := [.ref q1, .ref h0]) ⟨hx, hb, hml, hown, hts⟩ (ct_X6 l D cA q1 H.size) (cwI 0 hts (gC (List.mem_of_getElem? (i := 75) (by decide +kernel))) rfl rfl rfl (hC hts 77 (w := .initialized RX6) (by decide +kernel)) (hC hts 111 (w := .methodLink RX7 9 ycX6) (by decide +kernel)) (hC hts 76 (w := .instanceMethod ycX6) (by decide +kernel)) rfl (by decide +kernel) ⟨Nat.le_of_ble_eq_true rfl, Nat.le_of_ble_eq_true rfl⟩) ⟨fun a U g mk q => by obtain ⟨q0, q1, qP, qK, qD⟩ := q; exact ⟨q0, q1, qP, va_K.moved (u := U) (U := U.calling g mk a) (Vm.Alike.refl U.vm) qK, qD⟩, fun U hU hW => ⟨rfl, by rw [hU], by rw [hU]; exact hPc, va_K.moved hW.alike hK, hDc.weaken (fun _ _ _ _ => trivial)⟩⟩ rfl rfl hl.1 rfl (lv_room (Nat.le_of_ble_eq_true rfl)) dcX7_9 ⟨Nat.le_of_ble_eq_true rfl, Nat.le_of_ble_eq_true rfl⟩) hS (fun q _ h => hFc q h) hFc (fun u t H locs ht hvm hw hB hz1 hk1 hS => ?_)
  obtain ⟨q2, hP1, hD1⟩ := hB
  rw [ht] at hP1
  obtain ⟨hP, hD⟩ := va_join (wr := [(h0, .inr (7, [.null, .null, .null, .null, .null, .null, .null, .null, .null, .long 0]))]) (w1 := [(q1, .inr (6, [.ref q2, .int 0])), (q2, .inl (cA 0, 48, .inl (fun _ => 0)))]) hP hD [1] [0] rfl rfl (by decide) (by decide) hk1 hFc hP1 hD1
  have hP : va_P D cls9 [(h0, .inr (7, [.null, .null, .null, .null, .null, .null, .null, .null, .null, .long 0])), (q1, .inr (6, [.ref q2, .int 0])), (q2, .inl (cA 0, 48, .inl (fun _ => 0)))] H := hP
  have hD : va_D A [(h0, .inr (7, [.null, .null, .null, .null, .null, .null, .null, .null, .null, .long 0])), (q1, .inr (6, [.ref q2, .int 0])), (q2, .inl (cA 0, 48, .inl (fun _ => 0)))] := hD
  clear hPc hDc hFc hk1 hP1 hD1 ht hvm hz1 hw
  refine W.widen (k := 2) (n := 50) (Nat.le_of_ble_eq_true rfl) (Nat.le_of_ble_eq_true rfl) ?_
  refine va_putF (D := D) (ci := 7) (v := .ref q1) (ty := .object "AntLease$Text") (C := RX7) (T := TX7) (N := 10) hx hb hts (inC inCX7) tycX7 tycX7_ok nmcX7 hown hK hP hD hS 0 rfl rfl 0 (by decide) (hC hts 112 (w := .fieldLink RX7 10 "AntLease" "text" "LAntLease$Text;") (by decide +kernel)) (fun _ h9 => h9) rfl hin rfl (by decide +kernel) rfl rfl (Nat.le_of_ble_eq_true rfl) dcX7_12 (fun H locs hP hD hS => ?_)
  have hP : va_P D cls9 [(h0, .inr (7, [.ref q1, .null, .null, .null, .null, .null, .null, .null, .null, .long 0])), (q1, .inr (6, [.ref q2, .int 0])), (q2, .inl (cA 0, 48, .inl (fun _ => 0)))] H := hP
  have hD : va_D A [(h0, .inr (7, [.ref q1, .null, .null, .null, .null, .null, .null, .null, .null, .long 0])), (q1, .inr (6, [.ref q2, .int 0])), (q2, .inl (cA 0, 48, .inl (fun _ => 0)))] := hD
  refine lv_aload_n hx hb dcX7_15 rfl (lv_at hl 0 rfl) ?_
  refine va_new (ci := 0) (fs := [.null]) (C := RX0) (T := TX0) (N := 1) hx hb hts (inC inCX0) tycX0 tycX0_ok hown (hC hts 113 (w := .classLink RX7 16 RX0) (by decide +kernel)) (hC hts 58 (w := .instantiable RX0 1) (by decide +kernel)) (hC hts 57 (w := .initialized RX0) (by decide +kernel)) hK hP hD hS hA rfl (by decide +kernel) (Nat.le_of_ble_eq_true rfl) (Nat.le_of_ble_eq_true rfl) dcX7_16 (fun q3 H hP hD hS => ?_)
  have hP : va_P D cls9 [(h0, .inr (7, [.ref q1, .null, .null, .null, .null, .null, .null, .null, .null, .long 0])), (q1, .inr (6, [.ref q2, .int 0])), (q2, .inl (cA 0, 48, .inl (fun _ => 0))), (q3, .inr (0, [.null]))] H := hP
  have hD : va_D A [(h0, .inr (7, [.ref q1, .null, .null, .null, .null, .null, .null, .null, .null, .long 0])), (q1, .inr (6, [.ref q2, .int 0])), (q2, .inl (cA 0, 48, .inl (fun _ => 0))), (q3, .inr (0, [.null]))] := hD
  refine W.widen (k := 3) (n := 51) (Nat.le_of_ble_eq_true rfl) (Nat.le_of_ble_eq_true rfl) ?_
  refine lv_dup hx hb dcX7_19 rfl ?_
  have hPc := hP.sub (ws' := [(q3, .inr (0, [.null]))]) [3] rfl
  have hDc := hD.sub (ws' := [(q3, .inr (0, [.null]))]) [3] (by decide) rfl
  have hFc := va_free (wc := [(q3, .inr (0, [.null]))]) hD hS hA [3] rfl
  refine va_callv (va_runI (As := []) (rest := [.ref q3, .ref h0]) ⟨hx, hb, hml, hown, hts⟩ (ct_X0 l D cA q3 H.size) (cwI 0 hts (gC (List.mem_of_getElem? (i := 55) (by decide +kernel))) rfl rfl rfl (hC hts 57 (w := .initialized RX0) (by decide +kernel)) (hC hts 114 (w := .methodLink RX7 18 ycX0) (by decide +kernel)) (hC hts 56 (w := .instanceMethod ycX0) (by decide +kernel)) rfl (by decide +kernel) ⟨Nat.le_of_ble_eq_true rfl, Nat.le_of_ble_eq_true rfl⟩) ⟨fun a U g mk q => by obtain ⟨q0, q1, qP, qK, qD⟩ := q; exact ⟨q0, q1, qP, va_K.moved (u := U) (U := U.calling g mk a) (Vm.Alike.refl U.vm) qK, qD⟩, fun U hU hW => ⟨rfl, by rw [hU], by rw [hU]; exact hPc, va_K.moved hW.alike hK, hDc.weaken (fun _ _ _ _ => trivial)⟩⟩ rfl rfl hl.1 rfl (lv_room (Nat.le_of_ble_eq_true rfl)) dcX7_20 ⟨Nat.le_of_ble_eq_true rfl, Nat.le_of_ble_eq_true rfl⟩) hS (fun q _ h => hFc q h) hFc (fun u t H locs ht hvm hw hB hz1 hk1 hS => ?_)
  obtain ⟨q4, hP1, hD1⟩ := hB
  rw [ht] at hP1
  obtain ⟨hP, hD⟩ := va_join (wr := [(h0, .inr (7, [.ref q1, .null, .null, .null, .null, .null, .null, .null, .null, .long 0])), (q1, .inr (6, [.ref q2, .int 0])), (q2, .inl (cA 0, 48, .inl (fun _ => 0)))]) (w1 := [(q3, .inr (0, [.ref q4])), (q4, .inl (cA 0, 28, .inl (fun _ => 0)))]) hP hD [3] [0, 1, 2] rfl rfl (by decide) (by decide) hk1 hFc hP1 hD1
  have hP : va_P D cls9 [(h0, .inr (7, [.ref q1, .null, .null, .null, .null, .null, .null, .null, .null, .long 0])), (q1, .inr (6, [.ref q2, .int 0])), (q2, .inl (cA 0, 48, .inl (fun _ => 0))), (q3, .inr (0, [.ref q4])), (q4, .inl (cA 0, 28, .inl (fun _ => 0)))] H := hP
  have hD : va_D A [(h0, .inr (7, [.ref q1, .null, .null, .null, .null, .null, .null, .null, .null, .long 0])), (q1, .inr (6, [.ref q2, .int 0])), (q2, .inl (cA 0, 48, .inl (fun _ => 0))), (q3, .inr (0, [.ref q4])), (q4, .inl (cA 0, 28, .inl (fun _ => 0)))] := hD
  clear hPc hDc hFc hk1 hP1 hD1 ht hvm hz1 hw
  refine W.widen (k := 4) (n := 79) (Nat.le_of_ble_eq_true rfl) (Nat.le_of_ble_eq_true rfl) ?_
  refine va_putF (D := D) (ci := 7) (v := .ref q3) (ty := .object "AntLease$House") (C := RX7) (T := TX7) (N := 10) hx hb hts (inC inCX7) tycX7 tycX7_ok nmcX7 hown hK hP hD hS 0 rfl rfl 1 (by decide) (hC hts 115 (w := .fieldLink RX7 19 "AntLease" "now" "LAntLease$House;") (by decide +kernel)) (fun _ h9 => h9) rfl hin rfl (by decide +kernel) rfl rfl (Nat.le_of_ble_eq_true rfl) dcX7_23 (fun H locs hP hD hS => ?_)
  have hP : va_P D cls9 [(h0, .inr (7, [.ref q1, .ref q3, .null, .null, .null, .null, .null, .null, .null, .long 0])), (q1, .inr (6, [.ref q2, .int 0])), (q2, .inl (cA 0, 48, .inl (fun _ => 0))), (q3, .inr (0, [.ref q4])), (q4, .inl (cA 0, 28, .inl (fun _ => 0)))] H := hP
  have hD : va_D A [(h0, .inr (7, [.ref q1, .ref q3, .null, .null, .null, .null, .null, .null, .null, .long 0])), (q1, .inr (6, [.ref q2, .int 0])), (q2, .inl (cA 0, 48, .inl (fun _ => 0))), (q3, .inr (0, [.ref q4])), (q4, .inl (cA 0, 28, .inl (fun _ => 0)))] := hD
  refine lv_aload_n hx hb dcX7_26 rfl (lv_at hl 0 rfl) ?_
  refine va_new (ci := 0) (fs := [.null]) (C := RX0) (T := TX0) (N := 1) hx hb hts (inC inCX0) tycX0 tycX0_ok hown (hC hts 113 (w := .classLink RX7 16 RX0) (by decide +kernel)) (hC hts 58 (w := .instantiable RX0 1) (by decide +kernel)) (hC hts 57 (w := .initialized RX0) (by decide +kernel)) hK hP hD hS hA rfl (by decide +kernel) (Nat.le_of_ble_eq_true rfl) (Nat.le_of_ble_eq_true rfl) dcX7_27 (fun q5 H hP hD hS => ?_)
  have hP : va_P D cls9 [(h0, .inr (7, [.ref q1, .ref q3, .null, .null, .null, .null, .null, .null, .null, .long 0])), (q1, .inr (6, [.ref q2, .int 0])), (q2, .inl (cA 0, 48, .inl (fun _ => 0))), (q3, .inr (0, [.ref q4])), (q4, .inl (cA 0, 28, .inl (fun _ => 0))), (q5, .inr (0, [.null]))] H := hP
  have hD : va_D A [(h0, .inr (7, [.ref q1, .ref q3, .null, .null, .null, .null, .null, .null, .null, .long 0])), (q1, .inr (6, [.ref q2, .int 0])), (q2, .inl (cA 0, 48, .inl (fun _ => 0))), (q3, .inr (0, [.ref q4])), (q4, .inl (cA 0, 28, .inl (fun _ => 0))), (q5, .inr (0, [.null]))] := hD
  refine W.widen (k := 5) (n := 80) (Nat.le_of_ble_eq_true rfl) (Nat.le_of_ble_eq_true rfl) ?_
  refine lv_dup hx hb dcX7_30 rfl ?_
  have hPc := hP.sub (ws' := [(q5, .inr (0, [.null]))]) [5] rfl
  have hDc := hD.sub (ws' := [(q5, .inr (0, [.null]))]) [5] (by decide) rfl
  have hFc := va_free (wc := [(q5, .inr (0, [.null]))]) hD hS hA [5] rfl
  refine va_callv (va_runI (As := []) (rest := [.ref q5, .ref h0]) ⟨hx, hb, hml, hown, hts⟩ (ct_X0 l D cA q5 H.size) (cwI 0 hts (gC (List.mem_of_getElem? (i := 55) (by decide +kernel))) rfl rfl rfl (hC hts 57 (w := .initialized RX0) (by decide +kernel)) (hC hts 114 (w := .methodLink RX7 18 ycX0) (by decide +kernel)) (hC hts 56 (w := .instanceMethod ycX0) (by decide +kernel)) rfl (by decide +kernel) ⟨Nat.le_of_ble_eq_true rfl, Nat.le_of_ble_eq_true rfl⟩) ⟨fun a U g mk q => by obtain ⟨q0, q1, qP, qK, qD⟩ := q; exact ⟨q0, q1, qP, va_K.moved (u := U) (U := U.calling g mk a) (Vm.Alike.refl U.vm) qK, qD⟩, fun U hU hW => ⟨rfl, by rw [hU], by rw [hU]; exact hPc, va_K.moved hW.alike hK, hDc.weaken (fun _ _ _ _ => trivial)⟩⟩ rfl rfl hl.1 rfl (lv_room (Nat.le_of_ble_eq_true rfl)) dcX7_31 ⟨Nat.le_of_ble_eq_true rfl, Nat.le_of_ble_eq_true rfl⟩) hS (fun q _ h => hFc q h) hFc (fun u t H locs ht hvm hw hB hz1 hk1 hS => ?_)
  obtain ⟨q6, hP1, hD1⟩ := hB
  rw [ht] at hP1
  obtain ⟨hP, hD⟩ := va_join (wr := [(h0, .inr (7, [.ref q1, .ref q3, .null, .null, .null, .null, .null, .null, .null, .long 0])), (q1, .inr (6, [.ref q2, .int 0])), (q2, .inl (cA 0, 48, .inl (fun _ => 0))), (q3, .inr (0, [.ref q4])), (q4, .inl (cA 0, 28, .inl (fun _ => 0)))]) (w1 := [(q5, .inr (0, [.ref q6])), (q6, .inl (cA 0, 28, .inl (fun _ => 0)))]) hP hD [5] [0, 1, 2, 3, 4] rfl rfl (by decide) (by decide) hk1 hFc hP1 hD1
  have hP : va_P D cls9 [(h0, .inr (7, [.ref q1, .ref q3, .null, .null, .null, .null, .null, .null, .null, .long 0])), (q1, .inr (6, [.ref q2, .int 0])), (q2, .inl (cA 0, 48, .inl (fun _ => 0))), (q3, .inr (0, [.ref q4])), (q4, .inl (cA 0, 28, .inl (fun _ => 0))), (q5, .inr (0, [.ref q6])), (q6, .inl (cA 0, 28, .inl (fun _ => 0)))] H := hP
  have hD : va_D A [(h0, .inr (7, [.ref q1, .ref q3, .null, .null, .null, .null, .null, .null, .null, .long 0])), (q1, .inr (6, [.ref q2, .int 0])), (q2, .inl (cA 0, 48, .inl (fun _ => 0))), (q3, .inr (0, [.ref q4])), (q4, .inl (cA 0, 28, .inl (fun _ => 0))), (q5, .inr (0, [.ref q6])), (q6, .inl (cA 0, 28, .inl (fun _ => 0)))] := hD
  clear hPc hDc hFc hk1 hP1 hD1 ht hvm hz1 hw
  refine W.widen (k := 6) (n := 108) (Nat.le_of_ble_eq_true rfl) (Nat.le_of_ble_eq_true rfl) ?_
  refine va_putF (D := D) (ci := 7) (v := .ref q5) (ty := .object "AntLease$House") (C := RX7) (T := TX7) (N := 10) hx hb hts (inC inCX7) tycX7 tycX7_ok nmcX7 hown hK hP hD hS 0 rfl rfl 2 (by decide) (hC hts 116 (w := .fieldLink RX7 23 "AntLease" "trial" "LAntLease$House;") (by decide +kernel)) (fun _ h9 => h9) rfl hin rfl (by decide +kernel) rfl rfl (Nat.le_of_ble_eq_true rfl) dcX7_34 (fun H locs hP hD hS => ?_)
  have hP : va_P D cls9 [(h0, .inr (7, [.ref q1, .ref q3, .ref q5, .null, .null, .null, .null, .null, .null, .long 0])), (q1, .inr (6, [.ref q2, .int 0])), (q2, .inl (cA 0, 48, .inl (fun _ => 0))), (q3, .inr (0, [.ref q4])), (q4, .inl (cA 0, 28, .inl (fun _ => 0))), (q5, .inr (0, [.ref q6])), (q6, .inl (cA 0, 28, .inl (fun _ => 0)))] H := hP
  have hD : va_D A [(h0, .inr (7, [.ref q1, .ref q3, .ref q5, .null, .null, .null, .null, .null, .null, .long 0])), (q1, .inr (6, [.ref q2, .int 0])), (q2, .inl (cA 0, 48, .inl (fun _ => 0))), (q3, .inr (0, [.ref q4])), (q4, .inl (cA 0, 28, .inl (fun _ => 0))), (q5, .inr (0, [.ref q6])), (q6, .inl (cA 0, 28, .inl (fun _ => 0)))] := hD
  refine lv_aload_n hx hb dcX7_37 rfl (lv_at hl 0 rfl) ?_
  refine va_new (ci := 2) (fs := [.null, .int 0, .int 0]) (C := RX2) (T := TX2) (N := 3) hx hb hts (inC inCX2) tycX2 tycX2_ok hown (hC hts 117 (w := .classLink RX7 26 RX2) (by decide +kernel)) (hC hts 66 (w := .instantiable RX2 3) (by decide +kernel)) (hC hts 65 (w := .initialized RX2) (by decide +kernel)) hK hP hD hS hA rfl (by decide +kernel) (Nat.le_of_ble_eq_true rfl) (Nat.le_of_ble_eq_true rfl) dcX7_38 (fun q7 H hP hD hS => ?_)
  have hP : va_P D cls9 [(h0, .inr (7, [.ref q1, .ref q3, .ref q5, .null, .null, .null, .null, .null, .null, .long 0])), (q1, .inr (6, [.ref q2, .int 0])), (q2, .inl (cA 0, 48, .inl (fun _ => 0))), (q3, .inr (0, [.ref q4])), (q4, .inl (cA 0, 28, .inl (fun _ => 0))), (q5, .inr (0, [.ref q6])), (q6, .inl (cA 0, 28, .inl (fun _ => 0))), (q7, .inr (2, [.null, .int 0, .int 0]))] H := hP
  have hD : va_D A [(h0, .inr (7, [.ref q1, .ref q3, .ref q5, .null, .null, .null, .null, .null, .null, .long 0])), (q1, .inr (6, [.ref q2, .int 0])), (q2, .inl (cA 0, 48, .inl (fun _ => 0))), (q3, .inr (0, [.ref q4])), (q4, .inl (cA 0, 28, .inl (fun _ => 0))), (q5, .inr (0, [.ref q6])), (q6, .inl (cA 0, 28, .inl (fun _ => 0))), (q7, .inr (2, [.null, .int 0, .int 0]))] := hD
  refine W.widen (k := 7) (n := 111) (Nat.le_of_ble_eq_true rfl) (Nat.le_of_ble_eq_true rfl) ?_
  refine lv_dup hx hb dcX7_41 rfl ?_
  have hPc := hP.sub (ws' := [(q7, .inr (2, [.null, .int 0, .int 0]))]) [7] rfl
  have hDc := hD.sub (ws' := [(q7, .inr (2, [.null, .int 0, .int 0]))]) [7] (by decide) rfl
  have hFc := va_free (wc := [(q7, .inr (2, [.null, .int 0, .int 0]))]) hD hS hA [7] rfl
  refine va_callv (va_runI (As := []) (rest := [.ref q7, .ref h0]) ⟨hx, hb, hml, hown, hts⟩ (ct_X2 l D cA q7 H.size) (cwI 0 hts (gC (List.mem_of_getElem? (i := 63) (by decide +kernel))) rfl rfl rfl (hC hts 65 (w := .initialized RX2) (by decide +kernel)) (hC hts 118 (w := .methodLink RX7 28 ycX2) (by decide +kernel)) (hC hts 64 (w := .instanceMethod ycX2) (by decide +kernel)) rfl (by decide +kernel) ⟨Nat.le_of_ble_eq_true rfl, Nat.le_of_ble_eq_true rfl⟩) ⟨fun a U g mk q => by obtain ⟨q0, q1, qP, qK, qD⟩ := q; exact ⟨q0, q1, qP, va_K.moved (u := U) (U := U.calling g mk a) (Vm.Alike.refl U.vm) qK, qD⟩, fun U hU hW => ⟨rfl, by rw [hU], by rw [hU]; exact hPc, va_K.moved hW.alike hK, hDc.weaken (fun _ _ _ _ => trivial)⟩⟩ rfl rfl hl.1 rfl (lv_room (Nat.le_of_ble_eq_true rfl)) dcX7_42 ⟨Nat.le_of_ble_eq_true rfl, Nat.le_of_ble_eq_true rfl⟩) hS (fun q _ h => hFc q h) hFc (fun u t H locs ht hvm hw hB hz1 hk1 hS => ?_)
  obtain ⟨q8, hP1, hD1⟩ := hB
  rw [ht] at hP1
  obtain ⟨hP, hD⟩ := va_join (wr := [(h0, .inr (7, [.ref q1, .ref q3, .ref q5, .null, .null, .null, .null, .null, .null, .long 0])), (q1, .inr (6, [.ref q2, .int 0])), (q2, .inl (cA 0, 48, .inl (fun _ => 0))), (q3, .inr (0, [.ref q4])), (q4, .inl (cA 0, 28, .inl (fun _ => 0))), (q5, .inr (0, [.ref q6])), (q6, .inl (cA 0, 28, .inl (fun _ => 0)))]) (w1 := [(q7, .inr (2, [.ref q8, .int 0, .int 0])), (q8, .inl (cA 0, 420, .inl (fun _ => 0)))]) hP hD [7] [0, 1, 2, 3, 4, 5, 6] rfl rfl (by decide) (by decide) hk1 hFc hP1 hD1
  have hP : va_P D cls9 [(h0, .inr (7, [.ref q1, .ref q3, .ref q5, .null, .null, .null, .null, .null, .null, .long 0])), (q1, .inr (6, [.ref q2, .int 0])), (q2, .inl (cA 0, 48, .inl (fun _ => 0))), (q3, .inr (0, [.ref q4])), (q4, .inl (cA 0, 28, .inl (fun _ => 0))), (q5, .inr (0, [.ref q6])), (q6, .inl (cA 0, 28, .inl (fun _ => 0))), (q7, .inr (2, [.ref q8, .int 0, .int 0])), (q8, .inl (cA 0, 420, .inl (fun _ => 0)))] H := hP
  have hD : va_D A [(h0, .inr (7, [.ref q1, .ref q3, .ref q5, .null, .null, .null, .null, .null, .null, .long 0])), (q1, .inr (6, [.ref q2, .int 0])), (q2, .inl (cA 0, 48, .inl (fun _ => 0))), (q3, .inr (0, [.ref q4])), (q4, .inl (cA 0, 28, .inl (fun _ => 0))), (q5, .inr (0, [.ref q6])), (q6, .inl (cA 0, 28, .inl (fun _ => 0))), (q7, .inr (2, [.ref q8, .int 0, .int 0])), (q8, .inl (cA 0, 420, .inl (fun _ => 0)))] := hD
  clear hPc hDc hFc hk1 hP1 hD1 ht hvm hz1 hw
  refine W.widen (k := 8) (n := 531) (Nat.le_of_ble_eq_true rfl) (Nat.le_of_ble_eq_true rfl) ?_
  refine va_putF (D := D) (ci := 7) (v := .ref q7) (ty := .object "AntLease$Past") (C := RX7) (T := TX7) (N := 10) hx hb hts (inC inCX7) tycX7 tycX7_ok nmcX7 hown hK hP hD hS 0 rfl rfl 3 (by decide) (hC hts 119 (w := .fieldLink RX7 29 "AntLease" "past" "LAntLease$Past;") (by decide +kernel)) (fun _ h9 => h9) rfl hin rfl (by decide +kernel) rfl rfl (Nat.le_of_ble_eq_true rfl) dcX7_45 (fun H locs hP hD hS => ?_)
  have hP : va_P D cls9 [(h0, .inr (7, [.ref q1, .ref q3, .ref q5, .ref q7, .null, .null, .null, .null, .null, .long 0])), (q1, .inr (6, [.ref q2, .int 0])), (q2, .inl (cA 0, 48, .inl (fun _ => 0))), (q3, .inr (0, [.ref q4])), (q4, .inl (cA 0, 28, .inl (fun _ => 0))), (q5, .inr (0, [.ref q6])), (q6, .inl (cA 0, 28, .inl (fun _ => 0))), (q7, .inr (2, [.ref q8, .int 0, .int 0])), (q8, .inl (cA 0, 420, .inl (fun _ => 0)))] H := hP
  have hD : va_D A [(h0, .inr (7, [.ref q1, .ref q3, .ref q5, .ref q7, .null, .null, .null, .null, .null, .long 0])), (q1, .inr (6, [.ref q2, .int 0])), (q2, .inl (cA 0, 48, .inl (fun _ => 0))), (q3, .inr (0, [.ref q4])), (q4, .inl (cA 0, 28, .inl (fun _ => 0))), (q5, .inr (0, [.ref q6])), (q6, .inl (cA 0, 28, .inl (fun _ => 0))), (q7, .inr (2, [.ref q8, .int 0, .int 0])), (q8, .inl (cA 0, 420, .inl (fun _ => 0)))] := hD
  refine lv_aload_n hx hb dcX7_48 rfl (lv_at hl 0 rfl) ?_
  refine va_new (ci := 5) (fs := [.null, .int 0]) (C := RX5) (T := TX5) (N := 2) hx hb hts (inC inCX5) tycX5 tycX5_ok hown (hC hts 120 (w := .classLink RX7 33 RX5) (by decide +kernel)) (hC hts 74 (w := .instantiable RX5 2) (by decide +kernel)) (hC hts 73 (w := .initialized RX5) (by decide +kernel)) hK hP hD hS hA rfl (by decide +kernel) (Nat.le_of_ble_eq_true rfl) (Nat.le_of_ble_eq_true rfl) dcX7_49 (fun q9 H hP hD hS => ?_)
  have hP : va_P D cls9 [(h0, .inr (7, [.ref q1, .ref q3, .ref q5, .ref q7, .null, .null, .null, .null, .null, .long 0])), (q1, .inr (6, [.ref q2, .int 0])), (q2, .inl (cA 0, 48, .inl (fun _ => 0))), (q3, .inr (0, [.ref q4])), (q4, .inl (cA 0, 28, .inl (fun _ => 0))), (q5, .inr (0, [.ref q6])), (q6, .inl (cA 0, 28, .inl (fun _ => 0))), (q7, .inr (2, [.ref q8, .int 0, .int 0])), (q8, .inl (cA 0, 420, .inl (fun _ => 0))), (q9, .inr (5, [.null, .int 0]))] H := hP
  have hD : va_D A [(h0, .inr (7, [.ref q1, .ref q3, .ref q5, .ref q7, .null, .null, .null, .null, .null, .long 0])), (q1, .inr (6, [.ref q2, .int 0])), (q2, .inl (cA 0, 48, .inl (fun _ => 0))), (q3, .inr (0, [.ref q4])), (q4, .inl (cA 0, 28, .inl (fun _ => 0))), (q5, .inr (0, [.ref q6])), (q6, .inl (cA 0, 28, .inl (fun _ => 0))), (q7, .inr (2, [.ref q8, .int 0, .int 0])), (q8, .inl (cA 0, 420, .inl (fun _ => 0))), (q9, .inr (5, [.null, .int 0]))] := hD
  refine W.widen (k := 9) (n := 533) (Nat.le_of_ble_eq_true rfl) (Nat.le_of_ble_eq_true rfl) ?_
  refine lv_dup hx hb dcX7_52 rfl ?_
  have hPc := hP.sub (ws' := [(q9, .inr (5, [.null, .int 0]))]) [9] rfl
  have hDc := hD.sub (ws' := [(q9, .inr (5, [.null, .int 0]))]) [9] (by decide) rfl
  have hFc := va_free (wc := [(q9, .inr (5, [.null, .int 0]))]) hD hS hA [9] rfl
  refine va_callv (va_runI (As := []) (rest := [.ref q9, .ref h0]) ⟨hx, hb, hml, hown, hts⟩ (ct_X5 l D cA q9 H.size) (cwI 0 hts (gC (List.mem_of_getElem? (i := 71) (by decide +kernel))) rfl rfl rfl (hC hts 73 (w := .initialized RX5) (by decide +kernel)) (hC hts 121 (w := .methodLink RX7 35 ycX5) (by decide +kernel)) (hC hts 72 (w := .instanceMethod ycX5) (by decide +kernel)) rfl (by decide +kernel) ⟨Nat.le_of_ble_eq_true rfl, Nat.le_of_ble_eq_true rfl⟩) ⟨fun a U g mk q => by obtain ⟨q0, q1, qP, qK, qD⟩ := q; exact ⟨q0, q1, qP, va_K.moved (u := U) (U := U.calling g mk a) (Vm.Alike.refl U.vm) qK, qD⟩, fun U hU hW => ⟨rfl, by rw [hU], by rw [hU]; exact hPc, va_K.moved hW.alike hK, hDc.weaken (fun _ _ _ _ => trivial)⟩⟩ rfl rfl hl.1 rfl (lv_room (Nat.le_of_ble_eq_true rfl)) dcX7_53 ⟨Nat.le_of_ble_eq_true rfl, Nat.le_of_ble_eq_true rfl⟩) hS (fun q _ h => hFc q h) hFc (fun u t H locs ht hvm hw hB hz1 hk1 hS => ?_)
  obtain ⟨q10, hP1, hD1⟩ := hB
  rw [ht] at hP1
  obtain ⟨hP, hD⟩ := va_join (wr := [(h0, .inr (7, [.ref q1, .ref q3, .ref q5, .ref q7, .null, .null, .null, .null, .null, .long 0])), (q1, .inr (6, [.ref q2, .int 0])), (q2, .inl (cA 0, 48, .inl (fun _ => 0))), (q3, .inr (0, [.ref q4])), (q4, .inl (cA 0, 28, .inl (fun _ => 0))), (q5, .inr (0, [.ref q6])), (q6, .inl (cA 0, 28, .inl (fun _ => 0))), (q7, .inr (2, [.ref q8, .int 0, .int 0])), (q8, .inl (cA 0, 420, .inl (fun _ => 0)))]) (w1 := [(q9, .inr (5, [.ref q10, .int 0])), (q10, .inl (cA 0, 56, .inl (fun _ => 0)))]) hP hD [9] [0, 1, 2, 3, 4, 5, 6, 7, 8] rfl rfl (by decide) (by decide) hk1 hFc hP1 hD1
  have hP : va_P D cls9 [(h0, .inr (7, [.ref q1, .ref q3, .ref q5, .ref q7, .null, .null, .null, .null, .null, .long 0])), (q1, .inr (6, [.ref q2, .int 0])), (q2, .inl (cA 0, 48, .inl (fun _ => 0))), (q3, .inr (0, [.ref q4])), (q4, .inl (cA 0, 28, .inl (fun _ => 0))), (q5, .inr (0, [.ref q6])), (q6, .inl (cA 0, 28, .inl (fun _ => 0))), (q7, .inr (2, [.ref q8, .int 0, .int 0])), (q8, .inl (cA 0, 420, .inl (fun _ => 0))), (q9, .inr (5, [.ref q10, .int 0])), (q10, .inl (cA 0, 56, .inl (fun _ => 0)))] H := hP
  have hD : va_D A [(h0, .inr (7, [.ref q1, .ref q3, .ref q5, .ref q7, .null, .null, .null, .null, .null, .long 0])), (q1, .inr (6, [.ref q2, .int 0])), (q2, .inl (cA 0, 48, .inl (fun _ => 0))), (q3, .inr (0, [.ref q4])), (q4, .inl (cA 0, 28, .inl (fun _ => 0))), (q5, .inr (0, [.ref q6])), (q6, .inl (cA 0, 28, .inl (fun _ => 0))), (q7, .inr (2, [.ref q8, .int 0, .int 0])), (q8, .inl (cA 0, 420, .inl (fun _ => 0))), (q9, .inr (5, [.ref q10, .int 0])), (q10, .inl (cA 0, 56, .inl (fun _ => 0)))] := hD
  clear hPc hDc hFc hk1 hP1 hD1 ht hvm hz1 hw
  refine W.widen (k := 10) (n := 589) (Nat.le_of_ble_eq_true rfl) (Nat.le_of_ble_eq_true rfl) ?_
  refine va_putF (D := D) (ci := 7) (v := .ref q9) (ty := .object "AntLease$Slots") (C := RX7) (T := TX7) (N := 10) hx hb hts (inC inCX7) tycX7 tycX7_ok nmcX7 hown hK hP hD hS 0 rfl rfl 4 (by decide) (hC hts 122 (w := .fieldLink RX7 36 "AntLease" "slots" "LAntLease$Slots;") (by decide +kernel)) (fun _ h9 => h9) rfl hin rfl (by decide +kernel) rfl rfl (Nat.le_of_ble_eq_true rfl) dcX7_56 (fun H locs hP hD hS => ?_)
  have hP : va_P D cls9 [(h0, .inr (7, [.ref q1, .ref q3, .ref q5, .ref q7, .ref q9, .null, .null, .null, .null, .long 0])), (q1, .inr (6, [.ref q2, .int 0])), (q2, .inl (cA 0, 48, .inl (fun _ => 0))), (q3, .inr (0, [.ref q4])), (q4, .inl (cA 0, 28, .inl (fun _ => 0))), (q5, .inr (0, [.ref q6])), (q6, .inl (cA 0, 28, .inl (fun _ => 0))), (q7, .inr (2, [.ref q8, .int 0, .int 0])), (q8, .inl (cA 0, 420, .inl (fun _ => 0))), (q9, .inr (5, [.ref q10, .int 0])), (q10, .inl (cA 0, 56, .inl (fun _ => 0)))] H := hP
  have hD : va_D A [(h0, .inr (7, [.ref q1, .ref q3, .ref q5, .ref q7, .ref q9, .null, .null, .null, .null, .long 0])), (q1, .inr (6, [.ref q2, .int 0])), (q2, .inl (cA 0, 48, .inl (fun _ => 0))), (q3, .inr (0, [.ref q4])), (q4, .inl (cA 0, 28, .inl (fun _ => 0))), (q5, .inr (0, [.ref q6])), (q6, .inl (cA 0, 28, .inl (fun _ => 0))), (q7, .inr (2, [.ref q8, .int 0, .int 0])), (q8, .inl (cA 0, 420, .inl (fun _ => 0))), (q9, .inr (5, [.ref q10, .int 0])), (q10, .inl (cA 0, 56, .inl (fun _ => 0)))] := hD
  refine lv_aload_n hx hb dcX7_59 rfl (lv_at hl 0 rfl) ?_
  refine va_new (ci := 4) (fs := [.int 0, .int 0, .int 0]) (C := RX4) (T := TX4) (N := 3) hx hb hts (inC inCX4) tycX4 tycX4_ok hown (hC hts 123 (w := .classLink RX7 40 RX4) (by decide +kernel)) (hC hts 70 (w := .instantiable RX4 3) (by decide +kernel)) (hC hts 69 (w := .initialized RX4) (by decide +kernel)) hK hP hD hS hA rfl (by decide +kernel) (Nat.le_of_ble_eq_true rfl) (Nat.le_of_ble_eq_true rfl) dcX7_60 (fun q11 H hP hD hS => ?_)
  have hP : va_P D cls9 [(h0, .inr (7, [.ref q1, .ref q3, .ref q5, .ref q7, .ref q9, .null, .null, .null, .null, .long 0])), (q1, .inr (6, [.ref q2, .int 0])), (q2, .inl (cA 0, 48, .inl (fun _ => 0))), (q3, .inr (0, [.ref q4])), (q4, .inl (cA 0, 28, .inl (fun _ => 0))), (q5, .inr (0, [.ref q6])), (q6, .inl (cA 0, 28, .inl (fun _ => 0))), (q7, .inr (2, [.ref q8, .int 0, .int 0])), (q8, .inl (cA 0, 420, .inl (fun _ => 0))), (q9, .inr (5, [.ref q10, .int 0])), (q10, .inl (cA 0, 56, .inl (fun _ => 0))), (q11, .inr (4, [.int 0, .int 0, .int 0]))] H := hP
  have hD : va_D A [(h0, .inr (7, [.ref q1, .ref q3, .ref q5, .ref q7, .ref q9, .null, .null, .null, .null, .long 0])), (q1, .inr (6, [.ref q2, .int 0])), (q2, .inl (cA 0, 48, .inl (fun _ => 0))), (q3, .inr (0, [.ref q4])), (q4, .inl (cA 0, 28, .inl (fun _ => 0))), (q5, .inr (0, [.ref q6])), (q6, .inl (cA 0, 28, .inl (fun _ => 0))), (q7, .inr (2, [.ref q8, .int 0, .int 0])), (q8, .inl (cA 0, 420, .inl (fun _ => 0))), (q9, .inr (5, [.ref q10, .int 0])), (q10, .inl (cA 0, 56, .inl (fun _ => 0))), (q11, .inr (4, [.int 0, .int 0, .int 0]))] := hD
  refine W.widen (k := 11) (n := 592) (Nat.le_of_ble_eq_true rfl) (Nat.le_of_ble_eq_true rfl) ?_
  refine lv_dup hx hb dcX7_63 rfl ?_
  have hPc := hP.sub (ws' := [(q11, .inr (4, [.int 0, .int 0, .int 0]))]) [11] rfl
  have hDc := hD.sub (ws' := [(q11, .inr (4, [.int 0, .int 0, .int 0]))]) [11] (by decide) rfl
  have hFc := va_free (wc := [(q11, .inr (4, [.int 0, .int 0, .int 0]))]) hD hS hA [11] rfl
  refine va_callv (va_runI (As := []) (rest := [.ref q11, .ref h0]) ⟨hx, hb, hml, hown, hts⟩ (ct_X4 l D cA q11 H.size) (cwI 0 hts (gC (List.mem_of_getElem? (i := 67) (by decide +kernel))) rfl rfl rfl (hC hts 69 (w := .initialized RX4) (by decide +kernel)) (hC hts 124 (w := .methodLink RX7 42 ycX4) (by decide +kernel)) (hC hts 68 (w := .instanceMethod ycX4) (by decide +kernel)) rfl (by decide +kernel) ⟨Nat.le_of_ble_eq_true rfl, Nat.le_of_ble_eq_true rfl⟩) ⟨fun a U g mk q => by obtain ⟨q0, q1, qP, qK, qD⟩ := q; exact ⟨q0, q1, qP, va_K.moved (u := U) (U := U.calling g mk a) (Vm.Alike.refl U.vm) qK, qD⟩, fun U hU hW => ⟨rfl, by rw [hU], by rw [hU]; exact hPc, va_K.moved hW.alike hK, hDc.weaken (fun _ _ _ _ => trivial)⟩⟩ rfl rfl hl.1 rfl (lv_room (Nat.le_of_ble_eq_true rfl)) dcX7_64 ⟨Nat.le_of_ble_eq_true rfl, Nat.le_of_ble_eq_true rfl⟩) hS (fun q _ h => hFc q h) hFc (fun u t H locs ht hvm hw hB hz1 hk1 hS => ?_)
  obtain ⟨hP1, hD1⟩ := hB
  rw [ht] at hP1
  obtain ⟨hP, hD⟩ := va_join (wr := [(h0, .inr (7, [.ref q1, .ref q3, .ref q5, .ref q7, .ref q9, .null, .null, .null, .null, .long 0])), (q1, .inr (6, [.ref q2, .int 0])), (q2, .inl (cA 0, 48, .inl (fun _ => 0))), (q3, .inr (0, [.ref q4])), (q4, .inl (cA 0, 28, .inl (fun _ => 0))), (q5, .inr (0, [.ref q6])), (q6, .inl (cA 0, 28, .inl (fun _ => 0))), (q7, .inr (2, [.ref q8, .int 0, .int 0])), (q8, .inl (cA 0, 420, .inl (fun _ => 0))), (q9, .inr (5, [.ref q10, .int 0])), (q10, .inl (cA 0, 56, .inl (fun _ => 0)))]) (w1 := [(q11, .inr (4, [.int 0, .int 0, .int 0]))]) hP hD [11] [0, 1, 2, 3, 4, 5, 6, 7, 8, 9, 10] rfl rfl (by decide) (by decide) hk1 hFc hP1 hD1
  have hP : va_P D cls9 [(h0, .inr (7, [.ref q1, .ref q3, .ref q5, .ref q7, .ref q9, .null, .null, .null, .null, .long 0])), (q1, .inr (6, [.ref q2, .int 0])), (q2, .inl (cA 0, 48, .inl (fun _ => 0))), (q3, .inr (0, [.ref q4])), (q4, .inl (cA 0, 28, .inl (fun _ => 0))), (q5, .inr (0, [.ref q6])), (q6, .inl (cA 0, 28, .inl (fun _ => 0))), (q7, .inr (2, [.ref q8, .int 0, .int 0])), (q8, .inl (cA 0, 420, .inl (fun _ => 0))), (q9, .inr (5, [.ref q10, .int 0])), (q10, .inl (cA 0, 56, .inl (fun _ => 0))), (q11, .inr (4, [.int 0, .int 0, .int 0]))] H := hP
  have hD : va_D A [(h0, .inr (7, [.ref q1, .ref q3, .ref q5, .ref q7, .ref q9, .null, .null, .null, .null, .long 0])), (q1, .inr (6, [.ref q2, .int 0])), (q2, .inl (cA 0, 48, .inl (fun _ => 0))), (q3, .inr (0, [.ref q4])), (q4, .inl (cA 0, 28, .inl (fun _ => 0))), (q5, .inr (0, [.ref q6])), (q6, .inl (cA 0, 28, .inl (fun _ => 0))), (q7, .inr (2, [.ref q8, .int 0, .int 0])), (q8, .inl (cA 0, 420, .inl (fun _ => 0))), (q9, .inr (5, [.ref q10, .int 0])), (q10, .inl (cA 0, 56, .inl (fun _ => 0))), (q11, .inr (4, [.int 0, .int 0, .int 0]))] := hD
  clear hPc hDc hFc hk1 hP1 hD1 ht hvm hz1 hw
  refine W.widen (k := 11) (n := 592) (Nat.le_of_ble_eq_true rfl) (Nat.le_of_ble_eq_true rfl) ?_
  refine va_putF (D := D) (ci := 7) (v := .ref q11) (ty := .object "AntLease$Said") (C := RX7) (T := TX7) (N := 10) hx hb hts (inC inCX7) tycX7 tycX7_ok nmcX7 hown hK hP hD hS 0 rfl rfl 5 (by decide) (hC hts 125 (w := .fieldLink RX7 43 "AntLease" "said" "LAntLease$Said;") (by decide +kernel)) (fun _ h9 => h9) rfl hin rfl (by decide +kernel) rfl rfl (Nat.le_of_ble_eq_true rfl) dcX7_67 (fun H locs hP hD hS => ?_)
  have hP : va_P D cls9 [(h0, .inr (7, [.ref q1, .ref q3, .ref q5, .ref q7, .ref q9, .ref q11, .null, .null, .null, .long 0])), (q1, .inr (6, [.ref q2, .int 0])), (q2, .inl (cA 0, 48, .inl (fun _ => 0))), (q3, .inr (0, [.ref q4])), (q4, .inl (cA 0, 28, .inl (fun _ => 0))), (q5, .inr (0, [.ref q6])), (q6, .inl (cA 0, 28, .inl (fun _ => 0))), (q7, .inr (2, [.ref q8, .int 0, .int 0])), (q8, .inl (cA 0, 420, .inl (fun _ => 0))), (q9, .inr (5, [.ref q10, .int 0])), (q10, .inl (cA 0, 56, .inl (fun _ => 0))), (q11, .inr (4, [.int 0, .int 0, .int 0]))] H := hP
  have hD : va_D A [(h0, .inr (7, [.ref q1, .ref q3, .ref q5, .ref q7, .ref q9, .ref q11, .null, .null, .null, .long 0])), (q1, .inr (6, [.ref q2, .int 0])), (q2, .inl (cA 0, 48, .inl (fun _ => 0))), (q3, .inr (0, [.ref q4])), (q4, .inl (cA 0, 28, .inl (fun _ => 0))), (q5, .inr (0, [.ref q6])), (q6, .inl (cA 0, 28, .inl (fun _ => 0))), (q7, .inr (2, [.ref q8, .int 0, .int 0])), (q8, .inl (cA 0, 420, .inl (fun _ => 0))), (q9, .inr (5, [.ref q10, .int 0])), (q10, .inl (cA 0, 56, .inl (fun _ => 0))), (q11, .inr (4, [.int 0, .int 0, .int 0]))] := hD
  refine lv_aload_n hx hb dcX7_70 rfl (lv_at hl 0 rfl) ?_
  refine va_new (ci := 1) (fs := [.int 0, .int 0]) (C := RX1) (T := TX1) (N := 2) hx hb hts (inC inCX1) tycX1 tycX1_ok hown (hC hts 126 (w := .classLink RX7 47 RX1) (by decide +kernel)) (hC hts 62 (w := .instantiable RX1 2) (by decide +kernel)) (hC hts 61 (w := .initialized RX1) (by decide +kernel)) hK hP hD hS hA rfl (by decide +kernel) (Nat.le_of_ble_eq_true rfl) (Nat.le_of_ble_eq_true rfl) dcX7_71 (fun q12 H hP hD hS => ?_)
  have hP : va_P D cls9 [(h0, .inr (7, [.ref q1, .ref q3, .ref q5, .ref q7, .ref q9, .ref q11, .null, .null, .null, .long 0])), (q1, .inr (6, [.ref q2, .int 0])), (q2, .inl (cA 0, 48, .inl (fun _ => 0))), (q3, .inr (0, [.ref q4])), (q4, .inl (cA 0, 28, .inl (fun _ => 0))), (q5, .inr (0, [.ref q6])), (q6, .inl (cA 0, 28, .inl (fun _ => 0))), (q7, .inr (2, [.ref q8, .int 0, .int 0])), (q8, .inl (cA 0, 420, .inl (fun _ => 0))), (q9, .inr (5, [.ref q10, .int 0])), (q10, .inl (cA 0, 56, .inl (fun _ => 0))), (q11, .inr (4, [.int 0, .int 0, .int 0])), (q12, .inr (1, [.int 0, .int 0]))] H := hP
  have hD : va_D A [(h0, .inr (7, [.ref q1, .ref q3, .ref q5, .ref q7, .ref q9, .ref q11, .null, .null, .null, .long 0])), (q1, .inr (6, [.ref q2, .int 0])), (q2, .inl (cA 0, 48, .inl (fun _ => 0))), (q3, .inr (0, [.ref q4])), (q4, .inl (cA 0, 28, .inl (fun _ => 0))), (q5, .inr (0, [.ref q6])), (q6, .inl (cA 0, 28, .inl (fun _ => 0))), (q7, .inr (2, [.ref q8, .int 0, .int 0])), (q8, .inl (cA 0, 420, .inl (fun _ => 0))), (q9, .inr (5, [.ref q10, .int 0])), (q10, .inl (cA 0, 56, .inl (fun _ => 0))), (q11, .inr (4, [.int 0, .int 0, .int 0])), (q12, .inr (1, [.int 0, .int 0]))] := hD
  refine W.widen (k := 12) (n := 594) (Nat.le_of_ble_eq_true rfl) (Nat.le_of_ble_eq_true rfl) ?_
  refine lv_dup hx hb dcX7_74 rfl ?_
  have hPc := hP.sub (ws' := [(q12, .inr (1, [.int 0, .int 0]))]) [12] rfl
  have hDc := hD.sub (ws' := [(q12, .inr (1, [.int 0, .int 0]))]) [12] (by decide) rfl
  have hFc := va_free (wc := [(q12, .inr (1, [.int 0, .int 0]))]) hD hS hA [12] rfl
  refine va_callv (va_runI (As := []) (rest := [.ref q12, .ref h0]) ⟨hx, hb, hml, hown, hts⟩ (ct_X1 l D cA q12 H.size) (cwI 0 hts (gC (List.mem_of_getElem? (i := 59) (by decide +kernel))) rfl rfl rfl (hC hts 61 (w := .initialized RX1) (by decide +kernel)) (hC hts 127 (w := .methodLink RX7 49 ycX1) (by decide +kernel)) (hC hts 60 (w := .instanceMethod ycX1) (by decide +kernel)) rfl (by decide +kernel) ⟨Nat.le_of_ble_eq_true rfl, Nat.le_of_ble_eq_true rfl⟩) ⟨fun a U g mk q => by obtain ⟨q0, q1, qP, qK, qD⟩ := q; exact ⟨q0, q1, qP, va_K.moved (u := U) (U := U.calling g mk a) (Vm.Alike.refl U.vm) qK, qD⟩, fun U hU hW => ⟨rfl, by rw [hU], by rw [hU]; exact hPc, va_K.moved hW.alike hK, hDc.weaken (fun _ _ _ _ => trivial)⟩⟩ rfl rfl hl.1 rfl (lv_room (Nat.le_of_ble_eq_true rfl)) dcX7_75 ⟨Nat.le_of_ble_eq_true rfl, Nat.le_of_ble_eq_true rfl⟩) hS (fun q _ h => hFc q h) hFc (fun u t H locs ht hvm hw hB hz1 hk1 hS => ?_)
  obtain ⟨hP1, hD1⟩ := hB
  rw [ht] at hP1
  obtain ⟨hP, hD⟩ := va_join (wr := [(h0, .inr (7, [.ref q1, .ref q3, .ref q5, .ref q7, .ref q9, .ref q11, .null, .null, .null, .long 0])), (q1, .inr (6, [.ref q2, .int 0])), (q2, .inl (cA 0, 48, .inl (fun _ => 0))), (q3, .inr (0, [.ref q4])), (q4, .inl (cA 0, 28, .inl (fun _ => 0))), (q5, .inr (0, [.ref q6])), (q6, .inl (cA 0, 28, .inl (fun _ => 0))), (q7, .inr (2, [.ref q8, .int 0, .int 0])), (q8, .inl (cA 0, 420, .inl (fun _ => 0))), (q9, .inr (5, [.ref q10, .int 0])), (q10, .inl (cA 0, 56, .inl (fun _ => 0))), (q11, .inr (4, [.int 0, .int 0, .int 0]))]) (w1 := [(q12, .inr (1, [.int (-9), .int (-9)]))]) hP hD [12] [0, 1, 2, 3, 4, 5, 6, 7, 8, 9, 10, 11] rfl rfl (by decide) (by decide) hk1 hFc hP1 hD1
  have hP : va_P D cls9 [(h0, .inr (7, [.ref q1, .ref q3, .ref q5, .ref q7, .ref q9, .ref q11, .null, .null, .null, .long 0])), (q1, .inr (6, [.ref q2, .int 0])), (q2, .inl (cA 0, 48, .inl (fun _ => 0))), (q3, .inr (0, [.ref q4])), (q4, .inl (cA 0, 28, .inl (fun _ => 0))), (q5, .inr (0, [.ref q6])), (q6, .inl (cA 0, 28, .inl (fun _ => 0))), (q7, .inr (2, [.ref q8, .int 0, .int 0])), (q8, .inl (cA 0, 420, .inl (fun _ => 0))), (q9, .inr (5, [.ref q10, .int 0])), (q10, .inl (cA 0, 56, .inl (fun _ => 0))), (q11, .inr (4, [.int 0, .int 0, .int 0])), (q12, .inr (1, [.int (-9), .int (-9)]))] H := hP
  have hD : va_D A [(h0, .inr (7, [.ref q1, .ref q3, .ref q5, .ref q7, .ref q9, .ref q11, .null, .null, .null, .long 0])), (q1, .inr (6, [.ref q2, .int 0])), (q2, .inl (cA 0, 48, .inl (fun _ => 0))), (q3, .inr (0, [.ref q4])), (q4, .inl (cA 0, 28, .inl (fun _ => 0))), (q5, .inr (0, [.ref q6])), (q6, .inl (cA 0, 28, .inl (fun _ => 0))), (q7, .inr (2, [.ref q8, .int 0, .int 0])), (q8, .inl (cA 0, 420, .inl (fun _ => 0))), (q9, .inr (5, [.ref q10, .int 0])), (q10, .inl (cA 0, 56, .inl (fun _ => 0))), (q11, .inr (4, [.int 0, .int 0, .int 0])), (q12, .inr (1, [.int (-9), .int (-9)]))] := hD
  clear hPc hDc hFc hk1 hP1 hD1 ht hvm hz1 hw
  refine W.widen (k := 12) (n := 594) (Nat.le_of_ble_eq_true rfl) (Nat.le_of_ble_eq_true rfl) ?_
  refine va_putF (D := D) (ci := 7) (v := .ref q12) (ty := .object "AntLease$Least") (C := RX7) (T := TX7) (N := 10) hx hb hts (inC inCX7) tycX7 tycX7_ok nmcX7 hown hK hP hD hS 0 rfl rfl 6 (by decide) (hC hts 128 (w := .fieldLink RX7 50 "AntLease" "fewest" "LAntLease$Least;") (by decide +kernel)) (fun _ h9 => h9) rfl hin rfl (by decide +kernel) rfl rfl (Nat.le_of_ble_eq_true rfl) dcX7_78 (fun H locs hP hD hS => ?_)
  have hP : va_P D cls9 [(h0, .inr (7, [.ref q1, .ref q3, .ref q5, .ref q7, .ref q9, .ref q11, .ref q12, .null, .null, .long 0])), (q1, .inr (6, [.ref q2, .int 0])), (q2, .inl (cA 0, 48, .inl (fun _ => 0))), (q3, .inr (0, [.ref q4])), (q4, .inl (cA 0, 28, .inl (fun _ => 0))), (q5, .inr (0, [.ref q6])), (q6, .inl (cA 0, 28, .inl (fun _ => 0))), (q7, .inr (2, [.ref q8, .int 0, .int 0])), (q8, .inl (cA 0, 420, .inl (fun _ => 0))), (q9, .inr (5, [.ref q10, .int 0])), (q10, .inl (cA 0, 56, .inl (fun _ => 0))), (q11, .inr (4, [.int 0, .int 0, .int 0])), (q12, .inr (1, [.int (-9), .int (-9)]))] H := hP
  have hD : va_D A [(h0, .inr (7, [.ref q1, .ref q3, .ref q5, .ref q7, .ref q9, .ref q11, .ref q12, .null, .null, .long 0])), (q1, .inr (6, [.ref q2, .int 0])), (q2, .inl (cA 0, 48, .inl (fun _ => 0))), (q3, .inr (0, [.ref q4])), (q4, .inl (cA 0, 28, .inl (fun _ => 0))), (q5, .inr (0, [.ref q6])), (q6, .inl (cA 0, 28, .inl (fun _ => 0))), (q7, .inr (2, [.ref q8, .int 0, .int 0])), (q8, .inl (cA 0, 420, .inl (fun _ => 0))), (q9, .inr (5, [.ref q10, .int 0])), (q10, .inl (cA 0, 56, .inl (fun _ => 0))), (q11, .inr (4, [.int 0, .int 0, .int 0])), (q12, .inr (1, [.int (-9), .int (-9)]))] := hD
  refine lv_aload_n hx hb dcX7_81 rfl (lv_at hl 0 rfl) ?_
  refine lv_iconst (v := 4) hx hb dcX7_82 (by decide) ?_
  refine va_newa (atype := .int) (N' := 4) (a0 := (4, .inl (fun _ => 0))) hx hb (hC hts 90 (w := .arrayClass .int) (by decide +kernel)) rfl hK hP hD hS hA (fun _ => rfl) (by decide) (by decide) (Nat.le_of_ble_eq_true rfl) (Nat.le_of_ble_eq_true rfl) (Nat.le_of_ble_eq_true rfl) dcX7_83 (fun q13 cB H hK5 hP hD hS => ?_)
  obtain rfl : cB = cA 0 := ca_0 hK hK5
  clear hK5
  have hP : va_P D cls9 [(h0, .inr (7, [.ref q1, .ref q3, .ref q5, .ref q7, .ref q9, .ref q11, .ref q12, .null, .null, .long 0])), (q1, .inr (6, [.ref q2, .int 0])), (q2, .inl (cA 0, 48, .inl (fun _ => 0))), (q3, .inr (0, [.ref q4])), (q4, .inl (cA 0, 28, .inl (fun _ => 0))), (q5, .inr (0, [.ref q6])), (q6, .inl (cA 0, 28, .inl (fun _ => 0))), (q7, .inr (2, [.ref q8, .int 0, .int 0])), (q8, .inl (cA 0, 420, .inl (fun _ => 0))), (q9, .inr (5, [.ref q10, .int 0])), (q10, .inl (cA 0, 56, .inl (fun _ => 0))), (q11, .inr (4, [.int 0, .int 0, .int 0])), (q12, .inr (1, [.int (-9), .int (-9)])), (q13, .inl (cA 0, 4, .inl (fun _ => 0)))] H := hP
  have hD : va_D A [(h0, .inr (7, [.ref q1, .ref q3, .ref q5, .ref q7, .ref q9, .ref q11, .ref q12, .null, .null, .long 0])), (q1, .inr (6, [.ref q2, .int 0])), (q2, .inl (cA 0, 48, .inl (fun _ => 0))), (q3, .inr (0, [.ref q4])), (q4, .inl (cA 0, 28, .inl (fun _ => 0))), (q5, .inr (0, [.ref q6])), (q6, .inl (cA 0, 28, .inl (fun _ => 0))), (q7, .inr (2, [.ref q8, .int 0, .int 0])), (q8, .inl (cA 0, 420, .inl (fun _ => 0))), (q9, .inr (5, [.ref q10, .int 0])), (q10, .inl (cA 0, 56, .inl (fun _ => 0))), (q11, .inr (4, [.int 0, .int 0, .int 0])), (q12, .inr (1, [.int (-9), .int (-9)])), (q13, .inl (cA 0, 4, .inl (fun _ => 0)))] := hD
  refine W.widen (k := 13) (n := 598) (Nat.le_of_ble_eq_true rfl) (Nat.le_of_ble_eq_true rfl) ?_
  refine va_putF (D := D) (ci := 7) (v := .ref q13) (ty := .array .int) (C := RX7) (T := TX7) (N := 10) hx hb hts (inC inCX7) tycX7 tycX7_ok nmcX7 hown hK hP hD hS 0 rfl rfl 7 (by decide) (hC hts 129 (w := .fieldLink RX7 54 "AntLease" "doings" "[I") (by decide +kernel)) (fun _ h9 => h9) rfl hin rfl (by decide +kernel) rfl rfl (Nat.le_of_ble_eq_true rfl) dcX7_85 (fun H locs hP hD hS => ?_)
  have hP : va_P D cls9 [(h0, .inr (7, [.ref q1, .ref q3, .ref q5, .ref q7, .ref q9, .ref q11, .ref q12, .ref q13, .null, .long 0])), (q1, .inr (6, [.ref q2, .int 0])), (q2, .inl (cA 0, 48, .inl (fun _ => 0))), (q3, .inr (0, [.ref q4])), (q4, .inl (cA 0, 28, .inl (fun _ => 0))), (q5, .inr (0, [.ref q6])), (q6, .inl (cA 0, 28, .inl (fun _ => 0))), (q7, .inr (2, [.ref q8, .int 0, .int 0])), (q8, .inl (cA 0, 420, .inl (fun _ => 0))), (q9, .inr (5, [.ref q10, .int 0])), (q10, .inl (cA 0, 56, .inl (fun _ => 0))), (q11, .inr (4, [.int 0, .int 0, .int 0])), (q12, .inr (1, [.int (-9), .int (-9)])), (q13, .inl (cA 0, 4, .inl (fun _ => 0)))] H := hP
  have hD : va_D A [(h0, .inr (7, [.ref q1, .ref q3, .ref q5, .ref q7, .ref q9, .ref q11, .ref q12, .ref q13, .null, .long 0])), (q1, .inr (6, [.ref q2, .int 0])), (q2, .inl (cA 0, 48, .inl (fun _ => 0))), (q3, .inr (0, [.ref q4])), (q4, .inl (cA 0, 28, .inl (fun _ => 0))), (q5, .inr (0, [.ref q6])), (q6, .inl (cA 0, 28, .inl (fun _ => 0))), (q7, .inr (2, [.ref q8, .int 0, .int 0])), (q8, .inl (cA 0, 420, .inl (fun _ => 0))), (q9, .inr (5, [.ref q10, .int 0])), (q10, .inl (cA 0, 56, .inl (fun _ => 0))), (q11, .inr (4, [.int 0, .int 0, .int 0])), (q12, .inr (1, [.int (-9), .int (-9)])), (q13, .inl (cA 0, 4, .inl (fun _ => 0)))] := hD
  refine lv_aload_n hx hb dcX7_88 rfl (lv_at hl 0 rfl) ?_
  refine lv_bipush (v := 6) hx hb dcX7_89 (by decide) ?_
  refine va_newa (atype := .int) (N' := 6) (a0 := (6, .inl (fun _ => 0))) hx hb (hC hts 90 (w := .arrayClass .int) (by decide +kernel)) rfl hK hP hD hS hA (fun _ => rfl) (by decide) (by decide) (Nat.le_of_ble_eq_true rfl) (Nat.le_of_ble_eq_true rfl) (Nat.le_of_ble_eq_true rfl) dcX7_91 (fun q14 cB H hK5 hP hD hS => ?_)
  obtain rfl : cB = cA 0 := ca_0 hK hK5
  clear hK5
  have hP : va_P D cls9 [(h0, .inr (7, [.ref q1, .ref q3, .ref q5, .ref q7, .ref q9, .ref q11, .ref q12, .ref q13, .null, .long 0])), (q1, .inr (6, [.ref q2, .int 0])), (q2, .inl (cA 0, 48, .inl (fun _ => 0))), (q3, .inr (0, [.ref q4])), (q4, .inl (cA 0, 28, .inl (fun _ => 0))), (q5, .inr (0, [.ref q6])), (q6, .inl (cA 0, 28, .inl (fun _ => 0))), (q7, .inr (2, [.ref q8, .int 0, .int 0])), (q8, .inl (cA 0, 420, .inl (fun _ => 0))), (q9, .inr (5, [.ref q10, .int 0])), (q10, .inl (cA 0, 56, .inl (fun _ => 0))), (q11, .inr (4, [.int 0, .int 0, .int 0])), (q12, .inr (1, [.int (-9), .int (-9)])), (q13, .inl (cA 0, 4, .inl (fun _ => 0))), (q14, .inl (cA 0, 6, .inl (fun _ => 0)))] H := hP
  have hD : va_D A [(h0, .inr (7, [.ref q1, .ref q3, .ref q5, .ref q7, .ref q9, .ref q11, .ref q12, .ref q13, .null, .long 0])), (q1, .inr (6, [.ref q2, .int 0])), (q2, .inl (cA 0, 48, .inl (fun _ => 0))), (q3, .inr (0, [.ref q4])), (q4, .inl (cA 0, 28, .inl (fun _ => 0))), (q5, .inr (0, [.ref q6])), (q6, .inl (cA 0, 28, .inl (fun _ => 0))), (q7, .inr (2, [.ref q8, .int 0, .int 0])), (q8, .inl (cA 0, 420, .inl (fun _ => 0))), (q9, .inr (5, [.ref q10, .int 0])), (q10, .inl (cA 0, 56, .inl (fun _ => 0))), (q11, .inr (4, [.int 0, .int 0, .int 0])), (q12, .inr (1, [.int (-9), .int (-9)])), (q13, .inl (cA 0, 4, .inl (fun _ => 0))), (q14, .inl (cA 0, 6, .inl (fun _ => 0)))] := hD
  refine W.widen (k := 14) (n := 604) (Nat.le_of_ble_eq_true rfl) (Nat.le_of_ble_eq_true rfl) ?_
  refine va_putF (D := D) (ci := 7) (v := .ref q14) (ty := .array .int) (C := RX7) (T := TX7) (N := 10) hx hb hts (inC inCX7) tycX7 tycX7_ok nmcX7 hown hK hP hD hS 0 rfl rfl 8 (by decide) (hC hts 130 (w := .fieldLink RX7 58 "AntLease" "chances" "[I") (by decide +kernel)) (fun _ h9 => h9) rfl hin rfl (by decide +kernel) rfl rfl (Nat.le_of_ble_eq_true rfl) dcX7_93 (fun H locs hP hD hS => ?_)
  have hP : va_P D cls9 [(h0, .inr (7, [.ref q1, .ref q3, .ref q5, .ref q7, .ref q9, .ref q11, .ref q12, .ref q13, .ref q14, .long 0])), (q1, .inr (6, [.ref q2, .int 0])), (q2, .inl (cA 0, 48, .inl (fun _ => 0))), (q3, .inr (0, [.ref q4])), (q4, .inl (cA 0, 28, .inl (fun _ => 0))), (q5, .inr (0, [.ref q6])), (q6, .inl (cA 0, 28, .inl (fun _ => 0))), (q7, .inr (2, [.ref q8, .int 0, .int 0])), (q8, .inl (cA 0, 420, .inl (fun _ => 0))), (q9, .inr (5, [.ref q10, .int 0])), (q10, .inl (cA 0, 56, .inl (fun _ => 0))), (q11, .inr (4, [.int 0, .int 0, .int 0])), (q12, .inr (1, [.int (-9), .int (-9)])), (q13, .inl (cA 0, 4, .inl (fun _ => 0))), (q14, .inl (cA 0, 6, .inl (fun _ => 0)))] H := hP
  have hD : va_D A [(h0, .inr (7, [.ref q1, .ref q3, .ref q5, .ref q7, .ref q9, .ref q11, .ref q12, .ref q13, .ref q14, .long 0])), (q1, .inr (6, [.ref q2, .int 0])), (q2, .inl (cA 0, 48, .inl (fun _ => 0))), (q3, .inr (0, [.ref q4])), (q4, .inl (cA 0, 28, .inl (fun _ => 0))), (q5, .inr (0, [.ref q6])), (q6, .inl (cA 0, 28, .inl (fun _ => 0))), (q7, .inr (2, [.ref q8, .int 0, .int 0])), (q8, .inl (cA 0, 420, .inl (fun _ => 0))), (q9, .inr (5, [.ref q10, .int 0])), (q10, .inl (cA 0, 56, .inl (fun _ => 0))), (q11, .inr (4, [.int 0, .int 0, .int 0])), (q12, .inr (1, [.int (-9), .int (-9)])), (q13, .inl (cA 0, 4, .inl (fun _ => 0))), (q14, .inl (cA 0, 6, .inl (fun _ => 0)))] := hD
  refine lv_aload_n hx hb dcX7_96 rfl (lv_at hl 0 rfl) ?_
  refine lv_lconst (v := 0) hx hb dcX7_97 (by decide) ?_
  refine va_put (D := D) (ci := 7) (v := .long 0) (ty := .long) (C := RX7) (T := TX7) (N := 10) hx hb hts (inC inCX7) tycX7 tycX7_ok nmcX7 hown hK hP hD hS 0 rfl rfl 9 (by decide) (hC hts 131 (w := .fieldLink RX7 61 "AntLease" "theSeed" "J") (by decide +kernel)) (fun _ h9 => h9) rfl (by decide +kernel) rfl rfl (Nat.le_of_ble_eq_true rfl) dcX7_98 (fun H locs hP hD hS => ?_)
  have hP : va_P D cls9 [(h0, .inr (7, [.ref q1, .ref q3, .ref q5, .ref q7, .ref q9, .ref q11, .ref q12, .ref q13, .ref q14, .long 0])), (q1, .inr (6, [.ref q2, .int 0])), (q2, .inl (cA 0, 48, .inl (fun _ => 0))), (q3, .inr (0, [.ref q4])), (q4, .inl (cA 0, 28, .inl (fun _ => 0))), (q5, .inr (0, [.ref q6])), (q6, .inl (cA 0, 28, .inl (fun _ => 0))), (q7, .inr (2, [.ref q8, .int 0, .int 0])), (q8, .inl (cA 0, 420, .inl (fun _ => 0))), (q9, .inr (5, [.ref q10, .int 0])), (q10, .inl (cA 0, 56, .inl (fun _ => 0))), (q11, .inr (4, [.int 0, .int 0, .int 0])), (q12, .inr (1, [.int (-9), .int (-9)])), (q13, .inl (cA 0, 4, .inl (fun _ => 0))), (q14, .inl (cA 0, 6, .inl (fun _ => 0)))] H := hP
  have hD : va_D A [(h0, .inr (7, [.ref q1, .ref q3, .ref q5, .ref q7, .ref q9, .ref q11, .ref q12, .ref q13, .ref q14, .long 0])), (q1, .inr (6, [.ref q2, .int 0])), (q2, .inl (cA 0, 48, .inl (fun _ => 0))), (q3, .inr (0, [.ref q4])), (q4, .inl (cA 0, 28, .inl (fun _ => 0))), (q5, .inr (0, [.ref q6])), (q6, .inl (cA 0, 28, .inl (fun _ => 0))), (q7, .inr (2, [.ref q8, .int 0, .int 0])), (q8, .inl (cA 0, 420, .inl (fun _ => 0))), (q9, .inr (5, [.ref q10, .int 0])), (q10, .inl (cA 0, 56, .inl (fun _ => 0))), (q11, .inr (4, [.int 0, .int 0, .int 0])), (q12, .inr (1, [.int (-9), .int (-9)])), (q13, .inl (cA 0, 4, .inl (fun _ => 0))), (q14, .inl (cA 0, 6, .inl (fun _ => 0)))] := hD
  refine W.widen (k := 14) (n := 604) (Nat.le_of_ble_eq_true rfl) (Nat.le_of_ble_eq_true rfl) ?_
  exact W.vret hx hb hr (fun t ht hW => ⟨⟨(), rfl, trivial, q1, q2, q3, q4, q5, q6, q7, q8, q9, q10, q11, q12, q13, q14, by rw [ht]; exact hP, hD⟩, hS.F ht⟩) hS.2.2 dcX7_101
set_option maxHeartbeats 4000000 in
set_option maxRecDepth 100000 in
theorem ct_X8 (l : Launch) (D : va_G) (cA : Nat → ClassId) (h0 sz : Nat) : Met l ycX8 (.code ycX8 bcX8 1 none :: tbC) ({ frames := 1, cells := 13, slots := 491, locals := 12 }) (va_Pc [.ref h0] (fun U => U.heap.size = sz ∧ va_P D cls9 [(h0, .inr (8, [.int 0, .null, .int 0, .int 0, .int 0, .int 0, .null, .int 0, .int 0, .int 0, .int 0, .null, .int 0, .null, .null, .null, .null, .int 0, .null, .null, .int 0, .null, .null, .long 0, .int 0, .int 0, .int 0, .int 0, .int 0, .int 0, .null, .null]))] U.heap ∧ va_K D cls9 (pm_tys cA) U ∧ va_D (fun _ => True) [(h0, .inr (8, [.int 0, .null, .int 0, .int 0, .int 0, .int 0, .null, .int 0, .int 0, .int 0, .int 0, .null, .int 0, .null, .null, .null, .null, .int 0, .null, .null, .int 0, .null, .null, .long 0, .int 0, .int 0, .int 0, .int 0, .int 0, .int 0, .null, .null]))])) (va_Qv (fun _ : Unit => True) (fun _ t => ∃ q1 : Nat, ∃ q2 : Nat, ∃ q3 : Nat, ∃ q4 : Nat, ∃ q5 : Nat, ∃ q6 : Nat, ∃ q7 : Nat, ∃ q8 : Nat, ∃ q9 : Nat, ∃ q10 : Nat, ∃ q11 : Nat, ∃ q12 : Nat, ∃ q13 : Nat, va_P D cls9 [(h0, .inr (8, [.int 0, .ref q1, .int 0, .int 0, .int 0, .int 0, .ref q2, .int 0, .int 0, .int 0, .int 0, .ref q3, .int 0, .ref q4, .ref q5, .ref q6, .ref q7, .int 0, .ref q8, .ref q9, .int 0, .ref q10, .ref q11, .long 0, .int 0, .int 0, .int 0, .int 0, .int 0, .int 0, .ref q12, .ref q13])), (q1, .inl (cA 0, 48, .inl (fun _ => 0))), (q2, .inl (cA 0, 4, .inl (fun _ => 0))), (q3, .inl (cA 0, 8, .inl (fun _ => 0))), (q4, .inl (cA 0, 5, .inl (fun _ => 0))), (q5, .inl (cA 0, 21, .inl (fun _ => 0))), (q6, .inl (cA 0, 21, .inl (fun _ => 0))), (q7, .inl (cA 0, 294, .inl (fun _ => 0))), (q8, .inl (cA 0, 42, .inl (fun _ => 0))), (q9, .inl (cA 1, 2, .inl (fun _ => 0))), (q10, .inl (cA 0, 6, .inl (fun _ => 0))), (q11, .inl (cA 0, 6, .inl (fun _ => 0))), (q12, .inl (cA 0, 18, .inl (fun _ => 0))), (q13, .inl (cA 0, 16, .inl (fun _ => 0)))] t.heap ∧ va_D (va_A [(h0, .inr (8, [.int 0, .null, .int 0, .int 0, .int 0, .int 0, .null, .int 0, .int 0, .int 0, .int 0, .null, .int 0, .null, .null, .null, .null, .int 0, .null, .null, .int 0, .null, .null, .long 0, .int 0, .int 0, .int 0, .int 0, .int 0, .int 0, .null, .null]))] sz) [(h0, .inr (8, [.int 0, .ref q1, .int 0, .int 0, .int 0, .int 0, .ref q2, .int 0, .int 0, .int 0, .int 0, .ref q3, .int 0, .ref q4, .ref q5, .ref q6, .ref q7, .int 0, .ref q8, .ref q9, .int 0, .ref q10, .ref q11, .long 0, .int 0, .int 0, .int 0, .int 0, .int 0, .int 0, .ref q12, .ref q13])), (q1, .inl (cA 0, 48, .inl (fun _ => 0))), (q2, .inl (cA 0, 4, .inl (fun _ => 0))), (q3, .inl (cA 0, 8, .inl (fun _ => 0))), (q4, .inl (cA 0, 5, .inl (fun _ => 0))), (q5, .inl (cA 0, 21, .inl (fun _ => 0))), (q6, .inl (cA 0, 21, .inl (fun _ => 0))), (q7, .inl (cA 0, 294, .inl (fun _ => 0))), (q8, .inl (cA 0, 42, .inl (fun _ => 0))), (q9, .inl (cA 1, 2, .inl (fun _ => 0))), (q10, .inl (cA 0, 6, .inl (fun _ => 0))), (q11, .inl (cA 0, 6, .inl (fun _ => 0))), (q12, .inl (cA 0, 18, .inl (fun _ => 0))), (q13, .inl (cA 0, 16, .inl (fun _ => 0)))]) (va_A [(h0, .inr (8, [.int 0, .null, .int 0, .int 0, .int 0, .int 0, .null, .int 0, .int 0, .int 0, .int 0, .null, .int 0, .null, .null, .null, .null, .int 0, .null, .null, .int 0, .null, .null, .long 0, .int 0, .int 0, .int 0, .int 0, .int 0, .int 0, .null, .null]))] sz)) 13 491 (va_A [(h0, .inr (8, [.int 0, .null, .int 0, .int 0, .int 0, .int 0, .null, .int 0, .int 0, .int 0, .int 0, .null, .int 0, .null, .null, .null, .null, .int 0, .null, .null, .int 0, .null, .null, .long 0, .int 0, .int 0, .int 0, .int 0, .int 0, .int 0, .null, .null]))] sz) := by
  refine Met.ofW (cc := bcX8) (maxL := 1) (ret := none) (by decide) rfl ?_
  intro p e s m args below meth c s₁ B hml hv
  obtain ⟨rfl, hsz, hP, hK, hD0⟩ := hv
  have hx := B.exec
  have hb := B.bytes
  have hr := B.returns
  have hts := atoms_spec (ws := .code ycX8 bcX8 1 none :: tbC) B.pre
  have hown : s.vm.findClass RX8 = some m.cls := findClass_of_methodNamed B.named
  have hlocks := B.notSynchronized
  have hin : meth.name = "<init>" := (name_of_methodNamed B.named B.method).1
  subst hsz
  have hD := hD0.self (sz := s.heap.size)
  generalize hAe : va_A [(h0, .inr (8, [.int 0, .null, .int 0, .int 0, .int 0, .int 0, .null, .int 0, .int 0, .int 0, .int 0, .null, .int 0, .null, .null, .null, .null, .int 0, .null, .null, .int 0, .null, .null, .long 0, .int 0, .int 0, .int 0, .int 0, .int 0, .int 0, .null, .null]))] s.heap.size = A at hD ⊢
  have hA : ∀ q : Nat, s.heap.size ≤ q → A q := fun q h => by rw [← hAe]; exact Or.inr h
  clear hAe hD0
  have hS : va_S A s.heap s.heap [] := va_S.rf
  have hl := lv_entry ([.ref h0]) (n := 1) (Nat.le_of_ble_eq_true rfl)
  rw [lg_entry_eq]
  generalize (lg_sl ([.ref h0]) ++ List.replicate (1 - (lg_sl ([.ref h0])).length) Slot.unset).toArray = ls at hl ⊢
  have hl : lv_has ls 1 [(0, .ref h0)] := hl
  refine lv_aload_n hx hb dcX8_0 rfl (lv_at hl 0 rfl) ?_
  refine W.objInit hx hb hown (hC hts 132 (w := .methodLink RX8 1 objectInit) (by decide +kernel)) (hC hts 88 (w := .instanceMethod objectInit) (by decide +kernel)) (hC hts 89 (w := .code objectInit ⟨#[0xb1]⟩ 1 none) (by decide +kernel)) rfl (by rw [hml]; exact hl.1) rfl dcX8_1 (Nat.le_of_ble_eq_true rfl) (Nat.le_of_ble_eq_true rfl) ?_
  refine W.eq (g2 := F0 m 4 ls []) rfl ?_
  refine lv_aload_n hx hb dcX8_4 rfl (lv_at hl 0 rfl) ?_
  refine lv_bipush (v := 48) hx hb dcX8_5 (by decide) ?_
  refine va_newa (atype := .int) (N' := 48) (a0 := (48, .inl (fun _ => 0))) hx hb (hC hts 90 (w := .arrayClass .int) (by decide +kernel)) rfl hK hP hD hS hA (fun _ => rfl) (by decide) (by decide) (Nat.le_of_ble_eq_true rfl) (Nat.le_of_ble_eq_true rfl) (Nat.le_of_ble_eq_true rfl) dcX8_7 (fun q1 cB H hK5 hP hD hS => ?_)
  obtain rfl : cB = cA 0 := ca_0 hK hK5
  clear hK5
  have hP : va_P D cls9 [(h0, .inr (8, [.int 0, .null, .int 0, .int 0, .int 0, .int 0, .null, .int 0, .int 0, .int 0, .int 0, .null, .int 0, .null, .null, .null, .null, .int 0, .null, .null, .int 0, .null, .null, .long 0, .int 0, .int 0, .int 0, .int 0, .int 0, .int 0, .null, .null])), (q1, .inl (cA 0, 48, .inl (fun _ => 0)))] H := hP
  have hD : va_D A [(h0, .inr (8, [.int 0, .null, .int 0, .int 0, .int 0, .int 0, .null, .int 0, .int 0, .int 0, .int 0, .null, .int 0, .null, .null, .null, .null, .int 0, .null, .null, .int 0, .null, .null, .long 0, .int 0, .int 0, .int 0, .int 0, .int 0, .int 0, .null, .null])), (q1, .inl (cA 0, 48, .inl (fun _ => 0)))] := hD
  refine W.widen (k := 1) (n := 48) (Nat.le_of_ble_eq_true rfl) (Nat.le_of_ble_eq_true rfl) ?_
  refine va_putF (D := D) (ci := 8) (v := .ref q1) (ty := .array .int) (C := RX8) (T := TX8) (N := 32) hx hb hts (inC inCX8) tycX8 tycX8_ok nmcX8 hown hK hP hD hS 0 rfl rfl 1 (by decide) (hC hts 133 (w := .fieldLink RX8 7 "AntLeaseModel" "text" "[I") (by decide +kernel)) (fun _ h9 => h9) rfl hin rfl (by decide +kernel) rfl rfl (Nat.le_of_ble_eq_true rfl) dcX8_9 (fun H locs hP hD hS => ?_)
  have hP : va_P D cls9 [(h0, .inr (8, [.int 0, .ref q1, .int 0, .int 0, .int 0, .int 0, .null, .int 0, .int 0, .int 0, .int 0, .null, .int 0, .null, .null, .null, .null, .int 0, .null, .null, .int 0, .null, .null, .long 0, .int 0, .int 0, .int 0, .int 0, .int 0, .int 0, .null, .null])), (q1, .inl (cA 0, 48, .inl (fun _ => 0)))] H := hP
  have hD : va_D A [(h0, .inr (8, [.int 0, .ref q1, .int 0, .int 0, .int 0, .int 0, .null, .int 0, .int 0, .int 0, .int 0, .null, .int 0, .null, .null, .null, .null, .int 0, .null, .null, .int 0, .null, .null, .long 0, .int 0, .int 0, .int 0, .int 0, .int 0, .int 0, .null, .null])), (q1, .inl (cA 0, 48, .inl (fun _ => 0)))] := hD
  refine lv_aload_n hx hb dcX8_12 rfl (lv_at hl 0 rfl) ?_
  refine lv_iconst (v := 4) hx hb dcX8_13 (by decide) ?_
  refine va_newa (atype := .int) (N' := 4) (a0 := (4, .inl (fun _ => 0))) hx hb (hC hts 90 (w := .arrayClass .int) (by decide +kernel)) rfl hK hP hD hS hA (fun _ => rfl) (by decide) (by decide) (Nat.le_of_ble_eq_true rfl) (Nat.le_of_ble_eq_true rfl) (Nat.le_of_ble_eq_true rfl) dcX8_14 (fun q2 cB H hK5 hP hD hS => ?_)
  obtain rfl : cB = cA 0 := ca_0 hK hK5
  clear hK5
  have hP : va_P D cls9 [(h0, .inr (8, [.int 0, .ref q1, .int 0, .int 0, .int 0, .int 0, .null, .int 0, .int 0, .int 0, .int 0, .null, .int 0, .null, .null, .null, .null, .int 0, .null, .null, .int 0, .null, .null, .long 0, .int 0, .int 0, .int 0, .int 0, .int 0, .int 0, .null, .null])), (q1, .inl (cA 0, 48, .inl (fun _ => 0))), (q2, .inl (cA 0, 4, .inl (fun _ => 0)))] H := hP
  have hD : va_D A [(h0, .inr (8, [.int 0, .ref q1, .int 0, .int 0, .int 0, .int 0, .null, .int 0, .int 0, .int 0, .int 0, .null, .int 0, .null, .null, .null, .null, .int 0, .null, .null, .int 0, .null, .null, .long 0, .int 0, .int 0, .int 0, .int 0, .int 0, .int 0, .null, .null])), (q1, .inl (cA 0, 48, .inl (fun _ => 0))), (q2, .inl (cA 0, 4, .inl (fun _ => 0)))] := hD
  refine W.widen (k := 2) (n := 52) (Nat.le_of_ble_eq_true rfl) (Nat.le_of_ble_eq_true rfl) ?_
  refine va_putF (D := D) (ci := 8) (v := .ref q2) (ty := .array .int) (C := RX8) (T := TX8) (N := 32) hx hb hts (inC inCX8) tycX8 tycX8_ok nmcX8 hown hK hP hD hS 0 rfl rfl 6 (by decide) (hC hts 134 (w := .fieldLink RX8 13 "AntLeaseModel" "kind" "[I") (by decide +kernel)) (fun _ h9 => h9) rfl hin rfl (by decide +kernel) rfl rfl (Nat.le_of_ble_eq_true rfl) dcX8_16 (fun H locs hP hD hS => ?_)
  have hP : va_P D cls9 [(h0, .inr (8, [.int 0, .ref q1, .int 0, .int 0, .int 0, .int 0, .ref q2, .int 0, .int 0, .int 0, .int 0, .null, .int 0, .null, .null, .null, .null, .int 0, .null, .null, .int 0, .null, .null, .long 0, .int 0, .int 0, .int 0, .int 0, .int 0, .int 0, .null, .null])), (q1, .inl (cA 0, 48, .inl (fun _ => 0))), (q2, .inl (cA 0, 4, .inl (fun _ => 0)))] H := hP
  have hD : va_D A [(h0, .inr (8, [.int 0, .ref q1, .int 0, .int 0, .int 0, .int 0, .ref q2, .int 0, .int 0, .int 0, .int 0, .null, .int 0, .null, .null, .null, .null, .int 0, .null, .null, .int 0, .null, .null, .long 0, .int 0, .int 0, .int 0, .int 0, .int 0, .int 0, .null, .null])), (q1, .inl (cA 0, 48, .inl (fun _ => 0))), (q2, .inl (cA 0, 4, .inl (fun _ => 0)))] := hD
  refine lv_aload_n hx hb dcX8_19 rfl (lv_at hl 0 rfl) ?_
  refine lv_bipush (v := 8) hx hb dcX8_20 (by decide) ?_
  refine va_newa (atype := .int) (N' := 8) (a0 := (8, .inl (fun _ => 0))) hx hb (hC hts 90 (w := .arrayClass .int) (by decide +kernel)) rfl hK hP hD hS hA (fun _ => rfl) (by decide) (by decide) (Nat.le_of_ble_eq_true rfl) (Nat.le_of_ble_eq_true rfl) (Nat.le_of_ble_eq_true rfl) dcX8_22 (fun q3 cB H hK5 hP hD hS => ?_)
  obtain rfl : cB = cA 0 := ca_0 hK hK5
  clear hK5
  have hP : va_P D cls9 [(h0, .inr (8, [.int 0, .ref q1, .int 0, .int 0, .int 0, .int 0, .ref q2, .int 0, .int 0, .int 0, .int 0, .null, .int 0, .null, .null, .null, .null, .int 0, .null, .null, .int 0, .null, .null, .long 0, .int 0, .int 0, .int 0, .int 0, .int 0, .int 0, .null, .null])), (q1, .inl (cA 0, 48, .inl (fun _ => 0))), (q2, .inl (cA 0, 4, .inl (fun _ => 0))), (q3, .inl (cA 0, 8, .inl (fun _ => 0)))] H := hP
  have hD : va_D A [(h0, .inr (8, [.int 0, .ref q1, .int 0, .int 0, .int 0, .int 0, .ref q2, .int 0, .int 0, .int 0, .int 0, .null, .int 0, .null, .null, .null, .null, .int 0, .null, .null, .int 0, .null, .null, .long 0, .int 0, .int 0, .int 0, .int 0, .int 0, .int 0, .null, .null])), (q1, .inl (cA 0, 48, .inl (fun _ => 0))), (q2, .inl (cA 0, 4, .inl (fun _ => 0))), (q3, .inl (cA 0, 8, .inl (fun _ => 0)))] := hD
  refine W.widen (k := 3) (n := 60) (Nat.le_of_ble_eq_true rfl) (Nat.le_of_ble_eq_true rfl) ?_
  refine va_putF (D := D) (ci := 8) (v := .ref q3) (ty := .array .int) (C := RX8) (T := TX8) (N := 32) hx hb hts (inC inCX8) tycX8 tycX8_ok nmcX8 hown hK hP hD hS 0 rfl rfl 11 (by decide) (hC hts 135 (w := .fieldLink RX8 16 "AntLeaseModel" "readFood" "[I") (by decide +kernel)) (fun _ h9 => h9) rfl hin rfl (by decide +kernel) rfl rfl (Nat.le_of_ble_eq_true rfl) dcX8_24 (fun H locs hP hD hS => ?_)
  have hP : va_P D cls9 [(h0, .inr (8, [.int 0, .ref q1, .int 0, .int 0, .int 0, .int 0, .ref q2, .int 0, .int 0, .int 0, .int 0, .ref q3, .int 0, .null, .null, .null, .null, .int 0, .null, .null, .int 0, .null, .null, .long 0, .int 0, .int 0, .int 0, .int 0, .int 0, .int 0, .null, .null])), (q1, .inl (cA 0, 48, .inl (fun _ => 0))), (q2, .inl (cA 0, 4, .inl (fun _ => 0))), (q3, .inl (cA 0, 8, .inl (fun _ => 0)))] H := hP
  have hD : va_D A [(h0, .inr (8, [.int 0, .ref q1, .int 0, .int 0, .int 0, .int 0, .ref q2, .int 0, .int 0, .int 0, .int 0, .ref q3, .int 0, .null, .null, .null, .null, .int 0, .null, .null, .int 0, .null, .null, .long 0, .int 0, .int 0, .int 0, .int 0, .int 0, .int 0, .null, .null])), (q1, .inl (cA 0, 48, .inl (fun _ => 0))), (q2, .inl (cA 0, 4, .inl (fun _ => 0))), (q3, .inl (cA 0, 8, .inl (fun _ => 0)))] := hD
  refine lv_aload_n hx hb dcX8_27 rfl (lv_at hl 0 rfl) ?_
  refine lv_iconst (v := 5) hx hb dcX8_28 (by decide) ?_
  refine va_newa (atype := .int) (N' := 5) (a0 := (5, .inl (fun _ => 0))) hx hb (hC hts 90 (w := .arrayClass .int) (by decide +kernel)) rfl hK hP hD hS hA (fun _ => rfl) (by decide) (by decide) (Nat.le_of_ble_eq_true rfl) (Nat.le_of_ble_eq_true rfl) (Nat.le_of_ble_eq_true rfl) dcX8_29 (fun q4 cB H hK5 hP hD hS => ?_)
  obtain rfl : cB = cA 0 := ca_0 hK hK5
  clear hK5
  have hP : va_P D cls9 [(h0, .inr (8, [.int 0, .ref q1, .int 0, .int 0, .int 0, .int 0, .ref q2, .int 0, .int 0, .int 0, .int 0, .ref q3, .int 0, .null, .null, .null, .null, .int 0, .null, .null, .int 0, .null, .null, .long 0, .int 0, .int 0, .int 0, .int 0, .int 0, .int 0, .null, .null])), (q1, .inl (cA 0, 48, .inl (fun _ => 0))), (q2, .inl (cA 0, 4, .inl (fun _ => 0))), (q3, .inl (cA 0, 8, .inl (fun _ => 0))), (q4, .inl (cA 0, 5, .inl (fun _ => 0)))] H := hP
  have hD : va_D A [(h0, .inr (8, [.int 0, .ref q1, .int 0, .int 0, .int 0, .int 0, .ref q2, .int 0, .int 0, .int 0, .int 0, .ref q3, .int 0, .null, .null, .null, .null, .int 0, .null, .null, .int 0, .null, .null, .long 0, .int 0, .int 0, .int 0, .int 0, .int 0, .int 0, .null, .null])), (q1, .inl (cA 0, 48, .inl (fun _ => 0))), (q2, .inl (cA 0, 4, .inl (fun _ => 0))), (q3, .inl (cA 0, 8, .inl (fun _ => 0))), (q4, .inl (cA 0, 5, .inl (fun _ => 0)))] := hD
  refine W.widen (k := 4) (n := 65) (Nat.le_of_ble_eq_true rfl) (Nat.le_of_ble_eq_true rfl) ?_
  refine va_putF (D := D) (ci := 8) (v := .ref q4) (ty := .array .int) (C := RX8) (T := TX8) (N := 32) hx hb hts (inC inCX8) tycX8 tycX8_ok nmcX8 hown hK hP hD hS 0 rfl rfl 13 (by decide) (hC hts 136 (w := .fieldLink RX8 19 "AntLeaseModel" "readAt" "[I") (by decide +kernel)) (fun _ h9 => h9) rfl hin rfl (by decide +kernel) rfl rfl (Nat.le_of_ble_eq_true rfl) dcX8_31 (fun H locs hP hD hS => ?_)
  have hP : va_P D cls9 [(h0, .inr (8, [.int 0, .ref q1, .int 0, .int 0, .int 0, .int 0, .ref q2, .int 0, .int 0, .int 0, .int 0, .ref q3, .int 0, .ref q4, .null, .null, .null, .int 0, .null, .null, .int 0, .null, .null, .long 0, .int 0, .int 0, .int 0, .int 0, .int 0, .int 0, .null, .null])), (q1, .inl (cA 0, 48, .inl (fun _ => 0))), (q2, .inl (cA 0, 4, .inl (fun _ => 0))), (q3, .inl (cA 0, 8, .inl (fun _ => 0))), (q4, .inl (cA 0, 5, .inl (fun _ => 0)))] H := hP
  have hD : va_D A [(h0, .inr (8, [.int 0, .ref q1, .int 0, .int 0, .int 0, .int 0, .ref q2, .int 0, .int 0, .int 0, .int 0, .ref q3, .int 0, .ref q4, .null, .null, .null, .int 0, .null, .null, .int 0, .null, .null, .long 0, .int 0, .int 0, .int 0, .int 0, .int 0, .int 0, .null, .null])), (q1, .inl (cA 0, 48, .inl (fun _ => 0))), (q2, .inl (cA 0, 4, .inl (fun _ => 0))), (q3, .inl (cA 0, 8, .inl (fun _ => 0))), (q4, .inl (cA 0, 5, .inl (fun _ => 0)))] := hD
  refine lv_aload_n hx hb dcX8_34 rfl (lv_at hl 0 rfl) ?_
  refine lv_bipush (v := 21) hx hb dcX8_35 (by decide) ?_
  refine va_newa (atype := .int) (N' := 21) (a0 := (21, .inl (fun _ => 0))) hx hb (hC hts 90 (w := .arrayClass .int) (by decide +kernel)) rfl hK hP hD hS hA (fun _ => rfl) (by decide) (by decide) (Nat.le_of_ble_eq_true rfl) (Nat.le_of_ble_eq_true rfl) (Nat.le_of_ble_eq_true rfl) dcX8_37 (fun q5 cB H hK5 hP hD hS => ?_)
  obtain rfl : cB = cA 0 := ca_0 hK hK5
  clear hK5
  have hP : va_P D cls9 [(h0, .inr (8, [.int 0, .ref q1, .int 0, .int 0, .int 0, .int 0, .ref q2, .int 0, .int 0, .int 0, .int 0, .ref q3, .int 0, .ref q4, .null, .null, .null, .int 0, .null, .null, .int 0, .null, .null, .long 0, .int 0, .int 0, .int 0, .int 0, .int 0, .int 0, .null, .null])), (q1, .inl (cA 0, 48, .inl (fun _ => 0))), (q2, .inl (cA 0, 4, .inl (fun _ => 0))), (q3, .inl (cA 0, 8, .inl (fun _ => 0))), (q4, .inl (cA 0, 5, .inl (fun _ => 0))), (q5, .inl (cA 0, 21, .inl (fun _ => 0)))] H := hP
  have hD : va_D A [(h0, .inr (8, [.int 0, .ref q1, .int 0, .int 0, .int 0, .int 0, .ref q2, .int 0, .int 0, .int 0, .int 0, .ref q3, .int 0, .ref q4, .null, .null, .null, .int 0, .null, .null, .int 0, .null, .null, .long 0, .int 0, .int 0, .int 0, .int 0, .int 0, .int 0, .null, .null])), (q1, .inl (cA 0, 48, .inl (fun _ => 0))), (q2, .inl (cA 0, 4, .inl (fun _ => 0))), (q3, .inl (cA 0, 8, .inl (fun _ => 0))), (q4, .inl (cA 0, 5, .inl (fun _ => 0))), (q5, .inl (cA 0, 21, .inl (fun _ => 0)))] := hD
  refine W.widen (k := 5) (n := 86) (Nat.le_of_ble_eq_true rfl) (Nat.le_of_ble_eq_true rfl) ?_
  refine va_putF (D := D) (ci := 8) (v := .ref q5) (ty := .array .int) (C := RX8) (T := TX8) (N := 32) hx hb hts (inC inCX8) tycX8 tycX8_ok nmcX8 hown hK hP hD hS 0 rfl rfl 14 (by decide) (hC hts 137 (w := .fieldLink RX8 22 "AntLeaseModel" "page" "[I") (by decide +kernel)) (fun _ h9 => h9) rfl hin rfl (by decide +kernel) rfl rfl (Nat.le_of_ble_eq_true rfl) dcX8_39 (fun H locs hP hD hS => ?_)
  have hP : va_P D cls9 [(h0, .inr (8, [.int 0, .ref q1, .int 0, .int 0, .int 0, .int 0, .ref q2, .int 0, .int 0, .int 0, .int 0, .ref q3, .int 0, .ref q4, .ref q5, .null, .null, .int 0, .null, .null, .int 0, .null, .null, .long 0, .int 0, .int 0, .int 0, .int 0, .int 0, .int 0, .null, .null])), (q1, .inl (cA 0, 48, .inl (fun _ => 0))), (q2, .inl (cA 0, 4, .inl (fun _ => 0))), (q3, .inl (cA 0, 8, .inl (fun _ => 0))), (q4, .inl (cA 0, 5, .inl (fun _ => 0))), (q5, .inl (cA 0, 21, .inl (fun _ => 0)))] H := hP
  have hD : va_D A [(h0, .inr (8, [.int 0, .ref q1, .int 0, .int 0, .int 0, .int 0, .ref q2, .int 0, .int 0, .int 0, .int 0, .ref q3, .int 0, .ref q4, .ref q5, .null, .null, .int 0, .null, .null, .int 0, .null, .null, .long 0, .int 0, .int 0, .int 0, .int 0, .int 0, .int 0, .null, .null])), (q1, .inl (cA 0, 48, .inl (fun _ => 0))), (q2, .inl (cA 0, 4, .inl (fun _ => 0))), (q3, .inl (cA 0, 8, .inl (fun _ => 0))), (q4, .inl (cA 0, 5, .inl (fun _ => 0))), (q5, .inl (cA 0, 21, .inl (fun _ => 0)))] := hD
  refine lv_aload_n hx hb dcX8_42 rfl (lv_at hl 0 rfl) ?_
  refine lv_bipush (v := 21) hx hb dcX8_43 (by decide) ?_
  refine va_newa (atype := .int) (N' := 21) (a0 := (21, .inl (fun _ => 0))) hx hb (hC hts 90 (w := .arrayClass .int) (by decide +kernel)) rfl hK hP hD hS hA (fun _ => rfl) (by decide) (by decide) (Nat.le_of_ble_eq_true rfl) (Nat.le_of_ble_eq_true rfl) (Nat.le_of_ble_eq_true rfl) dcX8_45 (fun q6 cB H hK5 hP hD hS => ?_)
  obtain rfl : cB = cA 0 := ca_0 hK hK5
  clear hK5
  have hP : va_P D cls9 [(h0, .inr (8, [.int 0, .ref q1, .int 0, .int 0, .int 0, .int 0, .ref q2, .int 0, .int 0, .int 0, .int 0, .ref q3, .int 0, .ref q4, .ref q5, .null, .null, .int 0, .null, .null, .int 0, .null, .null, .long 0, .int 0, .int 0, .int 0, .int 0, .int 0, .int 0, .null, .null])), (q1, .inl (cA 0, 48, .inl (fun _ => 0))), (q2, .inl (cA 0, 4, .inl (fun _ => 0))), (q3, .inl (cA 0, 8, .inl (fun _ => 0))), (q4, .inl (cA 0, 5, .inl (fun _ => 0))), (q5, .inl (cA 0, 21, .inl (fun _ => 0))), (q6, .inl (cA 0, 21, .inl (fun _ => 0)))] H := hP
  have hD : va_D A [(h0, .inr (8, [.int 0, .ref q1, .int 0, .int 0, .int 0, .int 0, .ref q2, .int 0, .int 0, .int 0, .int 0, .ref q3, .int 0, .ref q4, .ref q5, .null, .null, .int 0, .null, .null, .int 0, .null, .null, .long 0, .int 0, .int 0, .int 0, .int 0, .int 0, .int 0, .null, .null])), (q1, .inl (cA 0, 48, .inl (fun _ => 0))), (q2, .inl (cA 0, 4, .inl (fun _ => 0))), (q3, .inl (cA 0, 8, .inl (fun _ => 0))), (q4, .inl (cA 0, 5, .inl (fun _ => 0))), (q5, .inl (cA 0, 21, .inl (fun _ => 0))), (q6, .inl (cA 0, 21, .inl (fun _ => 0)))] := hD
  refine W.widen (k := 6) (n := 107) (Nat.le_of_ble_eq_true rfl) (Nat.le_of_ble_eq_true rfl) ?_
  refine va_putF (D := D) (ci := 8) (v := .ref q6) (ty := .array .int) (C := RX8) (T := TX8) (N := 32) hx hb hts (inC inCX8) tycX8 tycX8_ok nmcX8 hown hK hP hD hS 0 rfl rfl 15 (by decide) (hC hts 138 (w := .fieldLink RX8 25 "AntLeaseModel" "trial" "[I") (by decide +kernel)) (fun _ h9 => h9) rfl hin rfl (by decide +kernel) rfl rfl (Nat.le_of_ble_eq_true rfl) dcX8_47 (fun H locs hP hD hS => ?_)
  have hP : va_P D cls9 [(h0, .inr (8, [.int 0, .ref q1, .int 0, .int 0, .int 0, .int 0, .ref q2, .int 0, .int 0, .int 0, .int 0, .ref q3, .int 0, .ref q4, .ref q5, .ref q6, .null, .int 0, .null, .null, .int 0, .null, .null, .long 0, .int 0, .int 0, .int 0, .int 0, .int 0, .int 0, .null, .null])), (q1, .inl (cA 0, 48, .inl (fun _ => 0))), (q2, .inl (cA 0, 4, .inl (fun _ => 0))), (q3, .inl (cA 0, 8, .inl (fun _ => 0))), (q4, .inl (cA 0, 5, .inl (fun _ => 0))), (q5, .inl (cA 0, 21, .inl (fun _ => 0))), (q6, .inl (cA 0, 21, .inl (fun _ => 0)))] H := hP
  have hD : va_D A [(h0, .inr (8, [.int 0, .ref q1, .int 0, .int 0, .int 0, .int 0, .ref q2, .int 0, .int 0, .int 0, .int 0, .ref q3, .int 0, .ref q4, .ref q5, .ref q6, .null, .int 0, .null, .null, .int 0, .null, .null, .long 0, .int 0, .int 0, .int 0, .int 0, .int 0, .int 0, .null, .null])), (q1, .inl (cA 0, 48, .inl (fun _ => 0))), (q2, .inl (cA 0, 4, .inl (fun _ => 0))), (q3, .inl (cA 0, 8, .inl (fun _ => 0))), (q4, .inl (cA 0, 5, .inl (fun _ => 0))), (q5, .inl (cA 0, 21, .inl (fun _ => 0))), (q6, .inl (cA 0, 21, .inl (fun _ => 0)))] := hD
  refine lv_aload_n hx hb dcX8_50 rfl (lv_at hl 0 rfl) ?_
  refine lv_sipush (v := 294) hx hb dcX8_51 (by decide) ?_
  refine va_newa (atype := .int) (N' := 294) (a0 := (294, .inl (fun _ => 0))) hx hb (hC hts 90 (w := .arrayClass .int) (by decide +kernel)) rfl hK hP hD hS hA (fun _ => rfl) (by decide) (by decide) (Nat.le_of_ble_eq_true rfl) (Nat.le_of_ble_eq_true rfl) (Nat.le_of_ble_eq_true rfl) dcX8_54 (fun q7 cB H hK5 hP hD hS => ?_)
  obtain rfl : cB = cA 0 := ca_0 hK hK5
  clear hK5
  have hP : va_P D cls9 [(h0, .inr (8, [.int 0, .ref q1, .int 0, .int 0, .int 0, .int 0, .ref q2, .int 0, .int 0, .int 0, .int 0, .ref q3, .int 0, .ref q4, .ref q5, .ref q6, .null, .int 0, .null, .null, .int 0, .null, .null, .long 0, .int 0, .int 0, .int 0, .int 0, .int 0, .int 0, .null, .null])), (q1, .inl (cA 0, 48, .inl (fun _ => 0))), (q2, .inl (cA 0, 4, .inl (fun _ => 0))), (q3, .inl (cA 0, 8, .inl (fun _ => 0))), (q4, .inl (cA 0, 5, .inl (fun _ => 0))), (q5, .inl (cA 0, 21, .inl (fun _ => 0))), (q6, .inl (cA 0, 21, .inl (fun _ => 0))), (q7, .inl (cA 0, 294, .inl (fun _ => 0)))] H := hP
  have hD : va_D A [(h0, .inr (8, [.int 0, .ref q1, .int 0, .int 0, .int 0, .int 0, .ref q2, .int 0, .int 0, .int 0, .int 0, .ref q3, .int 0, .ref q4, .ref q5, .ref q6, .null, .int 0, .null, .null, .int 0, .null, .null, .long 0, .int 0, .int 0, .int 0, .int 0, .int 0, .int 0, .null, .null])), (q1, .inl (cA 0, 48, .inl (fun _ => 0))), (q2, .inl (cA 0, 4, .inl (fun _ => 0))), (q3, .inl (cA 0, 8, .inl (fun _ => 0))), (q4, .inl (cA 0, 5, .inl (fun _ => 0))), (q5, .inl (cA 0, 21, .inl (fun _ => 0))), (q6, .inl (cA 0, 21, .inl (fun _ => 0))), (q7, .inl (cA 0, 294, .inl (fun _ => 0)))] := hD
  refine W.widen (k := 7) (n := 401) (Nat.le_of_ble_eq_true rfl) (Nat.le_of_ble_eq_true rfl) ?_
  refine va_putF (D := D) (ci := 8) (v := .ref q7) (ty := .array .int) (C := RX8) (T := TX8) (N := 32) hx hb hts (inC inCX8) tycX8 tycX8_ok nmcX8 hown hK hP hD hS 0 rfl rfl 16 (by decide) (hC hts 139 (w := .fieldLink RX8 28 "AntLeaseModel" "book" "[I") (by decide +kernel)) (fun _ h9 => h9) rfl hin rfl (by decide +kernel) rfl rfl (Nat.le_of_ble_eq_true rfl) dcX8_56 (fun H locs hP hD hS => ?_)
  have hP : va_P D cls9 [(h0, .inr (8, [.int 0, .ref q1, .int 0, .int 0, .int 0, .int 0, .ref q2, .int 0, .int 0, .int 0, .int 0, .ref q3, .int 0, .ref q4, .ref q5, .ref q6, .ref q7, .int 0, .null, .null, .int 0, .null, .null, .long 0, .int 0, .int 0, .int 0, .int 0, .int 0, .int 0, .null, .null])), (q1, .inl (cA 0, 48, .inl (fun _ => 0))), (q2, .inl (cA 0, 4, .inl (fun _ => 0))), (q3, .inl (cA 0, 8, .inl (fun _ => 0))), (q4, .inl (cA 0, 5, .inl (fun _ => 0))), (q5, .inl (cA 0, 21, .inl (fun _ => 0))), (q6, .inl (cA 0, 21, .inl (fun _ => 0))), (q7, .inl (cA 0, 294, .inl (fun _ => 0)))] H := hP
  have hD : va_D A [(h0, .inr (8, [.int 0, .ref q1, .int 0, .int 0, .int 0, .int 0, .ref q2, .int 0, .int 0, .int 0, .int 0, .ref q3, .int 0, .ref q4, .ref q5, .ref q6, .ref q7, .int 0, .null, .null, .int 0, .null, .null, .long 0, .int 0, .int 0, .int 0, .int 0, .int 0, .int 0, .null, .null])), (q1, .inl (cA 0, 48, .inl (fun _ => 0))), (q2, .inl (cA 0, 4, .inl (fun _ => 0))), (q3, .inl (cA 0, 8, .inl (fun _ => 0))), (q4, .inl (cA 0, 5, .inl (fun _ => 0))), (q5, .inl (cA 0, 21, .inl (fun _ => 0))), (q6, .inl (cA 0, 21, .inl (fun _ => 0))), (q7, .inl (cA 0, 294, .inl (fun _ => 0)))] := hD
  refine lv_aload_n hx hb dcX8_59 rfl (lv_at hl 0 rfl) ?_
  refine lv_bipush (v := 42) hx hb dcX8_60 (by decide) ?_
  refine va_newa (atype := .int) (N' := 42) (a0 := (42, .inl (fun _ => 0))) hx hb (hC hts 90 (w := .arrayClass .int) (by decide +kernel)) rfl hK hP hD hS hA (fun _ => rfl) (by decide) (by decide) (Nat.le_of_ble_eq_true rfl) (Nat.le_of_ble_eq_true rfl) (Nat.le_of_ble_eq_true rfl) dcX8_62 (fun q8 cB H hK5 hP hD hS => ?_)
  obtain rfl : cB = cA 0 := ca_0 hK hK5
  clear hK5
  have hP : va_P D cls9 [(h0, .inr (8, [.int 0, .ref q1, .int 0, .int 0, .int 0, .int 0, .ref q2, .int 0, .int 0, .int 0, .int 0, .ref q3, .int 0, .ref q4, .ref q5, .ref q6, .ref q7, .int 0, .null, .null, .int 0, .null, .null, .long 0, .int 0, .int 0, .int 0, .int 0, .int 0, .int 0, .null, .null])), (q1, .inl (cA 0, 48, .inl (fun _ => 0))), (q2, .inl (cA 0, 4, .inl (fun _ => 0))), (q3, .inl (cA 0, 8, .inl (fun _ => 0))), (q4, .inl (cA 0, 5, .inl (fun _ => 0))), (q5, .inl (cA 0, 21, .inl (fun _ => 0))), (q6, .inl (cA 0, 21, .inl (fun _ => 0))), (q7, .inl (cA 0, 294, .inl (fun _ => 0))), (q8, .inl (cA 0, 42, .inl (fun _ => 0)))] H := hP
  have hD : va_D A [(h0, .inr (8, [.int 0, .ref q1, .int 0, .int 0, .int 0, .int 0, .ref q2, .int 0, .int 0, .int 0, .int 0, .ref q3, .int 0, .ref q4, .ref q5, .ref q6, .ref q7, .int 0, .null, .null, .int 0, .null, .null, .long 0, .int 0, .int 0, .int 0, .int 0, .int 0, .int 0, .null, .null])), (q1, .inl (cA 0, 48, .inl (fun _ => 0))), (q2, .inl (cA 0, 4, .inl (fun _ => 0))), (q3, .inl (cA 0, 8, .inl (fun _ => 0))), (q4, .inl (cA 0, 5, .inl (fun _ => 0))), (q5, .inl (cA 0, 21, .inl (fun _ => 0))), (q6, .inl (cA 0, 21, .inl (fun _ => 0))), (q7, .inl (cA 0, 294, .inl (fun _ => 0))), (q8, .inl (cA 0, 42, .inl (fun _ => 0)))] := hD
  refine W.widen (k := 8) (n := 443) (Nat.le_of_ble_eq_true rfl) (Nat.le_of_ble_eq_true rfl) ?_
  refine va_putF (D := D) (ci := 8) (v := .ref q8) (ty := .array .int) (C := RX8) (T := TX8) (N := 32) hx hb hts (inC inCX8) tycX8 tycX8_ok nmcX8 hown hK hP hD hS 0 rfl rfl 18 (by decide) (hC hts 140 (w := .fieldLink RX8 31 "AntLeaseModel" "kept" "[I") (by decide +kernel)) (fun _ h9 => h9) rfl hin rfl (by decide +kernel) rfl rfl (Nat.le_of_ble_eq_true rfl) dcX8_64 (fun H locs hP hD hS => ?_)
  have hP : va_P D cls9 [(h0, .inr (8, [.int 0, .ref q1, .int 0, .int 0, .int 0, .int 0, .ref q2, .int 0, .int 0, .int 0, .int 0, .ref q3, .int 0, .ref q4, .ref q5, .ref q6, .ref q7, .int 0, .ref q8, .null, .int 0, .null, .null, .long 0, .int 0, .int 0, .int 0, .int 0, .int 0, .int 0, .null, .null])), (q1, .inl (cA 0, 48, .inl (fun _ => 0))), (q2, .inl (cA 0, 4, .inl (fun _ => 0))), (q3, .inl (cA 0, 8, .inl (fun _ => 0))), (q4, .inl (cA 0, 5, .inl (fun _ => 0))), (q5, .inl (cA 0, 21, .inl (fun _ => 0))), (q6, .inl (cA 0, 21, .inl (fun _ => 0))), (q7, .inl (cA 0, 294, .inl (fun _ => 0))), (q8, .inl (cA 0, 42, .inl (fun _ => 0)))] H := hP
  have hD : va_D A [(h0, .inr (8, [.int 0, .ref q1, .int 0, .int 0, .int 0, .int 0, .ref q2, .int 0, .int 0, .int 0, .int 0, .ref q3, .int 0, .ref q4, .ref q5, .ref q6, .ref q7, .int 0, .ref q8, .null, .int 0, .null, .null, .long 0, .int 0, .int 0, .int 0, .int 0, .int 0, .int 0, .null, .null])), (q1, .inl (cA 0, 48, .inl (fun _ => 0))), (q2, .inl (cA 0, 4, .inl (fun _ => 0))), (q3, .inl (cA 0, 8, .inl (fun _ => 0))), (q4, .inl (cA 0, 5, .inl (fun _ => 0))), (q5, .inl (cA 0, 21, .inl (fun _ => 0))), (q6, .inl (cA 0, 21, .inl (fun _ => 0))), (q7, .inl (cA 0, 294, .inl (fun _ => 0))), (q8, .inl (cA 0, 42, .inl (fun _ => 0)))] := hD
  refine lv_aload_n hx hb dcX8_67 rfl (lv_at hl 0 rfl) ?_
  refine lv_iconst (v := 2) hx hb dcX8_68 (by decide) ?_
  refine va_newa (atype := .boolean) (N' := 2) (a0 := (2, .inl (fun _ => 0))) hx hb (hC hts 141 (w := .arrayClass .boolean) (by decide +kernel)) rfl hK hP hD hS hA (fun _ => rfl) (by decide) (by decide) (Nat.le_of_ble_eq_true rfl) (Nat.le_of_ble_eq_true rfl) (Nat.le_of_ble_eq_true rfl) dcX8_69 (fun q9 cB H hK5 hP hD hS => ?_)
  obtain rfl : cB = cA 1 := ca_1 hK hK5
  clear hK5
  have hP : va_P D cls9 [(h0, .inr (8, [.int 0, .ref q1, .int 0, .int 0, .int 0, .int 0, .ref q2, .int 0, .int 0, .int 0, .int 0, .ref q3, .int 0, .ref q4, .ref q5, .ref q6, .ref q7, .int 0, .ref q8, .null, .int 0, .null, .null, .long 0, .int 0, .int 0, .int 0, .int 0, .int 0, .int 0, .null, .null])), (q1, .inl (cA 0, 48, .inl (fun _ => 0))), (q2, .inl (cA 0, 4, .inl (fun _ => 0))), (q3, .inl (cA 0, 8, .inl (fun _ => 0))), (q4, .inl (cA 0, 5, .inl (fun _ => 0))), (q5, .inl (cA 0, 21, .inl (fun _ => 0))), (q6, .inl (cA 0, 21, .inl (fun _ => 0))), (q7, .inl (cA 0, 294, .inl (fun _ => 0))), (q8, .inl (cA 0, 42, .inl (fun _ => 0))), (q9, .inl (cA 1, 2, .inl (fun _ => 0)))] H := hP
  have hD : va_D A [(h0, .inr (8, [.int 0, .ref q1, .int 0, .int 0, .int 0, .int 0, .ref q2, .int 0, .int 0, .int 0, .int 0, .ref q3, .int 0, .ref q4, .ref q5, .ref q6, .ref q7, .int 0, .ref q8, .null, .int 0, .null, .null, .long 0, .int 0, .int 0, .int 0, .int 0, .int 0, .int 0, .null, .null])), (q1, .inl (cA 0, 48, .inl (fun _ => 0))), (q2, .inl (cA 0, 4, .inl (fun _ => 0))), (q3, .inl (cA 0, 8, .inl (fun _ => 0))), (q4, .inl (cA 0, 5, .inl (fun _ => 0))), (q5, .inl (cA 0, 21, .inl (fun _ => 0))), (q6, .inl (cA 0, 21, .inl (fun _ => 0))), (q7, .inl (cA 0, 294, .inl (fun _ => 0))), (q8, .inl (cA 0, 42, .inl (fun _ => 0))), (q9, .inl (cA 1, 2, .inl (fun _ => 0)))] := hD
  refine W.widen (k := 9) (n := 445) (Nat.le_of_ble_eq_true rfl) (Nat.le_of_ble_eq_true rfl) ?_
  refine va_putF (D := D) (ci := 8) (v := .ref q9) (ty := .array .boolean) (C := RX8) (T := TX8) (N := 32) hx hb hts (inC inCX8) tycX8 tycX8_ok nmcX8 hown hK hP hD hS 0 rfl rfl 19 (by decide) (hC hts 142 (w := .fieldLink RX8 34 "AntLeaseModel" "isKept" "[Z") (by decide +kernel)) (fun _ h9 => h9) rfl hin rfl (by decide +kernel) rfl rfl (Nat.le_of_ble_eq_true rfl) dcX8_71 (fun H locs hP hD hS => ?_)
  have hP : va_P D cls9 [(h0, .inr (8, [.int 0, .ref q1, .int 0, .int 0, .int 0, .int 0, .ref q2, .int 0, .int 0, .int 0, .int 0, .ref q3, .int 0, .ref q4, .ref q5, .ref q6, .ref q7, .int 0, .ref q8, .ref q9, .int 0, .null, .null, .long 0, .int 0, .int 0, .int 0, .int 0, .int 0, .int 0, .null, .null])), (q1, .inl (cA 0, 48, .inl (fun _ => 0))), (q2, .inl (cA 0, 4, .inl (fun _ => 0))), (q3, .inl (cA 0, 8, .inl (fun _ => 0))), (q4, .inl (cA 0, 5, .inl (fun _ => 0))), (q5, .inl (cA 0, 21, .inl (fun _ => 0))), (q6, .inl (cA 0, 21, .inl (fun _ => 0))), (q7, .inl (cA 0, 294, .inl (fun _ => 0))), (q8, .inl (cA 0, 42, .inl (fun _ => 0))), (q9, .inl (cA 1, 2, .inl (fun _ => 0)))] H := hP
  have hD : va_D A [(h0, .inr (8, [.int 0, .ref q1, .int 0, .int 0, .int 0, .int 0, .ref q2, .int 0, .int 0, .int 0, .int 0, .ref q3, .int 0, .ref q4, .ref q5, .ref q6, .ref q7, .int 0, .ref q8, .ref q9, .int 0, .null, .null, .long 0, .int 0, .int 0, .int 0, .int 0, .int 0, .int 0, .null, .null])), (q1, .inl (cA 0, 48, .inl (fun _ => 0))), (q2, .inl (cA 0, 4, .inl (fun _ => 0))), (q3, .inl (cA 0, 8, .inl (fun _ => 0))), (q4, .inl (cA 0, 5, .inl (fun _ => 0))), (q5, .inl (cA 0, 21, .inl (fun _ => 0))), (q6, .inl (cA 0, 21, .inl (fun _ => 0))), (q7, .inl (cA 0, 294, .inl (fun _ => 0))), (q8, .inl (cA 0, 42, .inl (fun _ => 0))), (q9, .inl (cA 1, 2, .inl (fun _ => 0)))] := hD
  refine lv_aload_n hx hb dcX8_74 rfl (lv_at hl 0 rfl) ?_
  refine lv_bipush (v := 6) hx hb dcX8_75 (by decide) ?_
  refine va_newa (atype := .int) (N' := 6) (a0 := (6, .inl (fun _ => 0))) hx hb (hC hts 90 (w := .arrayClass .int) (by decide +kernel)) rfl hK hP hD hS hA (fun _ => rfl) (by decide) (by decide) (Nat.le_of_ble_eq_true rfl) (Nat.le_of_ble_eq_true rfl) (Nat.le_of_ble_eq_true rfl) dcX8_77 (fun q10 cB H hK5 hP hD hS => ?_)
  obtain rfl : cB = cA 0 := ca_0 hK hK5
  clear hK5
  have hP : va_P D cls9 [(h0, .inr (8, [.int 0, .ref q1, .int 0, .int 0, .int 0, .int 0, .ref q2, .int 0, .int 0, .int 0, .int 0, .ref q3, .int 0, .ref q4, .ref q5, .ref q6, .ref q7, .int 0, .ref q8, .ref q9, .int 0, .null, .null, .long 0, .int 0, .int 0, .int 0, .int 0, .int 0, .int 0, .null, .null])), (q1, .inl (cA 0, 48, .inl (fun _ => 0))), (q2, .inl (cA 0, 4, .inl (fun _ => 0))), (q3, .inl (cA 0, 8, .inl (fun _ => 0))), (q4, .inl (cA 0, 5, .inl (fun _ => 0))), (q5, .inl (cA 0, 21, .inl (fun _ => 0))), (q6, .inl (cA 0, 21, .inl (fun _ => 0))), (q7, .inl (cA 0, 294, .inl (fun _ => 0))), (q8, .inl (cA 0, 42, .inl (fun _ => 0))), (q9, .inl (cA 1, 2, .inl (fun _ => 0))), (q10, .inl (cA 0, 6, .inl (fun _ => 0)))] H := hP
  have hD : va_D A [(h0, .inr (8, [.int 0, .ref q1, .int 0, .int 0, .int 0, .int 0, .ref q2, .int 0, .int 0, .int 0, .int 0, .ref q3, .int 0, .ref q4, .ref q5, .ref q6, .ref q7, .int 0, .ref q8, .ref q9, .int 0, .null, .null, .long 0, .int 0, .int 0, .int 0, .int 0, .int 0, .int 0, .null, .null])), (q1, .inl (cA 0, 48, .inl (fun _ => 0))), (q2, .inl (cA 0, 4, .inl (fun _ => 0))), (q3, .inl (cA 0, 8, .inl (fun _ => 0))), (q4, .inl (cA 0, 5, .inl (fun _ => 0))), (q5, .inl (cA 0, 21, .inl (fun _ => 0))), (q6, .inl (cA 0, 21, .inl (fun _ => 0))), (q7, .inl (cA 0, 294, .inl (fun _ => 0))), (q8, .inl (cA 0, 42, .inl (fun _ => 0))), (q9, .inl (cA 1, 2, .inl (fun _ => 0))), (q10, .inl (cA 0, 6, .inl (fun _ => 0)))] := hD
  refine W.widen (k := 10) (n := 451) (Nat.le_of_ble_eq_true rfl) (Nat.le_of_ble_eq_true rfl) ?_
  refine va_putF (D := D) (ci := 8) (v := .ref q10) (ty := .array .int) (C := RX8) (T := TX8) (N := 32) hx hb hts (inC inCX8) tycX8 tycX8_ok nmcX8 hown hK hP hD hS 0 rfl rfl 21 (by decide) (hC hts 143 (w := .fieldLink RX8 38 "AntLeaseModel" "saidAt" "[I") (by decide +kernel)) (fun _ h9 => h9) rfl hin rfl (by decide +kernel) rfl rfl (Nat.le_of_ble_eq_true rfl) dcX8_79 (fun H locs hP hD hS => ?_)
  have hP : va_P D cls9 [(h0, .inr (8, [.int 0, .ref q1, .int 0, .int 0, .int 0, .int 0, .ref q2, .int 0, .int 0, .int 0, .int 0, .ref q3, .int 0, .ref q4, .ref q5, .ref q6, .ref q7, .int 0, .ref q8, .ref q9, .int 0, .ref q10, .null, .long 0, .int 0, .int 0, .int 0, .int 0, .int 0, .int 0, .null, .null])), (q1, .inl (cA 0, 48, .inl (fun _ => 0))), (q2, .inl (cA 0, 4, .inl (fun _ => 0))), (q3, .inl (cA 0, 8, .inl (fun _ => 0))), (q4, .inl (cA 0, 5, .inl (fun _ => 0))), (q5, .inl (cA 0, 21, .inl (fun _ => 0))), (q6, .inl (cA 0, 21, .inl (fun _ => 0))), (q7, .inl (cA 0, 294, .inl (fun _ => 0))), (q8, .inl (cA 0, 42, .inl (fun _ => 0))), (q9, .inl (cA 1, 2, .inl (fun _ => 0))), (q10, .inl (cA 0, 6, .inl (fun _ => 0)))] H := hP
  have hD : va_D A [(h0, .inr (8, [.int 0, .ref q1, .int 0, .int 0, .int 0, .int 0, .ref q2, .int 0, .int 0, .int 0, .int 0, .ref q3, .int 0, .ref q4, .ref q5, .ref q6, .ref q7, .int 0, .ref q8, .ref q9, .int 0, .ref q10, .null, .long 0, .int 0, .int 0, .int 0, .int 0, .int 0, .int 0, .null, .null])), (q1, .inl (cA 0, 48, .inl (fun _ => 0))), (q2, .inl (cA 0, 4, .inl (fun _ => 0))), (q3, .inl (cA 0, 8, .inl (fun _ => 0))), (q4, .inl (cA 0, 5, .inl (fun _ => 0))), (q5, .inl (cA 0, 21, .inl (fun _ => 0))), (q6, .inl (cA 0, 21, .inl (fun _ => 0))), (q7, .inl (cA 0, 294, .inl (fun _ => 0))), (q8, .inl (cA 0, 42, .inl (fun _ => 0))), (q9, .inl (cA 1, 2, .inl (fun _ => 0))), (q10, .inl (cA 0, 6, .inl (fun _ => 0)))] := hD
  refine lv_aload_n hx hb dcX8_82 rfl (lv_at hl 0 rfl) ?_
  refine lv_bipush (v := 6) hx hb dcX8_83 (by decide) ?_
  refine va_newa (atype := .int) (N' := 6) (a0 := (6, .inl (fun _ => 0))) hx hb (hC hts 90 (w := .arrayClass .int) (by decide +kernel)) rfl hK hP hD hS hA (fun _ => rfl) (by decide) (by decide) (Nat.le_of_ble_eq_true rfl) (Nat.le_of_ble_eq_true rfl) (Nat.le_of_ble_eq_true rfl) dcX8_85 (fun q11 cB H hK5 hP hD hS => ?_)
  obtain rfl : cB = cA 0 := ca_0 hK hK5
  clear hK5
  have hP : va_P D cls9 [(h0, .inr (8, [.int 0, .ref q1, .int 0, .int 0, .int 0, .int 0, .ref q2, .int 0, .int 0, .int 0, .int 0, .ref q3, .int 0, .ref q4, .ref q5, .ref q6, .ref q7, .int 0, .ref q8, .ref q9, .int 0, .ref q10, .null, .long 0, .int 0, .int 0, .int 0, .int 0, .int 0, .int 0, .null, .null])), (q1, .inl (cA 0, 48, .inl (fun _ => 0))), (q2, .inl (cA 0, 4, .inl (fun _ => 0))), (q3, .inl (cA 0, 8, .inl (fun _ => 0))), (q4, .inl (cA 0, 5, .inl (fun _ => 0))), (q5, .inl (cA 0, 21, .inl (fun _ => 0))), (q6, .inl (cA 0, 21, .inl (fun _ => 0))), (q7, .inl (cA 0, 294, .inl (fun _ => 0))), (q8, .inl (cA 0, 42, .inl (fun _ => 0))), (q9, .inl (cA 1, 2, .inl (fun _ => 0))), (q10, .inl (cA 0, 6, .inl (fun _ => 0))), (q11, .inl (cA 0, 6, .inl (fun _ => 0)))] H := hP
  have hD : va_D A [(h0, .inr (8, [.int 0, .ref q1, .int 0, .int 0, .int 0, .int 0, .ref q2, .int 0, .int 0, .int 0, .int 0, .ref q3, .int 0, .ref q4, .ref q5, .ref q6, .ref q7, .int 0, .ref q8, .ref q9, .int 0, .ref q10, .null, .long 0, .int 0, .int 0, .int 0, .int 0, .int 0, .int 0, .null, .null])), (q1, .inl (cA 0, 48, .inl (fun _ => 0))), (q2, .inl (cA 0, 4, .inl (fun _ => 0))), (q3, .inl (cA 0, 8, .inl (fun _ => 0))), (q4, .inl (cA 0, 5, .inl (fun _ => 0))), (q5, .inl (cA 0, 21, .inl (fun _ => 0))), (q6, .inl (cA 0, 21, .inl (fun _ => 0))), (q7, .inl (cA 0, 294, .inl (fun _ => 0))), (q8, .inl (cA 0, 42, .inl (fun _ => 0))), (q9, .inl (cA 1, 2, .inl (fun _ => 0))), (q10, .inl (cA 0, 6, .inl (fun _ => 0))), (q11, .inl (cA 0, 6, .inl (fun _ => 0)))] := hD
  refine W.widen (k := 11) (n := 457) (Nat.le_of_ble_eq_true rfl) (Nat.le_of_ble_eq_true rfl) ?_
  refine va_putF (D := D) (ci := 8) (v := .ref q11) (ty := .array .int) (C := RX8) (T := TX8) (N := 32) hx hb hts (inC inCX8) tycX8 tycX8_ok nmcX8 hown hK hP hD hS 0 rfl rfl 22 (by decide) (hC hts 144 (w := .fieldLink RX8 41 "AntLeaseModel" "saidIs" "[I") (by decide +kernel)) (fun _ h9 => h9) rfl hin rfl (by decide +kernel) rfl rfl (Nat.le_of_ble_eq_true rfl) dcX8_87 (fun H locs hP hD hS => ?_)
  have hP : va_P D cls9 [(h0, .inr (8, [.int 0, .ref q1, .int 0, .int 0, .int 0, .int 0, .ref q2, .int 0, .int 0, .int 0, .int 0, .ref q3, .int 0, .ref q4, .ref q5, .ref q6, .ref q7, .int 0, .ref q8, .ref q9, .int 0, .ref q10, .ref q11, .long 0, .int 0, .int 0, .int 0, .int 0, .int 0, .int 0, .null, .null])), (q1, .inl (cA 0, 48, .inl (fun _ => 0))), (q2, .inl (cA 0, 4, .inl (fun _ => 0))), (q3, .inl (cA 0, 8, .inl (fun _ => 0))), (q4, .inl (cA 0, 5, .inl (fun _ => 0))), (q5, .inl (cA 0, 21, .inl (fun _ => 0))), (q6, .inl (cA 0, 21, .inl (fun _ => 0))), (q7, .inl (cA 0, 294, .inl (fun _ => 0))), (q8, .inl (cA 0, 42, .inl (fun _ => 0))), (q9, .inl (cA 1, 2, .inl (fun _ => 0))), (q10, .inl (cA 0, 6, .inl (fun _ => 0))), (q11, .inl (cA 0, 6, .inl (fun _ => 0)))] H := hP
  have hD : va_D A [(h0, .inr (8, [.int 0, .ref q1, .int 0, .int 0, .int 0, .int 0, .ref q2, .int 0, .int 0, .int 0, .int 0, .ref q3, .int 0, .ref q4, .ref q5, .ref q6, .ref q7, .int 0, .ref q8, .ref q9, .int 0, .ref q10, .ref q11, .long 0, .int 0, .int 0, .int 0, .int 0, .int 0, .int 0, .null, .null])), (q1, .inl (cA 0, 48, .inl (fun _ => 0))), (q2, .inl (cA 0, 4, .inl (fun _ => 0))), (q3, .inl (cA 0, 8, .inl (fun _ => 0))), (q4, .inl (cA 0, 5, .inl (fun _ => 0))), (q5, .inl (cA 0, 21, .inl (fun _ => 0))), (q6, .inl (cA 0, 21, .inl (fun _ => 0))), (q7, .inl (cA 0, 294, .inl (fun _ => 0))), (q8, .inl (cA 0, 42, .inl (fun _ => 0))), (q9, .inl (cA 1, 2, .inl (fun _ => 0))), (q10, .inl (cA 0, 6, .inl (fun _ => 0))), (q11, .inl (cA 0, 6, .inl (fun _ => 0)))] := hD
  refine lv_aload_n hx hb dcX8_90 rfl (lv_at hl 0 rfl) ?_
  refine lv_bipush (v := 18) hx hb dcX8_91 (by decide) ?_
  refine va_newa (atype := .int) (N' := 18) (a0 := (18, .inl (fun _ => 0))) hx hb (hC hts 90 (w := .arrayClass .int) (by decide +kernel)) rfl hK hP hD hS hA (fun _ => rfl) (by decide) (by decide) (Nat.le_of_ble_eq_true rfl) (Nat.le_of_ble_eq_true rfl) (Nat.le_of_ble_eq_true rfl) dcX8_93 (fun q12 cB H hK5 hP hD hS => ?_)
  obtain rfl : cB = cA 0 := ca_0 hK hK5
  clear hK5
  have hP : va_P D cls9 [(h0, .inr (8, [.int 0, .ref q1, .int 0, .int 0, .int 0, .int 0, .ref q2, .int 0, .int 0, .int 0, .int 0, .ref q3, .int 0, .ref q4, .ref q5, .ref q6, .ref q7, .int 0, .ref q8, .ref q9, .int 0, .ref q10, .ref q11, .long 0, .int 0, .int 0, .int 0, .int 0, .int 0, .int 0, .null, .null])), (q1, .inl (cA 0, 48, .inl (fun _ => 0))), (q2, .inl (cA 0, 4, .inl (fun _ => 0))), (q3, .inl (cA 0, 8, .inl (fun _ => 0))), (q4, .inl (cA 0, 5, .inl (fun _ => 0))), (q5, .inl (cA 0, 21, .inl (fun _ => 0))), (q6, .inl (cA 0, 21, .inl (fun _ => 0))), (q7, .inl (cA 0, 294, .inl (fun _ => 0))), (q8, .inl (cA 0, 42, .inl (fun _ => 0))), (q9, .inl (cA 1, 2, .inl (fun _ => 0))), (q10, .inl (cA 0, 6, .inl (fun _ => 0))), (q11, .inl (cA 0, 6, .inl (fun _ => 0))), (q12, .inl (cA 0, 18, .inl (fun _ => 0)))] H := hP
  have hD : va_D A [(h0, .inr (8, [.int 0, .ref q1, .int 0, .int 0, .int 0, .int 0, .ref q2, .int 0, .int 0, .int 0, .int 0, .ref q3, .int 0, .ref q4, .ref q5, .ref q6, .ref q7, .int 0, .ref q8, .ref q9, .int 0, .ref q10, .ref q11, .long 0, .int 0, .int 0, .int 0, .int 0, .int 0, .int 0, .null, .null])), (q1, .inl (cA 0, 48, .inl (fun _ => 0))), (q2, .inl (cA 0, 4, .inl (fun _ => 0))), (q3, .inl (cA 0, 8, .inl (fun _ => 0))), (q4, .inl (cA 0, 5, .inl (fun _ => 0))), (q5, .inl (cA 0, 21, .inl (fun _ => 0))), (q6, .inl (cA 0, 21, .inl (fun _ => 0))), (q7, .inl (cA 0, 294, .inl (fun _ => 0))), (q8, .inl (cA 0, 42, .inl (fun _ => 0))), (q9, .inl (cA 1, 2, .inl (fun _ => 0))), (q10, .inl (cA 0, 6, .inl (fun _ => 0))), (q11, .inl (cA 0, 6, .inl (fun _ => 0))), (q12, .inl (cA 0, 18, .inl (fun _ => 0)))] := hD
  refine W.widen (k := 12) (n := 475) (Nat.le_of_ble_eq_true rfl) (Nat.le_of_ble_eq_true rfl) ?_
  refine va_putF (D := D) (ci := 8) (v := .ref q12) (ty := .array .int) (C := RX8) (T := TX8) (N := 32) hx hb hts (inC inCX8) tycX8 tycX8_ok nmcX8 hown hK hP hD hS 0 rfl rfl 30 (by decide) (hC hts 145 (w := .fieldLink RX8 44 "AntLeaseModel" "gains" "[I") (by decide +kernel)) (fun _ h9 => h9) rfl hin rfl (by decide +kernel) rfl rfl (Nat.le_of_ble_eq_true rfl) dcX8_95 (fun H locs hP hD hS => ?_)
  have hP : va_P D cls9 [(h0, .inr (8, [.int 0, .ref q1, .int 0, .int 0, .int 0, .int 0, .ref q2, .int 0, .int 0, .int 0, .int 0, .ref q3, .int 0, .ref q4, .ref q5, .ref q6, .ref q7, .int 0, .ref q8, .ref q9, .int 0, .ref q10, .ref q11, .long 0, .int 0, .int 0, .int 0, .int 0, .int 0, .int 0, .ref q12, .null])), (q1, .inl (cA 0, 48, .inl (fun _ => 0))), (q2, .inl (cA 0, 4, .inl (fun _ => 0))), (q3, .inl (cA 0, 8, .inl (fun _ => 0))), (q4, .inl (cA 0, 5, .inl (fun _ => 0))), (q5, .inl (cA 0, 21, .inl (fun _ => 0))), (q6, .inl (cA 0, 21, .inl (fun _ => 0))), (q7, .inl (cA 0, 294, .inl (fun _ => 0))), (q8, .inl (cA 0, 42, .inl (fun _ => 0))), (q9, .inl (cA 1, 2, .inl (fun _ => 0))), (q10, .inl (cA 0, 6, .inl (fun _ => 0))), (q11, .inl (cA 0, 6, .inl (fun _ => 0))), (q12, .inl (cA 0, 18, .inl (fun _ => 0)))] H := hP
  have hD : va_D A [(h0, .inr (8, [.int 0, .ref q1, .int 0, .int 0, .int 0, .int 0, .ref q2, .int 0, .int 0, .int 0, .int 0, .ref q3, .int 0, .ref q4, .ref q5, .ref q6, .ref q7, .int 0, .ref q8, .ref q9, .int 0, .ref q10, .ref q11, .long 0, .int 0, .int 0, .int 0, .int 0, .int 0, .int 0, .ref q12, .null])), (q1, .inl (cA 0, 48, .inl (fun _ => 0))), (q2, .inl (cA 0, 4, .inl (fun _ => 0))), (q3, .inl (cA 0, 8, .inl (fun _ => 0))), (q4, .inl (cA 0, 5, .inl (fun _ => 0))), (q5, .inl (cA 0, 21, .inl (fun _ => 0))), (q6, .inl (cA 0, 21, .inl (fun _ => 0))), (q7, .inl (cA 0, 294, .inl (fun _ => 0))), (q8, .inl (cA 0, 42, .inl (fun _ => 0))), (q9, .inl (cA 1, 2, .inl (fun _ => 0))), (q10, .inl (cA 0, 6, .inl (fun _ => 0))), (q11, .inl (cA 0, 6, .inl (fun _ => 0))), (q12, .inl (cA 0, 18, .inl (fun _ => 0)))] := hD
  refine lv_aload_n hx hb dcX8_98 rfl (lv_at hl 0 rfl) ?_
  refine lv_bipush (v := 16) hx hb dcX8_99 (by decide) ?_
  refine va_newa (atype := .int) (N' := 16) (a0 := (16, .inl (fun _ => 0))) hx hb (hC hts 90 (w := .arrayClass .int) (by decide +kernel)) rfl hK hP hD hS hA (fun _ => rfl) (by decide) (by decide) (Nat.le_of_ble_eq_true rfl) (Nat.le_of_ble_eq_true rfl) (Nat.le_of_ble_eq_true rfl) dcX8_101 (fun q13 cB H hK5 hP hD hS => ?_)
  obtain rfl : cB = cA 0 := ca_0 hK hK5
  clear hK5
  have hP : va_P D cls9 [(h0, .inr (8, [.int 0, .ref q1, .int 0, .int 0, .int 0, .int 0, .ref q2, .int 0, .int 0, .int 0, .int 0, .ref q3, .int 0, .ref q4, .ref q5, .ref q6, .ref q7, .int 0, .ref q8, .ref q9, .int 0, .ref q10, .ref q11, .long 0, .int 0, .int 0, .int 0, .int 0, .int 0, .int 0, .ref q12, .null])), (q1, .inl (cA 0, 48, .inl (fun _ => 0))), (q2, .inl (cA 0, 4, .inl (fun _ => 0))), (q3, .inl (cA 0, 8, .inl (fun _ => 0))), (q4, .inl (cA 0, 5, .inl (fun _ => 0))), (q5, .inl (cA 0, 21, .inl (fun _ => 0))), (q6, .inl (cA 0, 21, .inl (fun _ => 0))), (q7, .inl (cA 0, 294, .inl (fun _ => 0))), (q8, .inl (cA 0, 42, .inl (fun _ => 0))), (q9, .inl (cA 1, 2, .inl (fun _ => 0))), (q10, .inl (cA 0, 6, .inl (fun _ => 0))), (q11, .inl (cA 0, 6, .inl (fun _ => 0))), (q12, .inl (cA 0, 18, .inl (fun _ => 0))), (q13, .inl (cA 0, 16, .inl (fun _ => 0)))] H := hP
  have hD : va_D A [(h0, .inr (8, [.int 0, .ref q1, .int 0, .int 0, .int 0, .int 0, .ref q2, .int 0, .int 0, .int 0, .int 0, .ref q3, .int 0, .ref q4, .ref q5, .ref q6, .ref q7, .int 0, .ref q8, .ref q9, .int 0, .ref q10, .ref q11, .long 0, .int 0, .int 0, .int 0, .int 0, .int 0, .int 0, .ref q12, .null])), (q1, .inl (cA 0, 48, .inl (fun _ => 0))), (q2, .inl (cA 0, 4, .inl (fun _ => 0))), (q3, .inl (cA 0, 8, .inl (fun _ => 0))), (q4, .inl (cA 0, 5, .inl (fun _ => 0))), (q5, .inl (cA 0, 21, .inl (fun _ => 0))), (q6, .inl (cA 0, 21, .inl (fun _ => 0))), (q7, .inl (cA 0, 294, .inl (fun _ => 0))), (q8, .inl (cA 0, 42, .inl (fun _ => 0))), (q9, .inl (cA 1, 2, .inl (fun _ => 0))), (q10, .inl (cA 0, 6, .inl (fun _ => 0))), (q11, .inl (cA 0, 6, .inl (fun _ => 0))), (q12, .inl (cA 0, 18, .inl (fun _ => 0))), (q13, .inl (cA 0, 16, .inl (fun _ => 0)))] := hD
  refine W.widen (k := 13) (n := 491) (Nat.le_of_ble_eq_true rfl) (Nat.le_of_ble_eq_true rfl) ?_
  refine va_putF (D := D) (ci := 8) (v := .ref q13) (ty := .array .int) (C := RX8) (T := TX8) (N := 32) hx hb hts (inC inCX8) tycX8 tycX8_ok nmcX8 hown hK hP hD hS 0 rfl rfl 31 (by decide) (hC hts 146 (w := .fieldLink RX8 47 "AntLeaseModel" "value" "[I") (by decide +kernel)) (fun _ h9 => h9) rfl hin rfl (by decide +kernel) rfl rfl (Nat.le_of_ble_eq_true rfl) dcX8_103 (fun H locs hP hD hS => ?_)
  have hP : va_P D cls9 [(h0, .inr (8, [.int 0, .ref q1, .int 0, .int 0, .int 0, .int 0, .ref q2, .int 0, .int 0, .int 0, .int 0, .ref q3, .int 0, .ref q4, .ref q5, .ref q6, .ref q7, .int 0, .ref q8, .ref q9, .int 0, .ref q10, .ref q11, .long 0, .int 0, .int 0, .int 0, .int 0, .int 0, .int 0, .ref q12, .ref q13])), (q1, .inl (cA 0, 48, .inl (fun _ => 0))), (q2, .inl (cA 0, 4, .inl (fun _ => 0))), (q3, .inl (cA 0, 8, .inl (fun _ => 0))), (q4, .inl (cA 0, 5, .inl (fun _ => 0))), (q5, .inl (cA 0, 21, .inl (fun _ => 0))), (q6, .inl (cA 0, 21, .inl (fun _ => 0))), (q7, .inl (cA 0, 294, .inl (fun _ => 0))), (q8, .inl (cA 0, 42, .inl (fun _ => 0))), (q9, .inl (cA 1, 2, .inl (fun _ => 0))), (q10, .inl (cA 0, 6, .inl (fun _ => 0))), (q11, .inl (cA 0, 6, .inl (fun _ => 0))), (q12, .inl (cA 0, 18, .inl (fun _ => 0))), (q13, .inl (cA 0, 16, .inl (fun _ => 0)))] H := hP
  have hD : va_D A [(h0, .inr (8, [.int 0, .ref q1, .int 0, .int 0, .int 0, .int 0, .ref q2, .int 0, .int 0, .int 0, .int 0, .ref q3, .int 0, .ref q4, .ref q5, .ref q6, .ref q7, .int 0, .ref q8, .ref q9, .int 0, .ref q10, .ref q11, .long 0, .int 0, .int 0, .int 0, .int 0, .int 0, .int 0, .ref q12, .ref q13])), (q1, .inl (cA 0, 48, .inl (fun _ => 0))), (q2, .inl (cA 0, 4, .inl (fun _ => 0))), (q3, .inl (cA 0, 8, .inl (fun _ => 0))), (q4, .inl (cA 0, 5, .inl (fun _ => 0))), (q5, .inl (cA 0, 21, .inl (fun _ => 0))), (q6, .inl (cA 0, 21, .inl (fun _ => 0))), (q7, .inl (cA 0, 294, .inl (fun _ => 0))), (q8, .inl (cA 0, 42, .inl (fun _ => 0))), (q9, .inl (cA 1, 2, .inl (fun _ => 0))), (q10, .inl (cA 0, 6, .inl (fun _ => 0))), (q11, .inl (cA 0, 6, .inl (fun _ => 0))), (q12, .inl (cA 0, 18, .inl (fun _ => 0))), (q13, .inl (cA 0, 16, .inl (fun _ => 0)))] := hD
  refine W.widen (k := 13) (n := 491) (Nat.le_of_ble_eq_true rfl) (Nat.le_of_ble_eq_true rfl) ?_
  exact W.vret hx hb hr (fun t ht hW => ⟨⟨(), rfl, trivial, q1, q2, q3, q4, q5, q6, q7, q8, q9, q10, q11, q12, q13, by rw [ht]; exact hP, hD⟩, hS.F ht⟩) hS.2.2 dcX8_106
