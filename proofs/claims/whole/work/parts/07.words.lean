/-! classes and words, by program out of the claim's own tables -/
def RX0 : String := "AntLease$House"
def TX0 : u_T := fun k => match k with
  | _ => ("AntLease$House", "cells", "[I", true)
def RX1 : String := "AntLease$Least"
def TX1 : u_T := fun k => match k with
  | 0 => ("AntLease$Least", "grains", "I", false)
  | _ => ("AntLease$Least", "figures", "I", false)
def RX2 : String := "AntLease$Past"
def TX2 : u_T := fun k => match k with
  | 0 => ("AntLease$Past", "rows", "[I", true)
  | 1 => ("AntLease$Past", "first", "I", false)
  | _ => ("AntLease$Past", "size", "I", false)
def RX3 : String := "AntLease$Rests"
def TX3 : u_T := fun k => match k with
  | _ => ("", "", "", false)
def RX4 : String := "AntLease$Said"
def TX4 : u_T := fun k => match k with
  | 0 => ("AntLease$Said", "size", "I", false)
  | 1 => ("AntLease$Said", "knew", "I", false)
  | _ => ("AntLease$Said", "knewNot", "I", false)
def RX5 : String := "AntLease$Slots"
def TX5 : u_T := fun k => match k with
  | 0 => ("AntLease$Slots", "rows", "[I", true)
  | _ => ("AntLease$Slots", "taken", "I", false)
def RX6 : String := "AntLease$Text"
def TX6 : u_T := fun k => match k with
  | 0 => ("AntLease$Text", "bytes", "[I", true)
  | _ => ("AntLease$Text", "length", "I", false)
def RX7 : String := "AntLease"
def TX7 : u_T := fun k => match k with
  | 0 => ("AntLease", "text", "LAntLease$Text;", true)
  | 1 => ("AntLease", "now", "LAntLease$House;", true)
  | 2 => ("AntLease", "trial", "LAntLease$House;", true)
  | 3 => ("AntLease", "past", "LAntLease$Past;", true)
  | 4 => ("AntLease", "slots", "LAntLease$Slots;", true)
  | 5 => ("AntLease", "said", "LAntLease$Said;", true)
  | 6 => ("AntLease", "fewest", "LAntLease$Least;", true)
  | 7 => ("AntLease", "doings", "[I", true)
  | 8 => ("AntLease", "chances", "[I", true)
  | _ => ("AntLease", "theSeed", "J", false)
def RX8 : String := "AntLeaseModel"
def TX8 : u_T := fun k => match k with
  | 0 => ("AntLeaseModel", "thrown", "I", false)
  | 1 => ("AntLeaseModel", "text", "[I", true)
  | 2 => ("AntLeaseModel", "textSize", "I", false)
  | 3 => ("AntLeaseModel", "place", "I", false)
  | 4 => ("AntLeaseModel", "skirting", "I", false)
  | 5 => ("AntLeaseModel", "foods", "I", false)
  | 6 => ("AntLeaseModel", "kind", "[I", true)
  | 7 => ("AntLeaseModel", "things", "I", false)
  | 8 => ("AntLeaseModel", "readSkirting", "I", false)
  | 9 => ("AntLeaseModel", "readWill", "I", false)
  | 10 => ("AntLeaseModel", "readFoods", "I", false)
  | 11 => ("AntLeaseModel", "readFood", "[I", true)
  | 12 => ("AntLeaseModel", "readThings", "I", false)
  | 13 => ("AntLeaseModel", "readAt", "[I", true)
  | 14 => ("AntLeaseModel", "page", "[I", true)
  | 15 => ("AntLeaseModel", "trial", "[I", true)
  | 16 => ("AntLeaseModel", "book", "[I", true)
  | 17 => ("AntLeaseModel", "acts", "I", false)
  | 18 => ("AntLeaseModel", "kept", "[I", true)
  | 19 => ("AntLeaseModel", "isKept", "[Z", true)
  | 20 => ("AntLeaseModel", "said", "I", false)
  | 21 => ("AntLeaseModel", "saidAt", "[I", true)
  | 22 => ("AntLeaseModel", "saidIs", "[I", true)
  | 23 => ("AntLeaseModel", "seed", "J", false)
  | 24 => ("AntLeaseModel", "leastMany", "I", false)
  | 25 => ("AntLeaseModel", "leastWay", "I", false)
  | 26 => ("AntLeaseModel", "lineMany", "I", false)
  | 27 => ("AntLeaseModel", "lineFirst", "I", false)
  | 28 => ("AntLeaseModel", "restMany", "I", false)
  | 29 => ("AntLeaseModel", "restFirst", "I", false)
  | 30 => ("AntLeaseModel", "gains", "[I", true)
  | _ => ("AntLeaseModel", "value", "[I", true)
def cls9 : List vw_C := [(RX0, TX0, 1), (RX1, TX1, 2), (RX2, TX2, 3), (RX0, TX0, 1), (RX4, TX4, 3), (RX5, TX5, 2), (RX6, TX6, 2), (RX7, TX7, 10), (RX8, TX8, 32)]
def tb9_0 : List Cond := [(Jvm.Cond.laysFinal "AntLease$House" "AntLease$House" "cells" "[I"),
  (Jvm.Cond.lays "AntLease$Least" "AntLease$Least" "grains" "I"),
  (Jvm.Cond.lays "AntLease$Least" "AntLease$Least" "figures" "I"),
  (Jvm.Cond.laysFinal "AntLease$Past" "AntLease$Past" "rows" "[I"),
  (Jvm.Cond.lays "AntLease$Past" "AntLease$Past" "first" "I"),
  (Jvm.Cond.lays "AntLease$Past" "AntLease$Past" "size" "I"),
  (Jvm.Cond.lays "AntLease$Said" "AntLease$Said" "size" "I"),
  (Jvm.Cond.lays "AntLease$Said" "AntLease$Said" "knew" "I"),
  (Jvm.Cond.lays "AntLease$Said" "AntLease$Said" "knewNot" "I"),
  (Jvm.Cond.laysFinal "AntLease$Slots" "AntLease$Slots" "rows" "[I"),
  (Jvm.Cond.lays "AntLease$Slots" "AntLease$Slots" "taken" "I"),
  (Jvm.Cond.laysFinal "AntLease$Text" "AntLease$Text" "bytes" "[I"),
  (Jvm.Cond.lays "AntLease$Text" "AntLease$Text" "length" "I"),
  (Jvm.Cond.laysFinal "AntLease" "AntLease" "text" "LAntLease$Text;"),
  (Jvm.Cond.laysFinal "AntLease" "AntLease" "now" "LAntLease$House;"),
  (Jvm.Cond.laysFinal "AntLease" "AntLease" "trial" "LAntLease$House;"),
  (Jvm.Cond.laysFinal "AntLease" "AntLease" "past" "LAntLease$Past;"),
  (Jvm.Cond.laysFinal "AntLease" "AntLease" "slots" "LAntLease$Slots;"),
  (Jvm.Cond.laysFinal "AntLease" "AntLease" "said" "LAntLease$Said;"),
  (Jvm.Cond.laysFinal "AntLease" "AntLease" "fewest" "LAntLease$Least;"),
  (Jvm.Cond.laysFinal "AntLease" "AntLease" "doings" "[I"),
  (Jvm.Cond.laysFinal "AntLease" "AntLease" "chances" "[I"),
  (Jvm.Cond.lays "AntLease" "AntLease" "theSeed" "J"),
  (Jvm.Cond.lays "AntLeaseModel" "AntLeaseModel" "thrown" "I"),
  (Jvm.Cond.laysFinal "AntLeaseModel" "AntLeaseModel" "text" "[I"),
  (Jvm.Cond.lays "AntLeaseModel" "AntLeaseModel" "textSize" "I"),
  (Jvm.Cond.lays "AntLeaseModel" "AntLeaseModel" "place" "I"),
  (Jvm.Cond.lays "AntLeaseModel" "AntLeaseModel" "skirting" "I"),
  (Jvm.Cond.lays "AntLeaseModel" "AntLeaseModel" "foods" "I"),
  (Jvm.Cond.laysFinal "AntLeaseModel" "AntLeaseModel" "kind" "[I"),
  (Jvm.Cond.lays "AntLeaseModel" "AntLeaseModel" "things" "I"),
  (Jvm.Cond.lays "AntLeaseModel" "AntLeaseModel" "readSkirting" "I"),
  (Jvm.Cond.lays "AntLeaseModel" "AntLeaseModel" "readWill" "I"),
  (Jvm.Cond.lays "AntLeaseModel" "AntLeaseModel" "readFoods" "I"),
  (Jvm.Cond.laysFinal "AntLeaseModel" "AntLeaseModel" "readFood" "[I"),
  (Jvm.Cond.lays "AntLeaseModel" "AntLeaseModel" "readThings" "I"),
  (Jvm.Cond.laysFinal "AntLeaseModel" "AntLeaseModel" "readAt" "[I"),
  (Jvm.Cond.laysFinal "AntLeaseModel" "AntLeaseModel" "page" "[I"),
  (Jvm.Cond.laysFinal "AntLeaseModel" "AntLeaseModel" "trial" "[I"),
  (Jvm.Cond.laysFinal "AntLeaseModel" "AntLeaseModel" "book" "[I")]
theorem tb9_in_0 : ∀ w ∈ tb9_0, w ∈ lw_tbl := by
  intro w hw
  have hp : tb9_0 = [73, 129, 131, 85, 87, 89, 114, 116, 118, 100, 102, 60, 62, 144, 146, 148, 150, 152, 154, 156, 158, 160, 162, 667, 669, 671, 673, 675, 677, 679, 681, 683, 685, 687, 689, 691, 693, 695, 697, 699].filterMap (fun i => lw_tbl[i]?) := by decide +kernel
  rw [hp] at hw
  obtain ⟨i, -, hi⟩ := List.mem_filterMap.mp hw
  exact List.mem_of_getElem? hi
theorem tb9_good_0 : ∀ w ∈ tb9_0, goodWord w = true := List.all_eq_true.mp (by decide +kernel)
def tb9_1 : List Cond := [(Jvm.Cond.lays "AntLeaseModel" "AntLeaseModel" "acts" "I"),
  (Jvm.Cond.laysFinal "AntLeaseModel" "AntLeaseModel" "kept" "[I"),
  (Jvm.Cond.laysFinal "AntLeaseModel" "AntLeaseModel" "isKept" "[Z"),
  (Jvm.Cond.lays "AntLeaseModel" "AntLeaseModel" "said" "I"),
  (Jvm.Cond.laysFinal "AntLeaseModel" "AntLeaseModel" "saidAt" "[I"),
  (Jvm.Cond.laysFinal "AntLeaseModel" "AntLeaseModel" "saidIs" "[I"),
  (Jvm.Cond.lays "AntLeaseModel" "AntLeaseModel" "seed" "J"),
  (Jvm.Cond.lays "AntLeaseModel" "AntLeaseModel" "leastMany" "I"),
  (Jvm.Cond.lays "AntLeaseModel" "AntLeaseModel" "leastWay" "I"),
  (Jvm.Cond.lays "AntLeaseModel" "AntLeaseModel" "lineMany" "I"),
  (Jvm.Cond.lays "AntLeaseModel" "AntLeaseModel" "lineFirst" "I"),
  (Jvm.Cond.lays "AntLeaseModel" "AntLeaseModel" "restMany" "I"),
  (Jvm.Cond.lays "AntLeaseModel" "AntLeaseModel" "restFirst" "I"),
  (Jvm.Cond.laysFinal "AntLeaseModel" "AntLeaseModel" "gains" "[I"),
  (Jvm.Cond.laysFinal "AntLeaseModel" "AntLeaseModel" "value" "[I"),
  (Jvm.Cond.fieldLink "AntLease$House" (11 : Nat) "AntLease$House" "cells" "[I"),
  (Jvm.Cond.code ({ cls := "AntLease$House", name := "cell", desc := "(I)I" } : Jvm.MethodName) prog_2_method_2_code (2 : Nat) (Option.some Jvm.ClassFile.FieldType.int)),
  (Jvm.Cond.initialized "AntLease$House"),
  (Jvm.Cond.instanceMethod ({ cls := "AntLease$House", name := "cell", desc := "(I)I" } : Jvm.MethodName)),
  (Jvm.Cond.selects "AntLease$House" ({ cls := "AntLease$House", name := "cell", desc := "(I)I" } : Jvm.MethodName) ({ cls := "AntLease$House", name := "cell", desc := "(I)I" } : Jvm.MethodName)),
  (Jvm.Cond.code ({ cls := "AntLease$House", name := "set", desc := "(II)V" } : Jvm.MethodName) prog_2_method_3_code (3 : Nat) (Option.none : Option Jvm.ClassFile.FieldType)),
  (Jvm.Cond.instanceMethod ({ cls := "AntLease$House", name := "set", desc := "(II)V" } : Jvm.MethodName)),
  (Jvm.Cond.selects "AntLease$House" ({ cls := "AntLease$House", name := "set", desc := "(II)V" } : Jvm.MethodName) ({ cls := "AntLease$House", name := "set", desc := "(II)V" } : Jvm.MethodName)),
  (Jvm.Cond.methodLink "AntLease$House" (15 : Nat) ({ cls := "AntLease$House", name := "cell", desc := "(I)I" } : Jvm.MethodName)),
  (Jvm.Cond.methodLink "AntLease$House" (19 : Nat) ({ cls := "AntLease$House", name := "set", desc := "(II)V" } : Jvm.MethodName)),
  (Jvm.Cond.code ({ cls := "AntLease$House", name := "add", desc := "(II)V" } : Jvm.MethodName) prog_2_method_4_code (3 : Nat) (Option.none : Option Jvm.ClassFile.FieldType)),
  (Jvm.Cond.instanceMethod ({ cls := "AntLease$House", name := "add", desc := "(II)V" } : Jvm.MethodName)),
  (Jvm.Cond.selects "AntLease$House" ({ cls := "AntLease$House", name := "add", desc := "(II)V" } : Jvm.MethodName) ({ cls := "AntLease$House", name := "add", desc := "(II)V" } : Jvm.MethodName)),
  (Jvm.Cond.code ({ cls := "AntLease$House", name := "copyOf", desc := "(LAntLease$House;)V" } : Jvm.MethodName) prog_2_method_5_code (3 : Nat) (Option.none : Option Jvm.ClassFile.FieldType)),
  (Jvm.Cond.instanceMethod ({ cls := "AntLease$House", name := "copyOf", desc := "(LAntLease$House;)V" } : Jvm.MethodName)),
  (Jvm.Cond.selects "AntLease$House" ({ cls := "AntLease$House", name := "copyOf", desc := "(LAntLease$House;)V" } : Jvm.MethodName) ({ cls := "AntLease$House", name := "copyOf", desc := "(LAntLease$House;)V" } : Jvm.MethodName)),
  (Jvm.Cond.methodLink "AntLease$House" (23 : Nat) ({ cls := "java/lang/System", name := "arraycopy", desc := "(Ljava/lang/Object;ILjava/lang/Object;II)V" } : Jvm.MethodName)),
  (Jvm.Cond.native ({ cls := "java/lang/System", name := "arraycopy", desc := "(Ljava/lang/Object;ILjava/lang/Object;II)V" } : Jvm.MethodName)),
  (Jvm.Cond.static ({ cls := "java/lang/System", name := "arraycopy", desc := "(Ljava/lang/Object;ILjava/lang/Object;II)V" } : Jvm.MethodName)),
  (Jvm.Cond.initialized "java/lang/System"),
  (Jvm.Cond.code ({ cls := "AntLease$House", name := "storeIn", desc := "([II)V" } : Jvm.MethodName) prog_2_method_6_code (3 : Nat) (Option.none : Option Jvm.ClassFile.FieldType)),
  (Jvm.Cond.instanceMethod ({ cls := "AntLease$House", name := "storeIn", desc := "([II)V" } : Jvm.MethodName)),
  (Jvm.Cond.selects "AntLease$House" ({ cls := "AntLease$House", name := "storeIn", desc := "([II)V" } : Jvm.MethodName) ({ cls := "AntLease$House", name := "storeIn", desc := "([II)V" } : Jvm.MethodName)),
  (Jvm.Cond.code ({ cls := "AntLease$House", name := "fetchFrom", desc := "([II)V" } : Jvm.MethodName) prog_2_method_7_code (3 : Nat) (Option.none : Option Jvm.ClassFile.FieldType)),
  (Jvm.Cond.instanceMethod ({ cls := "AntLease$House", name := "fetchFrom", desc := "([II)V" } : Jvm.MethodName))]
theorem tb9_in_1 : ∀ w ∈ tb9_1, w ∈ lw_tbl := by
  intro w hw
  have hp : tb9_1 = [701, 703, 705, 707, 709, 711, 713, 715, 717, 719, 721, 723, 725, 727, 729, 72, 231, 34, 230, 2, 214, 213, 0, 228, 211, 227, 226, 1, 478, 476, 477, 380, 382, 381, 41, 379, 377, 378, 470, 468].filterMap (fun i => lw_tbl[i]?) := by decide +kernel
  rw [hp] at hw
  obtain ⟨i, -, hi⟩ := List.mem_filterMap.mp hw
  exact List.mem_of_getElem? hi
theorem tb9_good_1 : ∀ w ∈ tb9_1, goodWord w = true := List.all_eq_true.mp (by decide +kernel)
def tb9_2 : List Cond := [(Jvm.Cond.selects "AntLease$House" ({ cls := "AntLease$House", name := "fetchFrom", desc := "([II)V" } : Jvm.MethodName) ({ cls := "AntLease$House", name := "fetchFrom", desc := "([II)V" } : Jvm.MethodName)),
  (Jvm.Cond.methodLink "AntLease$House" (29 : Nat) ({ cls := "AntLease$Text", name := "figureAt", desc := "(I)I" } : Jvm.MethodName)),
  (Jvm.Cond.methodLink "AntLease$House" (34 : Nat) ({ cls := "AntLease$Text", name := "length", desc := "()I" } : Jvm.MethodName)),
  (Jvm.Cond.methodLink "AntLease$House" (38 : Nat) ({ cls := "AntLease$Text", name := "byteAt", desc := "(I)I" } : Jvm.MethodName)),
  (Jvm.Cond.methodLink "AntLease$House" (41 : Nat) ({ cls := "AntLease$House", name := "foods", desc := "()I" } : Jvm.MethodName)),
  (Jvm.Cond.methodLink "AntLease$House" (44 : Nat) ({ cls := "AntLease$House", name := "add", desc := "(II)V" } : Jvm.MethodName)),
  (Jvm.Cond.methodLink "AntLease$House" (47 : Nat) ({ cls := "AntLease$House", name := "things", desc := "()I" } : Jvm.MethodName)),
  (Jvm.Cond.code ({ cls := "AntLease$House", name := "makeFrom", desc := "(LAntLease$Text;)V" } : Jvm.MethodName) prog_2_method_8_code (3 : Nat) (Option.none : Option Jvm.ClassFile.FieldType)),
  (Jvm.Cond.instanceMethod ({ cls := "AntLease$House", name := "makeFrom", desc := "(LAntLease$Text;)V" } : Jvm.MethodName)),
  (Jvm.Cond.selects "AntLease$House" ({ cls := "AntLease$House", name := "makeFrom", desc := "(LAntLease$Text;)V" } : Jvm.MethodName) ({ cls := "AntLease$House", name := "makeFrom", desc := "(LAntLease$Text;)V" } : Jvm.MethodName)),
  (Jvm.Cond.code ({ cls := "AntLease$House", name := "foods", desc := "()I" } : Jvm.MethodName) prog_2_method_9_code (1 : Nat) (Option.some Jvm.ClassFile.FieldType.int)),
  (Jvm.Cond.instanceMethod ({ cls := "AntLease$House", name := "foods", desc := "()I" } : Jvm.MethodName)),
  (Jvm.Cond.selects "AntLease$House" ({ cls := "AntLease$House", name := "foods", desc := "()I" } : Jvm.MethodName) ({ cls := "AntLease$House", name := "foods", desc := "()I" } : Jvm.MethodName)),
  (Jvm.Cond.code ({ cls := "AntLease$House", name := "things", desc := "()I" } : Jvm.MethodName) prog_2_method_10_code (1 : Nat) (Option.some Jvm.ClassFile.FieldType.int)),
  (Jvm.Cond.instanceMethod ({ cls := "AntLease$House", name := "things", desc := "()I" } : Jvm.MethodName)),
  (Jvm.Cond.selects "AntLease$House" ({ cls := "AntLease$House", name := "things", desc := "()I" } : Jvm.MethodName) ({ cls := "AntLease$House", name := "things", desc := "()I" } : Jvm.MethodName)),
  (Jvm.Cond.code ({ cls := "AntLease$House", name := "skirting", desc := "()I" } : Jvm.MethodName) prog_2_method_11_code (1 : Nat) (Option.some Jvm.ClassFile.FieldType.int)),
  (Jvm.Cond.instanceMethod ({ cls := "AntLease$House", name := "skirting", desc := "()I" } : Jvm.MethodName)),
  (Jvm.Cond.selects "AntLease$House" ({ cls := "AntLease$House", name := "skirting", desc := "()I" } : Jvm.MethodName) ({ cls := "AntLease$House", name := "skirting", desc := "()I" } : Jvm.MethodName)),
  (Jvm.Cond.code ({ cls := "AntLease$House", name := "goodwill", desc := "()I" } : Jvm.MethodName) prog_2_method_12_code (1 : Nat) (Option.some Jvm.ClassFile.FieldType.int)),
  (Jvm.Cond.instanceMethod ({ cls := "AntLease$House", name := "goodwill", desc := "()I" } : Jvm.MethodName)),
  (Jvm.Cond.selects "AntLease$House" ({ cls := "AntLease$House", name := "goodwill", desc := "()I" } : Jvm.MethodName) ({ cls := "AntLease$House", name := "goodwill", desc := "()I" } : Jvm.MethodName)),
  (Jvm.Cond.code ({ cls := "AntLease$House", name := "pins", desc := "()I" } : Jvm.MethodName) prog_2_method_13_code (1 : Nat) (Option.some Jvm.ClassFile.FieldType.int)),
  (Jvm.Cond.instanceMethod ({ cls := "AntLease$House", name := "pins", desc := "()I" } : Jvm.MethodName)),
  (Jvm.Cond.selects "AntLease$House" ({ cls := "AntLease$House", name := "pins", desc := "()I" } : Jvm.MethodName) ({ cls := "AntLease$House", name := "pins", desc := "()I" } : Jvm.MethodName)),
  (Jvm.Cond.code ({ cls := "AntLease$House", name := "powder", desc := "()I" } : Jvm.MethodName) prog_2_method_14_code (1 : Nat) (Option.some Jvm.ClassFile.FieldType.int)),
  (Jvm.Cond.instanceMethod ({ cls := "AntLease$House", name := "powder", desc := "()I" } : Jvm.MethodName)),
  (Jvm.Cond.selects "AntLease$House" ({ cls := "AntLease$House", name := "powder", desc := "()I" } : Jvm.MethodName) ({ cls := "AntLease$House", name := "powder", desc := "()I" } : Jvm.MethodName)),
  (Jvm.Cond.code ({ cls := "AntLease$House", name := "quartersGone", desc := "()I" } : Jvm.MethodName) prog_2_method_15_code (1 : Nat) (Option.some Jvm.ClassFile.FieldType.int)),
  (Jvm.Cond.instanceMethod ({ cls := "AntLease$House", name := "quartersGone", desc := "()I" } : Jvm.MethodName)),
  (Jvm.Cond.selects "AntLease$House" ({ cls := "AntLease$House", name := "quartersGone", desc := "()I" } : Jvm.MethodName) ({ cls := "AntLease$House", name := "quartersGone", desc := "()I" } : Jvm.MethodName)),
  (Jvm.Cond.code ({ cls := "AntLease$House", name := "hasFood", desc := "(I)Z" } : Jvm.MethodName) prog_2_method_16_code (2 : Nat) (Option.some Jvm.ClassFile.FieldType.boolean)),
  (Jvm.Cond.instanceMethod ({ cls := "AntLease$House", name := "hasFood", desc := "(I)Z" } : Jvm.MethodName)),
  (Jvm.Cond.selects "AntLease$House" ({ cls := "AntLease$House", name := "hasFood", desc := "(I)Z" } : Jvm.MethodName) ({ cls := "AntLease$House", name := "hasFood", desc := "(I)Z" } : Jvm.MethodName)),
  (Jvm.Cond.code ({ cls := "AntLease$House", name := "hasThing", desc := "(I)Z" } : Jvm.MethodName) prog_2_method_17_code (2 : Nat) (Option.some Jvm.ClassFile.FieldType.boolean)),
  (Jvm.Cond.instanceMethod ({ cls := "AntLease$House", name := "hasThing", desc := "(I)Z" } : Jvm.MethodName)),
  (Jvm.Cond.selects "AntLease$House" ({ cls := "AntLease$House", name := "hasThing", desc := "(I)Z" } : Jvm.MethodName) ({ cls := "AntLease$House", name := "hasThing", desc := "(I)Z" } : Jvm.MethodName)),
  (Jvm.Cond.code ({ cls := "AntLease$House", name := "kind", desc := "(I)I" } : Jvm.MethodName) prog_2_method_18_code (2 : Nat) (Option.some Jvm.ClassFile.FieldType.int)),
  (Jvm.Cond.instanceMethod ({ cls := "AntLease$House", name := "kind", desc := "(I)I" } : Jvm.MethodName)),
  (Jvm.Cond.selects "AntLease$House" ({ cls := "AntLease$House", name := "kind", desc := "(I)I" } : Jvm.MethodName) ({ cls := "AntLease$House", name := "kind", desc := "(I)I" } : Jvm.MethodName))]
theorem tb9_in_2 : ∀ w ∈ tb9_2, w ∈ lw_tbl := by
  intro w hw
  have hp : tb9_2 = [469, 203, 215, 219, 220, 224, 232, 202, 200, 201, 223, 221, 222, 235, 233, 234, 253, 251, 252, 257, 255, 256, 265, 263, 264, 293, 291, 292, 261, 259, 260, 335, 333, 334, 357, 355, 356, 339, 337, 338].filterMap (fun i => lw_tbl[i]?) := by decide +kernel
  rw [hp] at hw
  obtain ⟨i, -, hi⟩ := List.mem_filterMap.mp hw
  exact List.mem_of_getElem? hi
theorem tb9_good_2 : ∀ w ∈ tb9_2, goodWord w = true := List.all_eq_true.mp (by decide +kernel)
def tb9_3 : List Cond := [(Jvm.Cond.code ({ cls := "AntLease$House", name := "inLarder", desc := "(I)I" } : Jvm.MethodName) prog_2_method_19_code (2 : Nat) (Option.some Jvm.ClassFile.FieldType.int)),
  (Jvm.Cond.instanceMethod ({ cls := "AntLease$House", name := "inLarder", desc := "(I)I" } : Jvm.MethodName)),
  (Jvm.Cond.selects "AntLease$House" ({ cls := "AntLease$House", name := "inLarder", desc := "(I)I" } : Jvm.MethodName) ({ cls := "AntLease$House", name := "inLarder", desc := "(I)I" } : Jvm.MethodName)),
  (Jvm.Cond.code ({ cls := "AntLease$House", name := "onFloor", desc := "(I)I" } : Jvm.MethodName) prog_2_method_20_code (2 : Nat) (Option.some Jvm.ClassFile.FieldType.int)),
  (Jvm.Cond.instanceMethod ({ cls := "AntLease$House", name := "onFloor", desc := "(I)I" } : Jvm.MethodName)),
  (Jvm.Cond.selects "AntLease$House" ({ cls := "AntLease$House", name := "onFloor", desc := "(I)I" } : Jvm.MethodName) ({ cls := "AntLease$House", name := "onFloor", desc := "(I)I" } : Jvm.MethodName)),
  (Jvm.Cond.code ({ cls := "AntLease$House", name := "newlyPut", desc := "(I)I" } : Jvm.MethodName) prog_2_method_21_code (2 : Nat) (Option.some Jvm.ClassFile.FieldType.int)),
  (Jvm.Cond.instanceMethod ({ cls := "AntLease$House", name := "newlyPut", desc := "(I)I" } : Jvm.MethodName)),
  (Jvm.Cond.selects "AntLease$House" ({ cls := "AntLease$House", name := "newlyPut", desc := "(I)I" } : Jvm.MethodName) ({ cls := "AntLease$House", name := "newlyPut", desc := "(I)I" } : Jvm.MethodName)),
  (Jvm.Cond.code ({ cls := "AntLease$House", name := "placeOf", desc := "(I)I" } : Jvm.MethodName) prog_2_method_22_code (2 : Nat) (Option.some Jvm.ClassFile.FieldType.int)),
  (Jvm.Cond.instanceMethod ({ cls := "AntLease$House", name := "placeOf", desc := "(I)I" } : Jvm.MethodName)),
  (Jvm.Cond.selects "AntLease$House" ({ cls := "AntLease$House", name := "placeOf", desc := "(I)I" } : Jvm.MethodName) ({ cls := "AntLease$House", name := "placeOf", desc := "(I)I" } : Jvm.MethodName)),
  (Jvm.Cond.methodLink "AntLease$House" (50 : Nat) ({ cls := "AntLease$House", name := "worthWith", desc := "(II)I" } : Jvm.MethodName)),
  (Jvm.Cond.code ({ cls := "AntLease$House", name := "worth", desc := "(I)I" } : Jvm.MethodName) prog_2_method_23_code (2 : Nat) (Option.some Jvm.ClassFile.FieldType.int)),
  (Jvm.Cond.instanceMethod ({ cls := "AntLease$House", name := "worth", desc := "(I)I" } : Jvm.MethodName)),
  (Jvm.Cond.selects "AntLease$House" ({ cls := "AntLease$House", name := "worth", desc := "(I)I" } : Jvm.MethodName) ({ cls := "AntLease$House", name := "worth", desc := "(I)I" } : Jvm.MethodName)),
  (Jvm.Cond.code ({ cls := "AntLease$House", name := "worthWith", desc := "(II)I" } : Jvm.MethodName) prog_2_method_24_code (4 : Nat) (Option.some Jvm.ClassFile.FieldType.int)),
  (Jvm.Cond.instanceMethod ({ cls := "AntLease$House", name := "worthWith", desc := "(II)I" } : Jvm.MethodName)),
  (Jvm.Cond.selects "AntLease$House" ({ cls := "AntLease$House", name := "worthWith", desc := "(II)I" } : Jvm.MethodName) ({ cls := "AntLease$House", name := "worthWith", desc := "(II)I" } : Jvm.MethodName)),
  (Jvm.Cond.methodLink "AntLease$House" (54 : Nat) ({ cls := "AntLease$House", name := "kind", desc := "(I)I" } : Jvm.MethodName)),
  (Jvm.Cond.code ({ cls := "AntLease$House", name := "grainsAtOnce", desc := "(I)I" } : Jvm.MethodName) prog_2_method_25_code (2 : Nat) (Option.some Jvm.ClassFile.FieldType.int)),
  (Jvm.Cond.instanceMethod ({ cls := "AntLease$House", name := "grainsAtOnce", desc := "(I)I" } : Jvm.MethodName)),
  (Jvm.Cond.selects "AntLease$House" ({ cls := "AntLease$House", name := "grainsAtOnce", desc := "(I)I" } : Jvm.MethodName) ({ cls := "AntLease$House", name := "grainsAtOnce", desc := "(I)I" } : Jvm.MethodName)),
  (Jvm.Cond.methodLink "AntLease$House" (57 : Nat) ({ cls := "AntLease$House", name := "newlyPut", desc := "(I)I" } : Jvm.MethodName)),
  (Jvm.Cond.code ({ cls := "AntLease$House", name := "due", desc := "()I" } : Jvm.MethodName) prog_2_method_26_code (3 : Nat) (Option.some Jvm.ClassFile.FieldType.int)),
  (Jvm.Cond.instanceMethod ({ cls := "AntLease$House", name := "due", desc := "()I" } : Jvm.MethodName)),
  (Jvm.Cond.selects "AntLease$House" ({ cls := "AntLease$House", name := "due", desc := "()I" } : Jvm.MethodName) ({ cls := "AntLease$House", name := "due", desc := "()I" } : Jvm.MethodName)),
  (Jvm.Cond.methodLink "AntLease$House" (60 : Nat) ({ cls := "AntLease$House", name := "due", desc := "()I" } : Jvm.MethodName)),
  (Jvm.Cond.methodLink "AntLease$House" (63 : Nat) ({ cls := "AntLease$House", name := "worth", desc := "(I)I" } : Jvm.MethodName)),
  (Jvm.Cond.methodLink "AntLease$House" (66 : Nat) ({ cls := "java/lang/Math", name := "max", desc := "(II)I" } : Jvm.MethodName)),
  (Jvm.Cond.static ({ cls := "java/lang/Math", name := "max", desc := "(II)I" } : Jvm.MethodName)),
  (Jvm.Cond.initialized "java/lang/Math"),
  (Jvm.Cond.code ({ cls := "java/lang/Math", name := "max", desc := "(II)I" } : Jvm.MethodName) prog_12_method_65_code (2 : Nat) (Option.some Jvm.ClassFile.FieldType.int)),
  (Jvm.Cond.code ({ cls := "AntLease$House", name := "shortBy", desc := "()I" } : Jvm.MethodName) prog_2_method_27_code (3 : Nat) (Option.some Jvm.ClassFile.FieldType.int)),
  (Jvm.Cond.instanceMethod ({ cls := "AntLease$House", name := "shortBy", desc := "()I" } : Jvm.MethodName)),
  (Jvm.Cond.selects "AntLease$House" ({ cls := "AntLease$House", name := "shortBy", desc := "()I" } : Jvm.MethodName) ({ cls := "AntLease$House", name := "shortBy", desc := "()I" } : Jvm.MethodName)),
  (Jvm.Cond.methodLink "AntLease$House" (71 : Nat) ({ cls := "AntLease$House", name := "skirting", desc := "()I" } : Jvm.MethodName)),
  (Jvm.Cond.methodLink "AntLease$House" (74 : Nat) ({ cls := "AntLease$House", name := "goodwill", desc := "()I" } : Jvm.MethodName)),
  (Jvm.Cond.methodLink "AntLease$House" (77 : Nat) ({ cls := "AntLease$House", name := "powder", desc := "()I" } : Jvm.MethodName)),
  (Jvm.Cond.methodLink "AntLease$House" (80 : Nat) ({ cls := "AntLease$House", name := "reachOf", desc := "(III)I" } : Jvm.MethodName))]
theorem tb9_in_3 : ∀ w ∈ tb9_3, w ∈ lw_tbl := by
  intro w hw
  have hp : tb9_3 = [343, 341, 342, 347, 345, 346, 273, 271, 272, 318, 316, 317, 283, 282, 280, 281, 286, 284, 285, 436, 435, 433, 434, 270, 269, 267, 268, 278, 279, 287, 288, 40, 289, 277, 275, 276, 298, 299, 300, 301].filterMap (fun i => lw_tbl[i]?) := by decide +kernel
  rw [hp] at hw
  obtain ⟨i, -, hi⟩ := List.mem_filterMap.mp hw
  exact List.mem_of_getElem? hi
theorem tb9_good_3 : ∀ w ∈ tb9_3, goodWord w = true := List.all_eq_true.mp (by decide +kernel)
def tb9_4 : List Cond := [(Jvm.Cond.code ({ cls := "AntLease$House", name := "reach", desc := "()I" } : Jvm.MethodName) prog_2_method_28_code (1 : Nat) (Option.some Jvm.ClassFile.FieldType.int)),
  (Jvm.Cond.instanceMethod ({ cls := "AntLease$House", name := "reach", desc := "()I" } : Jvm.MethodName)),
  (Jvm.Cond.selects "AntLease$House" ({ cls := "AntLease$House", name := "reach", desc := "()I" } : Jvm.MethodName) ({ cls := "AntLease$House", name := "reach", desc := "()I" } : Jvm.MethodName)),
  (Jvm.Cond.code ({ cls := "AntLease$House", name := "reachOf", desc := "(III)I" } : Jvm.MethodName) prog_2_method_29_code (5 : Nat) (Option.some Jvm.ClassFile.FieldType.int)),
  (Jvm.Cond.static ({ cls := "AntLease$House", name := "reachOf", desc := "(III)I" } : Jvm.MethodName)),
  (Jvm.Cond.methodLink "AntLease$House" (88 : Nat) ({ cls := "AntLease$House", name := "reach", desc := "()I" } : Jvm.MethodName)),
  (Jvm.Cond.methodLink "AntLease$House" (91 : Nat) ({ cls := "AntLease$House", name := "placeOf", desc := "(I)I" } : Jvm.MethodName)),
  (Jvm.Cond.code ({ cls := "AntLease$House", name := "known", desc := "()I" } : Jvm.MethodName) prog_2_method_30_code (4 : Nat) (Option.some Jvm.ClassFile.FieldType.int)),
  (Jvm.Cond.instanceMethod ({ cls := "AntLease$House", name := "known", desc := "()I" } : Jvm.MethodName)),
  (Jvm.Cond.selects "AntLease$House" ({ cls := "AntLease$House", name := "known", desc := "()I" } : Jvm.MethodName) ({ cls := "AntLease$House", name := "known", desc := "()I" } : Jvm.MethodName)),
  (Jvm.Cond.code ({ cls := "AntLease$House", name := "astray", desc := "(I)I" } : Jvm.MethodName) prog_2_method_31_code (5 : Nat) (Option.some Jvm.ClassFile.FieldType.int)),
  (Jvm.Cond.instanceMethod ({ cls := "AntLease$House", name := "astray", desc := "(I)I" } : Jvm.MethodName)),
  (Jvm.Cond.selects "AntLease$House" ({ cls := "AntLease$House", name := "astray", desc := "(I)I" } : Jvm.MethodName) ({ cls := "AntLease$House", name := "astray", desc := "(I)I" } : Jvm.MethodName)),
  (Jvm.Cond.methodLink "AntLease$House" (94 : Nat) ({ cls := "AntLease$House", name := "shortBy", desc := "()I" } : Jvm.MethodName)),
  (Jvm.Cond.methodLink "AntLease$House" (97 : Nat) ({ cls := "java/lang/Integer", name := "bitCount", desc := "(I)I" } : Jvm.MethodName)),
  (Jvm.Cond.methodLink "AntLease$House" (102 : Nat) ({ cls := "java/lang/Math", name := "min", desc := "(II)I" } : Jvm.MethodName)),
  (Jvm.Cond.static ({ cls := "java/lang/Math", name := "min", desc := "(II)I" } : Jvm.MethodName)),
  (Jvm.Cond.code ({ cls := "java/lang/Math", name := "min", desc := "(II)I" } : Jvm.MethodName) prog_12_method_69_code (2 : Nat) (Option.some Jvm.ClassFile.FieldType.int)),
  (Jvm.Cond.methodLink "AntLease$House" (105 : Nat) ({ cls := "AntLease$House", name := "pins", desc := "()I" } : Jvm.MethodName)),
  (Jvm.Cond.code ({ cls := "AntLease$House", name := "endQuarter", desc := "()I" } : Jvm.MethodName) prog_2_method_32_code (4 : Nat) (Option.some Jvm.ClassFile.FieldType.int)),
  (Jvm.Cond.instanceMethod ({ cls := "AntLease$House", name := "endQuarter", desc := "()I" } : Jvm.MethodName)),
  (Jvm.Cond.selects "AntLease$House" ({ cls := "AntLease$House", name := "endQuarter", desc := "()I" } : Jvm.MethodName) ({ cls := "AntLease$House", name := "endQuarter", desc := "()I" } : Jvm.MethodName)),
  (Jvm.Cond.methodLink "AntLease$House" (108 : Nat) ({ cls := "AntLease$House", name := "hasFood", desc := "(I)Z" } : Jvm.MethodName)),
  (Jvm.Cond.code ({ cls := "AntLease$House", name := "refusal", desc := "(II)I" } : Jvm.MethodName) prog_2_method_33_code (3 : Nat) (Option.some Jvm.ClassFile.FieldType.int)),
  (Jvm.Cond.instanceMethod ({ cls := "AntLease$House", name := "refusal", desc := "(II)I" } : Jvm.MethodName)),
  (Jvm.Cond.selects "AntLease$House" ({ cls := "AntLease$House", name := "refusal", desc := "(II)I" } : Jvm.MethodName) ({ cls := "AntLease$House", name := "refusal", desc := "(II)I" } : Jvm.MethodName)),
  (Jvm.Cond.methodLink "AntLease$House" (112 : Nat) ({ cls := "AntLease$House", name := "refusal", desc := "(II)I" } : Jvm.MethodName)),
  (Jvm.Cond.methodLink "AntLease$House" (115 : Nat) ({ cls := "AntLease$House", name := "inLarder", desc := "(I)I" } : Jvm.MethodName)),
  (Jvm.Cond.code ({ cls := "AntLease$House", name := "putUp", desc := "(II)I" } : Jvm.MethodName) prog_2_method_34_code (3 : Nat) (Option.some Jvm.ClassFile.FieldType.int)),
  (Jvm.Cond.instanceMethod ({ cls := "AntLease$House", name := "putUp", desc := "(II)I" } : Jvm.MethodName)),
  (Jvm.Cond.selects "AntLease$House" ({ cls := "AntLease$House", name := "putUp", desc := "(II)I" } : Jvm.MethodName) ({ cls := "AntLease$House", name := "putUp", desc := "(II)I" } : Jvm.MethodName)),
  (Jvm.Cond.code ({ cls := "AntLease$House", name := "eatUp", desc := "(II)I" } : Jvm.MethodName) prog_2_method_35_code (3 : Nat) (Option.some Jvm.ClassFile.FieldType.int)),
  (Jvm.Cond.instanceMethod ({ cls := "AntLease$House", name := "eatUp", desc := "(II)I" } : Jvm.MethodName)),
  (Jvm.Cond.selects "AntLease$House" ({ cls := "AntLease$House", name := "eatUp", desc := "(II)I" } : Jvm.MethodName) ({ cls := "AntLease$House", name := "eatUp", desc := "(II)I" } : Jvm.MethodName)),
  (Jvm.Cond.methodLink "AntLease$House" (118 : Nat) ({ cls := "AntLease$House", name := "grainsAtOnce", desc := "(I)I" } : Jvm.MethodName)),
  (Jvm.Cond.methodLink "AntLease$House" (121 : Nat) ({ cls := "AntLease$House", name := "onFloor", desc := "(I)I" } : Jvm.MethodName)),
  (Jvm.Cond.code ({ cls := "AntLease$House", name := "leaveOut", desc := "(II)I" } : Jvm.MethodName) prog_2_method_36_code (4 : Nat) (Option.some Jvm.ClassFile.FieldType.int)),
  (Jvm.Cond.instanceMethod ({ cls := "AntLease$House", name := "leaveOut", desc := "(II)I" } : Jvm.MethodName)),
  (Jvm.Cond.selects "AntLease$House" ({ cls := "AntLease$House", name := "leaveOut", desc := "(II)I" } : Jvm.MethodName) ({ cls := "AntLease$House", name := "leaveOut", desc := "(II)I" } : Jvm.MethodName)),
  (Jvm.Cond.methodLink "AntLease$House" (124 : Nat) ({ cls := "AntLease$House", name := "hasThing", desc := "(I)Z" } : Jvm.MethodName))]
theorem tb9_in_4 : ∀ w ∈ tb9_4, w ∈ lw_tbl := by
  intro w hw
  have hp : tb9_4 = [297, 295, 296, 303, 302, 314, 315, 313, 311, 312, 363, 361, 362, 387, 388, 394, 395, 396, 397, 386, 384, 385, 414, 413, 412, 4, 410, 415, 409, 407, 408, 423, 421, 422, 432, 437, 431, 429, 430, 446].filterMap (fun i => lw_tbl[i]?) := by decide +kernel
  rw [hp] at hw
  obtain ⟨i, -, hi⟩ := List.mem_filterMap.mp hw
  exact List.mem_of_getElem? hi
theorem tb9_good_4 : ∀ w ∈ tb9_4, goodWord w = true := List.all_eq_true.mp (by decide +kernel)
def tb9_5 : List Cond := [(Jvm.Cond.methodLink "AntLease$House" (130 : Nat) ({ cls := "java/lang/Math", name := "abs", desc := "(I)I" } : Jvm.MethodName)),
  (Jvm.Cond.static ({ cls := "java/lang/Math", name := "abs", desc := "(I)I" } : Jvm.MethodName)),
  (Jvm.Cond.code ({ cls := "java/lang/Math", name := "abs", desc := "(I)I" } : Jvm.MethodName) prog_12_method_59_code (1 : Nat) (Option.some Jvm.ClassFile.FieldType.int)),
  (Jvm.Cond.code ({ cls := "AntLease$House", name := "carry", desc := "(II)I" } : Jvm.MethodName) prog_2_method_37_code (4 : Nat) (Option.some Jvm.ClassFile.FieldType.int)),
  (Jvm.Cond.instanceMethod ({ cls := "AntLease$House", name := "carry", desc := "(II)I" } : Jvm.MethodName)),
  (Jvm.Cond.selects "AntLease$House" ({ cls := "AntLease$House", name := "carry", desc := "(II)I" } : Jvm.MethodName) ({ cls := "AntLease$House", name := "carry", desc := "(II)I" } : Jvm.MethodName)),
  (Jvm.Cond.code ({ cls := "AntLease$House", name := "strew", desc := "(I)I" } : Jvm.MethodName) prog_2_method_38_code (2 : Nat) (Option.some Jvm.ClassFile.FieldType.int)),
  (Jvm.Cond.instanceMethod ({ cls := "AntLease$House", name := "strew", desc := "(I)I" } : Jvm.MethodName)),
  (Jvm.Cond.selects "AntLease$House" ({ cls := "AntLease$House", name := "strew", desc := "(I)I" } : Jvm.MethodName) ({ cls := "AntLease$House", name := "strew", desc := "(I)I" } : Jvm.MethodName)),
  (Jvm.Cond.fieldLink "AntLease$Least" (9 : Nat) "AntLease$Least" "grains" "I"),
  (Jvm.Cond.code ({ cls := "AntLease$Least", name := "grains", desc := "()I" } : Jvm.MethodName) prog_3_method_2_code (1 : Nat) (Option.some Jvm.ClassFile.FieldType.int)),
  (Jvm.Cond.initialized "AntLease$Least"),
  (Jvm.Cond.instanceMethod ({ cls := "AntLease$Least", name := "grains", desc := "()I" } : Jvm.MethodName)),
  (Jvm.Cond.selects "AntLease$Least" ({ cls := "AntLease$Least", name := "grains", desc := "()I" } : Jvm.MethodName) ({ cls := "AntLease$Least", name := "grains", desc := "()I" } : Jvm.MethodName)),
  (Jvm.Cond.fieldLink "AntLease$Least" (15 : Nat) "AntLease$Least" "figures" "I"),
  (Jvm.Cond.code ({ cls := "AntLease$Least", name := "figures", desc := "()I" } : Jvm.MethodName) prog_3_method_3_code (1 : Nat) (Option.some Jvm.ClassFile.FieldType.int)),
  (Jvm.Cond.instanceMethod ({ cls := "AntLease$Least", name := "figures", desc := "()I" } : Jvm.MethodName)),
  (Jvm.Cond.selects "AntLease$Least" ({ cls := "AntLease$Least", name := "figures", desc := "()I" } : Jvm.MethodName) ({ cls := "AntLease$Least", name := "figures", desc := "()I" } : Jvm.MethodName)),
  (Jvm.Cond.methodLink "AntLease$Least" (18 : Nat) ({ cls := "AntLease$House", name := "shortBy", desc := "()I" } : Jvm.MethodName)),
  (Jvm.Cond.methodLink "AntLease$Least" (24 : Nat) ({ cls := "AntLease$Least", name := "tryFood", desc := "(LAntLease$Least;LAntLease$House;IIII)V" } : Jvm.MethodName)),
  (Jvm.Cond.code ({ cls := "AntLease$Least", name := "find", desc := "(LAntLease$House;)V" } : Jvm.MethodName) prog_3_method_4_code (2 : Nat) (Option.none : Option Jvm.ClassFile.FieldType)),
  (Jvm.Cond.instanceMethod ({ cls := "AntLease$Least", name := "find", desc := "(LAntLease$House;)V" } : Jvm.MethodName)),
  (Jvm.Cond.selects "AntLease$Least" ({ cls := "AntLease$Least", name := "find", desc := "(LAntLease$House;)V" } : Jvm.MethodName) ({ cls := "AntLease$Least", name := "find", desc := "(LAntLease$House;)V" } : Jvm.MethodName)),
  (Jvm.Cond.methodLink "AntLease$Least" (28 : Nat) ({ cls := "AntLease$House", name := "foods", desc := "()I" } : Jvm.MethodName)),
  (Jvm.Cond.methodLink "AntLease$Least" (31 : Nat) ({ cls := "AntLease$House", name := "grainsAtOnce", desc := "(I)I" } : Jvm.MethodName)),
  (Jvm.Cond.methodLink "AntLease$Least" (35 : Nat) ({ cls := "AntLease$House", name := "inLarder", desc := "(I)I" } : Jvm.MethodName)),
  (Jvm.Cond.methodLink "AntLease$Least" (38 : Nat) ({ cls := "AntLease$House", name := "worthWith", desc := "(II)I" } : Jvm.MethodName)),
  (Jvm.Cond.methodLink "AntLease$Least" (42 : Nat) ({ cls := "AntLease$House", name := "worth", desc := "(I)I" } : Jvm.MethodName)),
  (Jvm.Cond.code ({ cls := "AntLease$Least", name := "tryFood", desc := "(LAntLease$Least;LAntLease$House;IIII)V" } : Jvm.MethodName) prog_3_method_5_code (10 : Nat) (Option.none : Option Jvm.ClassFile.FieldType)),
  (Jvm.Cond.static ({ cls := "AntLease$Least", name := "tryFood", desc := "(LAntLease$Least;LAntLease$House;IIII)V" } : Jvm.MethodName)),
  (Jvm.Cond.fieldLink "AntLease$Past" (21 : Nat) "AntLease$Past" "size" "I"),
  (Jvm.Cond.code ({ cls := "AntLease$Past", name := "size", desc := "()I" } : Jvm.MethodName) prog_4_method_2_code (1 : Nat) (Option.some Jvm.ClassFile.FieldType.int)),
  (Jvm.Cond.initialized "AntLease$Past"),
  (Jvm.Cond.instanceMethod ({ cls := "AntLease$Past", name := "size", desc := "()I" } : Jvm.MethodName)),
  (Jvm.Cond.selects "AntLease$Past" ({ cls := "AntLease$Past", name := "size", desc := "()I" } : Jvm.MethodName) ({ cls := "AntLease$Past", name := "size", desc := "()I" } : Jvm.MethodName)),
  (Jvm.Cond.code ({ cls := "AntLease$Past", name := "forget", desc := "()V" } : Jvm.MethodName) prog_4_method_3_code (1 : Nat) (Option.none : Option Jvm.ClassFile.FieldType)),
  (Jvm.Cond.instanceMethod ({ cls := "AntLease$Past", name := "forget", desc := "()V" } : Jvm.MethodName)),
  (Jvm.Cond.selects "AntLease$Past" ({ cls := "AntLease$Past", name := "forget", desc := "()V" } : Jvm.MethodName) ({ cls := "AntLease$Past", name := "forget", desc := "()V" } : Jvm.MethodName)),
  (Jvm.Cond.fieldLink "AntLease$Past" (17 : Nat) "AntLease$Past" "first" "I"),
  (Jvm.Cond.code ({ cls := "AntLease$Past", name := "next", desc := "()I" } : Jvm.MethodName) prog_4_method_4_code (1 : Nat) (Option.some Jvm.ClassFile.FieldType.int))]
theorem tb9_in_5 : ∀ w ∈ tb9_5, w ∈ lw_tbl := by
  intro w hw
  have hp : tb9_5 = [448, 449, 450, 445, 443, 444, 458, 456, 457, 127, 499, 38, 497, 498, 128, 503, 501, 502, 487, 488, 486, 484, 485, 491, 492, 493, 494, 495, 490, 489, 84, 322, 35, 320, 321, 239, 237, 238, 83, 375].filterMap (fun i => lw_tbl[i]?) := by decide +kernel
  rw [hp] at hw
  obtain ⟨i, -, hi⟩ := List.mem_filterMap.mp hw
  exact List.mem_of_getElem? hi
theorem tb9_good_5 : ∀ w ∈ tb9_5, goodWord w = true := List.all_eq_true.mp (by decide +kernel)
def tb9_6 : List Cond := [(Jvm.Cond.instanceMethod ({ cls := "AntLease$Past", name := "next", desc := "()I" } : Jvm.MethodName)),
  (Jvm.Cond.selects "AntLease$Past" ({ cls := "AntLease$Past", name := "next", desc := "()I" } : Jvm.MethodName) ({ cls := "AntLease$Past", name := "next", desc := "()I" } : Jvm.MethodName)),
  (Jvm.Cond.fieldLink "AntLease$Past" (13 : Nat) "AntLease$Past" "rows" "[I"),
  (Jvm.Cond.methodLink "AntLease$Past" (24 : Nat) ({ cls := "AntLease$Past", name := "next", desc := "()I" } : Jvm.MethodName)),
  (Jvm.Cond.methodLink "AntLease$Past" (28 : Nat) ({ cls := "AntLease$House", name := "storeIn", desc := "([II)V" } : Jvm.MethodName)),
  (Jvm.Cond.code ({ cls := "AntLease$Past", name := "note", desc := "(LAntLease$House;)V" } : Jvm.MethodName) prog_4_method_5_code (2 : Nat) (Option.none : Option Jvm.ClassFile.FieldType)),
  (Jvm.Cond.instanceMethod ({ cls := "AntLease$Past", name := "note", desc := "(LAntLease$House;)V" } : Jvm.MethodName)),
  (Jvm.Cond.selects "AntLease$Past" ({ cls := "AntLease$Past", name := "note", desc := "(LAntLease$House;)V" } : Jvm.MethodName) ({ cls := "AntLease$Past", name := "note", desc := "(LAntLease$House;)V" } : Jvm.MethodName)),
  (Jvm.Cond.code ({ cls := "AntLease$Past", name := "settle", desc := "(I)I" } : Jvm.MethodName) prog_4_method_6_code (2 : Nat) (Option.some Jvm.ClassFile.FieldType.int)),
  (Jvm.Cond.instanceMethod ({ cls := "AntLease$Past", name := "settle", desc := "(I)I" } : Jvm.MethodName)),
  (Jvm.Cond.selects "AntLease$Past" ({ cls := "AntLease$Past", name := "settle", desc := "(I)I" } : Jvm.MethodName) ({ cls := "AntLease$Past", name := "settle", desc := "(I)I" } : Jvm.MethodName)),
  (Jvm.Cond.methodLink "AntLease$Past" (32 : Nat) ({ cls := "AntLease$House", name := "fetchFrom", desc := "([II)V" } : Jvm.MethodName)),
  (Jvm.Cond.code ({ cls := "AntLease$Past", name := "takeBack", desc := "(LAntLease$House;)I" } : Jvm.MethodName) prog_4_method_7_code (2 : Nat) (Option.some Jvm.ClassFile.FieldType.int)),
  (Jvm.Cond.instanceMethod ({ cls := "AntLease$Past", name := "takeBack", desc := "(LAntLease$House;)I" } : Jvm.MethodName)),
  (Jvm.Cond.selects "AntLease$Past" ({ cls := "AntLease$Past", name := "takeBack", desc := "(LAntLease$House;)I" } : Jvm.MethodName) ({ cls := "AntLease$Past", name := "takeBack", desc := "(LAntLease$House;)I" } : Jvm.MethodName)),
  (Jvm.Cond.code ({ cls := "AntLease$Rests", name := "bit", desc := "(II)I" } : Jvm.MethodName) prog_5_method_2_code (2 : Nat) (Option.some Jvm.ClassFile.FieldType.int)),
  (Jvm.Cond.initialized "AntLease$Rests"),
  (Jvm.Cond.static ({ cls := "AntLease$Rests", name := "bit", desc := "(II)I" } : Jvm.MethodName)),
  (Jvm.Cond.methodLink "AntLease$Rests" (11 : Nat) ({ cls := "AntLease$Rests", name := "isRest", desc := "(III)Z" } : Jvm.MethodName)),
  (Jvm.Cond.code ({ cls := "AntLease$Rests", name := "howMany", desc := "(I)I" } : Jvm.MethodName) prog_5_method_3_code (4 : Nat) (Option.some Jvm.ClassFile.FieldType.int)),
  (Jvm.Cond.static ({ cls := "AntLease$Rests", name := "howMany", desc := "(I)I" } : Jvm.MethodName)),
  (Jvm.Cond.code ({ cls := "AntLease$Rests", name := "first", desc := "(I)I" } : Jvm.MethodName) prog_5_method_4_code (3 : Nat) (Option.some Jvm.ClassFile.FieldType.int)),
  (Jvm.Cond.static ({ cls := "AntLease$Rests", name := "first", desc := "(I)I" } : Jvm.MethodName)),
  (Jvm.Cond.methodLink "AntLease$Rests" (15 : Nat) ({ cls := "AntLease$Rests", name := "bit", desc := "(II)I" } : Jvm.MethodName)),
  (Jvm.Cond.methodLink "AntLease$Rests" (19 : Nat) ({ cls := "AntLease$Rests", name := "gain", desc := "(III)I" } : Jvm.MethodName)),
  (Jvm.Cond.code ({ cls := "AntLease$Rests", name := "isRest", desc := "(III)Z" } : Jvm.MethodName) prog_5_method_5_code (4 : Nat) (Option.some Jvm.ClassFile.FieldType.boolean)),
  (Jvm.Cond.static ({ cls := "AntLease$Rests", name := "isRest", desc := "(III)Z" } : Jvm.MethodName)),
  (Jvm.Cond.code ({ cls := "AntLease$Rests", name := "gain", desc := "(III)I" } : Jvm.MethodName) prog_5_method_6_code (3 : Nat) (Option.some Jvm.ClassFile.FieldType.int)),
  (Jvm.Cond.static ({ cls := "AntLease$Rests", name := "gain", desc := "(III)I" } : Jvm.MethodName)),
  (Jvm.Cond.fieldLink "AntLease$Said" (9 : Nat) "AntLease$Said" "size" "I"),
  (Jvm.Cond.code ({ cls := "AntLease$Said", name := "size", desc := "()I" } : Jvm.MethodName) prog_6_method_2_code (1 : Nat) (Option.some Jvm.ClassFile.FieldType.int)),
  (Jvm.Cond.initialized "AntLease$Said"),
  (Jvm.Cond.instanceMethod ({ cls := "AntLease$Said", name := "size", desc := "()I" } : Jvm.MethodName)),
  (Jvm.Cond.selects "AntLease$Said" ({ cls := "AntLease$Said", name := "size", desc := "()I" } : Jvm.MethodName) ({ cls := "AntLease$Said", name := "size", desc := "()I" } : Jvm.MethodName)),
  (Jvm.Cond.fieldLink "AntLease$Said" (15 : Nat) "AntLease$Said" "knew" "I"),
  (Jvm.Cond.fieldLink "AntLease$Said" (18 : Nat) "AntLease$Said" "knewNot" "I"),
  (Jvm.Cond.code ({ cls := "AntLease$Said", name := "add", desc := "(II)I" } : Jvm.MethodName) prog_6_method_3_code (3 : Nat) (Option.some Jvm.ClassFile.FieldType.int)),
  (Jvm.Cond.instanceMethod ({ cls := "AntLease$Said", name := "add", desc := "(II)I" } : Jvm.MethodName)),
  (Jvm.Cond.selects "AntLease$Said" ({ cls := "AntLease$Said", name := "add", desc := "(II)I" } : Jvm.MethodName) ({ cls := "AntLease$Said", name := "add", desc := "(II)I" } : Jvm.MethodName)),
  (Jvm.Cond.code ({ cls := "AntLease$Said", name := "forget", desc := "()I" } : Jvm.MethodName) prog_6_method_4_code (2 : Nat) (Option.some Jvm.ClassFile.FieldType.int))]
theorem tb9_in_6 : ∀ w ∈ tb9_6, w ∈ lw_tbl := by
  intro w hw
  have hp : tb9_6 = [374, 3, 82, 372, 376, 371, 369, 370, 401, 399, 400, 467, 466, 464, 465, 572, 43, 571, 576, 575, 574, 585, 584, 579, 580, 578, 577, 582, 581, 111, 326, 37, 324, 325, 112, 113, 535, 533, 534, 544].filterMap (fun i => lw_tbl[i]?) := by decide +kernel
  rw [hp] at hw
  obtain ⟨i, -, hi⟩ := List.mem_filterMap.mp hw
  exact List.mem_of_getElem? hi
theorem tb9_good_6 : ∀ w ∈ tb9_6, goodWord w = true := List.all_eq_true.mp (by decide +kernel)
def tb9_7 : List Cond := [(Jvm.Cond.instanceMethod ({ cls := "AntLease$Said", name := "forget", desc := "()I" } : Jvm.MethodName)),
  (Jvm.Cond.selects "AntLease$Said" ({ cls := "AntLease$Said", name := "forget", desc := "()I" } : Jvm.MethodName) ({ cls := "AntLease$Said", name := "forget", desc := "()I" } : Jvm.MethodName)),
  (Jvm.Cond.methodLink "AntLease$Said" (25 : Nat) ({ cls := "AntLease$House", name := "reachOf", desc := "(III)I" } : Jvm.MethodName)),
  (Jvm.Cond.code ({ cls := "AntLease$Said", name := "isSo", desc := "(II)Z" } : Jvm.MethodName) prog_6_method_5_code (4 : Nat) (Option.some Jvm.ClassFile.FieldType.boolean)),
  (Jvm.Cond.instanceMethod ({ cls := "AntLease$Said", name := "isSo", desc := "(II)Z" } : Jvm.MethodName)),
  (Jvm.Cond.selects "AntLease$Said" ({ cls := "AntLease$Said", name := "isSo", desc := "(II)Z" } : Jvm.MethodName) ({ cls := "AntLease$Said", name := "isSo", desc := "(II)Z" } : Jvm.MethodName)),
  (Jvm.Cond.methodLink "AntLease$Said" (31 : Nat) ({ cls := "AntLease$Said", name := "isSo", desc := "(II)Z" } : Jvm.MethodName)),
  (Jvm.Cond.code ({ cls := "AntLease$Said", name := "howManyLines", desc := "(I)I" } : Jvm.MethodName) prog_6_method_6_code (4 : Nat) (Option.some Jvm.ClassFile.FieldType.int)),
  (Jvm.Cond.instanceMethod ({ cls := "AntLease$Said", name := "howManyLines", desc := "(I)I" } : Jvm.MethodName)),
  (Jvm.Cond.selects "AntLease$Said" ({ cls := "AntLease$Said", name := "howManyLines", desc := "(I)I" } : Jvm.MethodName) ({ cls := "AntLease$Said", name := "howManyLines", desc := "(I)I" } : Jvm.MethodName)),
  (Jvm.Cond.code ({ cls := "AntLease$Said", name := "firstLine", desc := "(I)I" } : Jvm.MethodName) prog_6_method_7_code (3 : Nat) (Option.some Jvm.ClassFile.FieldType.int)),
  (Jvm.Cond.instanceMethod ({ cls := "AntLease$Said", name := "firstLine", desc := "(I)I" } : Jvm.MethodName)),
  (Jvm.Cond.selects "AntLease$Said" ({ cls := "AntLease$Said", name := "firstLine", desc := "(I)I" } : Jvm.MethodName) ({ cls := "AntLease$Said", name := "firstLine", desc := "(I)I" } : Jvm.MethodName)),
  (Jvm.Cond.fieldLink "AntLease$Slots" (17 : Nat) "AntLease$Slots" "taken" "I"),
  (Jvm.Cond.code ({ cls := "AntLease$Slots", name := "forget", desc := "()V" } : Jvm.MethodName) prog_7_method_2_code (1 : Nat) (Option.none : Option Jvm.ClassFile.FieldType)),
  (Jvm.Cond.initialized "AntLease$Slots"),
  (Jvm.Cond.instanceMethod ({ cls := "AntLease$Slots", name := "forget", desc := "()V" } : Jvm.MethodName)),
  (Jvm.Cond.selects "AntLease$Slots" ({ cls := "AntLease$Slots", name := "forget", desc := "()V" } : Jvm.MethodName) ({ cls := "AntLease$Slots", name := "forget", desc := "()V" } : Jvm.MethodName)),
  (Jvm.Cond.code ({ cls := "AntLease$Slots", name := "isSlot", desc := "(I)Z" } : Jvm.MethodName) prog_7_method_3_code (1 : Nat) (Option.some Jvm.ClassFile.FieldType.boolean)),
  (Jvm.Cond.static ({ cls := "AntLease$Slots", name := "isSlot", desc := "(I)Z" } : Jvm.MethodName)),
  (Jvm.Cond.methodLink "AntLease$Slots" (21 : Nat) ({ cls := "AntLease$Slots", name := "isSlot", desc := "(I)Z" } : Jvm.MethodName)),
  (Jvm.Cond.fieldLink "AntLease$Slots" (13 : Nat) "AntLease$Slots" "rows" "[I"),
  (Jvm.Cond.methodLink "AntLease$Slots" (25 : Nat) ({ cls := "AntLease$House", name := "storeIn", desc := "([II)V" } : Jvm.MethodName)),
  (Jvm.Cond.methodLink "AntLease$Slots" (29 : Nat) ({ cls := "AntLease$House", name := "quartersGone", desc := "()I" } : Jvm.MethodName)),
  (Jvm.Cond.code ({ cls := "AntLease$Slots", name := "take", desc := "(ILAntLease$House;)I" } : Jvm.MethodName) prog_7_method_4_code (3 : Nat) (Option.some Jvm.ClassFile.FieldType.int)),
  (Jvm.Cond.instanceMethod ({ cls := "AntLease$Slots", name := "take", desc := "(ILAntLease$House;)I" } : Jvm.MethodName)),
  (Jvm.Cond.selects "AntLease$Slots" ({ cls := "AntLease$Slots", name := "take", desc := "(ILAntLease$House;)I" } : Jvm.MethodName) ({ cls := "AntLease$Slots", name := "take", desc := "(ILAntLease$House;)I" } : Jvm.MethodName)),
  (Jvm.Cond.methodLink "AntLease$Slots" (33 : Nat) ({ cls := "AntLease$House", name := "fetchFrom", desc := "([II)V" } : Jvm.MethodName)),
  (Jvm.Cond.code ({ cls := "AntLease$Slots", name := "giveBack", desc := "(ILAntLease$House;)I" } : Jvm.MethodName) prog_7_method_5_code (3 : Nat) (Option.some Jvm.ClassFile.FieldType.int)),
  (Jvm.Cond.instanceMethod ({ cls := "AntLease$Slots", name := "giveBack", desc := "(ILAntLease$House;)I" } : Jvm.MethodName)),
  (Jvm.Cond.selects "AntLease$Slots" ({ cls := "AntLease$Slots", name := "giveBack", desc := "(ILAntLease$House;)I" } : Jvm.MethodName) ({ cls := "AntLease$Slots", name := "giveBack", desc := "(ILAntLease$House;)I" } : Jvm.MethodName)),
  (Jvm.Cond.fieldLink "AntLease$Text" (15 : Nat) "AntLease$Text" "length" "I"),
  (Jvm.Cond.code ({ cls := "AntLease$Text", name := "length", desc := "()I" } : Jvm.MethodName) prog_8_method_2_code (1 : Nat) (Option.some Jvm.ClassFile.FieldType.int)),
  (Jvm.Cond.initialized "AntLease$Text"),
  (Jvm.Cond.instanceMethod ({ cls := "AntLease$Text", name := "length", desc := "()I" } : Jvm.MethodName)),
  (Jvm.Cond.selects "AntLease$Text" ({ cls := "AntLease$Text", name := "length", desc := "()I" } : Jvm.MethodName) ({ cls := "AntLease$Text", name := "length", desc := "()I" } : Jvm.MethodName)),
  (Jvm.Cond.fieldLink "AntLease$Text" (11 : Nat) "AntLease$Text" "bytes" "[I"),
  (Jvm.Cond.code ({ cls := "AntLease$Text", name := "add", desc := "(I)I" } : Jvm.MethodName) prog_8_method_3_code (2 : Nat) (Option.some Jvm.ClassFile.FieldType.int)),
  (Jvm.Cond.instanceMethod ({ cls := "AntLease$Text", name := "add", desc := "(I)I" } : Jvm.MethodName)),
  (Jvm.Cond.selects "AntLease$Text" ({ cls := "AntLease$Text", name := "add", desc := "(I)I" } : Jvm.MethodName) ({ cls := "AntLease$Text", name := "add", desc := "(I)I" } : Jvm.MethodName))]
theorem tb9_in_7 : ∀ w ∈ tb9_7, w ∈ lw_tbl := by
  intro w hw
  have hp : tb9_7 = [542, 543, 557, 556, 555, 6, 553, 552, 550, 551, 561, 559, 560, 99, 243, 36, 241, 242, 617, 616, 615, 98, 618, 619, 614, 612, 613, 628, 627, 625, 626, 59, 218, 33, 216, 217, 58, 172, 170, 171].filterMap (fun i => lw_tbl[i]?) := by decide +kernel
  rw [hp] at hw
  obtain ⟨i, -, hi⟩ := List.mem_filterMap.mp hw
  exact List.mem_of_getElem? hi
theorem tb9_good_7 : ∀ w ∈ tb9_7, goodWord w = true := List.all_eq_true.mp (by decide +kernel)
def tb9_8 : List Cond := [(Jvm.Cond.code ({ cls := "AntLease$Text", name := "empty", desc := "()I" } : Jvm.MethodName) prog_8_method_4_code (2 : Nat) (Option.some Jvm.ClassFile.FieldType.int)),
  (Jvm.Cond.instanceMethod ({ cls := "AntLease$Text", name := "empty", desc := "()I" } : Jvm.MethodName)),
  (Jvm.Cond.selects "AntLease$Text" ({ cls := "AntLease$Text", name := "empty", desc := "()I" } : Jvm.MethodName) ({ cls := "AntLease$Text", name := "empty", desc := "()I" } : Jvm.MethodName)),
  (Jvm.Cond.code ({ cls := "AntLease$Text", name := "byteAt", desc := "(I)I" } : Jvm.MethodName) prog_8_method_5_code (2 : Nat) (Option.some Jvm.ClassFile.FieldType.int)),
  (Jvm.Cond.instanceMethod ({ cls := "AntLease$Text", name := "byteAt", desc := "(I)I" } : Jvm.MethodName)),
  (Jvm.Cond.selects "AntLease$Text" ({ cls := "AntLease$Text", name := "byteAt", desc := "(I)I" } : Jvm.MethodName) ({ cls := "AntLease$Text", name := "byteAt", desc := "(I)I" } : Jvm.MethodName)),
  (Jvm.Cond.methodLink "AntLease$Text" (19 : Nat) ({ cls := "AntLease$Text", name := "byteAt", desc := "(I)I" } : Jvm.MethodName)),
  (Jvm.Cond.code ({ cls := "AntLease$Text", name := "figureAt", desc := "(I)I" } : Jvm.MethodName) prog_8_method_6_code (2 : Nat) (Option.some Jvm.ClassFile.FieldType.int)),
  (Jvm.Cond.instanceMethod ({ cls := "AntLease$Text", name := "figureAt", desc := "(I)I" } : Jvm.MethodName)),
  (Jvm.Cond.selects "AntLease$Text" ({ cls := "AntLease$Text", name := "figureAt", desc := "(I)I" } : Jvm.MethodName) ({ cls := "AntLease$Text", name := "figureAt", desc := "(I)I" } : Jvm.MethodName)),
  (Jvm.Cond.methodLink "AntLease$Text" (23 : Nat) ({ cls := "AntLease$Text", name := "fits", desc := "(II)Z" } : Jvm.MethodName)),
  (Jvm.Cond.methodLink "AntLease$Text" (27 : Nat) ({ cls := "AntLease$Text", name := "wantedAfter", desc := "(II)I" } : Jvm.MethodName)),
  (Jvm.Cond.code ({ cls := "AntLease$Text", name := "firstFault", desc := "()I" } : Jvm.MethodName) prog_8_method_7_code (6 : Nat) (Option.some Jvm.ClassFile.FieldType.int)),
  (Jvm.Cond.instanceMethod ({ cls := "AntLease$Text", name := "firstFault", desc := "()I" } : Jvm.MethodName)),
  (Jvm.Cond.selects "AntLease$Text" ({ cls := "AntLease$Text", name := "firstFault", desc := "()I" } : Jvm.MethodName) ({ cls := "AntLease$Text", name := "firstFault", desc := "()I" } : Jvm.MethodName)),
  (Jvm.Cond.code ({ cls := "AntLease$Text", name := "fits", desc := "(II)Z" } : Jvm.MethodName) prog_8_method_8_code (2 : Nat) (Option.some Jvm.ClassFile.FieldType.boolean)),
  (Jvm.Cond.static ({ cls := "AntLease$Text", name := "fits", desc := "(II)Z" } : Jvm.MethodName)),
  (Jvm.Cond.code ({ cls := "AntLease$Text", name := "wantedAfter", desc := "(II)I" } : Jvm.MethodName) prog_8_method_9_code (2 : Nat) (Option.some Jvm.ClassFile.FieldType.int)),
  (Jvm.Cond.static ({ cls := "AntLease$Text", name := "wantedAfter", desc := "(II)I" } : Jvm.MethodName)),
  (Jvm.Cond.fieldLink "AntLease" (10 : Nat) "AntLease" "text" "LAntLease$Text;"),
  (Jvm.Cond.methodLink "AntLease" (65 : Nat) ({ cls := "AntLease$Text", name := "add", desc := "(I)I" } : Jvm.MethodName)),
  (Jvm.Cond.code ({ cls := "AntLease", name := "write", desc := "(I)I" } : Jvm.MethodName) prog_1_method_2_code (2 : Nat) (Option.some Jvm.ClassFile.FieldType.int)),
  (Jvm.Cond.initialized "AntLease"),
  (Jvm.Cond.instanceMethod ({ cls := "AntLease", name := "write", desc := "(I)I" } : Jvm.MethodName)),
  (Jvm.Cond.selects "AntLease" ({ cls := "AntLease", name := "write", desc := "(I)I" } : Jvm.MethodName) ({ cls := "AntLease", name := "write", desc := "(I)I" } : Jvm.MethodName)),
  (Jvm.Cond.methodLink "AntLease" (69 : Nat) ({ cls := "AntLease$Text", name := "empty", desc := "()I" } : Jvm.MethodName)),
  (Jvm.Cond.code ({ cls := "AntLease", name := "wipe", desc := "()I" } : Jvm.MethodName) prog_1_method_3_code (1 : Nat) (Option.some Jvm.ClassFile.FieldType.int)),
  (Jvm.Cond.instanceMethod ({ cls := "AntLease", name := "wipe", desc := "()I" } : Jvm.MethodName)),
  (Jvm.Cond.selects "AntLease" ({ cls := "AntLease", name := "wipe", desc := "()I" } : Jvm.MethodName) ({ cls := "AntLease", name := "wipe", desc := "()I" } : Jvm.MethodName)),
  (Jvm.Cond.methodLink "AntLease" (73 : Nat) ({ cls := "AntLease$Text", name := "firstFault", desc := "()I" } : Jvm.MethodName)),
  (Jvm.Cond.code ({ cls := "AntLease", name := "fault", desc := "()I" } : Jvm.MethodName) prog_1_method_4_code (1 : Nat) (Option.some Jvm.ClassFile.FieldType.int)),
  (Jvm.Cond.instanceMethod ({ cls := "AntLease", name := "fault", desc := "()I" } : Jvm.MethodName)),
  (Jvm.Cond.selects "AntLease" ({ cls := "AntLease", name := "fault", desc := "()I" } : Jvm.MethodName) ({ cls := "AntLease", name := "fault", desc := "()I" } : Jvm.MethodName)),
  (Jvm.Cond.fieldLink "AntLease" (19 : Nat) "AntLease" "now" "LAntLease$House;"),
  (Jvm.Cond.methodLink "AntLease" (76 : Nat) ({ cls := "AntLease$House", name := "makeFrom", desc := "(LAntLease$Text;)V" } : Jvm.MethodName)),
  (Jvm.Cond.fieldLink "AntLease" (29 : Nat) "AntLease" "past" "LAntLease$Past;"),
  (Jvm.Cond.methodLink "AntLease" (80 : Nat) ({ cls := "AntLease$Past", name := "forget", desc := "()V" } : Jvm.MethodName)),
  (Jvm.Cond.fieldLink "AntLease" (36 : Nat) "AntLease" "slots" "LAntLease$Slots;"),
  (Jvm.Cond.methodLink "AntLease" (83 : Nat) ({ cls := "AntLease$Slots", name := "forget", desc := "()V" } : Jvm.MethodName)),
  (Jvm.Cond.methodLink "AntLease" (84 : Nat) ({ cls := "AntLease$House", name := "foods", desc := "()I" } : Jvm.MethodName))]
theorem tb9_in_8 : ∀ w ∈ tb9_8, w ∈ lw_tbl := by
  intro w hw
  have hp : tb9_8 = [180, 178, 179, 210, 208, 209, 207, 206, 204, 205, 189, 192, 188, 186, 187, 191, 190, 194, 193, 134, 169, 168, 32, 166, 167, 177, 176, 174, 175, 185, 184, 182, 183, 135, 199, 137, 236, 138, 240, 244].filterMap (fun i => lw_tbl[i]?) := by decide +kernel
  rw [hp] at hw
  obtain ⟨i, -, hi⟩ := List.mem_filterMap.mp hw
  exact List.mem_of_getElem? hi
theorem tb9_good_8 : ∀ w ∈ tb9_8, goodWord w = true := List.all_eq_true.mp (by decide +kernel)
def tb9_9 : List Cond := [(Jvm.Cond.methodLink "AntLease" (87 : Nat) ({ cls := "AntLease$House", name := "things", desc := "()I" } : Jvm.MethodName)),
  (Jvm.Cond.code ({ cls := "AntLease", name := "manor", desc := "()I" } : Jvm.MethodName) prog_1_method_5_code (1 : Nat) (Option.some Jvm.ClassFile.FieldType.int)),
  (Jvm.Cond.instanceMethod ({ cls := "AntLease", name := "manor", desc := "()I" } : Jvm.MethodName)),
  (Jvm.Cond.selects "AntLease" ({ cls := "AntLease", name := "manor", desc := "()I" } : Jvm.MethodName) ({ cls := "AntLease", name := "manor", desc := "()I" } : Jvm.MethodName)),
  (Jvm.Cond.methodLink "AntLease" (90 : Nat) ({ cls := "AntLease$House", name := "skirting", desc := "()I" } : Jvm.MethodName)),
  (Jvm.Cond.methodLink "AntLease" (93 : Nat) ({ cls := "AntLease$House", name := "goodwill", desc := "()I" } : Jvm.MethodName)),
  (Jvm.Cond.methodLink "AntLease" (96 : Nat) ({ cls := "AntLease$House", name := "quartersGone", desc := "()I" } : Jvm.MethodName)),
  (Jvm.Cond.methodLink "AntLease" (99 : Nat) ({ cls := "AntLease$House", name := "pins", desc := "()I" } : Jvm.MethodName)),
  (Jvm.Cond.methodLink "AntLease" (102 : Nat) ({ cls := "AntLease$House", name := "due", desc := "()I" } : Jvm.MethodName)),
  (Jvm.Cond.methodLink "AntLease" (105 : Nat) ({ cls := "AntLease$House", name := "shortBy", desc := "()I" } : Jvm.MethodName)),
  (Jvm.Cond.methodLink "AntLease" (108 : Nat) ({ cls := "AntLease$House", name := "powder", desc := "()I" } : Jvm.MethodName)),
  (Jvm.Cond.methodLink "AntLease" (111 : Nat) ({ cls := "AntLease$House", name := "reach", desc := "()I" } : Jvm.MethodName)),
  (Jvm.Cond.methodLink "AntLease" (114 : Nat) ({ cls := "AntLease$House", name := "known", desc := "()I" } : Jvm.MethodName)),
  (Jvm.Cond.methodLink "AntLease" (117 : Nat) ({ cls := "AntLease$Past", name := "size", desc := "()I" } : Jvm.MethodName)),
  (Jvm.Cond.fieldLink "AntLease" (43 : Nat) "AntLease" "said" "LAntLease$Said;"),
  (Jvm.Cond.methodLink "AntLease" (120 : Nat) ({ cls := "AntLease$Said", name := "size", desc := "()I" } : Jvm.MethodName)),
  (Jvm.Cond.methodLink "AntLease" (121 : Nat) ({ cls := "AntLease$Text", name := "length", desc := "()I" } : Jvm.MethodName)),
  (Jvm.Cond.code ({ cls := "AntLease", name := "about", desc := "(I)I" } : Jvm.MethodName) prog_1_method_6_code (2 : Nat) (Option.some Jvm.ClassFile.FieldType.int)),
  (Jvm.Cond.instanceMethod ({ cls := "AntLease", name := "about", desc := "(I)I" } : Jvm.MethodName)),
  (Jvm.Cond.selects "AntLease" ({ cls := "AntLease", name := "about", desc := "(I)I" } : Jvm.MethodName) ({ cls := "AntLease", name := "about", desc := "(I)I" } : Jvm.MethodName)),
  (Jvm.Cond.methodLink "AntLease" (124 : Nat) ({ cls := "AntLease$House", name := "hasFood", desc := "(I)Z" } : Jvm.MethodName)),
  (Jvm.Cond.methodLink "AntLease" (128 : Nat) ({ cls := "AntLease$House", name := "kind", desc := "(I)I" } : Jvm.MethodName)),
  (Jvm.Cond.methodLink "AntLease" (131 : Nat) ({ cls := "AntLease$House", name := "inLarder", desc := "(I)I" } : Jvm.MethodName)),
  (Jvm.Cond.methodLink "AntLease" (134 : Nat) ({ cls := "AntLease$House", name := "onFloor", desc := "(I)I" } : Jvm.MethodName)),
  (Jvm.Cond.methodLink "AntLease" (137 : Nat) ({ cls := "AntLease$House", name := "newlyPut", desc := "(I)I" } : Jvm.MethodName)),
  (Jvm.Cond.methodLink "AntLease" (140 : Nat) ({ cls := "AntLease$House", name := "worth", desc := "(I)I" } : Jvm.MethodName)),
  (Jvm.Cond.code ({ cls := "AntLease", name := "food", desc := "(II)I" } : Jvm.MethodName) prog_1_method_7_code (3 : Nat) (Option.some Jvm.ClassFile.FieldType.int)),
  (Jvm.Cond.instanceMethod ({ cls := "AntLease", name := "food", desc := "(II)I" } : Jvm.MethodName)),
  (Jvm.Cond.selects "AntLease" ({ cls := "AntLease", name := "food", desc := "(II)I" } : Jvm.MethodName) ({ cls := "AntLease", name := "food", desc := "(II)I" } : Jvm.MethodName)),
  (Jvm.Cond.methodLink "AntLease" (143 : Nat) ({ cls := "AntLease$House", name := "hasThing", desc := "(I)Z" } : Jvm.MethodName)),
  (Jvm.Cond.methodLink "AntLease" (146 : Nat) ({ cls := "AntLease$House", name := "placeOf", desc := "(I)I" } : Jvm.MethodName)),
  (Jvm.Cond.methodLink "AntLease" (149 : Nat) ({ cls := "AntLease", name := "has", desc := "(II)Z" } : Jvm.MethodName)),
  (Jvm.Cond.methodLink "AntLease" (153 : Nat) ({ cls := "AntLease$House", name := "astray", desc := "(I)I" } : Jvm.MethodName)),
  (Jvm.Cond.code ({ cls := "AntLease", name := "thing", desc := "(II)I" } : Jvm.MethodName) prog_1_method_8_code (3 : Nat) (Option.some Jvm.ClassFile.FieldType.int)),
  (Jvm.Cond.instanceMethod ({ cls := "AntLease", name := "thing", desc := "(II)I" } : Jvm.MethodName)),
  (Jvm.Cond.selects "AntLease" ({ cls := "AntLease", name := "thing", desc := "(II)I" } : Jvm.MethodName) ({ cls := "AntLease", name := "thing", desc := "(II)I" } : Jvm.MethodName)),
  (Jvm.Cond.methodLink "AntLease" (156 : Nat) ({ cls := "AntLease$Past", name := "note", desc := "(LAntLease$House;)V" } : Jvm.MethodName)),
  (Jvm.Cond.methodLink "AntLease" (160 : Nat) ({ cls := "AntLease$House", name := "endQuarter", desc := "()I" } : Jvm.MethodName)),
  (Jvm.Cond.methodLink "AntLease" (163 : Nat) ({ cls := "AntLease$Past", name := "settle", desc := "(I)I" } : Jvm.MethodName)),
  (Jvm.Cond.code ({ cls := "AntLease", name := "quarter", desc := "()I" } : Jvm.MethodName) prog_1_method_9_code (1 : Nat) (Option.some Jvm.ClassFile.FieldType.int))]
theorem tb9_in_9 : ∀ w ∈ tb9_9, w ∈ lw_tbl := by
  intro w hw
  have hp : tb9_9 = [245, 198, 196, 197, 250, 254, 258, 262, 266, 274, 290, 294, 310, 319, 139, 323, 327, 249, 247, 248, 332, 336, 340, 344, 348, 349, 331, 329, 330, 354, 358, 359, 360, 353, 351, 352, 368, 383, 398, 367].filterMap (fun i => lw_tbl[i]?) := by decide +kernel
  rw [hp] at hw
  obtain ⟨i, -, hi⟩ := List.mem_filterMap.mp hw
  exact List.mem_of_getElem? hi
theorem tb9_good_9 : ∀ w ∈ tb9_9, goodWord w = true := List.all_eq_true.mp (by decide +kernel)
def tb9_10 : List Cond := [(Jvm.Cond.instanceMethod ({ cls := "AntLease", name := "quarter", desc := "()I" } : Jvm.MethodName)),
  (Jvm.Cond.selects "AntLease" ({ cls := "AntLease", name := "quarter", desc := "()I" } : Jvm.MethodName) ({ cls := "AntLease", name := "quarter", desc := "()I" } : Jvm.MethodName)),
  (Jvm.Cond.methodLink "AntLease" (166 : Nat) ({ cls := "AntLease$House", name := "putUp", desc := "(II)I" } : Jvm.MethodName)),
  (Jvm.Cond.code ({ cls := "AntLease", name := "put", desc := "(II)I" } : Jvm.MethodName) prog_1_method_10_code (3 : Nat) (Option.some Jvm.ClassFile.FieldType.int)),
  (Jvm.Cond.instanceMethod ({ cls := "AntLease", name := "put", desc := "(II)I" } : Jvm.MethodName)),
  (Jvm.Cond.selects "AntLease" ({ cls := "AntLease", name := "put", desc := "(II)I" } : Jvm.MethodName) ({ cls := "AntLease", name := "put", desc := "(II)I" } : Jvm.MethodName)),
  (Jvm.Cond.methodLink "AntLease" (170 : Nat) ({ cls := "AntLease$House", name := "eatUp", desc := "(II)I" } : Jvm.MethodName)),
  (Jvm.Cond.code ({ cls := "AntLease", name := "eat", desc := "(II)I" } : Jvm.MethodName) prog_1_method_11_code (3 : Nat) (Option.some Jvm.ClassFile.FieldType.int)),
  (Jvm.Cond.instanceMethod ({ cls := "AntLease", name := "eat", desc := "(II)I" } : Jvm.MethodName)),
  (Jvm.Cond.selects "AntLease" ({ cls := "AntLease", name := "eat", desc := "(II)I" } : Jvm.MethodName) ({ cls := "AntLease", name := "eat", desc := "(II)I" } : Jvm.MethodName)),
  (Jvm.Cond.methodLink "AntLease" (173 : Nat) ({ cls := "AntLease$House", name := "leaveOut", desc := "(II)I" } : Jvm.MethodName)),
  (Jvm.Cond.code ({ cls := "AntLease", name := "leave", desc := "(II)I" } : Jvm.MethodName) prog_1_method_12_code (3 : Nat) (Option.some Jvm.ClassFile.FieldType.int)),
  (Jvm.Cond.instanceMethod ({ cls := "AntLease", name := "leave", desc := "(II)I" } : Jvm.MethodName)),
  (Jvm.Cond.selects "AntLease" ({ cls := "AntLease", name := "leave", desc := "(II)I" } : Jvm.MethodName) ({ cls := "AntLease", name := "leave", desc := "(II)I" } : Jvm.MethodName)),
  (Jvm.Cond.methodLink "AntLease" (176 : Nat) ({ cls := "AntLease$House", name := "carry", desc := "(II)I" } : Jvm.MethodName)),
  (Jvm.Cond.code ({ cls := "AntLease", name := "move", desc := "(II)I" } : Jvm.MethodName) prog_1_method_13_code (3 : Nat) (Option.some Jvm.ClassFile.FieldType.int)),
  (Jvm.Cond.instanceMethod ({ cls := "AntLease", name := "move", desc := "(II)I" } : Jvm.MethodName)),
  (Jvm.Cond.selects "AntLease" ({ cls := "AntLease", name := "move", desc := "(II)I" } : Jvm.MethodName) ({ cls := "AntLease", name := "move", desc := "(II)I" } : Jvm.MethodName)),
  (Jvm.Cond.methodLink "AntLease" (179 : Nat) ({ cls := "AntLease$House", name := "strew", desc := "(I)I" } : Jvm.MethodName)),
  (Jvm.Cond.code ({ cls := "AntLease", name := "sprinkle", desc := "(I)I" } : Jvm.MethodName) prog_1_method_14_code (2 : Nat) (Option.some Jvm.ClassFile.FieldType.int)),
  (Jvm.Cond.instanceMethod ({ cls := "AntLease", name := "sprinkle", desc := "(I)I" } : Jvm.MethodName)),
  (Jvm.Cond.selects "AntLease" ({ cls := "AntLease", name := "sprinkle", desc := "(I)I" } : Jvm.MethodName) ({ cls := "AntLease", name := "sprinkle", desc := "(I)I" } : Jvm.MethodName)),
  (Jvm.Cond.methodLink "AntLease" (182 : Nat) ({ cls := "AntLease$Past", name := "takeBack", desc := "(LAntLease$House;)I" } : Jvm.MethodName)),
  (Jvm.Cond.code ({ cls := "AntLease", name := "undo", desc := "()I" } : Jvm.MethodName) prog_1_method_15_code (1 : Nat) (Option.some Jvm.ClassFile.FieldType.int)),
  (Jvm.Cond.instanceMethod ({ cls := "AntLease", name := "undo", desc := "()I" } : Jvm.MethodName)),
  (Jvm.Cond.selects "AntLease" ({ cls := "AntLease", name := "undo", desc := "()I" } : Jvm.MethodName) ({ cls := "AntLease", name := "undo", desc := "()I" } : Jvm.MethodName)),
  (Jvm.Cond.fieldLink "AntLease" (23 : Nat) "AntLease" "trial" "LAntLease$House;"),
  (Jvm.Cond.methodLink "AntLease" (186 : Nat) ({ cls := "AntLease$House", name := "copyOf", desc := "(LAntLease$House;)V" } : Jvm.MethodName)),
  (Jvm.Cond.code ({ cls := "AntLease", name := "later", desc := "(II)I" } : Jvm.MethodName) prog_1_method_16_code (4 : Nat) (Option.some Jvm.ClassFile.FieldType.int)),
  (Jvm.Cond.instanceMethod ({ cls := "AntLease", name := "later", desc := "(II)I" } : Jvm.MethodName)),
  (Jvm.Cond.selects "AntLease" ({ cls := "AntLease", name := "later", desc := "(II)I" } : Jvm.MethodName) ({ cls := "AntLease", name := "later", desc := "(II)I" } : Jvm.MethodName)),
  (Jvm.Cond.fieldLink "AntLease" (50 : Nat) "AntLease" "fewest" "LAntLease$Least;"),
  (Jvm.Cond.methodLink "AntLease" (189 : Nat) ({ cls := "AntLease$Least", name := "find", desc := "(LAntLease$House;)V" } : Jvm.MethodName)),
  (Jvm.Cond.methodLink "AntLease" (192 : Nat) ({ cls := "AntLease$Least", name := "grains", desc := "()I" } : Jvm.MethodName)),
  (Jvm.Cond.methodLink "AntLease" (195 : Nat) ({ cls := "AntLease$Least", name := "figures", desc := "()I" } : Jvm.MethodName)),
  (Jvm.Cond.code ({ cls := "AntLease", name := "least", desc := "(I)I" } : Jvm.MethodName) prog_1_method_17_code (2 : Nat) (Option.some Jvm.ClassFile.FieldType.int)),
  (Jvm.Cond.instanceMethod ({ cls := "AntLease", name := "least", desc := "(I)I" } : Jvm.MethodName)),
  (Jvm.Cond.selects "AntLease" ({ cls := "AntLease", name := "least", desc := "(I)I" } : Jvm.MethodName) ({ cls := "AntLease", name := "least", desc := "(I)I" } : Jvm.MethodName)),
  (Jvm.Cond.fieldLink "AntLease" (54 : Nat) "AntLease" "doings" "[I"),
  (Jvm.Cond.constantLong "AntLease" (198 : Nat) (1000 : Int64))]
theorem tb9_in_10 : ∀ w ∈ tb9_10, w ∈ lw_tbl := by
  intro w hw
  have hp : tb9_10 = [365, 366, 406, 405, 403, 404, 420, 419, 417, 418, 428, 427, 425, 426, 442, 441, 439, 440, 455, 454, 452, 453, 463, 462, 460, 461, 136, 475, 474, 472, 473, 140, 483, 496, 500, 482, 480, 481, 141, 508].filterMap (fun i => lw_tbl[i]?) := by decide +kernel
  rw [hp] at hw
  obtain ⟨i, -, hi⟩ := List.mem_filterMap.mp hw
  exact List.mem_of_getElem? hi
theorem tb9_good_10 : ∀ w ∈ tb9_10, goodWord w = true := List.all_eq_true.mp (by decide +kernel)
def tb9_11 : List Cond := [(Jvm.Cond.methodLink "AntLease" (200 : Nat) ({ cls := "AntLease", name := "canBe", desc := "(LAntLease$House;I)Z" } : Jvm.MethodName)),
  (Jvm.Cond.code ({ cls := "AntLease", name := "judge", desc := "(IJ)I" } : Jvm.MethodName) prog_1_method_18_code (7 : Nat) (Option.some Jvm.ClassFile.FieldType.int)),
  (Jvm.Cond.instanceMethod ({ cls := "AntLease", name := "judge", desc := "(IJ)I" } : Jvm.MethodName)),
  (Jvm.Cond.selects "AntLease" ({ cls := "AntLease", name := "judge", desc := "(IJ)I" } : Jvm.MethodName) ({ cls := "AntLease", name := "judge", desc := "(IJ)I" } : Jvm.MethodName)),
  (Jvm.Cond.methodLink "AntLease" (204 : Nat) ({ cls := "java/lang/Integer", name := "bitCount", desc := "(I)I" } : Jvm.MethodName)),
  (Jvm.Cond.methodLink "AntLease" (209 : Nat) ({ cls := "AntLease", name := "factorial", desc := "(I)I" } : Jvm.MethodName)),
  (Jvm.Cond.methodLink "AntLease" (212 : Nat) ({ cls := "AntLease", name := "worthOfThose", desc := "(I)I" } : Jvm.MethodName)),
  (Jvm.Cond.methodLink "AntLease" (215 : Nat) ({ cls := "java/lang/Math", name := "min", desc := "(II)I" } : Jvm.MethodName)),
  (Jvm.Cond.methodLink "AntLease" (220 : Nat) ({ cls := "AntLease", name := "told", desc := "(IIZ)I" } : Jvm.MethodName)),
  (Jvm.Cond.code ({ cls := "AntLease", name := "share", desc := "(IZ)I" } : Jvm.MethodName) prog_1_method_19_code (10 : Nat) (Option.some Jvm.ClassFile.FieldType.int)),
  (Jvm.Cond.instanceMethod ({ cls := "AntLease", name := "share", desc := "(IZ)I" } : Jvm.MethodName)),
  (Jvm.Cond.selects "AntLease" ({ cls := "AntLease", name := "share", desc := "(IZ)I" } : Jvm.MethodName) ({ cls := "AntLease", name := "share", desc := "(IZ)I" } : Jvm.MethodName)),
  (Jvm.Cond.methodLink "AntLease" (224 : Nat) ({ cls := "AntLease$Said", name := "add", desc := "(II)I" } : Jvm.MethodName)),
  (Jvm.Cond.code ({ cls := "AntLease", name := "say", desc := "(II)I" } : Jvm.MethodName) prog_1_method_20_code (3 : Nat) (Option.some Jvm.ClassFile.FieldType.int)),
  (Jvm.Cond.instanceMethod ({ cls := "AntLease", name := "say", desc := "(II)I" } : Jvm.MethodName)),
  (Jvm.Cond.selects "AntLease" ({ cls := "AntLease", name := "say", desc := "(II)I" } : Jvm.MethodName) ({ cls := "AntLease", name := "say", desc := "(II)I" } : Jvm.MethodName)),
  (Jvm.Cond.methodLink "AntLease" (226 : Nat) ({ cls := "AntLease$Said", name := "forget", desc := "()I" } : Jvm.MethodName)),
  (Jvm.Cond.code ({ cls := "AntLease", name := "unsay", desc := "()I" } : Jvm.MethodName) prog_1_method_21_code (1 : Nat) (Option.some Jvm.ClassFile.FieldType.int)),
  (Jvm.Cond.instanceMethod ({ cls := "AntLease", name := "unsay", desc := "()I" } : Jvm.MethodName)),
  (Jvm.Cond.selects "AntLease" ({ cls := "AntLease", name := "unsay", desc := "()I" } : Jvm.MethodName) ({ cls := "AntLease", name := "unsay", desc := "()I" } : Jvm.MethodName)),
  (Jvm.Cond.methodLink "AntLease" (228 : Nat) ({ cls := "AntLease$Said", name := "howManyLines", desc := "(I)I" } : Jvm.MethodName)),
  (Jvm.Cond.methodLink "AntLease" (231 : Nat) ({ cls := "AntLease$Said", name := "firstLine", desc := "(I)I" } : Jvm.MethodName)),
  (Jvm.Cond.code ({ cls := "AntLease", name := "lines", desc := "(I)I" } : Jvm.MethodName) prog_1_method_22_code (2 : Nat) (Option.some Jvm.ClassFile.FieldType.int)),
  (Jvm.Cond.instanceMethod ({ cls := "AntLease", name := "lines", desc := "(I)I" } : Jvm.MethodName)),
  (Jvm.Cond.selects "AntLease" ({ cls := "AntLease", name := "lines", desc := "(I)I" } : Jvm.MethodName) ({ cls := "AntLease", name := "lines", desc := "(I)I" } : Jvm.MethodName)),
  (Jvm.Cond.methodLink "AntLease" (234 : Nat) ({ cls := "AntLease", name := "pairsThatKeep", desc := "(II)I" } : Jvm.MethodName)),
  (Jvm.Cond.methodLink "AntLease" (237 : Nat) ({ cls := "AntLease$Rests", name := "howMany", desc := "(I)I" } : Jvm.MethodName)),
  (Jvm.Cond.methodLink "AntLease" (242 : Nat) ({ cls := "AntLease$Rests", name := "first", desc := "(I)I" } : Jvm.MethodName)),
  (Jvm.Cond.code ({ cls := "AntLease", name := "rests", desc := "(III)I" } : Jvm.MethodName) prog_1_method_23_code (5 : Nat) (Option.some Jvm.ClassFile.FieldType.int)),
  (Jvm.Cond.instanceMethod ({ cls := "AntLease", name := "rests", desc := "(III)I" } : Jvm.MethodName)),
  (Jvm.Cond.selects "AntLease" ({ cls := "AntLease", name := "rests", desc := "(III)I" } : Jvm.MethodName) ({ cls := "AntLease", name := "rests", desc := "(III)I" } : Jvm.MethodName)),
  (Jvm.Cond.methodLink "AntLease" (245 : Nat) ({ cls := "AntLease", name := "weighKnown", desc := "(I)V" } : Jvm.MethodName)),
  (Jvm.Cond.fieldLink "AntLease" (58 : Nat) "AntLease" "chances" "[I"),
  (Jvm.Cond.code ({ cls := "AntLease", name := "stray", desc := "(IIZ)I" } : Jvm.MethodName) prog_1_method_24_code (7 : Nat) (Option.some Jvm.ClassFile.FieldType.int)),
  (Jvm.Cond.instanceMethod ({ cls := "AntLease", name := "stray", desc := "(IIZ)I" } : Jvm.MethodName)),
  (Jvm.Cond.selects "AntLease" ({ cls := "AntLease", name := "stray", desc := "(IIZ)I" } : Jvm.MethodName) ({ cls := "AntLease", name := "stray", desc := "(IIZ)I" } : Jvm.MethodName)),
  (Jvm.Cond.fieldLink "AntLease" (61 : Nat) "AntLease" "theSeed" "J"),
  (Jvm.Cond.code ({ cls := "AntLease", name := "seed", desc := "(J)J" } : Jvm.MethodName) prog_1_method_25_code (5 : Nat) (Option.some Jvm.ClassFile.FieldType.long)),
  (Jvm.Cond.instanceMethod ({ cls := "AntLease", name := "seed", desc := "(J)J" } : Jvm.MethodName)),
  (Jvm.Cond.selects "AntLease" ({ cls := "AntLease", name := "seed", desc := "(J)J" } : Jvm.MethodName) ({ cls := "AntLease", name := "seed", desc := "(J)J" } : Jvm.MethodName))]
theorem tb9_in_11 : ∀ w ∈ tb9_11, w ∈ lw_tbl := by
  intro w hw
  have hp : tb9_11 = [509, 507, 505, 506, 516, 517, 520, 524, 525, 515, 513, 514, 532, 531, 529, 530, 541, 540, 538, 539, 549, 558, 548, 546, 547, 566, 573, 583, 565, 563, 564, 590, 142, 589, 587, 588, 143, 597, 595, 596].filterMap (fun i => lw_tbl[i]?) := by decide +kernel
  rw [hp] at hw
  obtain ⟨i, -, hi⟩ := List.mem_filterMap.mp hw
  exact List.mem_of_getElem? hi
theorem tb9_good_11 : ∀ w ∈ tb9_11, goodWord w = true := List.all_eq_true.mp (by decide +kernel)
def tb9_12 : List Cond := [(Jvm.Cond.constantLong "AntLease" (249 : Nat) (6364136223846793005 : Int64)),
  (Jvm.Cond.constantLong "AntLease" (251 : Nat) (1442695040888963407 : Int64)),
  (Jvm.Cond.methodLink "AntLease" (253 : Nat) ({ cls := "AntLease", name := "doByChance", desc := "(LAntLease$House;I)V" } : Jvm.MethodName)),
  (Jvm.Cond.code ({ cls := "AntLease", name := "years", desc := "(I)I" } : Jvm.MethodName) prog_1_method_26_code (4 : Nat) (Option.some Jvm.ClassFile.FieldType.int)),
  (Jvm.Cond.instanceMethod ({ cls := "AntLease", name := "years", desc := "(I)I" } : Jvm.MethodName)),
  (Jvm.Cond.selects "AntLease" ({ cls := "AntLease", name := "years", desc := "(I)I" } : Jvm.MethodName) ({ cls := "AntLease", name := "years", desc := "(I)I" } : Jvm.MethodName)),
  (Jvm.Cond.methodLink "AntLease" (257 : Nat) ({ cls := "AntLease$Slots", name := "take", desc := "(ILAntLease$House;)I" } : Jvm.MethodName)),
  (Jvm.Cond.code ({ cls := "AntLease", name := "keep", desc := "(I)I" } : Jvm.MethodName) prog_1_method_27_code (2 : Nat) (Option.some Jvm.ClassFile.FieldType.int)),
  (Jvm.Cond.instanceMethod ({ cls := "AntLease", name := "keep", desc := "(I)I" } : Jvm.MethodName)),
  (Jvm.Cond.selects "AntLease" ({ cls := "AntLease", name := "keep", desc := "(I)I" } : Jvm.MethodName) ({ cls := "AntLease", name := "keep", desc := "(I)I" } : Jvm.MethodName)),
  (Jvm.Cond.methodLink "AntLease" (261 : Nat) ({ cls := "AntLease$Slots", name := "giveBack", desc := "(ILAntLease$House;)I" } : Jvm.MethodName)),
  (Jvm.Cond.code ({ cls := "AntLease", name := "again", desc := "(I)I" } : Jvm.MethodName) prog_1_method_28_code (3 : Nat) (Option.some Jvm.ClassFile.FieldType.int)),
  (Jvm.Cond.instanceMethod ({ cls := "AntLease", name := "again", desc := "(I)I" } : Jvm.MethodName)),
  (Jvm.Cond.selects "AntLease" ({ cls := "AntLease", name := "again", desc := "(I)I" } : Jvm.MethodName) ({ cls := "AntLease", name := "again", desc := "(I)I" } : Jvm.MethodName)),
  (Jvm.Cond.code ({ cls := "AntLease", name := "canBe", desc := "(LAntLease$House;I)Z" } : Jvm.MethodName) prog_1_method_29_code (4 : Nat) (Option.some Jvm.ClassFile.FieldType.boolean)),
  (Jvm.Cond.static ({ cls := "AntLease", name := "canBe", desc := "(LAntLease$House;I)Z" } : Jvm.MethodName)),
  (Jvm.Cond.code ({ cls := "AntLease", name := "doByChance", desc := "(LAntLease$House;I)V" } : Jvm.MethodName) prog_1_method_30_code (2 : Nat) (Option.none : Option Jvm.ClassFile.FieldType)),
  (Jvm.Cond.static ({ cls := "AntLease", name := "doByChance", desc := "(LAntLease$House;I)V" } : Jvm.MethodName)),
  (Jvm.Cond.code ({ cls := "AntLease", name := "worthOfThose", desc := "(I)I" } : Jvm.MethodName) prog_1_method_31_code (4 : Nat) (Option.some Jvm.ClassFile.FieldType.int)),
  (Jvm.Cond.instanceMethod ({ cls := "AntLease", name := "worthOfThose", desc := "(I)I" } : Jvm.MethodName)),
  (Jvm.Cond.selects "AntLease" ({ cls := "AntLease", name := "worthOfThose", desc := "(I)I" } : Jvm.MethodName) ({ cls := "AntLease", name := "worthOfThose", desc := "(I)I" } : Jvm.MethodName)),
  (Jvm.Cond.methodLink "AntLease" (264 : Nat) ({ cls := "AntLease$Rests", name := "bit", desc := "(II)I" } : Jvm.MethodName)),
  (Jvm.Cond.code ({ cls := "AntLease", name := "pairsThatKeep", desc := "(II)I" } : Jvm.MethodName) prog_1_method_32_code (6 : Nat) (Option.some Jvm.ClassFile.FieldType.int)),
  (Jvm.Cond.instanceMethod ({ cls := "AntLease", name := "pairsThatKeep", desc := "(II)I" } : Jvm.MethodName)),
  (Jvm.Cond.selects "AntLease" ({ cls := "AntLease", name := "pairsThatKeep", desc := "(II)I" } : Jvm.MethodName) ({ cls := "AntLease", name := "pairsThatKeep", desc := "(II)I" } : Jvm.MethodName)),
  (Jvm.Cond.code ({ cls := "AntLease", name := "weighKnown", desc := "(I)V" } : Jvm.MethodName) prog_1_method_33_code (8 : Nat) (Option.none : Option Jvm.ClassFile.FieldType)),
  (Jvm.Cond.instanceMethod ({ cls := "AntLease", name := "weighKnown", desc := "(I)V" } : Jvm.MethodName)),
  (Jvm.Cond.selects "AntLease" ({ cls := "AntLease", name := "weighKnown", desc := "(I)V" } : Jvm.MethodName) ({ cls := "AntLease", name := "weighKnown", desc := "(I)V" } : Jvm.MethodName)),
  (Jvm.Cond.code ({ cls := "AntLease", name := "isPlace", desc := "(I)Z" } : Jvm.MethodName) prog_1_method_34_code (1 : Nat) (Option.some Jvm.ClassFile.FieldType.boolean)),
  (Jvm.Cond.static ({ cls := "AntLease", name := "isPlace", desc := "(I)Z" } : Jvm.MethodName)),
  (Jvm.Cond.methodLink "AntLease" (267 : Nat) ({ cls := "AntLease", name := "isPlace", desc := "(I)Z" } : Jvm.MethodName)),
  (Jvm.Cond.code ({ cls := "AntLease", name := "has", desc := "(II)Z" } : Jvm.MethodName) prog_1_method_35_code (2 : Nat) (Option.some Jvm.ClassFile.FieldType.boolean)),
  (Jvm.Cond.static ({ cls := "AntLease", name := "has", desc := "(II)Z" } : Jvm.MethodName)),
  (Jvm.Cond.code ({ cls := "AntLease", name := "factorial", desc := "(I)I" } : Jvm.MethodName) prog_1_method_36_code (3 : Nat) (Option.some Jvm.ClassFile.FieldType.int)),
  (Jvm.Cond.static ({ cls := "AntLease", name := "factorial", desc := "(I)I" } : Jvm.MethodName)),
  (Jvm.Cond.code ({ cls := "AntLease", name := "told", desc := "(IIZ)I" } : Jvm.MethodName) prog_1_method_37_code (7 : Nat) (Option.some Jvm.ClassFile.FieldType.int)),
  (Jvm.Cond.static ({ cls := "AntLease", name := "told", desc := "(IIZ)I" } : Jvm.MethodName)),
  (Jvm.Cond.code ({ cls := "AntLeaseModel", name := "in", desc := "(JJJ)Z" } : Jvm.MethodName) prog_10_method_3_code (6 : Nat) (Option.some Jvm.ClassFile.FieldType.boolean)),
  (Jvm.Cond.initialized "AntLeaseModel"),
  (Jvm.Cond.static ({ cls := "AntLeaseModel", name := "in", desc := "(JJJ)Z" } : Jvm.MethodName))]
theorem tb9_in_12 : ∀ w ∈ tb9_12, w ∈ lw_tbl := by
  intro w hw
  have hp : tb9_12 = [602, 603, 604, 601, 599, 600, 611, 610, 608, 609, 624, 623, 621, 622, 511, 510, 606, 605, 523, 522, 5, 570, 569, 568, 7, 593, 592, 8, 309, 308, 307, 306, 305, 519, 518, 527, 526, 740, 39, 739].filterMap (fun i => lw_tbl[i]?) := by decide +kernel
  rw [hp] at hw
  obtain ⟨i, -, hi⟩ := List.mem_filterMap.mp hw
  exact List.mem_of_getElem? hi
theorem tb9_good_12 : ∀ w ∈ tb9_12, goodWord w = true := List.all_eq_true.mp (by decide +kernel)
def tb9_13 : List Cond := [(Jvm.Cond.code ({ cls := "AntLeaseModel", name := "has", desc := "(II)Z" } : Jvm.MethodName) prog_10_method_4_code (2 : Nat) (Option.some Jvm.ClassFile.FieldType.boolean)),
  (Jvm.Cond.static ({ cls := "AntLeaseModel", name := "has", desc := "(II)Z" } : Jvm.MethodName)),
  (Jvm.Cond.code ({ cls := "AntLeaseModel", name := "many", desc := "(I)I" } : Jvm.MethodName) prog_10_method_5_code (3 : Nat) (Option.some Jvm.ClassFile.FieldType.int)),
  (Jvm.Cond.static ({ cls := "AntLeaseModel", name := "many", desc := "(I)I" } : Jvm.MethodName)),
  (Jvm.Cond.code ({ cls := "AntLeaseModel", name := "power", desc := "(II)I" } : Jvm.MethodName) prog_10_method_6_code (4 : Nat) (Option.some Jvm.ClassFile.FieldType.int)),
  (Jvm.Cond.static ({ cls := "AntLeaseModel", name := "power", desc := "(II)I" } : Jvm.MethodName)),
  (Jvm.Cond.code ({ cls := "AntLeaseModel", name := "apart", desc := "(II)I" } : Jvm.MethodName) prog_10_method_7_code (2 : Nat) (Option.some Jvm.ClassFile.FieldType.int)),
  (Jvm.Cond.static ({ cls := "AntLeaseModel", name := "apart", desc := "(II)I" } : Jvm.MethodName)),
  (Jvm.Cond.fieldLink "AntLeaseModel" (54 : Nat) "AntLeaseModel" "foods" "I"),
  (Jvm.Cond.methodLink "AntLeaseModel" (57 : Nat) ({ cls := "AntLeaseModel", name := "in", desc := "(JJJ)Z" } : Jvm.MethodName)),
  (Jvm.Cond.code ({ cls := "AntLeaseModel", name := "noFood", desc := "(I)Z" } : Jvm.MethodName) prog_10_method_8_code (2 : Nat) (Option.some Jvm.ClassFile.FieldType.boolean)),
  (Jvm.Cond.instanceMethod ({ cls := "AntLeaseModel", name := "noFood", desc := "(I)Z" } : Jvm.MethodName)),
  (Jvm.Cond.selects "AntLeaseModel" ({ cls := "AntLeaseModel", name := "noFood", desc := "(I)Z" } : Jvm.MethodName) ({ cls := "AntLeaseModel", name := "noFood", desc := "(I)Z" } : Jvm.MethodName)),
  (Jvm.Cond.fieldLink "AntLeaseModel" (61 : Nat) "AntLeaseModel" "things" "I"),
  (Jvm.Cond.code ({ cls := "AntLeaseModel", name := "noThing", desc := "(I)Z" } : Jvm.MethodName) prog_10_method_9_code (2 : Nat) (Option.some Jvm.ClassFile.FieldType.boolean)),
  (Jvm.Cond.instanceMethod ({ cls := "AntLeaseModel", name := "noThing", desc := "(I)Z" } : Jvm.MethodName)),
  (Jvm.Cond.selects "AntLeaseModel" ({ cls := "AntLeaseModel", name := "noThing", desc := "(I)Z" } : Jvm.MethodName) ({ cls := "AntLeaseModel", name := "noThing", desc := "(I)Z" } : Jvm.MethodName)),
  (Jvm.Cond.constantLong "AntLeaseModel" (64 : Nat) (9 : Int64)),
  (Jvm.Cond.code ({ cls := "AntLeaseModel", name := "noPlace", desc := "(I)Z" } : Jvm.MethodName) prog_10_method_10_code (1 : Nat) (Option.some Jvm.ClassFile.FieldType.boolean)),
  (Jvm.Cond.static ({ cls := "AntLeaseModel", name := "noPlace", desc := "(I)Z" } : Jvm.MethodName)),
  (Jvm.Cond.fieldLink "AntLeaseModel" (50 : Nat) "AntLeaseModel" "thrown" "I"),
  (Jvm.Cond.constantLong "AntLeaseModel" (66 : Nat) (255 : Int64)),
  (Jvm.Cond.fieldLink "AntLeaseModel" (68 : Nat) "AntLeaseModel" "textSize" "I"),
  (Jvm.Cond.fieldLink "AntLeaseModel" (7 : Nat) "AntLeaseModel" "text" "[I"),
  (Jvm.Cond.code ({ cls := "AntLeaseModel", name := "write", desc := "(I)I" } : Jvm.MethodName) prog_10_method_11_code (2 : Nat) (Option.some Jvm.ClassFile.FieldType.int)),
  (Jvm.Cond.instanceMethod ({ cls := "AntLeaseModel", name := "write", desc := "(I)I" } : Jvm.MethodName)),
  (Jvm.Cond.selects "AntLeaseModel" ({ cls := "AntLeaseModel", name := "write", desc := "(I)I" } : Jvm.MethodName) ({ cls := "AntLeaseModel", name := "write", desc := "(I)I" } : Jvm.MethodName)),
  (Jvm.Cond.code ({ cls := "AntLeaseModel", name := "wipe", desc := "()I" } : Jvm.MethodName) prog_10_method_12_code (2 : Nat) (Option.some Jvm.ClassFile.FieldType.int)),
  (Jvm.Cond.instanceMethod ({ cls := "AntLeaseModel", name := "wipe", desc := "()I" } : Jvm.MethodName)),
  (Jvm.Cond.selects "AntLeaseModel" ({ cls := "AntLeaseModel", name := "wipe", desc := "()I" } : Jvm.MethodName) ({ cls := "AntLeaseModel", name := "wipe", desc := "()I" } : Jvm.MethodName)),
  (Jvm.Cond.fieldLink "AntLeaseModel" (71 : Nat) "AntLeaseModel" "place" "I"),
  (Jvm.Cond.code ({ cls := "AntLeaseModel", name := "figure", desc := "(I)I" } : Jvm.MethodName) prog_10_method_13_code (2 : Nat) (Option.some Jvm.ClassFile.FieldType.int)),
  (Jvm.Cond.instanceMethod ({ cls := "AntLeaseModel", name := "figure", desc := "(I)I" } : Jvm.MethodName)),
  (Jvm.Cond.selects "AntLeaseModel" ({ cls := "AntLeaseModel", name := "figure", desc := "(I)I" } : Jvm.MethodName) ({ cls := "AntLeaseModel", name := "figure", desc := "(I)I" } : Jvm.MethodName)),
  (Jvm.Cond.methodLink "AntLeaseModel" (74 : Nat) ({ cls := "AntLeaseModel", name := "figure", desc := "(I)I" } : Jvm.MethodName)),
  (Jvm.Cond.fieldLink "AntLeaseModel" (16 : Nat) "AntLeaseModel" "readFood" "[I"),
  (Jvm.Cond.fieldLink "AntLeaseModel" (78 : Nat) "AntLeaseModel" "readFoods" "I"),
  (Jvm.Cond.code ({ cls := "AntLeaseModel", name := "readOneFood", desc := "()Z" } : Jvm.MethodName) prog_10_method_14_code (3 : Nat) (Option.some Jvm.ClassFile.FieldType.boolean)),
  (Jvm.Cond.instanceMethod ({ cls := "AntLeaseModel", name := "readOneFood", desc := "()Z" } : Jvm.MethodName)),
  (Jvm.Cond.selects "AntLeaseModel" ({ cls := "AntLeaseModel", name := "readOneFood", desc := "()Z" } : Jvm.MethodName) ({ cls := "AntLeaseModel", name := "readOneFood", desc := "()Z" } : Jvm.MethodName))]
theorem tb9_in_13 : ∀ w ∈ tb9_13, w ∈ lw_tbl := by
  intro w hw
  have hp : tb9_13 = [790, 789, 843, 842, 899, 898, 828, 827, 640, 738, 813, 812, 19, 642, 821, 820, 20, 848, 874, 873, 635, 737, 637, 636, 736, 734, 735, 744, 742, 743, 638, 756, 755, 10, 753, 646, 645, 764, 763, 12].filterMap (fun i => lw_tbl[i]?) := by decide +kernel
  rw [hp] at hw
  obtain ⟨i, -, hi⟩ := List.mem_filterMap.mp hw
  exact List.mem_of_getElem? hi
theorem tb9_good_13 : ∀ w ∈ tb9_13, goodWord w = true := List.all_eq_true.mp (by decide +kernel)
def tb9_14 : List Cond := [(Jvm.Cond.fieldLink "AntLeaseModel" (19 : Nat) "AntLeaseModel" "readAt" "[I"),
  (Jvm.Cond.fieldLink "AntLeaseModel" (81 : Nat) "AntLeaseModel" "readThings" "I"),
  (Jvm.Cond.code ({ cls := "AntLeaseModel", name := "readOneThing", desc := "()Z" } : Jvm.MethodName) prog_10_method_15_code (2 : Nat) (Option.some Jvm.ClassFile.FieldType.boolean)),
  (Jvm.Cond.instanceMethod ({ cls := "AntLeaseModel", name := "readOneThing", desc := "()Z" } : Jvm.MethodName)),
  (Jvm.Cond.selects "AntLeaseModel" ({ cls := "AntLeaseModel", name := "readOneThing", desc := "()Z" } : Jvm.MethodName) ({ cls := "AntLeaseModel", name := "readOneThing", desc := "()Z" } : Jvm.MethodName)),
  (Jvm.Cond.methodLink "AntLeaseModel" (84 : Nat) ({ cls := "AntLeaseModel", name := "readOneFood", desc := "()Z" } : Jvm.MethodName)),
  (Jvm.Cond.methodLink "AntLeaseModel" (88 : Nat) ({ cls := "AntLeaseModel", name := "readOneThing", desc := "()Z" } : Jvm.MethodName)),
  (Jvm.Cond.code ({ cls := "AntLeaseModel", name := "readPart", desc := "()Z" } : Jvm.MethodName) prog_10_method_16_code (2 : Nat) (Option.some Jvm.ClassFile.FieldType.boolean)),
  (Jvm.Cond.instanceMethod ({ cls := "AntLeaseModel", name := "readPart", desc := "()Z" } : Jvm.MethodName)),
  (Jvm.Cond.selects "AntLeaseModel" ({ cls := "AntLeaseModel", name := "readPart", desc := "()Z" } : Jvm.MethodName) ({ cls := "AntLeaseModel", name := "readPart", desc := "()Z" } : Jvm.MethodName)),
  (Jvm.Cond.fieldLink "AntLeaseModel" (91 : Nat) "AntLeaseModel" "readSkirting" "I"),
  (Jvm.Cond.fieldLink "AntLeaseModel" (94 : Nat) "AntLeaseModel" "readWill" "I"),
  (Jvm.Cond.methodLink "AntLeaseModel" (97 : Nat) ({ cls := "AntLeaseModel", name := "readPart", desc := "()Z" } : Jvm.MethodName)),
  (Jvm.Cond.code ({ cls := "AntLeaseModel", name := "readManor", desc := "()I" } : Jvm.MethodName) prog_10_method_17_code (1 : Nat) (Option.some Jvm.ClassFile.FieldType.int)),
  (Jvm.Cond.instanceMethod ({ cls := "AntLeaseModel", name := "readManor", desc := "()I" } : Jvm.MethodName)),
  (Jvm.Cond.selects "AntLeaseModel" ({ cls := "AntLeaseModel", name := "readManor", desc := "()I" } : Jvm.MethodName) ({ cls := "AntLeaseModel", name := "readManor", desc := "()I" } : Jvm.MethodName)),
  (Jvm.Cond.methodLink "AntLeaseModel" (100 : Nat) ({ cls := "AntLeaseModel", name := "readManor", desc := "()I" } : Jvm.MethodName)),
  (Jvm.Cond.code ({ cls := "AntLeaseModel", name := "fault", desc := "()I" } : Jvm.MethodName) prog_10_method_18_code (1 : Nat) (Option.some Jvm.ClassFile.FieldType.int)),
  (Jvm.Cond.instanceMethod ({ cls := "AntLeaseModel", name := "fault", desc := "()I" } : Jvm.MethodName)),
  (Jvm.Cond.selects "AntLeaseModel" ({ cls := "AntLeaseModel", name := "fault", desc := "()I" } : Jvm.MethodName) ({ cls := "AntLeaseModel", name := "fault", desc := "()I" } : Jvm.MethodName)),
  (Jvm.Cond.fieldLink "AntLeaseModel" (104 : Nat) "AntLeaseModel" "skirting" "I"),
  (Jvm.Cond.fieldLink "AntLeaseModel" (22 : Nat) "AntLeaseModel" "page" "[I"),
  (Jvm.Cond.fieldLink "AntLeaseModel" (13 : Nat) "AntLeaseModel" "kind" "[I"),
  (Jvm.Cond.fieldLink "AntLeaseModel" (107 : Nat) "AntLeaseModel" "acts" "I"),
  (Jvm.Cond.fieldLink "AntLeaseModel" (34 : Nat) "AntLeaseModel" "isKept" "[Z"),
  (Jvm.Cond.code ({ cls := "AntLeaseModel", name := "manor", desc := "()I" } : Jvm.MethodName) prog_10_method_19_code (2 : Nat) (Option.some Jvm.ClassFile.FieldType.int)),
  (Jvm.Cond.instanceMethod ({ cls := "AntLeaseModel", name := "manor", desc := "()I" } : Jvm.MethodName)),
  (Jvm.Cond.selects "AntLeaseModel" ({ cls := "AntLeaseModel", name := "manor", desc := "()I" } : Jvm.MethodName) ({ cls := "AntLeaseModel", name := "manor", desc := "()I" } : Jvm.MethodName)),
  (Jvm.Cond.code ({ cls := "AntLeaseModel", name := "worth", desc := "([II)I" } : Jvm.MethodName) prog_10_method_20_code (4 : Nat) (Option.some Jvm.ClassFile.FieldType.int)),
  (Jvm.Cond.instanceMethod ({ cls := "AntLeaseModel", name := "worth", desc := "([II)I" } : Jvm.MethodName)),
  (Jvm.Cond.selects "AntLeaseModel" ({ cls := "AntLeaseModel", name := "worth", desc := "([II)I" } : Jvm.MethodName) ({ cls := "AntLeaseModel", name := "worth", desc := "([II)I" } : Jvm.MethodName)),
  (Jvm.Cond.methodLink "AntLeaseModel" (110 : Nat) ({ cls := "AntLeaseModel", name := "has", desc := "(II)Z" } : Jvm.MethodName)),
  (Jvm.Cond.methodLink "AntLeaseModel" (114 : Nat) ({ cls := "AntLeaseModel", name := "worth", desc := "([II)I" } : Jvm.MethodName)),
  (Jvm.Cond.code ({ cls := "AntLeaseModel", name := "worthOf", desc := "([II)I" } : Jvm.MethodName) prog_10_method_21_code (5 : Nat) (Option.some Jvm.ClassFile.FieldType.int)),
  (Jvm.Cond.instanceMethod ({ cls := "AntLeaseModel", name := "worthOf", desc := "([II)I" } : Jvm.MethodName)),
  (Jvm.Cond.selects "AntLeaseModel" ({ cls := "AntLeaseModel", name := "worthOf", desc := "([II)I" } : Jvm.MethodName) ({ cls := "AntLeaseModel", name := "worthOf", desc := "([II)I" } : Jvm.MethodName)),
  (Jvm.Cond.code ({ cls := "AntLeaseModel", name := "due", desc := "([I)I" } : Jvm.MethodName) prog_10_method_22_code (1 : Nat) (Option.some Jvm.ClassFile.FieldType.int)),
  (Jvm.Cond.static ({ cls := "AntLeaseModel", name := "due", desc := "([I)I" } : Jvm.MethodName)),
  (Jvm.Cond.methodLink "AntLeaseModel" (118 : Nat) ({ cls := "AntLeaseModel", name := "due", desc := "([I)I" } : Jvm.MethodName)),
  (Jvm.Cond.methodLink "AntLeaseModel" (122 : Nat) ({ cls := "AntLeaseModel", name := "worthOf", desc := "([II)I" } : Jvm.MethodName))]
theorem tb9_in_14 : ∀ w ∈ tb9_14, w ∈ lw_tbl := by
  intro w hw
  have hp : tb9_14 = [648, 647, 768, 767, 13, 761, 765, 760, 759, 11, 643, 644, 757, 752, 751, 9, 749, 748, 746, 747, 639, 649, 641, 652, 654, 772, 770, 771, 794, 793, 16, 788, 791, 787, 786, 15, 779, 778, 777, 784].filterMap (fun i => lw_tbl[i]?) := by decide +kernel
  rw [hp] at hw
  obtain ⟨i, -, hi⟩ := List.mem_filterMap.mp hw
  exact List.mem_of_getElem? hi
theorem tb9_good_14 : ∀ w ∈ tb9_14, goodWord w = true := List.all_eq_true.mp (by decide +kernel)
def tb9_15 : List Cond := [(Jvm.Cond.code ({ cls := "AntLeaseModel", name := "shortOf", desc := "([I)I" } : Jvm.MethodName) prog_10_method_23_code (3 : Nat) (Option.some Jvm.ClassFile.FieldType.int)),
  (Jvm.Cond.instanceMethod ({ cls := "AntLeaseModel", name := "shortOf", desc := "([I)I" } : Jvm.MethodName)),
  (Jvm.Cond.selects "AntLeaseModel" ({ cls := "AntLeaseModel", name := "shortOf", desc := "([I)I" } : Jvm.MethodName) ({ cls := "AntLeaseModel", name := "shortOf", desc := "([I)I" } : Jvm.MethodName)),
  (Jvm.Cond.code ({ cls := "AntLeaseModel", name := "reach", desc := "(III)I" } : Jvm.MethodName) prog_10_method_24_code (7 : Nat) (Option.some Jvm.ClassFile.FieldType.int)),
  (Jvm.Cond.static ({ cls := "AntLeaseModel", name := "reach", desc := "(III)I" } : Jvm.MethodName)),
  (Jvm.Cond.methodLink "AntLeaseModel" (125 : Nat) ({ cls := "AntLeaseModel", name := "reach", desc := "(III)I" } : Jvm.MethodName)),
  (Jvm.Cond.code ({ cls := "AntLeaseModel", name := "antsOf", desc := "([I)I" } : Jvm.MethodName) prog_10_method_25_code (2 : Nat) (Option.some Jvm.ClassFile.FieldType.int)),
  (Jvm.Cond.instanceMethod ({ cls := "AntLeaseModel", name := "antsOf", desc := "([I)I" } : Jvm.MethodName)),
  (Jvm.Cond.selects "AntLeaseModel" ({ cls := "AntLeaseModel", name := "antsOf", desc := "([I)I" } : Jvm.MethodName) ({ cls := "AntLeaseModel", name := "antsOf", desc := "([I)I" } : Jvm.MethodName)),
  (Jvm.Cond.methodLink "AntLeaseModel" (129 : Nat) ({ cls := "AntLeaseModel", name := "antsOf", desc := "([I)I" } : Jvm.MethodName)),
  (Jvm.Cond.code ({ cls := "AntLeaseModel", name := "known", desc := "([I)I" } : Jvm.MethodName) prog_10_method_26_code (5 : Nat) (Option.some Jvm.ClassFile.FieldType.int)),
  (Jvm.Cond.instanceMethod ({ cls := "AntLeaseModel", name := "known", desc := "([I)I" } : Jvm.MethodName)),
  (Jvm.Cond.selects "AntLeaseModel" ({ cls := "AntLeaseModel", name := "known", desc := "([I)I" } : Jvm.MethodName) ({ cls := "AntLeaseModel", name := "known", desc := "([I)I" } : Jvm.MethodName)),
  (Jvm.Cond.methodLink "AntLeaseModel" (132 : Nat) ({ cls := "AntLeaseModel", name := "shortOf", desc := "([I)I" } : Jvm.MethodName)),
  (Jvm.Cond.methodLink "AntLeaseModel" (135 : Nat) ({ cls := "AntLeaseModel", name := "many", desc := "(I)I" } : Jvm.MethodName)),
  (Jvm.Cond.code ({ cls := "AntLeaseModel", name := "goQuarter", desc := "([I)I" } : Jvm.MethodName) prog_10_method_27_code (5 : Nat) (Option.some Jvm.ClassFile.FieldType.int)),
  (Jvm.Cond.instanceMethod ({ cls := "AntLeaseModel", name := "goQuarter", desc := "([I)I" } : Jvm.MethodName)),
  (Jvm.Cond.selects "AntLeaseModel" ({ cls := "AntLeaseModel", name := "goQuarter", desc := "([I)I" } : Jvm.MethodName) ({ cls := "AntLeaseModel", name := "goQuarter", desc := "([I)I" } : Jvm.MethodName)),
  (Jvm.Cond.methodLink "AntLeaseModel" (138 : Nat) ({ cls := "AntLeaseModel", name := "known", desc := "([I)I" } : Jvm.MethodName)),
  (Jvm.Cond.fieldLink "AntLeaseModel" (141 : Nat) "AntLeaseModel" "said" "I"),
  (Jvm.Cond.code ({ cls := "AntLeaseModel", name := "about", desc := "(I)I" } : Jvm.MethodName) prog_10_method_28_code (2 : Nat) (Option.some Jvm.ClassFile.FieldType.int)),
  (Jvm.Cond.instanceMethod ({ cls := "AntLeaseModel", name := "about", desc := "(I)I" } : Jvm.MethodName)),
  (Jvm.Cond.selects "AntLeaseModel" ({ cls := "AntLeaseModel", name := "about", desc := "(I)I" } : Jvm.MethodName) ({ cls := "AntLeaseModel", name := "about", desc := "(I)I" } : Jvm.MethodName)),
  (Jvm.Cond.methodLink "AntLeaseModel" (144 : Nat) ({ cls := "AntLeaseModel", name := "noFood", desc := "(I)Z" } : Jvm.MethodName)),
  (Jvm.Cond.code ({ cls := "AntLeaseModel", name := "food", desc := "(II)I" } : Jvm.MethodName) prog_10_method_29_code (3 : Nat) (Option.some Jvm.ClassFile.FieldType.int)),
  (Jvm.Cond.instanceMethod ({ cls := "AntLeaseModel", name := "food", desc := "(II)I" } : Jvm.MethodName)),
  (Jvm.Cond.selects "AntLeaseModel" ({ cls := "AntLeaseModel", name := "food", desc := "(II)I" } : Jvm.MethodName) ({ cls := "AntLeaseModel", name := "food", desc := "(II)I" } : Jvm.MethodName)),
  (Jvm.Cond.methodLink "AntLeaseModel" (148 : Nat) ({ cls := "AntLeaseModel", name := "apart", desc := "(II)I" } : Jvm.MethodName)),
  (Jvm.Cond.code ({ cls := "AntLeaseModel", name := "astray", desc := "(I)I" } : Jvm.MethodName) prog_10_method_30_code (6 : Nat) (Option.some Jvm.ClassFile.FieldType.int)),
  (Jvm.Cond.instanceMethod ({ cls := "AntLeaseModel", name := "astray", desc := "(I)I" } : Jvm.MethodName)),
  (Jvm.Cond.selects "AntLeaseModel" ({ cls := "AntLeaseModel", name := "astray", desc := "(I)I" } : Jvm.MethodName) ({ cls := "AntLeaseModel", name := "astray", desc := "(I)I" } : Jvm.MethodName)),
  (Jvm.Cond.methodLink "AntLeaseModel" (152 : Nat) ({ cls := "AntLeaseModel", name := "noThing", desc := "(I)Z" } : Jvm.MethodName)),
  (Jvm.Cond.methodLink "AntLeaseModel" (155 : Nat) ({ cls := "AntLeaseModel", name := "astray", desc := "(I)I" } : Jvm.MethodName)),
  (Jvm.Cond.code ({ cls := "AntLeaseModel", name := "thing", desc := "(II)I" } : Jvm.MethodName) prog_10_method_31_code (3 : Nat) (Option.some Jvm.ClassFile.FieldType.int)),
  (Jvm.Cond.instanceMethod ({ cls := "AntLeaseModel", name := "thing", desc := "(II)I" } : Jvm.MethodName)),
  (Jvm.Cond.selects "AntLeaseModel" ({ cls := "AntLeaseModel", name := "thing", desc := "(II)I" } : Jvm.MethodName) ({ cls := "AntLeaseModel", name := "thing", desc := "(II)I" } : Jvm.MethodName)),
  (Jvm.Cond.fieldLink "AntLeaseModel" (28 : Nat) "AntLeaseModel" "book" "[I"),
  (Jvm.Cond.code ({ cls := "AntLeaseModel", name := "note", desc := "()V" } : Jvm.MethodName) prog_10_method_32_code (2 : Nat) (Option.none : Option Jvm.ClassFile.FieldType)),
  (Jvm.Cond.instanceMethod ({ cls := "AntLeaseModel", name := "note", desc := "()V" } : Jvm.MethodName)),
  (Jvm.Cond.selects "AntLeaseModel" ({ cls := "AntLeaseModel", name := "note", desc := "()V" } : Jvm.MethodName) ({ cls := "AntLeaseModel", name := "note", desc := "()V" } : Jvm.MethodName))]
theorem tb9_in_15 : ∀ w ∈ tb9_15, w ∈ lw_tbl := by
  intro w hw
  have hp : tb9_15 = [783, 782, 14, 801, 800, 799, 798, 797, 17, 795, 805, 804, 18, 780, 841, 840, 839, 23, 802, 655, 776, 774, 775, 810, 809, 807, 808, 826, 825, 824, 21, 818, 822, 817, 815, 816, 651, 836, 835, 22].filterMap (fun i => lw_tbl[i]?) := by decide +kernel
  rw [hp] at hw
  obtain ⟨i, -, hi⟩ := List.mem_filterMap.mp hw
  exact List.mem_of_getElem? hi
theorem tb9_good_15 : ∀ w ∈ tb9_15, goodWord w = true := List.all_eq_true.mp (by decide +kernel)
def tb9_16 : List Cond := [(Jvm.Cond.methodLink "AntLeaseModel" (158 : Nat) ({ cls := "AntLeaseModel", name := "note", desc := "()V" } : Jvm.MethodName)),
  (Jvm.Cond.methodLink "AntLeaseModel" (161 : Nat) ({ cls := "AntLeaseModel", name := "goQuarter", desc := "([I)I" } : Jvm.MethodName)),
  (Jvm.Cond.code ({ cls := "AntLeaseModel", name := "quarter", desc := "()I" } : Jvm.MethodName) prog_10_method_33_code (1 : Nat) (Option.some Jvm.ClassFile.FieldType.int)),
  (Jvm.Cond.instanceMethod ({ cls := "AntLeaseModel", name := "quarter", desc := "()I" } : Jvm.MethodName)),
  (Jvm.Cond.selects "AntLeaseModel" ({ cls := "AntLeaseModel", name := "quarter", desc := "()I" } : Jvm.MethodName) ({ cls := "AntLeaseModel", name := "quarter", desc := "()I" } : Jvm.MethodName)),
  (Jvm.Cond.code ({ cls := "AntLeaseModel", name := "goPut", desc := "([III)Z" } : Jvm.MethodName) prog_10_method_34_code (4 : Nat) (Option.some Jvm.ClassFile.FieldType.boolean)),
  (Jvm.Cond.static ({ cls := "AntLeaseModel", name := "goPut", desc := "([III)Z" } : Jvm.MethodName)),
  (Jvm.Cond.code ({ cls := "AntLeaseModel", name := "grains", desc := "(II)I" } : Jvm.MethodName) prog_10_method_35_code (3 : Nat) (Option.some Jvm.ClassFile.FieldType.int)),
  (Jvm.Cond.instanceMethod ({ cls := "AntLeaseModel", name := "grains", desc := "(II)I" } : Jvm.MethodName)),
  (Jvm.Cond.selects "AntLeaseModel" ({ cls := "AntLeaseModel", name := "grains", desc := "(II)I" } : Jvm.MethodName) ({ cls := "AntLeaseModel", name := "grains", desc := "(II)I" } : Jvm.MethodName)),
  (Jvm.Cond.methodLink "AntLeaseModel" (164 : Nat) ({ cls := "AntLeaseModel", name := "grains", desc := "(II)I" } : Jvm.MethodName)),
  (Jvm.Cond.code ({ cls := "AntLeaseModel", name := "goLeave", desc := "([III)Z" } : Jvm.MethodName) prog_10_method_36_code (6 : Nat) (Option.some Jvm.ClassFile.FieldType.boolean)),
  (Jvm.Cond.instanceMethod ({ cls := "AntLeaseModel", name := "goLeave", desc := "([III)Z" } : Jvm.MethodName)),
  (Jvm.Cond.selects "AntLeaseModel" ({ cls := "AntLeaseModel", name := "goLeave", desc := "([III)Z" } : Jvm.MethodName) ({ cls := "AntLeaseModel", name := "goLeave", desc := "([III)Z" } : Jvm.MethodName)),
  (Jvm.Cond.methodLink "AntLeaseModel" (167 : Nat) ({ cls := "AntLeaseModel", name := "goPut", desc := "([III)Z" } : Jvm.MethodName)),
  (Jvm.Cond.code ({ cls := "AntLeaseModel", name := "put", desc := "(II)I" } : Jvm.MethodName) prog_10_method_37_code (3 : Nat) (Option.some Jvm.ClassFile.FieldType.int)),
  (Jvm.Cond.instanceMethod ({ cls := "AntLeaseModel", name := "put", desc := "(II)I" } : Jvm.MethodName)),
  (Jvm.Cond.selects "AntLeaseModel" ({ cls := "AntLeaseModel", name := "put", desc := "(II)I" } : Jvm.MethodName) ({ cls := "AntLeaseModel", name := "put", desc := "(II)I" } : Jvm.MethodName)),
  (Jvm.Cond.code ({ cls := "AntLeaseModel", name := "eat", desc := "(II)I" } : Jvm.MethodName) prog_10_method_38_code (3 : Nat) (Option.some Jvm.ClassFile.FieldType.int)),
  (Jvm.Cond.instanceMethod ({ cls := "AntLeaseModel", name := "eat", desc := "(II)I" } : Jvm.MethodName)),
  (Jvm.Cond.selects "AntLeaseModel" ({ cls := "AntLeaseModel", name := "eat", desc := "(II)I" } : Jvm.MethodName) ({ cls := "AntLeaseModel", name := "eat", desc := "(II)I" } : Jvm.MethodName)),
  (Jvm.Cond.methodLink "AntLeaseModel" (171 : Nat) ({ cls := "AntLeaseModel", name := "goLeave", desc := "([III)Z" } : Jvm.MethodName)),
  (Jvm.Cond.code ({ cls := "AntLeaseModel", name := "leave", desc := "(II)I" } : Jvm.MethodName) prog_10_method_39_code (3 : Nat) (Option.some Jvm.ClassFile.FieldType.int)),
  (Jvm.Cond.instanceMethod ({ cls := "AntLeaseModel", name := "leave", desc := "(II)I" } : Jvm.MethodName)),
  (Jvm.Cond.selects "AntLeaseModel" ({ cls := "AntLeaseModel", name := "leave", desc := "(II)I" } : Jvm.MethodName) ({ cls := "AntLeaseModel", name := "leave", desc := "(II)I" } : Jvm.MethodName)),
  (Jvm.Cond.methodLink "AntLeaseModel" (174 : Nat) ({ cls := "AntLeaseModel", name := "noPlace", desc := "(I)Z" } : Jvm.MethodName)),
  (Jvm.Cond.code ({ cls := "AntLeaseModel", name := "move", desc := "(II)I" } : Jvm.MethodName) prog_10_method_40_code (4 : Nat) (Option.some Jvm.ClassFile.FieldType.int)),
  (Jvm.Cond.instanceMethod ({ cls := "AntLeaseModel", name := "move", desc := "(II)I" } : Jvm.MethodName)),
  (Jvm.Cond.selects "AntLeaseModel" ({ cls := "AntLeaseModel", name := "move", desc := "(II)I" } : Jvm.MethodName) ({ cls := "AntLeaseModel", name := "move", desc := "(II)I" } : Jvm.MethodName)),
  (Jvm.Cond.code ({ cls := "AntLeaseModel", name := "sprinkle", desc := "(I)I" } : Jvm.MethodName) prog_10_method_41_code (2 : Nat) (Option.some Jvm.ClassFile.FieldType.int)),
  (Jvm.Cond.instanceMethod ({ cls := "AntLeaseModel", name := "sprinkle", desc := "(I)I" } : Jvm.MethodName)),
  (Jvm.Cond.selects "AntLeaseModel" ({ cls := "AntLeaseModel", name := "sprinkle", desc := "(I)I" } : Jvm.MethodName) ({ cls := "AntLeaseModel", name := "sprinkle", desc := "(I)I" } : Jvm.MethodName)),
  (Jvm.Cond.code ({ cls := "AntLeaseModel", name := "undo", desc := "()I" } : Jvm.MethodName) prog_10_method_42_code (2 : Nat) (Option.some Jvm.ClassFile.FieldType.int)),
  (Jvm.Cond.instanceMethod ({ cls := "AntLeaseModel", name := "undo", desc := "()I" } : Jvm.MethodName)),
  (Jvm.Cond.selects "AntLeaseModel" ({ cls := "AntLeaseModel", name := "undo", desc := "()I" } : Jvm.MethodName) ({ cls := "AntLeaseModel", name := "undo", desc := "()I" } : Jvm.MethodName)),
  (Jvm.Cond.fieldLink "AntLeaseModel" (25 : Nat) "AntLeaseModel" "trial" "[I"),
  (Jvm.Cond.code ({ cls := "AntLeaseModel", name := "begin", desc := "()V" } : Jvm.MethodName) prog_10_method_43_code (2 : Nat) (Option.none : Option Jvm.ClassFile.FieldType)),
  (Jvm.Cond.instanceMethod ({ cls := "AntLeaseModel", name := "begin", desc := "()V" } : Jvm.MethodName)),
  (Jvm.Cond.selects "AntLeaseModel" ({ cls := "AntLeaseModel", name := "begin", desc := "()V" } : Jvm.MethodName) ({ cls := "AntLeaseModel", name := "begin", desc := "()V" } : Jvm.MethodName)),
  (Jvm.Cond.constantLong "AntLeaseModel" (177 : Nat) (20 : Int64))]
theorem tb9_in_16 : ∀ w ∈ tb9_16, w ∈ lw_tbl := by
  intro w hw
  have hp : tb9_16 = [833, 837, 832, 830, 831, 851, 850, 863, 862, 24, 860, 867, 866, 25, 849, 847, 845, 846, 855, 853, 854, 864, 859, 857, 858, 872, 871, 869, 870, 878, 876, 877, 882, 880, 881, 650, 892, 891, 26, 887].filterMap (fun i => lw_tbl[i]?) := by decide +kernel
  rw [hp] at hw
  obtain ⟨i, -, hi⟩ := List.mem_filterMap.mp hw
  exact List.mem_of_getElem? hi
theorem tb9_good_16 : ∀ w ∈ tb9_16, goodWord w = true := List.all_eq_true.mp (by decide +kernel)
def tb9_17 : List Cond := [(Jvm.Cond.constantLong "AntLeaseModel" (179 : Nat) (2 : Int64)),
  (Jvm.Cond.methodLink "AntLeaseModel" (181 : Nat) ({ cls := "AntLeaseModel", name := "begin", desc := "()V" } : Jvm.MethodName)),
  (Jvm.Cond.code ({ cls := "AntLeaseModel", name := "later", desc := "(II)I" } : Jvm.MethodName) prog_10_method_44_code (4 : Nat) (Option.some Jvm.ClassFile.FieldType.int)),
  (Jvm.Cond.instanceMethod ({ cls := "AntLeaseModel", name := "later", desc := "(II)I" } : Jvm.MethodName)),
  (Jvm.Cond.selects "AntLeaseModel" ({ cls := "AntLeaseModel", name := "later", desc := "(II)I" } : Jvm.MethodName) ({ cls := "AntLeaseModel", name := "later", desc := "(II)I" } : Jvm.MethodName)),
  (Jvm.Cond.methodLink "AntLeaseModel" (184 : Nat) ({ cls := "AntLeaseModel", name := "power", desc := "(II)I" } : Jvm.MethodName)),
  (Jvm.Cond.code ({ cls := "AntLeaseModel", name := "leaves", desc := "(I)I" } : Jvm.MethodName) prog_10_method_45_code (5 : Nat) (Option.some Jvm.ClassFile.FieldType.int)),
  (Jvm.Cond.instanceMethod ({ cls := "AntLeaseModel", name := "leaves", desc := "(I)I" } : Jvm.MethodName)),
  (Jvm.Cond.selects "AntLeaseModel" ({ cls := "AntLeaseModel", name := "leaves", desc := "(I)I" } : Jvm.MethodName) ({ cls := "AntLeaseModel", name := "leaves", desc := "(I)I" } : Jvm.MethodName)),
  (Jvm.Cond.fieldLink "AntLeaseModel" (187 : Nat) "AntLeaseModel" "leastMany" "I"),
  (Jvm.Cond.fieldLink "AntLeaseModel" (190 : Nat) "AntLeaseModel" "leastWay" "I"),
  (Jvm.Cond.methodLink "AntLeaseModel" (193 : Nat) ({ cls := "AntLeaseModel", name := "leaves", desc := "(I)I" } : Jvm.MethodName)),
  (Jvm.Cond.code ({ cls := "AntLeaseModel", name := "least", desc := "(I)I" } : Jvm.MethodName) prog_10_method_46_code (4 : Nat) (Option.some Jvm.ClassFile.FieldType.int)),
  (Jvm.Cond.instanceMethod ({ cls := "AntLeaseModel", name := "least", desc := "(I)I" } : Jvm.MethodName)),
  (Jvm.Cond.selects "AntLeaseModel" ({ cls := "AntLeaseModel", name := "least", desc := "(I)I" } : Jvm.MethodName) ({ cls := "AntLeaseModel", name := "least", desc := "(I)I" } : Jvm.MethodName)),
  (Jvm.Cond.code ({ cls := "AntLeaseModel", name := "longPower", desc := "(JI)J" } : Jvm.MethodName) prog_10_method_47_code (6 : Nat) (Option.some Jvm.ClassFile.FieldType.long)),
  (Jvm.Cond.static ({ cls := "AntLeaseModel", name := "longPower", desc := "(JI)J" } : Jvm.MethodName)),
  (Jvm.Cond.code ({ cls := "AntLeaseModel", name := "moves", desc := "(II)Z" } : Jvm.MethodName) prog_10_method_48_code (4 : Nat) (Option.some Jvm.ClassFile.FieldType.boolean)),
  (Jvm.Cond.instanceMethod ({ cls := "AntLeaseModel", name := "moves", desc := "(II)Z" } : Jvm.MethodName)),
  (Jvm.Cond.selects "AntLeaseModel" ({ cls := "AntLeaseModel", name := "moves", desc := "(II)Z" } : Jvm.MethodName) ({ cls := "AntLeaseModel", name := "moves", desc := "(II)Z" } : Jvm.MethodName)),
  (Jvm.Cond.code ({ cls := "AntLeaseModel", name := "sprinkles", desc := "(I)Z" } : Jvm.MethodName) prog_10_method_49_code (3 : Nat) (Option.some Jvm.ClassFile.FieldType.boolean)),
  (Jvm.Cond.instanceMethod ({ cls := "AntLeaseModel", name := "sprinkles", desc := "(I)Z" } : Jvm.MethodName)),
  (Jvm.Cond.selects "AntLeaseModel" ({ cls := "AntLeaseModel", name := "sprinkles", desc := "(I)Z" } : Jvm.MethodName) ({ cls := "AntLeaseModel", name := "sprinkles", desc := "(I)Z" } : Jvm.MethodName)),
  (Jvm.Cond.methodLink "AntLeaseModel" (196 : Nat) ({ cls := "AntLeaseModel", name := "moves", desc := "(II)Z" } : Jvm.MethodName)),
  (Jvm.Cond.methodLink "AntLeaseModel" (199 : Nat) ({ cls := "AntLeaseModel", name := "sprinkles", desc := "(I)Z" } : Jvm.MethodName)),
  (Jvm.Cond.code ({ cls := "AntLeaseModel", name := "does", desc := "(I)Z" } : Jvm.MethodName) prog_10_method_50_code (5 : Nat) (Option.some Jvm.ClassFile.FieldType.boolean)),
  (Jvm.Cond.instanceMethod ({ cls := "AntLeaseModel", name := "does", desc := "(I)Z" } : Jvm.MethodName)),
  (Jvm.Cond.selects "AntLeaseModel" ({ cls := "AntLeaseModel", name := "does", desc := "(I)Z" } : Jvm.MethodName) ({ cls := "AntLeaseModel", name := "does", desc := "(I)Z" } : Jvm.MethodName)),
  (Jvm.Cond.constantLong "AntLeaseModel" (202 : Nat) (4 : Int64)),
  (Jvm.Cond.constantLong "AntLeaseModel" (204 : Nat) (1000 : Int64)),
  (Jvm.Cond.methodLink "AntLeaseModel" (206 : Nat) ({ cls := "AntLeaseModel", name := "longPower", desc := "(JI)J" } : Jvm.MethodName)),
  (Jvm.Cond.methodLink "AntLeaseModel" (210 : Nat) ({ cls := "AntLeaseModel", name := "does", desc := "(I)Z" } : Jvm.MethodName)),
  (Jvm.Cond.code ({ cls := "AntLeaseModel", name := "judge", desc := "(IJ)I" } : Jvm.MethodName) prog_10_method_51_code (5 : Nat) (Option.some Jvm.ClassFile.FieldType.int)),
  (Jvm.Cond.instanceMethod ({ cls := "AntLeaseModel", name := "judge", desc := "(IJ)I" } : Jvm.MethodName)),
  (Jvm.Cond.selects "AntLeaseModel" ({ cls := "AntLeaseModel", name := "judge", desc := "(IJ)I" } : Jvm.MethodName) ({ cls := "AntLeaseModel", name := "judge", desc := "(IJ)I" } : Jvm.MethodName)),
  (Jvm.Cond.code ({ cls := "AntLeaseModel", name := "ways", desc := "(I)I" } : Jvm.MethodName) prog_10_method_52_code (3 : Nat) (Option.some Jvm.ClassFile.FieldType.int)),
  (Jvm.Cond.static ({ cls := "AntLeaseModel", name := "ways", desc := "(I)I" } : Jvm.MethodName)),
  (Jvm.Cond.code ({ cls := "AntLeaseModel", name := "divisor", desc := "(II)I" } : Jvm.MethodName) prog_10_method_53_code (5 : Nat) (Option.some Jvm.ClassFile.FieldType.int)),
  (Jvm.Cond.static ({ cls := "AntLeaseModel", name := "divisor", desc := "(II)I" } : Jvm.MethodName)),
  (Jvm.Cond.methodLink "AntLeaseModel" (213 : Nat) ({ cls := "AntLeaseModel", name := "divisor", desc := "(II)I" } : Jvm.MethodName))]
theorem tb9_in_17 : ∀ w ∈ tb9_17, w ∈ lw_tbl := by
  intro w hw
  have hp : tb9_17 = [888, 889, 886, 884, 885, 897, 903, 902, 27, 659, 660, 900, 896, 894, 895, 912, 911, 920, 919, 29, 924, 923, 30, 917, 921, 916, 915, 28, 908, 909, 910, 913, 907, 905, 906, 931, 930, 937, 936, 935].filterMap (fun i => lw_tbl[i]?) := by decide +kernel
  rw [hp] at hw
  obtain ⟨i, -, hi⟩ := List.mem_filterMap.mp hw
  exact List.mem_of_getElem? hi
theorem tb9_good_17 : ∀ w ∈ tb9_17, goodWord w = true := List.all_eq_true.mp (by decide +kernel)
def tb9_18 : List Cond := [(Jvm.Cond.code ({ cls := "AntLeaseModel", name := "fraction", desc := "(IIZ)I" } : Jvm.MethodName) prog_10_method_54_code (4 : Nat) (Option.some Jvm.ClassFile.FieldType.int)),
  (Jvm.Cond.static ({ cls := "AntLeaseModel", name := "fraction", desc := "(IIZ)I" } : Jvm.MethodName)),
  (Jvm.Cond.fieldLink "AntLeaseModel" (47 : Nat) "AntLeaseModel" "value" "[I"),
  (Jvm.Cond.methodLink "AntLeaseModel" (216 : Nat) ({ cls := "AntLeaseModel", name := "ways", desc := "(I)I" } : Jvm.MethodName)),
  (Jvm.Cond.methodLink "AntLeaseModel" (219 : Nat) ({ cls := "AntLeaseModel", name := "fraction", desc := "(IIZ)I" } : Jvm.MethodName)),
  (Jvm.Cond.code ({ cls := "AntLeaseModel", name := "share", desc := "(IZ)I" } : Jvm.MethodName) prog_10_method_55_code (7 : Nat) (Option.some Jvm.ClassFile.FieldType.int)),
  (Jvm.Cond.instanceMethod ({ cls := "AntLeaseModel", name := "share", desc := "(IZ)I" } : Jvm.MethodName)),
  (Jvm.Cond.selects "AntLeaseModel" ({ cls := "AntLeaseModel", name := "share", desc := "(IZ)I" } : Jvm.MethodName) ({ cls := "AntLeaseModel", name := "share", desc := "(IZ)I" } : Jvm.MethodName)),
  (Jvm.Cond.fieldLink "AntLeaseModel" (38 : Nat) "AntLeaseModel" "saidAt" "[I"),
  (Jvm.Cond.fieldLink "AntLeaseModel" (41 : Nat) "AntLeaseModel" "saidIs" "[I"),
  (Jvm.Cond.code ({ cls := "AntLeaseModel", name := "say", desc := "(II)I" } : Jvm.MethodName) prog_10_method_56_code (3 : Nat) (Option.some Jvm.ClassFile.FieldType.int)),
  (Jvm.Cond.instanceMethod ({ cls := "AntLeaseModel", name := "say", desc := "(II)I" } : Jvm.MethodName)),
  (Jvm.Cond.selects "AntLeaseModel" ({ cls := "AntLeaseModel", name := "say", desc := "(II)I" } : Jvm.MethodName) ({ cls := "AntLeaseModel", name := "say", desc := "(II)I" } : Jvm.MethodName)),
  (Jvm.Cond.code ({ cls := "AntLeaseModel", name := "unsay", desc := "()I" } : Jvm.MethodName) prog_10_method_57_code (2 : Nat) (Option.some Jvm.ClassFile.FieldType.int)),
  (Jvm.Cond.instanceMethod ({ cls := "AntLeaseModel", name := "unsay", desc := "()I" } : Jvm.MethodName)),
  (Jvm.Cond.selects "AntLeaseModel" ({ cls := "AntLeaseModel", name := "unsay", desc := "()I" } : Jvm.MethodName) ({ cls := "AntLeaseModel", name := "unsay", desc := "()I" } : Jvm.MethodName)),
  (Jvm.Cond.fieldLink "AntLeaseModel" (223 : Nat) "AntLeaseModel" "lineMany" "I"),
  (Jvm.Cond.fieldLink "AntLeaseModel" (226 : Nat) "AntLeaseModel" "lineFirst" "I"),
  (Jvm.Cond.code ({ cls := "AntLeaseModel", name := "lines", desc := "(I)I" } : Jvm.MethodName) prog_10_method_58_code (6 : Nat) (Option.some Jvm.ClassFile.FieldType.int)),
  (Jvm.Cond.instanceMethod ({ cls := "AntLeaseModel", name := "lines", desc := "(I)I" } : Jvm.MethodName)),
  (Jvm.Cond.selects "AntLeaseModel" ({ cls := "AntLeaseModel", name := "lines", desc := "(I)I" } : Jvm.MethodName) ({ cls := "AntLeaseModel", name := "lines", desc := "(I)I" } : Jvm.MethodName)),
  (Jvm.Cond.fieldLink "AntLeaseModel" (44 : Nat) "AntLeaseModel" "gains" "[I"),
  (Jvm.Cond.fieldLink "AntLeaseModel" (229 : Nat) "AntLeaseModel" "restMany" "I"),
  (Jvm.Cond.fieldLink "AntLeaseModel" (232 : Nat) "AntLeaseModel" "restFirst" "I"),
  (Jvm.Cond.code ({ cls := "AntLeaseModel", name := "rests", desc := "(III)I" } : Jvm.MethodName) prog_10_method_59_code (7 : Nat) (Option.some Jvm.ClassFile.FieldType.int)),
  (Jvm.Cond.instanceMethod ({ cls := "AntLeaseModel", name := "rests", desc := "(III)I" } : Jvm.MethodName)),
  (Jvm.Cond.selects "AntLeaseModel" ({ cls := "AntLeaseModel", name := "rests", desc := "(III)I" } : Jvm.MethodName) ({ cls := "AntLeaseModel", name := "rests", desc := "(III)I" } : Jvm.MethodName)),
  (Jvm.Cond.constantLong "AntLeaseModel" (235 : Nat) (5 : Int64)),
  (Jvm.Cond.constantLong "AntLeaseModel" (237 : Nat) (10 : Int64)),
  (Jvm.Cond.code ({ cls := "AntLeaseModel", name := "stray", desc := "(IIZ)I" } : Jvm.MethodName) prog_10_method_60_code (7 : Nat) (Option.some Jvm.ClassFile.FieldType.int)),
  (Jvm.Cond.instanceMethod ({ cls := "AntLeaseModel", name := "stray", desc := "(IIZ)I" } : Jvm.MethodName)),
  (Jvm.Cond.selects "AntLeaseModel" ({ cls := "AntLeaseModel", name := "stray", desc := "(IIZ)I" } : Jvm.MethodName) ({ cls := "AntLeaseModel", name := "stray", desc := "(IIZ)I" } : Jvm.MethodName)),
  (Jvm.Cond.fieldLink "AntLeaseModel" (239 : Nat) "AntLeaseModel" "seed" "J"),
  (Jvm.Cond.code ({ cls := "AntLeaseModel", name := "seed", desc := "(J)J" } : Jvm.MethodName) prog_10_method_61_code (5 : Nat) (Option.some Jvm.ClassFile.FieldType.long)),
  (Jvm.Cond.instanceMethod ({ cls := "AntLeaseModel", name := "seed", desc := "(J)J" } : Jvm.MethodName)),
  (Jvm.Cond.selects "AntLeaseModel" ({ cls := "AntLeaseModel", name := "seed", desc := "(J)J" } : Jvm.MethodName) ({ cls := "AntLeaseModel", name := "seed", desc := "(J)J" } : Jvm.MethodName)),
  (Jvm.Cond.constantLong "AntLeaseModel" (243 : Nat) (30 : Int64)),
  (Jvm.Cond.constantLong "AntLeaseModel" (245 : Nat) (6364136223846793005 : Int64)),
  (Jvm.Cond.constantLong "AntLeaseModel" (247 : Nat) (1442695040888963407 : Int64)),
  (Jvm.Cond.constantLong "AntLeaseModel" (249 : Nat) (32 : Int64))]
theorem tb9_in_18 : ∀ w ∈ tb9_18, w ∈ lw_tbl := by
  intro w hw
  have hp : tb9_18 = [934, 933, 666, 929, 932, 928, 926, 927, 656, 657, 941, 939, 940, 945, 943, 944, 661, 662, 949, 947, 948, 665, 663, 664, 953, 951, 952, 958, 959, 957, 955, 956, 658, 963, 961, 962, 968, 969, 970, 971].filterMap (fun i => lw_tbl[i]?) := by decide +kernel
  rw [hp] at hw
  obtain ⟨i, -, hi⟩ := List.mem_filterMap.mp hw
  exact List.mem_of_getElem? hi
theorem tb9_good_18 : ∀ w ∈ tb9_18, goodWord w = true := List.all_eq_true.mp (by decide +kernel)
def tb9_19 : List Cond := [(Jvm.Cond.code ({ cls := "AntLeaseModel", name := "years", desc := "(I)I" } : Jvm.MethodName) prog_10_method_62_code (5 : Nat) (Option.some Jvm.ClassFile.FieldType.int)),
  (Jvm.Cond.instanceMethod ({ cls := "AntLeaseModel", name := "years", desc := "(I)I" } : Jvm.MethodName)),
  (Jvm.Cond.selects "AntLeaseModel" ({ cls := "AntLeaseModel", name := "years", desc := "(I)I" } : Jvm.MethodName) ({ cls := "AntLeaseModel", name := "years", desc := "(I)I" } : Jvm.MethodName)),
  (Jvm.Cond.fieldLink "AntLeaseModel" (31 : Nat) "AntLeaseModel" "kept" "[I"),
  (Jvm.Cond.code ({ cls := "AntLeaseModel", name := "keep", desc := "(I)I" } : Jvm.MethodName) prog_10_method_63_code (3 : Nat) (Option.some Jvm.ClassFile.FieldType.int)),
  (Jvm.Cond.instanceMethod ({ cls := "AntLeaseModel", name := "keep", desc := "(I)I" } : Jvm.MethodName)),
  (Jvm.Cond.selects "AntLeaseModel" ({ cls := "AntLeaseModel", name := "keep", desc := "(I)I" } : Jvm.MethodName) ({ cls := "AntLeaseModel", name := "keep", desc := "(I)I" } : Jvm.MethodName)),
  (Jvm.Cond.code ({ cls := "AntLeaseModel", name := "again", desc := "(I)I" } : Jvm.MethodName) prog_10_method_64_code (3 : Nat) (Option.some Jvm.ClassFile.FieldType.int)),
  (Jvm.Cond.instanceMethod ({ cls := "AntLeaseModel", name := "again", desc := "(I)I" } : Jvm.MethodName)),
  (Jvm.Cond.selects "AntLeaseModel" ({ cls := "AntLeaseModel", name := "again", desc := "(I)I" } : Jvm.MethodName) ({ cls := "AntLeaseModel", name := "again", desc := "(I)I" } : Jvm.MethodName)),
  (Jvm.Cond.constant "java/lang/Integer" (265 : Nat) (1431655765 : Int32)),
  (Jvm.Cond.constant "java/lang/Integer" (266 : Nat) (858993459 : Int32)),
  (Jvm.Cond.constant "java/lang/Integer" (267 : Nat) (252645135 : Int32)),
  (Jvm.Cond.code ({ cls := "java/lang/Integer", name := "bitCount", desc := "(I)I" } : Jvm.MethodName) prog_11_method_49_code (1 : Nat) (Option.some Jvm.ClassFile.FieldType.int)),
  (Jvm.Cond.initialized "java/lang/Integer"),
  (Jvm.Cond.static ({ cls := "java/lang/Integer", name := "bitCount", desc := "(I)I" } : Jvm.MethodName))]
theorem tb9_in_19 : ∀ w ∈ tb9_19, w ∈ lw_tbl := by
  intro w hw
  have hp : tb9_19 = [967, 965, 966, 653, 975, 973, 974, 979, 977, 978, 391, 392, 393, 390, 42, 389].filterMap (fun i => lw_tbl[i]?) := by decide +kernel
  rw [hp] at hw
  obtain ⟨i, -, hi⟩ := List.mem_filterMap.mp hw
  exact List.mem_of_getElem? hi
theorem tb9_good_19 : ∀ w ∈ tb9_19, goodWord w = true := List.all_eq_true.mp (by decide +kernel)
def tb9 : List Cond := tb9_0 ++ (tb9_1 ++ (tb9_2 ++ (tb9_3 ++ (tb9_4 ++ (tb9_5 ++ (tb9_6 ++ (tb9_7 ++ (tb9_8 ++ (tb9_9 ++ (tb9_10 ++ (tb9_11 ++ (tb9_12 ++ (tb9_13 ++ (tb9_14 ++ (tb9_15 ++ (tb9_16 ++ (tb9_17 ++ (tb9_18 ++ (tb9_19)))))))))))))))))))
theorem tb9_in : ∀ w ∈ tb9, w ∈ lw_tbl := List.forall_mem_append.mpr ⟨tb9_in_0, List.forall_mem_append.mpr ⟨tb9_in_1, List.forall_mem_append.mpr ⟨tb9_in_2, List.forall_mem_append.mpr ⟨tb9_in_3, List.forall_mem_append.mpr ⟨tb9_in_4, List.forall_mem_append.mpr ⟨tb9_in_5, List.forall_mem_append.mpr ⟨tb9_in_6, List.forall_mem_append.mpr ⟨tb9_in_7, List.forall_mem_append.mpr ⟨tb9_in_8, List.forall_mem_append.mpr ⟨tb9_in_9, List.forall_mem_append.mpr ⟨tb9_in_10, List.forall_mem_append.mpr ⟨tb9_in_11, List.forall_mem_append.mpr ⟨tb9_in_12, List.forall_mem_append.mpr ⟨tb9_in_13, List.forall_mem_append.mpr ⟨tb9_in_14, List.forall_mem_append.mpr ⟨tb9_in_15, List.forall_mem_append.mpr ⟨tb9_in_16, List.forall_mem_append.mpr ⟨tb9_in_17, List.forall_mem_append.mpr ⟨tb9_in_18, tb9_in_19⟩⟩⟩⟩⟩⟩⟩⟩⟩⟩⟩⟩⟩⟩⟩⟩⟩⟩⟩
theorem tb9_good : ∀ w ∈ tb9, goodWord w = true := List.forall_mem_append.mpr ⟨tb9_good_0, List.forall_mem_append.mpr ⟨tb9_good_1, List.forall_mem_append.mpr ⟨tb9_good_2, List.forall_mem_append.mpr ⟨tb9_good_3, List.forall_mem_append.mpr ⟨tb9_good_4, List.forall_mem_append.mpr ⟨tb9_good_5, List.forall_mem_append.mpr ⟨tb9_good_6, List.forall_mem_append.mpr ⟨tb9_good_7, List.forall_mem_append.mpr ⟨tb9_good_8, List.forall_mem_append.mpr ⟨tb9_good_9, List.forall_mem_append.mpr ⟨tb9_good_10, List.forall_mem_append.mpr ⟨tb9_good_11, List.forall_mem_append.mpr ⟨tb9_good_12, List.forall_mem_append.mpr ⟨tb9_good_13, List.forall_mem_append.mpr ⟨tb9_good_14, List.forall_mem_append.mpr ⟨tb9_good_15, List.forall_mem_append.mpr ⟨tb9_good_16, List.forall_mem_append.mpr ⟨tb9_good_17, List.forall_mem_append.mpr ⟨tb9_good_18, tb9_good_19⟩⟩⟩⟩⟩⟩⟩⟩⟩⟩⟩⟩⟩⟩⟩⟩⟩⟩⟩
def nst9 : List pm_N := [("AntLease$House", 84, ({ cls := "AntLease", name := "has", desc := "(II)Z" } : Jvm.MethodName), "AntLease"), ("AntLease$House", 127, ({ cls := "AntLease", name := "isPlace", desc := "(I)Z" } : Jvm.MethodName), "AntLease"), ("AntLease$Said", 21, ({ cls := "AntLease", name := "isPlace", desc := "(I)Z" } : Jvm.MethodName), "AntLease")]
theorem nst9_in : ∀ q ∈ nst9, Cond.methodLinkNest q.1 q.2.1 q.2.2.1 q.2.2.2 ∈ lw_tbl := by
  intro q hq
  unfold nst9 at hq
  simp only [List.mem_cons, List.not_mem_nil, or_false] at hq
  rcases hq with rfl | rfl | rfl
  · exact List.mem_of_getElem? (i := 304) (by decide +kernel)
  · exact List.mem_of_getElem? (i := 447) (by decide +kernel)
  · exact List.mem_of_getElem? (i := 536) (by decide +kernel)
theorem cls9_0 : (∀ w ∈ u_ws RX0 TX0 1, w ∈ tb9) ∧ (∀ k, k < 1 → (parseFieldDescriptor (TX0 k).2.2.1).isSome = true) ∧ ∀ a, a < 1 → ∀ b, b < 1 → a ≠ b → (TX0 a).2.1 ≠ (TX0 b).2.1 := ⟨by decide +kernel, by decide +kernel, by decide +kernel⟩
theorem cls9_1 : (∀ w ∈ u_ws RX1 TX1 2, w ∈ tb9) ∧ (∀ k, k < 2 → (parseFieldDescriptor (TX1 k).2.2.1).isSome = true) ∧ ∀ a, a < 2 → ∀ b, b < 2 → a ≠ b → (TX1 a).2.1 ≠ (TX1 b).2.1 := ⟨by decide +kernel, by decide +kernel, by decide +kernel⟩
theorem cls9_2 : (∀ w ∈ u_ws RX2 TX2 3, w ∈ tb9) ∧ (∀ k, k < 3 → (parseFieldDescriptor (TX2 k).2.2.1).isSome = true) ∧ ∀ a, a < 3 → ∀ b, b < 3 → a ≠ b → (TX2 a).2.1 ≠ (TX2 b).2.1 := ⟨by decide +kernel, by decide +kernel, by decide +kernel⟩
theorem cls9_3 : (∀ w ∈ u_ws RX0 TX0 1, w ∈ tb9) ∧ (∀ k, k < 1 → (parseFieldDescriptor (TX0 k).2.2.1).isSome = true) ∧ ∀ a, a < 1 → ∀ b, b < 1 → a ≠ b → (TX0 a).2.1 ≠ (TX0 b).2.1 := cls9_0
theorem cls9_4 : (∀ w ∈ u_ws RX4 TX4 3, w ∈ tb9) ∧ (∀ k, k < 3 → (parseFieldDescriptor (TX4 k).2.2.1).isSome = true) ∧ ∀ a, a < 3 → ∀ b, b < 3 → a ≠ b → (TX4 a).2.1 ≠ (TX4 b).2.1 := ⟨by decide +kernel, by decide +kernel, by decide +kernel⟩
theorem cls9_5 : (∀ w ∈ u_ws RX5 TX5 2, w ∈ tb9) ∧ (∀ k, k < 2 → (parseFieldDescriptor (TX5 k).2.2.1).isSome = true) ∧ ∀ a, a < 2 → ∀ b, b < 2 → a ≠ b → (TX5 a).2.1 ≠ (TX5 b).2.1 := ⟨by decide +kernel, by decide +kernel, by decide +kernel⟩
theorem cls9_6 : (∀ w ∈ u_ws RX6 TX6 2, w ∈ tb9) ∧ (∀ k, k < 2 → (parseFieldDescriptor (TX6 k).2.2.1).isSome = true) ∧ ∀ a, a < 2 → ∀ b, b < 2 → a ≠ b → (TX6 a).2.1 ≠ (TX6 b).2.1 := ⟨by decide +kernel, by decide +kernel, by decide +kernel⟩
theorem cls9_7 : (∀ w ∈ u_ws RX7 TX7 10, w ∈ tb9) ∧ (∀ k, k < 10 → (parseFieldDescriptor (TX7 k).2.2.1).isSome = true) ∧ ∀ a, a < 10 → ∀ b, b < 10 → a ≠ b → (TX7 a).2.1 ≠ (TX7 b).2.1 := ⟨by decide +kernel, by decide +kernel, by decide +kernel⟩
theorem cls9_8 : (∀ w ∈ u_ws RX8 TX8 32, w ∈ tb9) ∧ (∀ k, k < 32 → (parseFieldDescriptor (TX8 k).2.2.1).isSome = true) ∧ ∀ a, a < 32 → ∀ b, b < 32 → a ≠ b → (TX8 a).2.1 ≠ (TX8 b).2.1 := ⟨by decide +kernel, by decide +kernel, by decide +kernel⟩
theorem cls9_ok : ∀ q ∈ cls9, (∀ w ∈ u_ws q.1 q.2.1 q.2.2, w ∈ tb9) ∧ (∀ k, k < q.2.2 → (parseFieldDescriptor (q.2.1 k).2.2.1).isSome = true) ∧ ∀ a, a < q.2.2 → ∀ b, b < q.2.2 → a ≠ b → (q.2.1 a).2.1 ≠ (q.2.1 b).2.1 := by
  unfold cls9
  exact List.forall_mem_cons.mpr ⟨cls9_0, List.forall_mem_cons.mpr ⟨cls9_1, List.forall_mem_cons.mpr ⟨cls9_2, List.forall_mem_cons.mpr ⟨cls9_3, List.forall_mem_cons.mpr ⟨cls9_4, List.forall_mem_cons.mpr ⟨cls9_5, List.forall_mem_cons.mpr ⟨cls9_6, List.forall_mem_cons.mpr ⟨cls9_7, List.forall_mem_cons.mpr ⟨cls9_8, fun _ h => absurd h List.not_mem_nil⟩⟩⟩⟩⟩⟩⟩⟩⟩
