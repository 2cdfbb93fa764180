/-! LINKS: made by wip/whole/gen/emit4.py. -/
def cwp : List Nat → List Cond → List Cond
  | [], _ => []
  | g :: gs, l => match l.drop g with
    | [] => []
    | w :: r => w :: cwp gs r
theorem cwp_sub : ∀ (gs : List Nat) (l : List Cond), ∀ w ∈ cwp gs l, w ∈ l := by
  intro gs
  induction gs with
  | nil => intro l w h; cases h
  | cons g gs ih =>
    intro l w h
    unfold cwp at h
    split at h
    · cases h
    · rename_i v r e
      have hd : ∀ x ∈ v :: r, x ∈ l := fun x hx => List.mem_of_mem_drop (e ▸ hx)
      rcases List.mem_cons.mp h with rfl | h
      · exact hd _ List.mem_cons_self
      · exact hd _ (List.mem_cons_of_mem _ (ih r w h))
def sq_gaps : List Nat := [157, 2, 4, 47, 62, 11, 27, 18, 33, 24, 3, 34, 94, 176, 3, 3, 3, 3, 3, 3, 3, 3, 2, 3, 3, 3, 3, 2, 2, 3, 2, 9, 3, 3, 3, 2, 3, 3, 3, 3, 3, 3, 3, 3, 4, 3, 4, 3, 3, 3, 3, 3, 3, 3, 3, 4, 3, 4, 4, 4, 3, 3, 3, 4, 3, 3, 3, 3, 2, 5, 2, 24, 20, 2, 2, 16, 11, 5, 4, 2, 11, 6, 4, 3, 3, 3, 3, 4, 5, 5, 2, 3, 2, 5, 3, 2, 3, 3, 4, 2, 4, 11, 6, 3, 2, 3, 4, 3, 4, 3, 3, 3, 3, 4, 4, 3, 3, 5, 3, 2, 2, 4, 2, 2, 2, 3, 9, 3, 4, 4, 3, 3, 3, 4, 3, 2, 3, 3, 4, 7, 11, 23, 2, 3, 3, 3, 3, 3, 3, 3, 3, 2, 2, 3, 2, 3, 3, 3, 4, 3, 11, 6, 2, 3, 2, 3, 3, 3, 3, 3, 5, 3, 2, 3, 3, 3, 5, 3, 3, 3, 4, 6, 5, 3, 4, 3, 3, 3, 3, 3, 3, 3, 2, 3, 3, 3, 3, 4, 3, 3, 2, 3, 3, 2, 3, 2, 3, 3, 3, 3, 2, 3, 2, 3, 3, 2, 3, 3, 3, 4, 3, 3, 4, 3, 3, 3, 3, 3, 4, 4, 3, 3, 2, 3, 3, 2, 3, 2, 3, 4, 3, 3, 3, 4, 3, 3, 3, 5, 3, 6, 2, 3, 3, 3, 3, 2, 3, 3, 3, 3, 3, 2, 3, 4, 2, 3, 3, 3, 2, 3, 3, 4, 4, 4, 3, 3, 2, 3, 2, 3, 3, 4, 4, 102, 3, 3, 3, 2, 2, 3, 3, 3, 3, 3, 3, 3, 5, 3, 2, 3, 3, 3, 3, 3, 3, 3, 3, 3, 3, 2, 3, 2, 4, 3, 3, 3, 3, 3, 3, 3, 3, 3, 3, 4, 13, 4, 3, 3, 3, 3, 4, 16, 3, 3, 3, 3, 2, 3, 3, 3, 3, 3, 3, 3, 2, 3, 3, 3, 3, 3, 3, 3, 3, 3, 3, 3, 3, 3, 4, 3, 3, 3, 3, 4, 3, 2, 4, 3, 3, 3, 3, 3, 3, 3, 3, 3, 3, 3, 3, 3, 3, 3, 3, 3, 3, 3, 3, 3, 3, 3, 3, 3, 3, 4, 2, 3, 3, 3, 3, 3, 3, 3, 3, 3, 4, 3, 3, 3, 3, 3, 3, 3, 3, 3, 3, 3, 3]
def sq_cw : List Cond := [(Jvm.Cond.code ({ cls := "OakYard", name := "<init>", desc := "()V" } : Jvm.MethodName) prog_1_method_1_code (1 : Nat) (Option.none : Option Jvm.ClassFile.FieldType)),
  (Jvm.Cond.code ({ cls := "java/lang/Object", name := "<init>", desc := "()V" } : Jvm.MethodName) object_method_1_code (1 : Nat) (Option.none : Option Jvm.ClassFile.FieldType)),
  (Jvm.Cond.code ({ cls := "OakYard$Tape", name := "<init>", desc := "()V" } : Jvm.MethodName) prog_8_method_1_code (1 : Nat) (Option.none : Option Jvm.ClassFile.FieldType)),
  (Jvm.Cond.code ({ cls := "OakYard$Finder", name := "<init>", desc := "()V" } : Jvm.MethodName) prog_3_method_1_code (1 : Nat) (Option.none : Option Jvm.ClassFile.FieldType)),
  (Jvm.Cond.code ({ cls := "OakYard$Yard", name := "<init>", desc := "()V" } : Jvm.MethodName) prog_12_method_1_code (2 : Nat) (Option.none : Option Jvm.ClassFile.FieldType)),
  (Jvm.Cond.code ({ cls := "OakYard$Warrants", name := "<init>", desc := "()V" } : Jvm.MethodName) prog_11_method_1_code (1 : Nat) (Option.none : Option Jvm.ClassFile.FieldType)),
  (Jvm.Cond.code ({ cls := "OakYard$Harbour", name := "<init>", desc := "()V" } : Jvm.MethodName) prog_4_method_1_code (1 : Nat) (Option.none : Option Jvm.ClassFile.FieldType)),
  (Jvm.Cond.code ({ cls := "OakYard$Books", name := "<init>", desc := "()V" } : Jvm.MethodName) prog_2_method_1_code (1 : Nat) (Option.none : Option Jvm.ClassFile.FieldType)),
  (Jvm.Cond.code ({ cls := "OakYard$Plan", name := "<init>", desc := "()V" } : Jvm.MethodName) prog_6_method_1_code (1 : Nat) (Option.none : Option Jvm.ClassFile.FieldType)),
  (Jvm.Cond.code ({ cls := "java/util/Arrays", name := "fill", desc := "([II)V" } : Jvm.MethodName) prog_34_method_103_code (4 : Nat) (Option.none : Option Jvm.ClassFile.FieldType)),
  (Jvm.Cond.code ({ cls := "OakYard$Tree", name := "<init>", desc := "()V" } : Jvm.MethodName) prog_10_method_1_code (1 : Nat) (Option.none : Option Jvm.ClassFile.FieldType)),
  (Jvm.Cond.code ({ cls := "OakYard$Piece", name := "<init>", desc := "()V" } : Jvm.MethodName) prog_5_method_1_code (1 : Nat) (Option.none : Option Jvm.ClassFile.FieldType)),
  (Jvm.Cond.code ({ cls := "OakYard$Ship", name := "<init>", desc := "()V" } : Jvm.MethodName) prog_7_method_1_code (1 : Nat) (Option.none : Option Jvm.ClassFile.FieldType)),
  (Jvm.Cond.code ({ cls := "OakYard", name := "feed", desc := "(IIIII)I" } : Jvm.MethodName) prog_1_method_2_code (6 : Nat) (Option.some Jvm.ClassFile.FieldType.int)),
  (Jvm.Cond.code ({ cls := "OakYard$Tape", name := "takeFive", desc := "(IIIII)I" } : Jvm.MethodName) prog_8_method_2_code (6 : Nat) (Option.some Jvm.ClassFile.FieldType.int)),
  (Jvm.Cond.code ({ cls := "OakYard$Tape", name := "takeFour", desc := "(I)V" } : Jvm.MethodName) prog_8_method_3_code (3 : Nat) (Option.none : Option Jvm.ClassFile.FieldType)),
  (Jvm.Cond.code ({ cls := "OakYard", name := "end", desc := "(I)Z" } : Jvm.MethodName) prog_1_method_3_code (2 : Nat) (Option.some Jvm.ClassFile.FieldType.boolean)),
  (Jvm.Cond.code ({ cls := "OakYard$Tape", name := "cutTo", desc := "(I)Z" } : Jvm.MethodName) prog_8_method_4_code (2 : Nat) (Option.some Jvm.ClassFile.FieldType.boolean)),
  (Jvm.Cond.code ({ cls := "OakYard", name := "fault", desc := "()I" } : Jvm.MethodName) prog_1_method_13_code (1 : Nat) (Option.some Jvm.ClassFile.FieldType.int)),
  (Jvm.Cond.code ({ cls := "OakYard", name := "gangs", desc := "()I" } : Jvm.MethodName) prog_1_method_39_code (1 : Nat) (Option.some Jvm.ClassFile.FieldType.int)),
  (Jvm.Cond.code ({ cls := "OakYard$Finder", name := "gangPlan", desc := "(LOakYard$Yard;)I" } : Jvm.MethodName) prog_3_method_12_code (8 : Nat) (Option.some Jvm.ClassFile.FieldType.int)),
  (Jvm.Cond.code ({ cls := "OakYard$Finder", name := "listWork", desc := "(LOakYard$Yard;)I" } : Jvm.MethodName) prog_3_method_13_code (4 : Nat) (Option.some Jvm.ClassFile.FieldType.int)),
  (Jvm.Cond.code ({ cls := "java/lang/Math", name := "min", desc := "(II)I" } : Jvm.MethodName) prog_24_method_69_code (2 : Nat) (Option.some Jvm.ClassFile.FieldType.int)),
  (Jvm.Cond.code ({ cls := "OakYard$Finder", name := "daysOfWay", desc := "(LOakYard$Yard;III)I" } : Jvm.MethodName) prog_3_method_14_code (8 : Nat) (Option.some Jvm.ClassFile.FieldType.int)),
  (Jvm.Cond.code ({ cls := "java/lang/Math", name := "max", desc := "(II)I" } : Jvm.MethodName) prog_24_method_65_code (2 : Nat) (Option.some Jvm.ClassFile.FieldType.int)),
  (Jvm.Cond.code ({ cls := "OakYard", name := "war", desc := "()I" } : Jvm.MethodName) prog_1_method_43_code (1 : Nat) (Option.some Jvm.ClassFile.FieldType.int)),
  (Jvm.Cond.code ({ cls := "OakYard$Finder", name := "floating", desc := "(LOakYard$Yard;)I" } : Jvm.MethodName) prog_3_method_15_code (3 : Nat) (Option.some Jvm.ClassFile.FieldType.int)),
  (Jvm.Cond.code ({ cls := "OakYard$Finder", name := "isUsable", desc := "(LOakYard$Yard;LOakYard$Piece;)Z" } : Jvm.MethodName) prog_3_method_16_code (2 : Nat) (Option.some Jvm.ClassFile.FieldType.boolean)),
  (Jvm.Cond.code ({ cls := "OakYard", name := "within", desc := "(III)Z" } : Jvm.MethodName) prog_1_method_63_code (3 : Nat) (Option.some Jvm.ClassFile.FieldType.boolean)),
  (Jvm.Cond.code ({ cls := "OakYard$Finder", name := "decide", desc := "(LOakYard$Yard;II)V" } : Jvm.MethodName) prog_3_method_17_code (7 : Nat) (Option.none : Option Jvm.ClassFile.FieldType)),
  (Jvm.Cond.code ({ cls := "java/lang/Integer", name := "bitCount", desc := "(I)I" } : Jvm.MethodName) prog_23_method_49_code (1 : Nat) (Option.some Jvm.ClassFile.FieldType.int)),
  (Jvm.Cond.code ({ cls := "OakYard$Finder", name := "seatAll", desc := "(LOakYard$Yard;I[I)Z" } : Jvm.MethodName) prog_3_method_18_code (5 : Nat) (Option.some Jvm.ClassFile.FieldType.boolean)),
  (Jvm.Cond.code ({ cls := "OakYard$Finder", name := "seat", desc := "(LOakYard$Yard;I[I)Z" } : Jvm.MethodName) prog_3_method_19_code (9 : Nat) (Option.some Jvm.ClassFile.FieldType.boolean)),
  (Jvm.Cond.code ({ cls := "OakYard$Ship", name := "wasteOf", desc := "(ILOakYard$Piece;)I" } : Jvm.MethodName) prog_7_method_9_code (3 : Nat) (Option.some Jvm.ClassFile.FieldType.int)),
  (Jvm.Cond.code ({ cls := "OakYard$Ship", name := "wasteOf", desc := "(IIII)I" } : Jvm.MethodName) prog_7_method_10_code (5 : Nat) (Option.some Jvm.ClassFile.FieldType.int)),
  (Jvm.Cond.code ({ cls := "java/lang/Math", name := "abs", desc := "(I)I" } : Jvm.MethodName) prog_24_method_59_code (1 : Nat) (Option.some Jvm.ClassFile.FieldType.int)),
  (Jvm.Cond.code ({ cls := "OakYard$Finder", name := "moveAlong", desc := "([II)V" } : Jvm.MethodName) prog_3_method_20_code (5 : Nat) (Option.none : Option Jvm.ClassFile.FieldType)),
  (Jvm.Cond.code ({ cls := "OakYard", name := "paid", desc := "(I)Z" } : Jvm.MethodName) prog_1_method_50_code (2 : Nat) (Option.some Jvm.ClassFile.FieldType.boolean)),
  (Jvm.Cond.code ({ cls := "OakYard$Plan", name := "isPaid", desc := "(I)Z" } : Jvm.MethodName) prog_6_method_3_code (5 : Nat) (Option.some Jvm.ClassFile.FieldType.boolean)),
  (Jvm.Cond.code ({ cls := "OakYard$Plan", name := "costIn", desc := "(II)I" } : Jvm.MethodName) prog_6_method_4_code (5 : Nat) (Option.some Jvm.ClassFile.FieldType.int)),
  (Jvm.Cond.code ({ cls := "OakYard", name := "best", desc := "(I)I" } : Jvm.MethodName) prog_1_method_51_code (2 : Nat) (Option.some Jvm.ClassFile.FieldType.int)),
  (Jvm.Cond.code ({ cls := "OakYard$Plan", name := "bestSet", desc := "(I)I" } : Jvm.MethodName) prog_6_method_7_code (6 : Nat) (Option.some Jvm.ClassFile.FieldType.int)),
  (Jvm.Cond.code ({ cls := "OakYard$Plan", name := "readyBy", desc := "(II)I" } : Jvm.MethodName) prog_6_method_6_code (5 : Nat) (Option.some Jvm.ClassFile.FieldType.int)),
  (Jvm.Cond.code ({ cls := "OakYard$Plan", name := "costOf", desc := "(I)I" } : Jvm.MethodName) prog_6_method_5_code (4 : Nat) (Option.some Jvm.ClassFile.FieldType.int)),
  (Jvm.Cond.code ({ cls := "OakYard", name := "undo", desc := "()Z" } : Jvm.MethodName) prog_1_method_52_code (1 : Nat) (Option.some Jvm.ClassFile.FieldType.boolean)),
  (Jvm.Cond.code ({ cls := "OakYard$Yard", name := "copyFrom", desc := "(LOakYard$Yard;)V" } : Jvm.MethodName) prog_12_method_2_code (3 : Nat) (Option.none : Option Jvm.ClassFile.FieldType)),
  (Jvm.Cond.code ({ cls := "OakYard$Tree", name := "copyFrom", desc := "(LOakYard$Tree;)V" } : Jvm.MethodName) prog_10_method_5_code (2 : Nat) (Option.none : Option Jvm.ClassFile.FieldType)),
  (Jvm.Cond.code ({ cls := "OakYard$Tree", name := "grow", desc := "(IIIIII)V" } : Jvm.MethodName) prog_10_method_2_code (7 : Nat) (Option.none : Option Jvm.ClassFile.FieldType)),
  (Jvm.Cond.code ({ cls := "OakYard$Piece", name := "copyFrom", desc := "(LOakYard$Piece;)V" } : Jvm.MethodName) prog_5_method_15_code (2 : Nat) (Option.none : Option Jvm.ClassFile.FieldType)),
  (Jvm.Cond.code ({ cls := "OakYard$Piece", name := "begin", desc := "(III)V" } : Jvm.MethodName) prog_5_method_2_code (4 : Nat) (Option.none : Option Jvm.ClassFile.FieldType)),
  (Jvm.Cond.code ({ cls := "OakYard$Piece", name := "leaveShip", desc := "()V" } : Jvm.MethodName) prog_5_method_8_code (1 : Nat) (Option.none : Option Jvm.ClassFile.FieldType)),
  (Jvm.Cond.code ({ cls := "OakYard$Piece", name := "measure", desc := "(III)V" } : Jvm.MethodName) prog_5_method_3_code (4 : Nat) (Option.none : Option Jvm.ClassFile.FieldType)),
  (Jvm.Cond.code ({ cls := "OakYard$Piece", name := "comeFrom", desc := "(II)V" } : Jvm.MethodName) prog_5_method_4_code (3 : Nat) (Option.none : Option Jvm.ClassFile.FieldType)),
  (Jvm.Cond.code ({ cls := "OakYard$Ship", name := "copyFrom", desc := "(LOakYard$Ship;)V" } : Jvm.MethodName) prog_7_method_12_code (2 : Nat) (Option.none : Option Jvm.ClassFile.FieldType)),
  (Jvm.Cond.code ({ cls := "OakYard$Ship", name := "draw", desc := "(IIZ)V" } : Jvm.MethodName) prog_7_method_2_code (4 : Nat) (Option.none : Option Jvm.ClassFile.FieldType)),
  (Jvm.Cond.code ({ cls := "OakYard$Warrants", name := "copyFrom", desc := "(LOakYard$Warrants;)V" } : Jvm.MethodName) prog_11_method_8_code (3 : Nat) (Option.none : Option Jvm.ClassFile.FieldType)),
  (Jvm.Cond.code ({ cls := "OakYard$Harbour", name := "copyFrom", desc := "(LOakYard$Harbour;)V" } : Jvm.MethodName) prog_4_method_7_code (2 : Nat) (Option.none : Option Jvm.ClassFile.FieldType)),
  (Jvm.Cond.code ({ cls := "OakYard$Books", name := "copyFrom", desc := "(LOakYard$Books;)V" } : Jvm.MethodName) prog_2_method_9_code (2 : Nat) (Option.none : Option Jvm.ClassFile.FieldType)),
  (Jvm.Cond.code ({ cls := "OakYard$Plan", name := "copyFrom", desc := "(LOakYard$Plan;)V" } : Jvm.MethodName) prog_6_method_8_code (3 : Nat) (Option.none : Option Jvm.ClassFile.FieldType)),
  (Jvm.Cond.code ({ cls := "OakYard", name := "keep", desc := "()V" } : Jvm.MethodName) prog_1_method_53_code (1 : Nat) (Option.none : Option Jvm.ClassFile.FieldType)),
  (Jvm.Cond.code ({ cls := "OakYard", name := "back", desc := "()Z" } : Jvm.MethodName) prog_1_method_54_code (1 : Nat) (Option.some Jvm.ClassFile.FieldType.boolean)),
  (Jvm.Cond.code ({ cls := "OakYard", name := "count", desc := "(I)I" } : Jvm.MethodName) prog_1_method_55_code (2 : Nat) (Option.some Jvm.ClassFile.FieldType.int)),
  (Jvm.Cond.code ({ cls := "OakYard$Yard", name := "tell", desc := "(I)I" } : Jvm.MethodName) prog_12_method_33_code (2 : Nat) (Option.some Jvm.ClassFile.FieldType.int)),
  (Jvm.Cond.code ({ cls := "OakYard$Yard", name := "countIn", desc := "(I)I" } : Jvm.MethodName) prog_12_method_15_code (4 : Nat) (Option.some Jvm.ClassFile.FieldType.int)),
  (Jvm.Cond.code ({ cls := "OakYard$Yard", name := "treesThatStand", desc := "()I" } : Jvm.MethodName) prog_12_method_34_code (3 : Nat) (Option.some Jvm.ClassFile.FieldType.int)),
  (Jvm.Cond.code ({ cls := "OakYard$Yard", name := "shipsOnSlips", desc := "()I" } : Jvm.MethodName) prog_12_method_25_code (3 : Nat) (Option.some Jvm.ClassFile.FieldType.int)),
  (Jvm.Cond.code ({ cls := "OakYard$Yard", name := "linesOfToday", desc := "()I" } : Jvm.MethodName) prog_12_method_35_code (2 : Nat) (Option.some Jvm.ClassFile.FieldType.int)),
  (Jvm.Cond.code ({ cls := "OakYard$Warrants", name := "inForce", desc := "(I)LOakYard$Text;" } : Jvm.MethodName) prog_11_method_3_code (5 : Nat) (Option.some (Jvm.ClassFile.FieldType.object "OakYard$Text"))),
  (Jvm.Cond.codeWith ({ cls := "OakYardLaw", name := "road", desc := "(LOakYard;II)I" } : Jvm.MethodName) method_3_code (4 : Nat) (Option.some Jvm.ClassFile.FieldType.int) [((0 : Nat), (6 : Nat), (9 : Nat), (13 : Nat)), ((0 : Nat), (6 : Nat), (12 : Nat), (15 : Nat))]),
  (Jvm.Cond.code ({ cls := "OakYard", name := "road", desc := "(II)V" } : Jvm.MethodName) prog_1_method_4_code (3 : Nat) (Option.none : Option Jvm.ClassFile.FieldType)),
  (Jvm.Cond.code ({ cls := "OakYard", name := "checkIndex", desc := "(II)V" } : Jvm.MethodName) prog_1_method_60_code (2 : Nat) (Option.none : Option Jvm.ClassFile.FieldType)),
  (Jvm.Cond.code ({ cls := "java/lang/Throwable", name := "<init>", desc := "()V" } : Jvm.MethodName) prog_30_method_1_code (1 : Nat) (Option.none : Option Jvm.ClassFile.FieldType)),
  (Jvm.Cond.code ({ cls := "java/lang/IndexOutOfBoundsException", name := "<init>", desc := "()V" } : Jvm.MethodName) prog_22_method_1_code (1 : Nat) (Option.none : Option Jvm.ClassFile.FieldType)),
  (Jvm.Cond.code ({ cls := "java/lang/RuntimeException", name := "<init>", desc := "()V" } : Jvm.MethodName) prog_25_method_1_code (1 : Nat) (Option.none : Option Jvm.ClassFile.FieldType)),
  (Jvm.Cond.code ({ cls := "java/lang/Exception", name := "<init>", desc := "()V" } : Jvm.MethodName) prog_19_method_1_code (1 : Nat) (Option.none : Option Jvm.ClassFile.FieldType)),
  (Jvm.Cond.code ({ cls := "OakYard", name := "checkNumber", desc := "(Z)V" } : Jvm.MethodName) prog_1_method_61_code (1 : Nat) (Option.none : Option Jvm.ClassFile.FieldType)),
  (Jvm.Cond.code ({ cls := "java/lang/IllegalArgumentException", name := "<init>", desc := "()V" } : Jvm.MethodName) prog_20_method_1_code (1 : Nat) (Option.none : Option Jvm.ClassFile.FieldType)),
  (Jvm.Cond.codeWith ({ cls := "OakYardLaw", name := "tree", desc := "(LOakYard;IIIIII[J)I" } : Jvm.MethodName) method_4_code (9 : Nat) (Option.some Jvm.ClassFile.FieldType.int) [((0 : Nat), (18 : Nat), (21 : Nat), (13 : Nat)), ((0 : Nat), (18 : Nat), (25 : Nat), (15 : Nat)), ((0 : Nat), (18 : Nat), (29 : Nat), (21 : Nat))]),
  (Jvm.Cond.code ({ cls := "OakYard", name := "tree", desc := "(IIIIII)I" } : Jvm.MethodName) prog_1_method_5_code (8 : Nat) (Option.some Jvm.ClassFile.FieldType.int)),
  (Jvm.Cond.code ({ cls := "OakYard", name := "checkRoom", desc := "(II)V" } : Jvm.MethodName) prog_1_method_62_code (2 : Nat) (Option.none : Option Jvm.ClassFile.FieldType)),
  (Jvm.Cond.code ({ cls := "java/lang/UnsupportedOperationException", name := "<init>", desc := "()V" } : Jvm.MethodName) prog_31_method_1_code (1 : Nat) (Option.none : Option Jvm.ClassFile.FieldType)),
  (Jvm.Cond.code ({ cls := "OakYard$Yard", name := "newTree", desc := "()LOakYard$Tree;" } : Jvm.MethodName) prog_12_method_3_code (2 : Nat) (Option.some (Jvm.ClassFile.FieldType.object "OakYard$Tree"))),
  (Jvm.Cond.codeWith ({ cls := "OakYardLaw", name := "fell", desc := "(LOakYard;II[J)I" } : Jvm.MethodName) method_5_code (5 : Nat) (Option.some Jvm.ClassFile.FieldType.int) [((0 : Nat), (10 : Nat), (13 : Nat), (13 : Nat)), ((0 : Nat), (10 : Nat), (17 : Nat), (15 : Nat))]),
  (Jvm.Cond.code ({ cls := "OakYard", name := "fell", desc := "(II)I" } : Jvm.MethodName) prog_1_method_6_code (3 : Nat) (Option.some Jvm.ClassFile.FieldType.int)),
  (Jvm.Cond.code ({ cls := "OakYard", name := "remember", desc := "()V" } : Jvm.MethodName) prog_1_method_56_code (1 : Nat) (Option.none : Option Jvm.ClassFile.FieldType)),
  (Jvm.Cond.code ({ cls := "OakYard$Yard", name := "fellTree", desc := "(II)I" } : Jvm.MethodName) prog_12_method_7_code (5 : Nat) (Option.some Jvm.ClassFile.FieldType.int)),
  (Jvm.Cond.code ({ cls := "OakYard$Yard", name := "newPiece", desc := "()LOakYard$Piece;" } : Jvm.MethodName) prog_12_method_4_code (2 : Nat) (Option.some (Jvm.ClassFile.FieldType.object "OakYard$Piece"))),
  (Jvm.Cond.code ({ cls := "OakYard$Tree", name := "lengthAs", desc := "(I)I" } : Jvm.MethodName) prog_10_method_3_code (2 : Nat) (Option.some Jvm.ClassFile.FieldType.int)),
  (Jvm.Cond.code ({ cls := "OakYard$Tree", name := "bendAs", desc := "(I)I" } : Jvm.MethodName) prog_10_method_4_code (2 : Nat) (Option.some Jvm.ClassFile.FieldType.int)),
  (Jvm.Cond.code ({ cls := "OakYard$Piece", name := "travel", desc := "(I)V" } : Jvm.MethodName) prog_5_method_5_code (2 : Nat) (Option.none : Option Jvm.ClassFile.FieldType)),
  (Jvm.Cond.codeWith ({ cls := "OakYardLaw", name := "buy", desc := "(LOakYard;IIIII[J)I" } : Jvm.MethodName) method_6_code (8 : Nat) (Option.some Jvm.ClassFile.FieldType.int) [((0 : Nat), (16 : Nat), (19 : Nat), (15 : Nat)), ((0 : Nat), (16 : Nat), (23 : Nat), (21 : Nat))]),
  (Jvm.Cond.code ({ cls := "OakYard", name := "buy", desc := "(IIIII)I" } : Jvm.MethodName) prog_1_method_7_code (7 : Nat) (Option.some Jvm.ClassFile.FieldType.int)),
  (Jvm.Cond.code ({ cls := "OakYard", name := "isBendOf", desc := "(II)Z" } : Jvm.MethodName) prog_1_method_64_code (2 : Nat) (Option.some Jvm.ClassFile.FieldType.boolean)),
  (Jvm.Cond.codeWith ({ cls := "OakYardLaw", name := "sheds", desc := "(LOakYard;I)I" } : Jvm.MethodName) method_7_code (3 : Nat) (Option.some Jvm.ClassFile.FieldType.int) [((0 : Nat), (5 : Nat), (8 : Nat), (15 : Nat))]),
  (Jvm.Cond.code ({ cls := "OakYard", name := "sheds", desc := "(I)V" } : Jvm.MethodName) prog_1_method_8_code (2 : Nat) (Option.none : Option Jvm.ClassFile.FieldType)),
  (Jvm.Cond.codeWith ({ cls := "OakYardLaw", name := "shed", desc := "(LOakYard;I[J)I" } : Jvm.MethodName) method_8_code (4 : Nat) (Option.some Jvm.ClassFile.FieldType.int) [((0 : Nat), (16 : Nat), (19 : Nat), (13 : Nat))]),
  (Jvm.Cond.code ({ cls := "OakYard", name := "shed", desc := "(I)Z" } : Jvm.MethodName) prog_1_method_9_code (3 : Nat) (Option.some Jvm.ClassFile.FieldType.boolean)),
  (Jvm.Cond.code ({ cls := "OakYard", name := "pieceNumbered", desc := "(I)LOakYard$Piece;" } : Jvm.MethodName) prog_1_method_58_code (2 : Nat) (Option.some (Jvm.ClassFile.FieldType.object "OakYard$Piece"))),
  (Jvm.Cond.code ({ cls := "OakYard$Piece", name := "comeIntoShed", desc := "(I)V" } : Jvm.MethodName) prog_5_method_6_code (2 : Nat) (Option.none : Option Jvm.ClassFile.FieldType)),
  (Jvm.Cond.codeWith ({ cls := "OakYardLaw", name := "piece", desc := "(LOakYard;II[J)I" } : Jvm.MethodName) method_9_code (5 : Nat) (Option.some Jvm.ClassFile.FieldType.int) [((0 : Nat), (10 : Nat), (13 : Nat), (13 : Nat)), ((0 : Nat), (10 : Nat), (17 : Nat), (42 : Nat))]),
  (Jvm.Cond.code ({ cls := "OakYard", name := "piece", desc := "(II)I" } : Jvm.MethodName) prog_1_method_10_code (4 : Nat) (Option.some Jvm.ClassFile.FieldType.int)),
  (Jvm.Cond.code ({ cls := "java/util/NoSuchElementException", name := "<init>", desc := "()V" } : Jvm.MethodName) prog_35_method_1_code (1 : Nat) (Option.none : Option Jvm.ClassFile.FieldType)),
  (Jvm.Cond.code ({ cls := "OakYard$Piece", name := "tellBody", desc := "(I)I" } : Jvm.MethodName) prog_5_method_13_code (2 : Nat) (Option.some Jvm.ClassFile.FieldType.int)),
  (Jvm.Cond.code ({ cls := "OakYard$Piece", name := "tellStory", desc := "(I)I" } : Jvm.MethodName) prog_5_method_14_code (2 : Nat) (Option.some Jvm.ClassFile.FieldType.int)),
  (Jvm.Cond.codeWith ({ cls := "OakYardLaw", name := "look", desc := "(LOakYard;I[J)I" } : Jvm.MethodName) method_10_code (4 : Nat) (Option.some Jvm.ClassFile.FieldType.int) [((0 : Nat), (9 : Nat), (12 : Nat), (13 : Nat))]),
  (Jvm.Cond.code ({ cls := "OakYard", name := "look", desc := "(I)I" } : Jvm.MethodName) prog_1_method_11_code (4 : Nat) (Option.some Jvm.ClassFile.FieldType.int)),
  (Jvm.Cond.code ({ cls := "OakYard$Text", name := "lookLimit", desc := "()I" } : Jvm.MethodName) prog_9_method_5_code (3 : Nat) (Option.some Jvm.ClassFile.FieldType.int)),
  (Jvm.Cond.code ({ cls := "OakYard$Piece", name := "takeLook", desc := "(I)V" } : Jvm.MethodName) prog_5_method_9_code (2 : Nat) (Option.none : Option Jvm.ClassFile.FieldType)),
  (Jvm.Cond.codeWith ({ cls := "OakYardLaw", name := "warrant", desc := "(LOakYard;I[J)I" } : Jvm.MethodName) method_11_code (4 : Nat) (Option.some Jvm.ClassFile.FieldType.int) [((0 : Nat), (9 : Nat), (12 : Nat), (15 : Nat)), ((0 : Nat), (9 : Nat), (15 : Nat), (21 : Nat))]),
  (Jvm.Cond.code ({ cls := "OakYard", name := "warrant", desc := "(I)I" } : Jvm.MethodName) prog_1_method_12_code (3 : Nat) (Option.some Jvm.ClassFile.FieldType.int)),
  (Jvm.Cond.code ({ cls := "OakYard$Tape", name := "empty", desc := "()V" } : Jvm.MethodName) prog_8_method_5_code (1 : Nat) (Option.none : Option Jvm.ClassFile.FieldType)),
  (Jvm.Cond.code ({ cls := "OakYard$Tape", name := "readText", desc := "()LOakYard$Text;" } : Jvm.MethodName) prog_8_method_6_code (3 : Nat) (Option.some (Jvm.ClassFile.FieldType.object "OakYard$Text"))),
  (Jvm.Cond.code ({ cls := "OakYard$Tape", name := "nextThing", desc := "()V" } : Jvm.MethodName) prog_8_method_17_code (1 : Nat) (Option.none : Option Jvm.ClassFile.FieldType)),
  (Jvm.Cond.code ({ cls := "OakYard$Tape", name := "readLine", desc := "()Z" } : Jvm.MethodName) prog_8_method_7_code (3 : Nat) (Option.some Jvm.ClassFile.FieldType.boolean)),
  (Jvm.Cond.code ({ cls := "OakYard$Tape", name := "wordAmong", desc := "(Ljava/lang/String;)I" } : Jvm.MethodName) prog_8_method_21_code (5 : Nat) (Option.some Jvm.ClassFile.FieldType.int)),
  (Jvm.Cond.code ({ cls := "java/lang/String", name := "length", desc := "()I" } : Jvm.MethodName) prog_26_method_54_code (1 : Nat) (Option.some Jvm.ClassFile.FieldType.int)),
  (Jvm.Cond.code ({ cls := "java/lang/String", name := "coder", desc := "()B" } : Jvm.MethodName) prog_26_method_152_code (1 : Nat) (Option.some Jvm.ClassFile.FieldType.byte)),
  (Jvm.Cond.code ({ cls := "java/lang/String", name := "charAt", desc := "(I)C" } : Jvm.MethodName) prog_26_method_56_code (2 : Nat) (Option.some Jvm.ClassFile.FieldType.char)),
  (Jvm.Cond.code ({ cls := "java/lang/String", name := "isLatin1", desc := "()Z" } : Jvm.MethodName) prog_26_method_154_code (1 : Nat) (Option.some Jvm.ClassFile.FieldType.boolean)),
  (Jvm.Cond.code ({ cls := "java/lang/StringLatin1", name := "charAt", desc := "([BI)C" } : Jvm.MethodName) prog_27_method_2_code (2 : Nat) (Option.some Jvm.ClassFile.FieldType.char)),
  (Jvm.Cond.code ({ cls := "java/lang/String", name := "checkIndex", desc := "(II)V" } : Jvm.MethodName) prog_26_method_155_code (2 : Nat) (Option.none : Option Jvm.ClassFile.FieldType)),
  (Jvm.Cond.code ({ cls := "jdk/internal/util/Preconditions", name := "checkIndex", desc := "(IILjava/util/function/BiFunction;)I" } : Jvm.MethodName) prog_36_method_11_code (3 : Nat) (Option.some Jvm.ClassFile.FieldType.int)),
  (Jvm.Cond.code ({ cls := "java/lang/StringUTF16", name := "charAt", desc := "([BI)C" } : Jvm.MethodName) prog_28_method_83_code (2 : Nat) (Option.some Jvm.ClassFile.FieldType.char)),
  (Jvm.Cond.code ({ cls := "java/lang/StringUTF16", name := "checkIndex", desc := "(I[B)V" } : Jvm.MethodName) prog_28_method_91_code (2 : Nat) (Option.none : Option Jvm.ClassFile.FieldType)),
  (Jvm.Cond.code ({ cls := "java/lang/StringUTF16", name := "length", desc := "([B)I" } : Jvm.MethodName) prog_28_method_6_code (1 : Nat) (Option.some Jvm.ClassFile.FieldType.int)),
  (Jvm.Cond.code ({ cls := "java/lang/StringUTF16", name := "getChar", desc := "([BI)C" } : Jvm.MethodName) prog_28_method_5_code (2 : Nat) (Option.some Jvm.ClassFile.FieldType.char)),
  (Jvm.Cond.code ({ cls := "OakYard$Tape", name := "wrongHere", desc := "()Z" } : Jvm.MethodName) prog_8_method_16_code (1 : Nat) (Option.some Jvm.ClassFile.FieldType.boolean)),
  (Jvm.Cond.code ({ cls := "OakYard$Tape", name := "mostOf", desc := "(I)I" } : Jvm.MethodName) prog_8_method_8_code (1 : Nat) (Option.some Jvm.ClassFile.FieldType.int)),
  (Jvm.Cond.code ({ cls := "OakYard$Tape", name := "numberUpTo", desc := "(I)I" } : Jvm.MethodName) prog_8_method_19_code (2 : Nat) (Option.some Jvm.ClassFile.FieldType.int)),
  (Jvm.Cond.code ({ cls := "OakYard$Tape", name := "isWord", desc := "(Ljava/lang/String;)Z" } : Jvm.MethodName) prog_8_method_20_code (2 : Nat) (Option.some Jvm.ClassFile.FieldType.boolean)),
  (Jvm.Cond.code ({ cls := "OakYard$Tape", name := "readCondition", desc := "(I)Z" } : Jvm.MethodName) prog_8_method_9_code (3 : Nat) (Option.some Jvm.ClassFile.FieldType.boolean)),
  (Jvm.Cond.code ({ cls := "OakYard$Tape", name := "readAll", desc := "(I)Z" } : Jvm.MethodName) prog_8_method_10_code (3 : Nat) (Option.some Jvm.ClassFile.FieldType.boolean)),
  (Jvm.Cond.code ({ cls := "OakYard$Tape", name := "readAtom", desc := "(I)Z" } : Jvm.MethodName) prog_8_method_11_code (4 : Nat) (Option.some Jvm.ClassFile.FieldType.boolean)),
  (Jvm.Cond.code ({ cls := "OakYard$Tape", name := "isSign", desc := "(I)Z" } : Jvm.MethodName) prog_8_method_18_code (2 : Nat) (Option.some Jvm.ClassFile.FieldType.boolean)),
  (Jvm.Cond.code ({ cls := "OakYard$Tape", name := "readNegated", desc := "(I)Z" } : Jvm.MethodName) prog_8_method_12_code (2 : Nat) (Option.some Jvm.ClassFile.FieldType.boolean)),
  (Jvm.Cond.code ({ cls := "OakYard$Text", name := "step", desc := "(III)I" } : Jvm.MethodName) prog_9_method_2_code (3 : Nat) (Option.some Jvm.ClassFile.FieldType.int)),
  (Jvm.Cond.code ({ cls := "OakYard$Tape", name := "addStep", desc := "(I)V" } : Jvm.MethodName) prog_8_method_15_code (2 : Nat) (Option.none : Option Jvm.ClassFile.FieldType)),
  (Jvm.Cond.code ({ cls := "OakYard$Tape", name := "readBracketed", desc := "(I)Z" } : Jvm.MethodName) prog_8_method_13_code (2 : Nat) (Option.some Jvm.ClassFile.FieldType.boolean)),
  (Jvm.Cond.code ({ cls := "OakYard$Tape", name := "readFact", desc := "()Z" } : Jvm.MethodName) prog_8_method_14_code (4 : Nat) (Option.some Jvm.ClassFile.FieldType.boolean)),
  (Jvm.Cond.code ({ cls := "java/util/Arrays", name := "copyOf", desc := "([II)[I" } : Jvm.MethodName) prog_34_method_123_code (3 : Nat) (Option.some (Jvm.ClassFile.FieldType.array Jvm.ClassFile.FieldType.int))),
  (Jvm.Cond.code ({ cls := "OakYard$Text", name := "<init>", desc := "([I[I[I[I)V" } : Jvm.MethodName) prog_9_method_1_code (5 : Nat) (Option.none : Option Jvm.ClassFile.FieldType)),
  (Jvm.Cond.code ({ cls := "OakYard$Warrants", name := "add", desc := "(LOakYard$Text;I)V" } : Jvm.MethodName) prog_11_method_2_code (3 : Nat) (Option.none : Option Jvm.ClassFile.FieldType)),
  (Jvm.Cond.codeWith ({ cls := "OakYardLaw", name := "may", desc := "(LOakYard;III[J)I" } : Jvm.MethodName) method_12_code (6 : Nat) (Option.some Jvm.ClassFile.FieldType.int) [((0 : Nat), (19 : Nat), (22 : Nat), (13 : Nat))]),
  (Jvm.Cond.code ({ cls := "OakYard", name := "may", desc := "(III)Z" } : Jvm.MethodName) prog_1_method_14_code (4 : Nat) (Option.some Jvm.ClassFile.FieldType.boolean)),
  (Jvm.Cond.code ({ cls := "OakYard", name := "lineThatLets", desc := "(III)I" } : Jvm.MethodName) prog_1_method_57_code (5 : Nat) (Option.some Jvm.ClassFile.FieldType.int)),
  (Jvm.Cond.code ({ cls := "OakYard$Yard", name := "lineFor", desc := "(LOakYard$Text;LOakYard$Piece;I)I" } : Jvm.MethodName) prog_12_method_16_code (4 : Nat) (Option.some Jvm.ClassFile.FieldType.int)),
  (Jvm.Cond.code ({ cls := "OakYard$Warrants", name := "tellPiece", desc := "(LOakYard$Piece;I)V" } : Jvm.MethodName) prog_11_method_4_code (3 : Nat) (Option.none : Option Jvm.ClassFile.FieldType)),
  (Jvm.Cond.code ({ cls := "OakYard$Yard", name := "gangsOn", desc := "(I)I" } : Jvm.MethodName) prog_12_method_24_code (4 : Nat) (Option.some Jvm.ClassFile.FieldType.int)),
  (Jvm.Cond.code ({ cls := "OakYard$Warrants", name := "tellShip", desc := "(ZI)V" } : Jvm.MethodName) prog_11_method_7_code (3 : Nat) (Option.none : Option Jvm.ClassFile.FieldType)),
  (Jvm.Cond.code ({ cls := "OakYard$Text", name := "firstFit", desc := "(ILOakYard$Warrants;)I" } : Jvm.MethodName) prog_9_method_3_code (4 : Nat) (Option.some Jvm.ClassFile.FieldType.int)),
  (Jvm.Cond.code ({ cls := "OakYard$Text", name := "holds", desc := "(ILOakYard$Warrants;)Z" } : Jvm.MethodName) prog_9_method_6_code (8 : Nat) (Option.some Jvm.ClassFile.FieldType.boolean)),
  (Jvm.Cond.code ({ cls := "OakYard$Text", name := "isSo", desc := "(IILOakYard$Warrants;)Z" } : Jvm.MethodName) prog_9_method_7_code (5 : Nat) (Option.some Jvm.ClassFile.FieldType.boolean)),
  (Jvm.Cond.codeWith ({ cls := "OakYardLaw", name := "why", desc := "(LOakYard;III[J)I" } : Jvm.MethodName) method_13_code (6 : Nat) (Option.some Jvm.ClassFile.FieldType.int) [((0 : Nat), (12 : Nat), (15 : Nat), (13 : Nat))]),
  (Jvm.Cond.code ({ cls := "OakYard", name := "why", desc := "(III)I" } : Jvm.MethodName) prog_1_method_15_code (4 : Nat) (Option.some Jvm.ClassFile.FieldType.int)),
  (Jvm.Cond.codeWith ({ cls := "OakYardLaw", name := "ship", desc := "(LOakYard;IIZ[J)I" } : Jvm.MethodName) method_14_code (6 : Nat) (Option.some Jvm.ClassFile.FieldType.int) [((0 : Nat), (12 : Nat), (15 : Nat), (15 : Nat)), ((0 : Nat), (12 : Nat), (19 : Nat), (21 : Nat))]),
  (Jvm.Cond.code ({ cls := "OakYard", name := "ship", desc := "(IIZ)I" } : Jvm.MethodName) prog_1_method_17_code (5 : Nat) (Option.some Jvm.ClassFile.FieldType.int)),
  (Jvm.Cond.code ({ cls := "OakYard$Yard", name := "newShip", desc := "()LOakYard$Ship;" } : Jvm.MethodName) prog_12_method_5_code (2 : Nat) (Option.some (Jvm.ClassFile.FieldType.object "OakYard$Ship"))),
  (Jvm.Cond.codeWith ({ cls := "OakYardLaw", name := "need", desc := "(LOakYard;IIIII[J)I" } : Jvm.MethodName) method_15_code (8 : Nat) (Option.some Jvm.ClassFile.FieldType.int) [((0 : Nat), (16 : Nat), (19 : Nat), (13 : Nat)), ((0 : Nat), (16 : Nat), (23 : Nat), (15 : Nat)), ((0 : Nat), (16 : Nat), (27 : Nat), (66 : Nat))]),
  (Jvm.Cond.code ({ cls := "OakYard", name := "need", desc := "(IIIII)I" } : Jvm.MethodName) prog_1_method_18_code (7 : Nat) (Option.some Jvm.ClassFile.FieldType.int)),
  (Jvm.Cond.code ({ cls := "OakYard", name := "shipNumbered", desc := "(I)LOakYard$Ship;" } : Jvm.MethodName) prog_1_method_59_code (2 : Nat) (Option.some (Jvm.ClassFile.FieldType.object "OakYard$Ship"))),
  (Jvm.Cond.code ({ cls := "java/lang/IllegalStateException", name := "<init>", desc := "()V" } : Jvm.MethodName) prog_21_method_1_code (1 : Nat) (Option.none : Option Jvm.ClassFile.FieldType)),
  (Jvm.Cond.code ({ cls := "OakYard$Ship", name := "addNeed", desc := "(IIII)I" } : Jvm.MethodName) prog_7_method_3_code (5 : Nat) (Option.some Jvm.ClassFile.FieldType.int)),
  (Jvm.Cond.codeWith ({ cls := "OakYardLaw", name := "slips", desc := "(LOakYard;I)I" } : Jvm.MethodName) method_16_code (3 : Nat) (Option.some Jvm.ClassFile.FieldType.int) [((0 : Nat), (5 : Nat), (8 : Nat), (15 : Nat))]),
  (Jvm.Cond.code ({ cls := "OakYard", name := "slips", desc := "(I)V" } : Jvm.MethodName) prog_1_method_19_code (2 : Nat) (Option.none : Option Jvm.ClassFile.FieldType)),
  (Jvm.Cond.codeWith ({ cls := "OakYardLaw", name := "lay", desc := "(LOakYard;I[J)I" } : Jvm.MethodName) method_17_code (4 : Nat) (Option.some Jvm.ClassFile.FieldType.int) [((0 : Nat), (16 : Nat), (19 : Nat), (13 : Nat))]),
  (Jvm.Cond.code ({ cls := "OakYard", name := "lay", desc := "(I)Z" } : Jvm.MethodName) prog_1_method_20_code (3 : Nat) (Option.some Jvm.ClassFile.FieldType.boolean)),
  (Jvm.Cond.codeWith ({ cls := "OakYardLaw", name := "fit", desc := "(LOakYard;IIIZ[J)I" } : Jvm.MethodName) method_18_code (7 : Nat) (Option.some Jvm.ClassFile.FieldType.int) [((0 : Nat), (21 : Nat), (24 : Nat), (13 : Nat))]),
  (Jvm.Cond.code ({ cls := "OakYard", name := "fit", desc := "(IIIZ)Z" } : Jvm.MethodName) prog_1_method_21_code (8 : Nat) (Option.some Jvm.ClassFile.FieldType.boolean)),
  (Jvm.Cond.code ({ cls := "OakYard$Ship", name := "isOpenToFitting", desc := "()Z" } : Jvm.MethodName) prog_7_method_7_code (1 : Nat) (Option.some Jvm.ClassFile.FieldType.boolean)),
  (Jvm.Cond.code ({ cls := "OakYard$Ship", name := "pieceOf", desc := "(I)I" } : Jvm.MethodName) prog_7_method_4_code (2 : Nat) (Option.some Jvm.ClassFile.FieldType.int)),
  (Jvm.Cond.code ({ cls := "OakYard$Ship", name := "setPiece", desc := "(II)V" } : Jvm.MethodName) prog_7_method_5_code (3 : Nat) (Option.none : Option Jvm.ClassFile.FieldType)),
  (Jvm.Cond.code ({ cls := "OakYard$Piece", name := "goInto", desc := "(IIZ)V" } : Jvm.MethodName) prog_5_method_7_code (4 : Nat) (Option.none : Option Jvm.ClassFile.FieldType)),
  (Jvm.Cond.codeWith ({ cls := "OakYardLaw", name := "out", desc := "(LOakYard;II[J)I" } : Jvm.MethodName) method_19_code (5 : Nat) (Option.some Jvm.ClassFile.FieldType.int) [((0 : Nat), (10 : Nat), (13 : Nat), (13 : Nat))]),
  (Jvm.Cond.code ({ cls := "OakYard", name := "out", desc := "(II)I" } : Jvm.MethodName) prog_1_method_22_code (5 : Nat) (Option.some Jvm.ClassFile.FieldType.int)),
  (Jvm.Cond.code ({ cls := "OakYard$Yard", name := "takeOut", desc := "(LOakYard$Ship;I)V" } : Jvm.MethodName) prog_12_method_19_code (4 : Nat) (Option.none : Option Jvm.ClassFile.FieldType)),
  (Jvm.Cond.code ({ cls := "OakYard$Yard", name := "pieceIn", desc := "(LOakYard$Ship;I)LOakYard$Piece;" } : Jvm.MethodName) prog_12_method_18_code (4 : Nat) (Option.some (Jvm.ClassFile.FieldType.object "OakYard$Piece"))),
  (Jvm.Cond.codeWith ({ cls := "OakYardLaw", name := "waste", desc := "(LOakYard;IZ[J)I" } : Jvm.MethodName) method_20_code (5 : Nat) (Option.some Jvm.ClassFile.FieldType.int) [((0 : Nat), (10 : Nat), (13 : Nat), (13 : Nat))]),
  (Jvm.Cond.code ({ cls := "OakYard", name := "waste", desc := "(IZ)I" } : Jvm.MethodName) prog_1_method_23_code (3 : Nat) (Option.some Jvm.ClassFile.FieldType.int)),
  (Jvm.Cond.code ({ cls := "OakYard$Finder", name := "leastWaste", desc := "(LOakYard$Yard;IZ)I" } : Jvm.MethodName) prog_3_method_2_code (5 : Nat) (Option.some Jvm.ClassFile.FieldType.int)),
  (Jvm.Cond.code ({ cls := "OakYard$Finder", name := "listOpenNeeds", desc := "(LOakYard$Ship;)V" } : Jvm.MethodName) prog_3_method_3_code (3 : Nat) (Option.none : Option Jvm.ClassFile.FieldType)),
  (Jvm.Cond.code ({ cls := "OakYard$Finder", name := "offerTrees", desc := "(LOakYard$Yard;LOakYard$Ship;)V" } : Jvm.MethodName) prog_3_method_5_code (8 : Nat) (Option.none : Option Jvm.ClassFile.FieldType)),
  (Jvm.Cond.code ({ cls := "OakYard$Finder", name := "offer", desc := "(I)V" } : Jvm.MethodName) prog_3_method_6_code (5 : Nat) (Option.none : Option Jvm.ClassFile.FieldType)),
  (Jvm.Cond.code ({ cls := "OakYard$Finder", name := "improve", desc := "(IIJ)V" } : Jvm.MethodName) prog_3_method_7_code (5 : Nat) (Option.none : Option Jvm.ClassFile.FieldType)),
  (Jvm.Cond.code ({ cls := "OakYard$Finder", name := "offerPieces", desc := "(LOakYard$Yard;LOakYard$Ship;I)V" } : Jvm.MethodName) prog_3_method_4_code (8 : Nat) (Option.none : Option Jvm.ClassFile.FieldType)),
  (Jvm.Cond.codeWith ({ cls := "OakYardLaw", name := "which", desc := "(LOakYard;IIZ[J)I" } : Jvm.MethodName) method_21_code (6 : Nat) (Option.some Jvm.ClassFile.FieldType.int) [((0 : Nat), (12 : Nat), (15 : Nat), (13 : Nat))]),
  (Jvm.Cond.code ({ cls := "OakYard", name := "which", desc := "(IIZ)I" } : Jvm.MethodName) prog_1_method_24_code (4 : Nat) (Option.some Jvm.ClassFile.FieldType.int)),
  (Jvm.Cond.code ({ cls := "OakYard$Finder", name := "chosenFor", desc := "(I)I" } : Jvm.MethodName) prog_3_method_8_code (5 : Nat) (Option.some Jvm.ClassFile.FieldType.int)),
  (Jvm.Cond.codeWith ({ cls := "OakYardLaw", name := "masts", desc := "(LOakYard;II[J)I" } : Jvm.MethodName) method_22_code (5 : Nat) (Option.some Jvm.ClassFile.FieldType.int) [((0 : Nat), (10 : Nat), (13 : Nat), (13 : Nat))]),
  (Jvm.Cond.code ({ cls := "OakYard", name := "masts", desc := "(II)I" } : Jvm.MethodName) prog_1_method_25_code (4 : Nat) (Option.some Jvm.ClassFile.FieldType.int)),
  (Jvm.Cond.code ({ cls := "OakYard$Finder", name := "mastSet", desc := "(LOakYard$Yard;LOakYard$Ship;I)I" } : Jvm.MethodName) prog_3_method_9_code (9 : Nat) (Option.some Jvm.ClassFile.FieldType.int)),
  (Jvm.Cond.code ({ cls := "OakYard$Finder", name := "listMasts", desc := "(LOakYard$Yard;)V" } : Jvm.MethodName) prog_3_method_10_code (4 : Nat) (Option.none : Option Jvm.ClassFile.FieldType)),
  (Jvm.Cond.code ({ cls := "OakYard$Finder", name := "wasteOfJoined", desc := "(LOakYard$Yard;LOakYard$Ship;II)I" } : Jvm.MethodName) prog_3_method_11_code (9 : Nat) (Option.some Jvm.ClassFile.FieldType.int)),
  (Jvm.Cond.codeWith ({ cls := "OakYardLaw", name := "make", desc := "(LOakYard;II[J)I" } : Jvm.MethodName) method_23_code (5 : Nat) (Option.some Jvm.ClassFile.FieldType.int) [((0 : Nat), (10 : Nat), (13 : Nat), (13 : Nat))]),
  (Jvm.Cond.code ({ cls := "OakYard", name := "make", desc := "(II)I" } : Jvm.MethodName) prog_1_method_26_code (5 : Nat) (Option.some Jvm.ClassFile.FieldType.int)),
  (Jvm.Cond.code ({ cls := "OakYard$Yard", name := "joinMasts", desc := "([III)I" } : Jvm.MethodName) prog_12_method_8_code (8 : Nat) (Option.some Jvm.ClassFile.FieldType.int)),
  (Jvm.Cond.code ({ cls := "OakYard$Yard", name := "beginMast", desc := "(LOakYard$Piece;LOakYard$Piece;)V" } : Jvm.MethodName) prog_12_method_9_code (3 : Nat) (Option.none : Option Jvm.ClassFile.FieldType)),
  (Jvm.Cond.code ({ cls := "OakYard$Yard", name := "lengthenMast", desc := "(LOakYard$Piece;LOakYard$Piece;)V" } : Jvm.MethodName) prog_12_method_10_code (3 : Nat) (Option.none : Option Jvm.ClassFile.FieldType)),
  (Jvm.Cond.codeWith ({ cls := "OakYardLaw", name := "launch", desc := "(LOakYard;I[J)I" } : Jvm.MethodName) method_24_code (4 : Nat) (Option.some Jvm.ClassFile.FieldType.int) [((0 : Nat), (16 : Nat), (19 : Nat), (13 : Nat))]),
  (Jvm.Cond.code ({ cls := "OakYard", name := "launch", desc := "(I)Z" } : Jvm.MethodName) prog_1_method_27_code (3 : Nat) (Option.some Jvm.ClassFile.FieldType.boolean)),
  (Jvm.Cond.code ({ cls := "OakYard$Ship", name := "fitCount", desc := "()I" } : Jvm.MethodName) prog_7_method_6_code (3 : Nat) (Option.some Jvm.ClassFile.FieldType.int)),
  (Jvm.Cond.codeWith ({ cls := "OakYardLaw", name := "dock", desc := "(LOakYard;I[J)I" } : Jvm.MethodName) method_25_code (4 : Nat) (Option.some Jvm.ClassFile.FieldType.int) [((0 : Nat), (9 : Nat), (12 : Nat), (15 : Nat)), ((0 : Nat), (9 : Nat), (15 : Nat), (21 : Nat))]),
  (Jvm.Cond.code ({ cls := "OakYard", name := "dock", desc := "(I)I" } : Jvm.MethodName) prog_1_method_28_code (2 : Nat) (Option.some Jvm.ClassFile.FieldType.int)),
  (Jvm.Cond.code ({ cls := "OakYard$Harbour", name := "addDock", desc := "(I)I" } : Jvm.MethodName) prog_4_method_2_code (2 : Nat) (Option.some Jvm.ClassFile.FieldType.int)),
  (Jvm.Cond.codeWith ({ cls := "OakYardLaw", name := "tide", desc := "(LOakYard;II)I" } : Jvm.MethodName) method_26_code (4 : Nat) (Option.some Jvm.ClassFile.FieldType.int) [((0 : Nat), (6 : Nat), (9 : Nat), (15 : Nat))]),
  (Jvm.Cond.code ({ cls := "OakYard", name := "tide", desc := "(II)V" } : Jvm.MethodName) prog_1_method_29_code (3 : Nat) (Option.none : Option Jvm.ClassFile.FieldType)),
  (Jvm.Cond.codeWith ({ cls := "OakYardLaw", name := "moor", desc := "(LOakYard;IIZ[J)I" } : Jvm.MethodName) method_27_code (6 : Nat) (Option.some Jvm.ClassFile.FieldType.int) [((0 : Nat), (19 : Nat), (22 : Nat), (13 : Nat))]),
  (Jvm.Cond.code ({ cls := "OakYard", name := "moor", desc := "(IIZ)Z" } : Jvm.MethodName) prog_1_method_30_code (6 : Nat) (Option.some Jvm.ClassFile.FieldType.boolean)),
  (Jvm.Cond.code ({ cls := "OakYard$Yard", name := "isDockFree", desc := "(I)Z" } : Jvm.MethodName) prog_12_method_26_code (3 : Nat) (Option.some Jvm.ClassFile.FieldType.boolean)),
  (Jvm.Cond.code ({ cls := "OakYard$Harbour", name := "lets", desc := "(III)Z" } : Jvm.MethodName) prog_4_method_3_code (4 : Nat) (Option.some Jvm.ClassFile.FieldType.boolean)),
  (Jvm.Cond.code ({ cls := "java/lang/Math", name := "floorMod", desc := "(II)I" } : Jvm.MethodName) prog_24_method_50_code (3 : Nat) (Option.some Jvm.ClassFile.FieldType.int)),
  (Jvm.Cond.codeWith ({ cls := "OakYardLaw", name := "sail", desc := "(LOakYard;IZ[J)I" } : Jvm.MethodName) method_28_code (5 : Nat) (Option.some Jvm.ClassFile.FieldType.int) [((0 : Nat), (17 : Nat), (20 : Nat), (13 : Nat))]),
  (Jvm.Cond.code ({ cls := "OakYard", name := "sail", desc := "(IZ)Z" } : Jvm.MethodName) prog_1_method_31_code (5 : Nat) (Option.some Jvm.ClassFile.FieldType.boolean)),
  (Jvm.Cond.codeWith ({ cls := "OakYardLaw", name := "shut", desc := "(LOakYard;I[J)I" } : Jvm.MethodName) method_29_code (4 : Nat) (Option.some Jvm.ClassFile.FieldType.int) [((0 : Nat), (16 : Nat), (19 : Nat), (13 : Nat))]),
  (Jvm.Cond.code ({ cls := "OakYard", name := "shut", desc := "(I)Z" } : Jvm.MethodName) prog_1_method_32_code (3 : Nat) (Option.some Jvm.ClassFile.FieldType.boolean)),
  (Jvm.Cond.code ({ cls := "OakYard$Yard", name := "worstRot", desc := "(LOakYard$Ship;)I" } : Jvm.MethodName) prog_12_method_21_code (5 : Nat) (Option.some Jvm.ClassFile.FieldType.int)),
  (Jvm.Cond.codeWith ({ cls := "OakYardLaw", name := "breaks", desc := "(LOakYard;I[J)I" } : Jvm.MethodName) method_30_code (4 : Nat) (Option.some Jvm.ClassFile.FieldType.int) [((0 : Nat), (9 : Nat), (12 : Nat), (13 : Nat))]),
  (Jvm.Cond.code ({ cls := "OakYard", name := "breaks", desc := "(I)I" } : Jvm.MethodName) prog_1_method_33_code (3 : Nat) (Option.some Jvm.ClassFile.FieldType.int)),
  (Jvm.Cond.code ({ cls := "OakYard$Ship", name := "isAtYard", desc := "()Z" } : Jvm.MethodName) prog_7_method_8_code (1 : Nat) (Option.some Jvm.ClassFile.FieldType.boolean)),
  (Jvm.Cond.code ({ cls := "OakYard$Yard", name := "breakUp", desc := "(LOakYard$Ship;)I" } : Jvm.MethodName) prog_12_method_20_code (4 : Nat) (Option.some Jvm.ClassFile.FieldType.int)),
  (Jvm.Cond.codeWith ({ cls := "OakYardLaw", name := "led", desc := "(LOakYard;II[J)I" } : Jvm.MethodName) method_31_code (5 : Nat) (Option.some Jvm.ClassFile.FieldType.int) [((0 : Nat), (10 : Nat), (13 : Nat), (13 : Nat)), ((0 : Nat), (10 : Nat), (17 : Nat), (42 : Nat))]),
  (Jvm.Cond.code ({ cls := "OakYard", name := "led", desc := "(II)I" } : Jvm.MethodName) prog_1_method_34_code (4 : Nat) (Option.some Jvm.ClassFile.FieldType.int)),
  (Jvm.Cond.code ({ cls := "OakYard$Yard", name := "badPieces", desc := "(LOakYard$Ship;)I" } : Jvm.MethodName) prog_12_method_23_code (5 : Nat) (Option.some Jvm.ClassFile.FieldType.int)),
  (Jvm.Cond.code ({ cls := "OakYard$Ship", name := "tell", desc := "(I)I" } : Jvm.MethodName) prog_7_method_11_code (2 : Nat) (Option.some Jvm.ClassFile.FieldType.int)),
  (Jvm.Cond.codeWith ({ cls := "OakYardLaw", name := "lastTide", desc := "(LOakYard;III[J)I" } : Jvm.MethodName) method_32_code (6 : Nat) (Option.some Jvm.ClassFile.FieldType.int) [((0 : Nat), (12 : Nat), (15 : Nat), (13 : Nat))]),
  (Jvm.Cond.code ({ cls := "OakYard", name := "lastTide", desc := "(III)I" } : Jvm.MethodName) prog_1_method_35_code (5 : Nat) (Option.some Jvm.ClassFile.FieldType.int)),
  (Jvm.Cond.code ({ cls := "OakYard$Harbour", name := "lastDay", desc := "(IIII)I" } : Jvm.MethodName) prog_4_method_4_code (6 : Nat) (Option.some Jvm.ClassFile.FieldType.int)),
  (Jvm.Cond.codeWith ({ cls := "OakYardLaw", name := "docks", desc := "(LOakYard;III[J)I" } : Jvm.MethodName) method_33_code (6 : Nat) (Option.some Jvm.ClassFile.FieldType.int) [((0 : Nat), (12 : Nat), (15 : Nat), (13 : Nat)), ((0 : Nat), (12 : Nat), (19 : Nat), (15 : Nat))]),
  (Jvm.Cond.code ({ cls := "OakYard", name := "docks", desc := "(III)I" } : Jvm.MethodName) prog_1_method_36_code (4 : Nat) (Option.some Jvm.ClassFile.FieldType.int)),
  (Jvm.Cond.code ({ cls := "OakYard$Yard", name := "planDock", desc := "(III)I" } : Jvm.MethodName) prog_12_method_27_code (6 : Nat) (Option.some Jvm.ClassFile.FieldType.int)),
  (Jvm.Cond.code ({ cls := "OakYard$Yard", name := "firstDayOut", desc := "(IIII)I" } : Jvm.MethodName) prog_12_method_28_code (10 : Nat) (Option.some Jvm.ClassFile.FieldType.int)),
  (Jvm.Cond.code ({ cls := "OakYard$Harbour", name := "dayOut", desc := "(IIII)I" } : Jvm.MethodName) prog_4_method_6_code (6 : Nat) (Option.some Jvm.ClassFile.FieldType.int)),
  (Jvm.Cond.code ({ cls := "OakYard$Harbour", name := "firstDay", desc := "(III)I" } : Jvm.MethodName) prog_4_method_5_code (5 : Nat) (Option.some Jvm.ClassFile.FieldType.int)),
  (Jvm.Cond.codeWith ({ cls := "OakYardLaw", name := "gang", desc := "(LOakYard;I[J)I" } : Jvm.MethodName) method_34_code (4 : Nat) (Option.some Jvm.ClassFile.FieldType.int) [((0 : Nat), (9 : Nat), (12 : Nat), (15 : Nat)), ((0 : Nat), (9 : Nat), (15 : Nat), (21 : Nat))]),
  (Jvm.Cond.code ({ cls := "OakYard", name := "gang", desc := "(I)I" } : Jvm.MethodName) prog_1_method_37_code (2 : Nat) (Option.some Jvm.ClassFile.FieldType.int)),
  (Jvm.Cond.code ({ cls := "OakYard$Yard", name := "addGang", desc := "(I)I" } : Jvm.MethodName) prog_12_method_6_code (2 : Nat) (Option.some Jvm.ClassFile.FieldType.int)),
  (Jvm.Cond.codeWith ({ cls := "OakYardLaw", name := "works", desc := "(LOakYard;II[J)I" } : Jvm.MethodName) method_35_code (5 : Nat) (Option.some Jvm.ClassFile.FieldType.int) [((0 : Nat), (17 : Nat), (20 : Nat), (13 : Nat))]),
  (Jvm.Cond.code ({ cls := "OakYard", name := "works", desc := "(II)Z" } : Jvm.MethodName) prog_1_method_38_code (4 : Nat) (Option.some Jvm.ClassFile.FieldType.boolean)),
  (Jvm.Cond.codeWith ({ cls := "OakYardLaw", name := "days", desc := "(LOakYard;I[J)I" } : Jvm.MethodName) method_36_code (4 : Nat) (Option.some Jvm.ClassFile.FieldType.int) [((0 : Nat), (9 : Nat), (12 : Nat), (15 : Nat))]),
  (Jvm.Cond.code ({ cls := "OakYard", name := "days", desc := "(I)I" } : Jvm.MethodName) prog_1_method_40_code (4 : Nat) (Option.some Jvm.ClassFile.FieldType.int)),
  (Jvm.Cond.code ({ cls := "OakYard$Yard", name := "passDay", desc := "()V" } : Jvm.MethodName) prog_12_method_11_code (3 : Nat) (Option.none : Option Jvm.ClassFile.FieldType)),
  (Jvm.Cond.code ({ cls := "OakYard$Piece", name := "passDay", desc := "(I)V" } : Jvm.MethodName) prog_5_method_10_code (3 : Nat) (Option.none : Option Jvm.ClassFile.FieldType)),
  (Jvm.Cond.code ({ cls := "OakYard$Piece", name := "rotByPlace", desc := "(I)I" } : Jvm.MethodName) prog_5_method_11_code (3 : Nat) (Option.some Jvm.ClassFile.FieldType.int)),
  (Jvm.Cond.code ({ cls := "OakYard$Piece", name := "dryWanted", desc := "()I" } : Jvm.MethodName) prog_5_method_12_code (1 : Nat) (Option.some Jvm.ClassFile.FieldType.int)),
  (Jvm.Cond.code ({ cls := "OakYard$Yard", name := "openUp", desc := "(ILOakYard$Text;)V" } : Jvm.MethodName) prog_12_method_12_code (4 : Nat) (Option.none : Option Jvm.ClassFile.FieldType)),
  (Jvm.Cond.code ({ cls := "OakYard$Yard", name := "leastDry", desc := "(LOakYard$Ship;)I" } : Jvm.MethodName) prog_12_method_22_code (5 : Nat) (Option.some Jvm.ClassFile.FieldType.int)),
  (Jvm.Cond.code ({ cls := "OakYard$Warrants", name := "tellOpening", desc := "(III)V" } : Jvm.MethodName) prog_11_method_5_code (4 : Nat) (Option.none : Option Jvm.ClassFile.FieldType)),
  (Jvm.Cond.code ({ cls := "OakYard$Warrants", name := "tellNothing", desc := "()V" } : Jvm.MethodName) prog_11_method_6_code (1 : Nat) (Option.none : Option Jvm.ClassFile.FieldType)),
  (Jvm.Cond.code ({ cls := "OakYard$Text", name := "sumOf", desc := "(ILOakYard$Warrants;)I" } : Jvm.MethodName) prog_9_method_4_code (5 : Nat) (Option.some Jvm.ClassFile.FieldType.int)),
  (Jvm.Cond.code ({ cls := "OakYard$Yard", name := "letWork", desc := "(ILOakYard$Ship;LOakYard$Text;)V" } : Jvm.MethodName) prog_12_method_13_code (4 : Nat) (Option.none : Option Jvm.ClassFile.FieldType)),
  (Jvm.Cond.code ({ cls := "OakYard$Yard", name := "carryChips", desc := "(I)V" } : Jvm.MethodName) prog_12_method_14_code (4 : Nat) (Option.none : Option Jvm.ClassFile.FieldType)),
  (Jvm.Cond.codeWith ({ cls := "OakYardLaw", name := "ofTree", desc := "(LOakYard;IZ[J)I" } : Jvm.MethodName) method_37_code (5 : Nat) (Option.some Jvm.ClassFile.FieldType.int) [((0 : Nat), (10 : Nat), (13 : Nat), (13 : Nat))]),
  (Jvm.Cond.code ({ cls := "OakYard", name := "ofTree", desc := "(IZ)I" } : Jvm.MethodName) prog_1_method_41_code (3 : Nat) (Option.some Jvm.ClassFile.FieldType.int)),
  (Jvm.Cond.code ({ cls := "OakYard$Yard", name := "shipsOfTree", desc := "(I)I" } : Jvm.MethodName) prog_12_method_31_code (4 : Nat) (Option.some Jvm.ClassFile.FieldType.int)),
  (Jvm.Cond.code ({ cls := "OakYard$Yard", name := "isOfTree", desc := "(II)Z" } : Jvm.MethodName) prog_12_method_29_code (3 : Nat) (Option.some Jvm.ClassFile.FieldType.boolean)),
  (Jvm.Cond.code ({ cls := "OakYard$Yard", name := "piecesOfTree", desc := "(I)I" } : Jvm.MethodName) prog_12_method_30_code (4 : Nat) (Option.some Jvm.ClassFile.FieldType.int)),
  (Jvm.Cond.codeWith ({ cls := "OakYardLaw", name := "fellows", desc := "(LOakYard;I[J)I" } : Jvm.MethodName) method_38_code (4 : Nat) (Option.some Jvm.ClassFile.FieldType.int) [((0 : Nat), (9 : Nat), (12 : Nat), (13 : Nat))]),
  (Jvm.Cond.code ({ cls := "OakYard", name := "fellows", desc := "(I)I" } : Jvm.MethodName) prog_1_method_42_code (2 : Nat) (Option.some Jvm.ClassFile.FieldType.int)),
  (Jvm.Cond.code ({ cls := "OakYard$Yard", name := "shedFellows", desc := "(I)I" } : Jvm.MethodName) prog_12_method_32_code (4 : Nat) (Option.some Jvm.ClassFile.FieldType.int)),
  (Jvm.Cond.codeWith ({ cls := "OakYardLaw", name := "enter", desc := "(LOakYard;IIII[J)I" } : Jvm.MethodName) method_39_code (7 : Nat) (Option.some Jvm.ClassFile.FieldType.int) [((0 : Nat), (14 : Nat), (17 : Nat), (15 : Nat))]),
  (Jvm.Cond.code ({ cls := "OakYard", name := "enter", desc := "(IIII)I" } : Jvm.MethodName) prog_1_method_44_code (5 : Nat) (Option.some Jvm.ClassFile.FieldType.int)),
  (Jvm.Cond.code ({ cls := "OakYard$Books", name := "addEntry", desc := "(IIII)I" } : Jvm.MethodName) prog_2_method_2_code (5 : Nat) (Option.some Jvm.ClassFile.FieldType.int)),
  (Jvm.Cond.codeWith ({ cls := "OakYardLaw", name := "muster", desc := "(LOakYard;II[J)I" } : Jvm.MethodName) method_40_code (5 : Nat) (Option.some Jvm.ClassFile.FieldType.int) [((0 : Nat), (10 : Nat), (13 : Nat), (15 : Nat))]),
  (Jvm.Cond.code ({ cls := "OakYard", name := "muster", desc := "(II)I" } : Jvm.MethodName) prog_1_method_45_code (3 : Nat) (Option.some Jvm.ClassFile.FieldType.int)),
  (Jvm.Cond.code ({ cls := "OakYard$Books", name := "addMuster", desc := "(II)I" } : Jvm.MethodName) prog_2_method_3_code (3 : Nat) (Option.some Jvm.ClassFile.FieldType.int)),
  (Jvm.Cond.codeWith ({ cls := "OakYardLaw", name := "wrong", desc := "(LOakYard;I[J)I" } : Jvm.MethodName) method_41_code (4 : Nat) (Option.some Jvm.ClassFile.FieldType.int) [((0 : Nat), (9 : Nat), (12 : Nat), (15 : Nat))]),
  (Jvm.Cond.code ({ cls := "OakYard", name := "wrong", desc := "(I)I" } : Jvm.MethodName) prog_1_method_46_code (2 : Nat) (Option.some Jvm.ClassFile.FieldType.int)),
  (Jvm.Cond.code ({ cls := "OakYard$Books", name := "firstFalse", desc := "(I)I" } : Jvm.MethodName) prog_2_method_4_code (5 : Nat) (Option.some Jvm.ClassFile.FieldType.int)),
  (Jvm.Cond.code ({ cls := "OakYard$Books", name := "unitsUpTo", desc := "(II)I" } : Jvm.MethodName) prog_2_method_5_code (5 : Nat) (Option.some Jvm.ClassFile.FieldType.int)),
  (Jvm.Cond.codeWith ({ cls := "OakYardLaw", name := "hand", desc := "(LOakYard;I[J)I" } : Jvm.MethodName) method_42_code (4 : Nat) (Option.some Jvm.ClassFile.FieldType.int) [((0 : Nat), (9 : Nat), (12 : Nat), (15 : Nat))]),
  (Jvm.Cond.code ({ cls := "OakYard", name := "hand", desc := "(I)I" } : Jvm.MethodName) prog_1_method_47_code (2 : Nat) (Option.some Jvm.ClassFile.FieldType.int)),
  (Jvm.Cond.code ({ cls := "OakYard$Books", name := "busiestHand", desc := "(I)I" } : Jvm.MethodName) prog_2_method_6_code (6 : Nat) (Option.some Jvm.ClassFile.FieldType.int)),
  (Jvm.Cond.code ({ cls := "OakYard$Books", name := "dayAheadOf", desc := "(I)I" } : Jvm.MethodName) prog_2_method_7_code (5 : Nat) (Option.some Jvm.ClassFile.FieldType.int)),
  (Jvm.Cond.code ({ cls := "OakYard$Books", name := "addUpHands", desc := "(III)V" } : Jvm.MethodName) prog_2_method_8_code (5 : Nat) (Option.none : Option Jvm.ClassFile.FieldType)),
  (Jvm.Cond.codeWith ({ cls := "OakYardLaw", name := "choice", desc := "(LOakYard;IIII[J)I" } : Jvm.MethodName) method_43_code (7 : Nat) (Option.some Jvm.ClassFile.FieldType.int) [((0 : Nat), (14 : Nat), (17 : Nat), (15 : Nat))]),
  (Jvm.Cond.code ({ cls := "OakYard", name := "choice", desc := "(IIII)I" } : Jvm.MethodName) prog_1_method_48_code (5 : Nat) (Option.some Jvm.ClassFile.FieldType.int)),
  (Jvm.Cond.code ({ cls := "OakYard$Plan", name := "addChoice", desc := "(IIII)I" } : Jvm.MethodName) prog_6_method_2_code (5 : Nat) (Option.some Jvm.ClassFile.FieldType.int)),
  (Jvm.Cond.codeWith ({ cls := "OakYardLaw", name := "coin", desc := "(LOakYard;III)I" } : Jvm.MethodName) method_44_code (5 : Nat) (Option.some Jvm.ClassFile.FieldType.int) [((0 : Nat), (7 : Nat), (10 : Nat), (15 : Nat))]),
  (Jvm.Cond.code ({ cls := "OakYard", name := "coin", desc := "(III)V" } : Jvm.MethodName) prog_1_method_49_code (4 : Nat) (Option.none : Option Jvm.ClassFile.FieldType)),
  (Jvm.Cond.codeWith ({ cls := "OakYardLaw", name := "beside", desc := "(LOakYard;IZ[J)I" } : Jvm.MethodName) method_45_code (5 : Nat) (Option.some Jvm.ClassFile.FieldType.int) [((0 : Nat), (10 : Nat), (13 : Nat), (13 : Nat)), ((0 : Nat), (10 : Nat), (17 : Nat), (15 : Nat))]),
  (Jvm.Cond.code ({ cls := "OakYard", name := "beside", desc := "(IZ)I" } : Jvm.MethodName) prog_1_method_16_code (5 : Nat) (Option.some Jvm.ClassFile.FieldType.int)),
  (Jvm.Cond.code ({ cls := "OakYard$Yard", name := "letsMore", desc := "(LOakYard$Text;LOakYard$Text;I)I" } : Jvm.MethodName) prog_12_method_17_code (7 : Nat) (Option.some Jvm.ClassFile.FieldType.int)),
  (Jvm.Cond.code ({ cls := "OakYardModel", name := "thrown", desc := "()I" } : Jvm.MethodName) prog_14_method_1_code (1 : Nat) (Option.some Jvm.ClassFile.FieldType.int)),
  (Jvm.Cond.code ({ cls := "OakYardModel", name := "<init>", desc := "()V" } : Jvm.MethodName) prog_14_method_4_code (2 : Nat) (Option.none : Option Jvm.ClassFile.FieldType)),
  (Jvm.Cond.code ({ cls := "OakYardModel", name := "undo", desc := "()Z" } : Jvm.MethodName) prog_14_method_7_code (2 : Nat) (Option.some Jvm.ClassFile.FieldType.boolean)),
  (Jvm.Cond.code ({ cls := "OakYardModel", name := "keep", desc := "()V" } : Jvm.MethodName) prog_14_method_8_code (2 : Nat) (Option.none : Option Jvm.ClassFile.FieldType)),
  (Jvm.Cond.code ({ cls := "OakYardModel", name := "back", desc := "()Z" } : Jvm.MethodName) prog_14_method_9_code (2 : Nat) (Option.some Jvm.ClassFile.FieldType.boolean)),
  (Jvm.Cond.code ({ cls := "OakYardModel", name := "road", desc := "(II)V" } : Jvm.MethodName) prog_14_method_11_code (3 : Nat) (Option.none : Option Jvm.ClassFile.FieldType)),
  (Jvm.Cond.code ({ cls := "OakYardModel", name := "noWood", desc := "(I)Z" } : Jvm.MethodName) prog_14_method_10_code (1 : Nat) (Option.some Jvm.ClassFile.FieldType.boolean)),
  (Jvm.Cond.code ({ cls := "OakYardModel", name := "in", desc := "(III)Z" } : Jvm.MethodName) prog_14_method_3_code (3 : Nat) (Option.some Jvm.ClassFile.FieldType.boolean)),
  (Jvm.Cond.code ({ cls := "OakYardModel", name := "throwsIf", desc := "(ZI)Z" } : Jvm.MethodName) prog_14_method_2_code (3 : Nat) (Option.some Jvm.ClassFile.FieldType.boolean)),
  (Jvm.Cond.code ({ cls := "OakYardModel", name := "tree", desc := "(IIIIII)I" } : Jvm.MethodName) prog_14_method_14_code (9 : Nat) (Option.some Jvm.ClassFile.FieldType.int)),
  (Jvm.Cond.code ({ cls := "OakYardModel", name := "fell", desc := "(II)I" } : Jvm.MethodName) prog_14_method_21_code (5 : Nat) (Option.some Jvm.ClassFile.FieldType.int)),
  (Jvm.Cond.code ({ cls := "OakYardModel", name := "noTree", desc := "(I)Z" } : Jvm.MethodName) prog_14_method_13_code (2 : Nat) (Option.some Jvm.ClassFile.FieldType.boolean)),
  (Jvm.Cond.code ({ cls := "OakYardModel", name := "treeOf", desc := "(II)I" } : Jvm.MethodName) prog_14_method_12_code (3 : Nat) (Option.some Jvm.ClassFile.FieldType.int)),
  (Jvm.Cond.code ({ cls := "OakYardModel", name := "deed", desc := "()V" } : Jvm.MethodName) prog_14_method_6_code (2 : Nat) (Option.none : Option Jvm.ClassFile.FieldType)),
  (Jvm.Cond.code ({ cls := "OakYardModel", name := "longAs", desc := "(II)I" } : Jvm.MethodName) prog_14_method_20_code (3 : Nat) (Option.some Jvm.ClassFile.FieldType.int)),
  (Jvm.Cond.code ({ cls := "OakYardModel", name := "begins", desc := "(IIIIII)I" } : Jvm.MethodName) prog_14_method_19_code (9 : Nat) (Option.some Jvm.ClassFile.FieldType.int)),
  (Jvm.Cond.code ({ cls := "OakYardModel", name := "sets", desc := "(III)V" } : Jvm.MethodName) prog_14_method_17_code (4 : Nat) (Option.none : Option Jvm.ClassFile.FieldType)),
  (Jvm.Cond.code ({ cls := "OakYardModel", name := "pieceAt", desc := "(II)I" } : Jvm.MethodName) prog_14_method_15_code (2 : Nat) (Option.some Jvm.ClassFile.FieldType.int)),
  (Jvm.Cond.code ({ cls := "OakYardModel", name := "today", desc := "()I" } : Jvm.MethodName) prog_14_method_5_code (1 : Nat) (Option.some Jvm.ClassFile.FieldType.int)),
  (Jvm.Cond.code ({ cls := "OakYardModel", name := "buy", desc := "(IIIII)I" } : Jvm.MethodName) prog_14_method_22_code (6 : Nat) (Option.some Jvm.ClassFile.FieldType.int)),
  (Jvm.Cond.code ({ cls := "OakYardModel", name := "sheds", desc := "(I)V" } : Jvm.MethodName) prog_14_method_23_code (2 : Nat) (Option.none : Option Jvm.ClassFile.FieldType)),
  (Jvm.Cond.code ({ cls := "OakYardModel", name := "shed", desc := "(I)Z" } : Jvm.MethodName) prog_14_method_25_code (2 : Nat) (Option.some Jvm.ClassFile.FieldType.boolean)),
  (Jvm.Cond.code ({ cls := "OakYardModel", name := "noPiece", desc := "(I)Z" } : Jvm.MethodName) prog_14_method_18_code (2 : Nat) (Option.some Jvm.ClassFile.FieldType.boolean)),
  (Jvm.Cond.code ({ cls := "OakYardModel", name := "of", desc := "(II)I" } : Jvm.MethodName) prog_14_method_16_code (3 : Nat) (Option.some Jvm.ClassFile.FieldType.int)),
  (Jvm.Cond.code ({ cls := "OakYardModel", name := "inPlace", desc := "(I)I" } : Jvm.MethodName) prog_14_method_24_code (4 : Nat) (Option.some Jvm.ClassFile.FieldType.int)),
  (Jvm.Cond.code ({ cls := "OakYardModel", name := "piece", desc := "(II)I" } : Jvm.MethodName) prog_14_method_26_code (3 : Nat) (Option.some Jvm.ClassFile.FieldType.int)),
  (Jvm.Cond.code ({ cls := "OakYardModel", name := "look", desc := "(I)I" } : Jvm.MethodName) prog_14_method_27_code (5 : Nat) (Option.some Jvm.ClassFile.FieldType.int)),
  (Jvm.Cond.code ({ cls := "OakYardModel", name := "textOf", desc := "(I)I" } : Jvm.MethodName) prog_14_method_49_code (4 : Nat) (Option.some Jvm.ClassFile.FieldType.int)),
  (Jvm.Cond.code ({ cls := "OakYardModel", name := "textAt", desc := "(I)I" } : Jvm.MethodName) prog_14_method_39_code (1 : Nat) (Option.some Jvm.ClassFile.FieldType.int)),
  (Jvm.Cond.code ({ cls := "OakYardModel", name := "linesOf", desc := "(I)I" } : Jvm.MethodName) prog_14_method_50_code (2 : Nat) (Option.some Jvm.ClassFile.FieldType.int)),
  (Jvm.Cond.code ({ cls := "OakYardModel", name := "lineAt", desc := "(II)I" } : Jvm.MethodName) prog_14_method_40_code (2 : Nat) (Option.some Jvm.ClassFile.FieldType.int)),
  (Jvm.Cond.code ({ cls := "OakYardModel", name := "feed", desc := "(IIIII)I" } : Jvm.MethodName) prog_14_method_28_code (7 : Nat) (Option.some Jvm.ClassFile.FieldType.int)),
  (Jvm.Cond.code ({ cls := "OakYardModel", name := "end", desc := "(I)Z" } : Jvm.MethodName) prog_14_method_29_code (2 : Nat) (Option.some Jvm.ClassFile.FieldType.boolean)),
  (Jvm.Cond.code ({ cls := "OakYardModel", name := "fault", desc := "()I" } : Jvm.MethodName) prog_14_method_38_code (1 : Nat) (Option.some Jvm.ClassFile.FieldType.int)),
  (Jvm.Cond.code ({ cls := "OakYardModel", name := "warrant", desc := "(I)I" } : Jvm.MethodName) prog_14_method_48_code (5 : Nat) (Option.some Jvm.ClassFile.FieldType.int)),
  (Jvm.Cond.code ({ cls := "OakYardModel", name := "uses", desc := "()V" } : Jvm.MethodName) prog_14_method_30_code (1 : Nat) (Option.none : Option Jvm.ClassFile.FieldType)),
  (Jvm.Cond.code ({ cls := "OakYardModel", name := "reads", desc := "()I" } : Jvm.MethodName) prog_14_method_47_code (2 : Nat) (Option.some Jvm.ClassFile.FieldType.int)),
  (Jvm.Cond.code ({ cls := "OakYardModel", name := "readAll", desc := "()I" } : Jvm.MethodName) prog_14_method_46_code (2 : Nat) (Option.some Jvm.ClassFile.FieldType.int)),
  (Jvm.Cond.code ({ cls := "OakYardModel", name := "blanks", desc := "()V" } : Jvm.MethodName) prog_14_method_32_code (1 : Nat) (Option.none : Option Jvm.ClassFile.FieldType)),
  (Jvm.Cond.code ({ cls := "OakYardModel", name := "isAt", desc := "(II)Z" } : Jvm.MethodName) prog_14_method_31_code (3 : Nat) (Option.some Jvm.ClassFile.FieldType.boolean)),
  (Jvm.Cond.code ({ cls := "OakYardModel", name := "readLine", desc := "(I)Z" } : Jvm.MethodName) prog_14_method_45_code (4 : Nat) (Option.some Jvm.ClassFile.FieldType.boolean)),
  (Jvm.Cond.code ({ cls := "OakYardModel", name := "word", desc := "()V" } : Jvm.MethodName) prog_14_method_33_code (1 : Nat) (Option.none : Option Jvm.ClassFile.FieldType)),
  (Jvm.Cond.code ({ cls := "OakYardModel", name := "isWord", desc := "(Ljava/lang/String;)Z" } : Jvm.MethodName) prog_14_method_34_code (4 : Nat) (Option.some Jvm.ClassFile.FieldType.boolean)),
  (Jvm.Cond.code ({ cls := "OakYardModel", name := "number", desc := "(I)I" } : Jvm.MethodName) prog_14_method_37_code (3 : Nat) (Option.some Jvm.ClassFile.FieldType.int)),
  (Jvm.Cond.code ({ cls := "OakYardModel", name := "passes", desc := "(Ljava/lang/String;)Z" } : Jvm.MethodName) prog_14_method_35_code (2 : Nat) (Option.some Jvm.ClassFile.FieldType.boolean)),
  (Jvm.Cond.code ({ cls := "OakYardModel", name := "readCond", desc := "()Z" } : Jvm.MethodName) prog_14_method_44_code (1 : Nat) (Option.some Jvm.ClassFile.FieldType.boolean)),
  (Jvm.Cond.code ({ cls := "OakYardModel", name := "readAllOf", desc := "()Z" } : Jvm.MethodName) prog_14_method_43_code (1 : Nat) (Option.some Jvm.ClassFile.FieldType.boolean)),
  (Jvm.Cond.code ({ cls := "OakYardModel", name := "readAtom", desc := "()Z" } : Jvm.MethodName) prog_14_method_42_code (5 : Nat) (Option.some Jvm.ClassFile.FieldType.boolean)),
  (Jvm.Cond.code ({ cls := "OakYardModel", name := "sign", desc := "(I)Z" } : Jvm.MethodName) prog_14_method_36_code (2 : Nat) (Option.some Jvm.ClassFile.FieldType.boolean)),
  (Jvm.Cond.code ({ cls := "OakYardModel", name := "emits", desc := "(II)V" } : Jvm.MethodName) prog_14_method_41_code (4 : Nat) (Option.none : Option Jvm.ClassFile.FieldType)),
  (Jvm.Cond.code ({ cls := "OakYardModel", name := "may", desc := "(III)Z" } : Jvm.MethodName) prog_14_method_55_code (4 : Nat) (Option.some Jvm.ClassFile.FieldType.boolean)),
  (Jvm.Cond.code ({ cls := "OakYardModel", name := "noShip", desc := "(I)Z" } : Jvm.MethodName) prog_14_method_61_code (2 : Nat) (Option.some Jvm.ClassFile.FieldType.boolean)),
  (Jvm.Cond.code ({ cls := "OakYardModel", name := "whyOf", desc := "(III)I" } : Jvm.MethodName) prog_14_method_54_code (5 : Nat) (Option.some Jvm.ClassFile.FieldType.int)),
  (Jvm.Cond.code ({ cls := "OakYardModel", name := "looksAtShip", desc := "(I)V" } : Jvm.MethodName) prog_14_method_53_code (3 : Nat) (Option.none : Option Jvm.ClassFile.FieldType)),
  (Jvm.Cond.code ({ cls := "OakYardModel", name := "its", desc := "(II)I" } : Jvm.MethodName) prog_14_method_59_code (3 : Nat) (Option.some Jvm.ClassFile.FieldType.int)),
  (Jvm.Cond.code ({ cls := "OakYardModel", name := "shipAt", desc := "(II)I" } : Jvm.MethodName) prog_14_method_58_code (2 : Nat) (Option.some Jvm.ClassFile.FieldType.int)),
  (Jvm.Cond.code ({ cls := "OakYardModel", name := "gangsOn", desc := "(I)I" } : Jvm.MethodName) prog_14_method_105_code (4 : Nat) (Option.some Jvm.ClassFile.FieldType.int)),
  (Jvm.Cond.code ({ cls := "OakYardModel", name := "holds", desc := "(II)Z" } : Jvm.MethodName) prog_14_method_51_code (8 : Nat) (Option.some Jvm.ClassFile.FieldType.boolean)),
  (Jvm.Cond.code ({ cls := "OakYardModel", name := "why", desc := "(III)I" } : Jvm.MethodName) prog_14_method_56_code (4 : Nat) (Option.some Jvm.ClassFile.FieldType.int)),
  (Jvm.Cond.code ({ cls := "OakYardModel", name := "beside", desc := "(IZ)I" } : Jvm.MethodName) prog_14_method_57_code (7 : Nat) (Option.some Jvm.ClassFile.FieldType.int)),
  (Jvm.Cond.code ({ cls := "OakYardModel", name := "ship", desc := "(IIZ)I" } : Jvm.MethodName) prog_14_method_64_code (5 : Nat) (Option.some Jvm.ClassFile.FieldType.int)),
  (Jvm.Cond.code ({ cls := "OakYardModel", name := "puts", desc := "(III)V" } : Jvm.MethodName) prog_14_method_60_code (4 : Nat) (Option.none : Option Jvm.ClassFile.FieldType)),
  (Jvm.Cond.code ({ cls := "OakYardModel", name := "need", desc := "(IIIII)I" } : Jvm.MethodName) prog_14_method_65_code (8 : Nat) (Option.some Jvm.ClassFile.FieldType.int)),
  (Jvm.Cond.code ({ cls := "OakYardModel", name := "needAt", desc := "(II)I" } : Jvm.MethodName) prog_14_method_62_code (2 : Nat) (Option.some Jvm.ClassFile.FieldType.int)),
  (Jvm.Cond.code ({ cls := "OakYardModel", name := "slips", desc := "(I)V" } : Jvm.MethodName) prog_14_method_66_code (2 : Nat) (Option.none : Option Jvm.ClassFile.FieldType)),
  (Jvm.Cond.code ({ cls := "OakYardModel", name := "lay", desc := "(I)Z" } : Jvm.MethodName) prog_14_method_68_code (2 : Nat) (Option.some Jvm.ClassFile.FieldType.boolean)),
  (Jvm.Cond.code ({ cls := "OakYardModel", name := "inState", desc := "(I)I" } : Jvm.MethodName) prog_14_method_67_code (4 : Nat) (Option.some Jvm.ClassFile.FieldType.int)),
  (Jvm.Cond.code ({ cls := "OakYardModel", name := "fit", desc := "(IIIZ)Z" } : Jvm.MethodName) prog_14_method_72_code (7 : Nat) (Option.some Jvm.ClassFile.FieldType.boolean)),
  (Jvm.Cond.code ({ cls := "OakYardModel", name := "noNeed", desc := "(II)Z" } : Jvm.MethodName) prog_14_method_63_code (3 : Nat) (Option.some Jvm.ClassFile.FieldType.boolean)),
  (Jvm.Cond.code ({ cls := "OakYardModel", name := "canWork", desc := "(I)Z" } : Jvm.MethodName) prog_14_method_69_code (2 : Nat) (Option.some Jvm.ClassFile.FieldType.boolean)),
  (Jvm.Cond.code ({ cls := "OakYardModel", name := "isEnoughPiece", desc := "(II)Z" } : Jvm.MethodName) prog_14_method_71_code (3 : Nat) (Option.some Jvm.ClassFile.FieldType.boolean)),
  (Jvm.Cond.code ({ cls := "OakYardModel", name := "isEnough", desc := "(IIIII)Z" } : Jvm.MethodName) prog_14_method_70_code (6 : Nat) (Option.some Jvm.ClassFile.FieldType.boolean)),
  (Jvm.Cond.code ({ cls := "OakYardModel", name := "out", desc := "(II)I" } : Jvm.MethodName) prog_14_method_74_code (5 : Nat) (Option.some Jvm.ClassFile.FieldType.int)),
  (Jvm.Cond.code ({ cls := "OakYardModel", name := "frees", desc := "(I)V" } : Jvm.MethodName) prog_14_method_73_code (3 : Nat) (Option.none : Option Jvm.ClassFile.FieldType)),
  (Jvm.Cond.code ({ cls := "OakYardModel", name := "waste", desc := "(IZ)I" } : Jvm.MethodName) prog_14_method_80_code (3 : Nat) (Option.some Jvm.ClassFile.FieldType.int)),
  (Jvm.Cond.code ({ cls := "OakYardModel", name := "seeks", desc := "(IZ)V" } : Jvm.MethodName) prog_14_method_79_code (11 : Nat) (Option.none : Option Jvm.ClassFile.FieldType)),
  (Jvm.Cond.code ({ cls := "OakYardModel", name := "weight", desc := "(I)J" } : Jvm.MethodName) prog_14_method_78_code (5 : Nat) (Option.some Jvm.ClassFile.FieldType.long)),
  (Jvm.Cond.code ({ cls := "OakYardModel", name := "offers", desc := "(IIIJ)V" } : Jvm.MethodName) prog_14_method_77_code (10 : Nat) (Option.none : Option Jvm.ClassFile.FieldType)),
  (Jvm.Cond.code ({ cls := "OakYardModel", name := "which", desc := "(IIZ)I" } : Jvm.MethodName) prog_14_method_81_code (6 : Nat) (Option.some Jvm.ClassFile.FieldType.int)),
  (Jvm.Cond.code ({ cls := "OakYardModel", name := "masts", desc := "(II)I" } : Jvm.MethodName) prog_14_method_85_code (3 : Nat) (Option.some Jvm.ClassFile.FieldType.int)),
  (Jvm.Cond.code ({ cls := "OakYardModel", name := "mastsFor", desc := "(I)I" } : Jvm.MethodName) prog_14_method_84_code (6 : Nat) (Option.some Jvm.ClassFile.FieldType.int)),
  (Jvm.Cond.code ({ cls := "OakYardModel", name := "gathers", desc := "()V" } : Jvm.MethodName) prog_14_method_82_code (2 : Nat) (Option.none : Option Jvm.ClassFile.FieldType)),
  (Jvm.Cond.code ({ cls := "OakYardModel", name := "joins", desc := "(I)V" } : Jvm.MethodName) prog_14_method_83_code (3 : Nat) (Option.none : Option Jvm.ClassFile.FieldType)),
  (Jvm.Cond.code ({ cls := "OakYardModel", name := "make", desc := "(II)I" } : Jvm.MethodName) prog_14_method_86_code (7 : Nat) (Option.some Jvm.ClassFile.FieldType.int)),
  (Jvm.Cond.code ({ cls := "java/lang/Integer", name := "numberOfTrailingZeros", desc := "(I)I" } : Jvm.MethodName) prog_23_method_48_code (2 : Nat) (Option.some Jvm.ClassFile.FieldType.int)),
  (Jvm.Cond.code ({ cls := "OakYardModel", name := "launch", desc := "(I)Z" } : Jvm.MethodName) prog_14_method_87_code (2 : Nat) (Option.some Jvm.ClassFile.FieldType.boolean)),
  (Jvm.Cond.code ({ cls := "OakYardModel", name := "isWhole", desc := "(I)Z" } : Jvm.MethodName) prog_14_method_76_code (2 : Nat) (Option.some Jvm.ClassFile.FieldType.boolean)),
  (Jvm.Cond.code ({ cls := "OakYardModel", name := "fitOf", desc := "(I)I" } : Jvm.MethodName) prog_14_method_75_code (4 : Nat) (Option.some Jvm.ClassFile.FieldType.int)),
  (Jvm.Cond.code ({ cls := "OakYardModel", name := "dock", desc := "(I)I" } : Jvm.MethodName) prog_14_method_89_code (2 : Nat) (Option.some Jvm.ClassFile.FieldType.int)),
  (Jvm.Cond.code ({ cls := "OakYardModel", name := "tide", desc := "(II)V" } : Jvm.MethodName) prog_14_method_90_code (3 : Nat) (Option.none : Option Jvm.ClassFile.FieldType)),
  (Jvm.Cond.code ({ cls := "OakYardModel", name := "moor", desc := "(IIZ)Z" } : Jvm.MethodName) prog_14_method_93_code (5 : Nat) (Option.some Jvm.ClassFile.FieldType.boolean)),
  (Jvm.Cond.code ({ cls := "OakYardModel", name := "noDock", desc := "(I)Z" } : Jvm.MethodName) prog_14_method_88_code (2 : Nat) (Option.some Jvm.ClassFile.FieldType.boolean)),
  (Jvm.Cond.code ({ cls := "OakYardModel", name := "canPass", desc := "(III)Z" } : Jvm.MethodName) prog_14_method_91_code (4 : Nat) (Option.some Jvm.ClassFile.FieldType.boolean)),
  (Jvm.Cond.code ({ cls := "OakYardModel", name := "isTaken", desc := "(I)Z" } : Jvm.MethodName) prog_14_method_92_code (4 : Nat) (Option.some Jvm.ClassFile.FieldType.boolean)),
  (Jvm.Cond.code ({ cls := "OakYardModel", name := "sail", desc := "(IZ)Z" } : Jvm.MethodName) prog_14_method_94_code (3 : Nat) (Option.some Jvm.ClassFile.FieldType.boolean)),
  (Jvm.Cond.code ({ cls := "OakYardModel", name := "shut", desc := "(I)Z" } : Jvm.MethodName) prog_14_method_96_code (2 : Nat) (Option.some Jvm.ClassFile.FieldType.boolean)),
  (Jvm.Cond.code ({ cls := "OakYardModel", name := "worstOf", desc := "(I)I" } : Jvm.MethodName) prog_14_method_95_code (4 : Nat) (Option.some Jvm.ClassFile.FieldType.int)),
  (Jvm.Cond.code ({ cls := "OakYardModel", name := "breaks", desc := "(I)I" } : Jvm.MethodName) prog_14_method_97_code (4 : Nat) (Option.some Jvm.ClassFile.FieldType.int)),
  (Jvm.Cond.code ({ cls := "OakYardModel", name := "led", desc := "(II)I" } : Jvm.MethodName) prog_14_method_98_code (5 : Nat) (Option.some Jvm.ClassFile.FieldType.int)),
  (Jvm.Cond.code ({ cls := "OakYardModel", name := "lastTide", desc := "(III)I" } : Jvm.MethodName) prog_14_method_99_code (5 : Nat) (Option.some Jvm.ClassFile.FieldType.int)),
  (Jvm.Cond.code ({ cls := "OakYardModel", name := "docks", desc := "(III)I" } : Jvm.MethodName) prog_14_method_101_code (5 : Nat) (Option.some Jvm.ClassFile.FieldType.int)),
  (Jvm.Cond.code ({ cls := "OakYardModel", name := "moors", desc := "(IIII)V" } : Jvm.MethodName) prog_14_method_100_code (7 : Nat) (Option.none : Option Jvm.ClassFile.FieldType)),
  (Jvm.Cond.code ({ cls := "OakYardModel", name := "gang", desc := "(I)I" } : Jvm.MethodName) prog_14_method_103_code (3 : Nat) (Option.some Jvm.ClassFile.FieldType.int)),
  (Jvm.Cond.code ({ cls := "OakYardModel", name := "works", desc := "(II)Z" } : Jvm.MethodName) prog_14_method_104_code (4 : Nat) (Option.some Jvm.ClassFile.FieldType.boolean)),
  (Jvm.Cond.code ({ cls := "OakYardModel", name := "noGang", desc := "(I)Z" } : Jvm.MethodName) prog_14_method_102_code (2 : Nat) (Option.some Jvm.ClassFile.FieldType.boolean)),
  (Jvm.Cond.code ({ cls := "OakYardModel", name := "gangs", desc := "()I" } : Jvm.MethodName) prog_14_method_106_code (9 : Nat) (Option.some Jvm.ClassFile.FieldType.int)),
  (Jvm.Cond.code ({ cls := "OakYardModel", name := "days", desc := "(I)I" } : Jvm.MethodName) prog_14_method_113_code (3 : Nat) (Option.some Jvm.ClassFile.FieldType.int)),
  (Jvm.Cond.code ({ cls := "OakYardModel", name := "day", desc := "()V" } : Jvm.MethodName) prog_14_method_112_code (3 : Nat) (Option.none : Option Jvm.ClassFile.FieldType)),
  (Jvm.Cond.code ({ cls := "OakYardModel", name := "ages", desc := "(I)V" } : Jvm.MethodName) prog_14_method_108_code (6 : Nat) (Option.none : Option Jvm.ClassFile.FieldType)),
  (Jvm.Cond.code ({ cls := "OakYardModel", name := "rots", desc := "(II)V" } : Jvm.MethodName) prog_14_method_107_code (3 : Nat) (Option.none : Option Jvm.ClassFile.FieldType)),
  (Jvm.Cond.code ({ cls := "OakYardModel", name := "opens", desc := "(I)V" } : Jvm.MethodName) prog_14_method_110_code (2 : Nat) (Option.none : Option Jvm.ClassFile.FieldType)),
  (Jvm.Cond.code ({ cls := "OakYardModel", name := "driest", desc := "(I)I" } : Jvm.MethodName) prog_14_method_109_code (5 : Nat) (Option.some Jvm.ClassFile.FieldType.int)),
  (Jvm.Cond.code ({ cls := "OakYardModel", name := "sumOf", desc := "(II)I" } : Jvm.MethodName) prog_14_method_52_code (5 : Nat) (Option.some Jvm.ClassFile.FieldType.int)),
  (Jvm.Cond.code ({ cls := "java/lang/Math", name := "min", desc := "(JJ)J" } : Jvm.MethodName) prog_24_method_70_code (4 : Nat) (Option.some Jvm.ClassFile.FieldType.long)),
  (Jvm.Cond.code ({ cls := "OakYardModel", name := "carries", desc := "(I)V" } : Jvm.MethodName) prog_14_method_111_code (4 : Nat) (Option.none : Option Jvm.ClassFile.FieldType)),
  (Jvm.Cond.code ({ cls := "OakYardModel", name := "ofTree", desc := "(IZ)I" } : Jvm.MethodName) prog_14_method_114_code (6 : Nat) (Option.some Jvm.ClassFile.FieldType.int)),
  (Jvm.Cond.code ({ cls := "OakYardModel", name := "fellows", desc := "(I)I" } : Jvm.MethodName) prog_14_method_115_code (4 : Nat) (Option.some Jvm.ClassFile.FieldType.int)),
  (Jvm.Cond.code ({ cls := "OakYardModel", name := "war", desc := "()I" } : Jvm.MethodName) prog_14_method_119_code (5 : Nat) (Option.some Jvm.ClassFile.FieldType.int)),
  (Jvm.Cond.code ({ cls := "OakYardModel", name := "canFloat", desc := "(I)Z" } : Jvm.MethodName) prog_14_method_118_code (4 : Nat) (Option.some Jvm.ClassFile.FieldType.boolean)),
  (Jvm.Cond.code ({ cls := "OakYardModel", name := "finds", desc := "(I)Z" } : Jvm.MethodName) prog_14_method_117_code (3 : Nat) (Option.some Jvm.ClassFile.FieldType.boolean)),
  (Jvm.Cond.code ({ cls := "OakYardModel", name := "isPooled", desc := "(I)Z" } : Jvm.MethodName) prog_14_method_116_code (2 : Nat) (Option.some Jvm.ClassFile.FieldType.boolean)),
  (Jvm.Cond.code ({ cls := "OakYardModel", name := "enter", desc := "(IIII)I" } : Jvm.MethodName) prog_14_method_120_code (6 : Nat) (Option.some Jvm.ClassFile.FieldType.int)),
  (Jvm.Cond.code ({ cls := "OakYardModel", name := "muster", desc := "(II)I" } : Jvm.MethodName) prog_14_method_121_code (4 : Nat) (Option.some Jvm.ClassFile.FieldType.int)),
  (Jvm.Cond.code ({ cls := "OakYardModel", name := "wrong", desc := "(I)I" } : Jvm.MethodName) prog_14_method_125_code (2 : Nat) (Option.some Jvm.ClassFile.FieldType.int)),
  (Jvm.Cond.code ({ cls := "OakYardModel", name := "falseOf", desc := "(I)I" } : Jvm.MethodName) prog_14_method_124_code (4 : Nat) (Option.some Jvm.ClassFile.FieldType.int)),
  (Jvm.Cond.code ({ cls := "OakYardModel", name := "closes", desc := "(II)Z" } : Jvm.MethodName) prog_14_method_123_code (5 : Nat) (Option.some Jvm.ClassFile.FieldType.boolean)),
  (Jvm.Cond.code ({ cls := "OakYardModel", name := "isAhead", desc := "(II)Z" } : Jvm.MethodName) prog_14_method_122_code (3 : Nat) (Option.some Jvm.ClassFile.FieldType.boolean)),
  (Jvm.Cond.code ({ cls := "OakYardModel", name := "hand", desc := "(I)I" } : Jvm.MethodName) prog_14_method_126_code (6 : Nat) (Option.some Jvm.ClassFile.FieldType.int)),
  (Jvm.Cond.code ({ cls := "OakYardModel", name := "choice", desc := "(IIII)I" } : Jvm.MethodName) prog_14_method_127_code (6 : Nat) (Option.some Jvm.ClassFile.FieldType.int)),
  (Jvm.Cond.code ({ cls := "OakYardModel", name := "coin", desc := "(III)V" } : Jvm.MethodName) prog_14_method_128_code (4 : Nat) (Option.none : Option Jvm.ClassFile.FieldType)),
  (Jvm.Cond.code ({ cls := "OakYardModel", name := "paid", desc := "(I)Z" } : Jvm.MethodName) prog_14_method_131_code (2 : Nat) (Option.some Jvm.ClassFile.FieldType.boolean)),
  (Jvm.Cond.code ({ cls := "OakYardModel", name := "isPaid", desc := "(I)Z" } : Jvm.MethodName) prog_14_method_130_code (6 : Nat) (Option.some Jvm.ClassFile.FieldType.boolean)),
  (Jvm.Cond.code ({ cls := "OakYardModel", name := "costOf", desc := "(II)I" } : Jvm.MethodName) prog_14_method_129_code (5 : Nat) (Option.some Jvm.ClassFile.FieldType.int)),
  (Jvm.Cond.code ({ cls := "OakYardModel", name := "best", desc := "(I)I" } : Jvm.MethodName) prog_14_method_133_code (6 : Nat) (Option.some Jvm.ClassFile.FieldType.int)),
  (Jvm.Cond.code ({ cls := "OakYardModel", name := "readyOf", desc := "(II)I" } : Jvm.MethodName) prog_14_method_132_code (5 : Nat) (Option.some Jvm.ClassFile.FieldType.int)),
  (Jvm.Cond.code ({ cls := "OakYardModel", name := "count", desc := "(I)I" } : Jvm.MethodName) prog_14_method_134_code (4 : Nat) (Option.some Jvm.ClassFile.FieldType.int))]
set_option maxRecDepth 100000 in
set_option maxHeartbeats 4000000 in
theorem cw_eq : cwp sq_gaps lw_tbl = sq_cw := by rfl
theorem cw_ok : ∀ w ∈ sq_cw, sq_ok w = true := List.all_eq_true.mp (by decide +kernel : sq_cw.all sq_ok = true)
theorem cw_in {w : Cond} (k : Nat) (h : sq_cw[k]? = some w) : w ∈ sq_T := List.mem_filter.mpr ⟨cwp_sub _ _ _ (by rw [cw_eq]; exact List.mem_of_getElem? h), cw_ok _ (List.mem_of_getElem? h)⟩
theorem cy_0 : so_my sq_0 0 := ⟨by decide +kernel, Or.inl ⟨by decide +kernel, cw_in 22 rfl⟩⟩
theorem cy_1 : so_my sq_0 1 := ⟨by decide +kernel, Or.inl ⟨by decide +kernel, cw_in 24 rfl⟩⟩
theorem cy_2 : so_my sq_0 2 := ⟨by decide +kernel, Or.inl ⟨by decide +kernel, cw_in 35 rfl⟩⟩
theorem cy_3 : so_my sq_0 3 := ⟨by decide +kernel, Or.inl ⟨by decide +kernel, cw_in 394 rfl⟩⟩
theorem cy_4 : so_my sq_0 4 := ⟨by decide +kernel, Or.inl ⟨by decide +kernel, cw_in 209 rfl⟩⟩
theorem cy_5 : so_my sq_0 5 := ⟨by decide +kernel, Or.inl ⟨by decide +kernel, cw_in 30 rfl⟩⟩
theorem cy_6 : so_my sq_0 6 := ⟨by decide +kernel, Or.inl ⟨by decide +kernel, cw_in 365 rfl⟩⟩
theorem cy_7 : so_my sq_0 7 := ⟨by decide +kernel, Or.inl ⟨by decide +kernel, cw_in 9 rfl⟩⟩
theorem cy_8 : so_my sq_0 8 := ⟨by decide +kernel, Or.inl ⟨by decide +kernel, cw_in 139 rfl⟩⟩
theorem cy_9 : so_my sq_0 9 := ⟨by decide +kernel, Or.inl ⟨by decide +kernel, cw_in 281 rfl⟩⟩
theorem cy_10 : so_my sq_0 10 := ⟨by decide +kernel, Or.inl ⟨by decide +kernel, cw_in 289 rfl⟩⟩
theorem cy_11 : so_my sq_0 11 := ⟨by decide +kernel, Or.inl ⟨by decide +kernel, cw_in 288 rfl⟩⟩
theorem cy_12 : so_my sq_0 12 := ⟨by decide +kernel, Or.inl ⟨by decide +kernel, cw_in 282 rfl⟩⟩
theorem cy_13 : so_my sq_0 13 := ⟨by decide +kernel, Or.inl ⟨by decide +kernel, cw_in 299 rfl⟩⟩
theorem cy_14 : so_my sq_0 14 := ⟨by decide +kernel, Or.inl ⟨by decide +kernel, cw_in 294 rfl⟩⟩
theorem cy_15 : so_my sq_0 15 := ⟨by decide +kernel, Or.inl ⟨by decide +kernel, cw_in 283 rfl⟩⟩
theorem cy_16 : so_my sq_0 16 := ⟨by decide +kernel, Or.inl ⟨by decide +kernel, cw_in 284 rfl⟩⟩
theorem cy_17 : so_my sq_0 17 := ⟨by decide +kernel, Or.inl ⟨by decide +kernel, cw_in 285 rfl⟩⟩
theorem cy_18 : so_my sq_0 18 := ⟨by decide +kernel, Or.inl ⟨by decide +kernel, cw_in 287 rfl⟩⟩
theorem cy_19 : so_my sq_0 19 := ⟨by decide +kernel, Or.inl ⟨by decide +kernel, cw_in 286 rfl⟩⟩
theorem cy_20 : so_my sq_0 20 := ⟨by decide +kernel, Or.inl ⟨by decide +kernel, cw_in 293 rfl⟩⟩
theorem cy_21 : so_my sq_0 21 := ⟨by decide +kernel, Or.inl ⟨by decide +kernel, cw_in 292 rfl⟩⟩
theorem cy_22 : so_my sq_0 22 := ⟨by decide +kernel, Or.inl ⟨by decide +kernel, cw_in 290 rfl⟩⟩
theorem cy_23 : so_my sq_0 23 := ⟨by decide +kernel, Or.inl ⟨by decide +kernel, cw_in 298 rfl⟩⟩
theorem cy_24 : so_my sq_0 24 := ⟨by decide +kernel, Or.inl ⟨by decide +kernel, cw_in 304 rfl⟩⟩
theorem cy_25 : so_my sq_0 25 := ⟨by decide +kernel, Or.inl ⟨by decide +kernel, cw_in 297 rfl⟩⟩
theorem cy_26 : so_my sq_0 26 := ⟨by decide +kernel, Or.inl ⟨by decide +kernel, cw_in 303 rfl⟩⟩
theorem cy_27 : so_my sq_0 27 := ⟨by decide +kernel, Or.inl ⟨by decide +kernel, cw_in 296 rfl⟩⟩
theorem cy_28 : so_my sq_0 28 := ⟨by decide +kernel, Or.inl ⟨by decide +kernel, cw_in 295 rfl⟩⟩
theorem cy_29 : so_my sq_0 29 := ⟨by decide +kernel, Or.inl ⟨by decide +kernel, cw_in 291 rfl⟩⟩
theorem cy_30 : so_my sq_0 30 := ⟨by decide +kernel, Or.inl ⟨by decide +kernel, cw_in 300 rfl⟩⟩
theorem cy_31 : so_my sq_0 31 := ⟨by decide +kernel, Or.inl ⟨by decide +kernel, cw_in 301 rfl⟩⟩
theorem cy_32 : so_my sq_0 32 := ⟨by decide +kernel, Or.inl ⟨by decide +kernel, cw_in 305 rfl⟩⟩
theorem cy_33 : so_my sq_0 33 := ⟨by decide +kernel, Or.inl ⟨by decide +kernel, cw_in 302 rfl⟩⟩
theorem cy_34 : so_my sq_0 34 := ⟨by decide +kernel, Or.inl ⟨by decide +kernel, cw_in 306 rfl⟩⟩
theorem cy_35 : so_my sq_0 35 := ⟨by decide +kernel, Or.inl ⟨by decide +kernel, cw_in 307 rfl⟩⟩
theorem cy_36 : so_my sq_0 36 := ⟨by decide +kernel, Or.inl ⟨by decide +kernel, cw_in 312 rfl⟩⟩
theorem cy_37 : so_my sq_0 37 := ⟨by decide +kernel, Or.inl ⟨by decide +kernel, cw_in 313 rfl⟩⟩
theorem cy_38 : so_my sq_0 38 := ⟨by decide +kernel, Or.inl ⟨by decide +kernel, cw_in 316 rfl⟩⟩
theorem cy_39 : so_my sq_0 39 := ⟨by decide +kernel, Or.inl ⟨by decide +kernel, cw_in 320 rfl⟩⟩
theorem cy_40 : so_my sq_0 40 := ⟨by decide +kernel, Or.inl ⟨by decide +kernel, cw_in 319 rfl⟩⟩
theorem cy_41 : so_my sq_0 41 := ⟨by decide +kernel, Or.inl ⟨by decide +kernel, cw_in 322 rfl⟩⟩
theorem cy_42 : so_my sq_0 42 := ⟨by decide +kernel, Or.inl ⟨by decide +kernel, cw_in 323 rfl⟩⟩
theorem cy_43 : so_my sq_0 43 := ⟨by decide +kernel, Or.inl ⟨by decide +kernel, cw_in 325 rfl⟩⟩
theorem cy_44 : so_my sq_0 44 := ⟨by decide +kernel, Or.inl ⟨by decide +kernel, cw_in 329 rfl⟩⟩
theorem cy_45 : so_my sq_0 45 := ⟨by decide +kernel, Or.inl ⟨by decide +kernel, cw_in 324 rfl⟩⟩
theorem cy_46 : so_my sq_0 46 := ⟨by decide +kernel, Or.inl ⟨by decide +kernel, cw_in 314 rfl⟩⟩
theorem cy_47 : so_my sq_0 47 := ⟨by decide +kernel, Or.inl ⟨by decide +kernel, cw_in 309 rfl⟩⟩
theorem cy_48 : so_my sq_0 48 := ⟨by decide +kernel, Or.inl ⟨by decide +kernel, cw_in 311 rfl⟩⟩
theorem cy_49 : so_my sq_0 49 := ⟨by decide +kernel, Or.inl ⟨by decide +kernel, cw_in 330 rfl⟩⟩
theorem cy_50 : so_my sq_0 50 := ⟨by decide +kernel, Or.inl ⟨by decide +kernel, cw_in 328 rfl⟩⟩
theorem cy_51 : so_my sq_0 51 := ⟨by decide +kernel, Or.inl ⟨by decide +kernel, cw_in 327 rfl⟩⟩
theorem cy_52 : so_my sq_0 52 := ⟨by decide +kernel, Or.inl ⟨by decide +kernel, cw_in 326 rfl⟩⟩
theorem cy_53 : so_my sq_0 53 := ⟨by decide +kernel, Or.inl ⟨by decide +kernel, cw_in 321 rfl⟩⟩
theorem cy_54 : so_my sq_0 54 := ⟨by decide +kernel, Or.inl ⟨by decide +kernel, cw_in 318 rfl⟩⟩
theorem cy_55 : so_my sq_0 55 := ⟨by decide +kernel, Or.inl ⟨by decide +kernel, cw_in 317 rfl⟩⟩
theorem cy_56 : so_my sq_0 56 := ⟨by decide +kernel, Or.inl ⟨by decide +kernel, cw_in 315 rfl⟩⟩
theorem cy_57 : so_my sq_0 57 := ⟨by decide +kernel, Or.inl ⟨by decide +kernel, cw_in 308 rfl⟩⟩
theorem cy_58 : so_my sq_0 58 := ⟨by decide +kernel, Or.inl ⟨by decide +kernel, cw_in 310 rfl⟩⟩
theorem cy_59 : so_my sq_0 59 := ⟨by decide +kernel, Or.inl ⟨by decide +kernel, cw_in 338 rfl⟩⟩
theorem cy_60 : so_my sq_0 60 := ⟨by decide +kernel, Or.inl ⟨by decide +kernel, cw_in 393 rfl⟩⟩
theorem cy_61 : so_my sq_0 61 := ⟨by decide +kernel, Or.inl ⟨by decide +kernel, cw_in 334 rfl⟩⟩
theorem cy_62 : so_my sq_0 62 := ⟨by decide +kernel, Or.inl ⟨by decide +kernel, cw_in 333 rfl⟩⟩
theorem cy_63 : so_my sq_0 63 := ⟨by decide +kernel, Or.inl ⟨by decide +kernel, cw_in 331 rfl⟩⟩
theorem cy_64 : so_my sq_0 64 := ⟨by decide +kernel, Or.inl ⟨by decide +kernel, cw_in 339 rfl⟩⟩
theorem cy_65 : so_my sq_0 65 := ⟨by decide +kernel, Or.inl ⟨by decide +kernel, cw_in 340 rfl⟩⟩
theorem cy_66 : so_my sq_0 66 := ⟨by decide +kernel, Or.inl ⟨by decide +kernel, cw_in 336 rfl⟩⟩
theorem cy_67 : so_my sq_0 67 := ⟨by decide +kernel, Or.inl ⟨by decide +kernel, cw_in 335 rfl⟩⟩
theorem cy_68 : so_my sq_0 68 := ⟨by decide +kernel, Or.inl ⟨by decide +kernel, cw_in 342 rfl⟩⟩
theorem cy_69 : so_my sq_0 69 := ⟨by decide +kernel, Or.inl ⟨by decide +kernel, cw_in 332 rfl⟩⟩
theorem cy_70 : so_my sq_0 70 := ⟨by decide +kernel, Or.inl ⟨by decide +kernel, cw_in 344 rfl⟩⟩
theorem cy_71 : so_my sq_0 71 := ⟨by decide +kernel, Or.inl ⟨by decide +kernel, cw_in 349 rfl⟩⟩
theorem cy_72 : so_my sq_0 72 := ⟨by decide +kernel, Or.inl ⟨by decide +kernel, cw_in 341 rfl⟩⟩
theorem cy_73 : so_my sq_0 73 := ⟨by decide +kernel, Or.inl ⟨by decide +kernel, cw_in 343 rfl⟩⟩
theorem cy_74 : so_my sq_0 74 := ⟨by decide +kernel, Or.inl ⟨by decide +kernel, cw_in 345 rfl⟩⟩
theorem cy_75 : so_my sq_0 75 := ⟨by decide +kernel, Or.inl ⟨by decide +kernel, cw_in 347 rfl⟩⟩
theorem cy_76 : so_my sq_0 76 := ⟨by decide +kernel, Or.inl ⟨by decide +kernel, cw_in 346 rfl⟩⟩
theorem cy_77 : so_my sq_0 77 := ⟨by decide +kernel, Or.inl ⟨by decide +kernel, cw_in 350 rfl⟩⟩
theorem cy_78 : so_my sq_0 78 := ⟨by decide +kernel, Or.inl ⟨by decide +kernel, cw_in 352 rfl⟩⟩
theorem cy_79 : so_my sq_0 79 := ⟨by decide +kernel, Or.inl ⟨by decide +kernel, cw_in 351 rfl⟩⟩
theorem cy_80 : so_my sq_0 80 := ⟨by decide +kernel, Or.inl ⟨by decide +kernel, cw_in 348 rfl⟩⟩
theorem cy_81 : so_my sq_0 81 := ⟨by decide +kernel, Or.inl ⟨by decide +kernel, cw_in 354 rfl⟩⟩
theorem cy_82 : so_my sq_0 82 := ⟨by decide +kernel, Or.inl ⟨by decide +kernel, cw_in 353 rfl⟩⟩
theorem cy_83 : so_my sq_0 83 := ⟨by decide +kernel, Or.inl ⟨by decide +kernel, cw_in 368 rfl⟩⟩
theorem cy_84 : so_my sq_0 84 := ⟨by decide +kernel, Or.inl ⟨by decide +kernel, cw_in 367 rfl⟩⟩
theorem cy_85 : so_my sq_0 85 := ⟨by decide +kernel, Or.inl ⟨by decide +kernel, cw_in 358 rfl⟩⟩
theorem cy_86 : so_my sq_0 86 := ⟨by decide +kernel, Or.inl ⟨by decide +kernel, cw_in 357 rfl⟩⟩
theorem cy_87 : so_my sq_0 87 := ⟨by decide +kernel, Or.inl ⟨by decide +kernel, cw_in 356 rfl⟩⟩
theorem cy_88 : so_my sq_0 88 := ⟨by decide +kernel, Or.inl ⟨by decide +kernel, cw_in 355 rfl⟩⟩
theorem cy_89 : so_my sq_0 89 := ⟨by decide +kernel, Or.inl ⟨by decide +kernel, cw_in 359 rfl⟩⟩
theorem cy_90 : so_my sq_0 90 := ⟨by decide +kernel, Or.inl ⟨by decide +kernel, cw_in 362 rfl⟩⟩
theorem cy_91 : so_my sq_0 91 := ⟨by decide +kernel, Or.inl ⟨by decide +kernel, cw_in 363 rfl⟩⟩
theorem cy_92 : so_my sq_0 92 := ⟨by decide +kernel, Or.inl ⟨by decide +kernel, cw_in 361 rfl⟩⟩
theorem cy_93 : so_my sq_0 93 := ⟨by decide +kernel, Or.inl ⟨by decide +kernel, cw_in 360 rfl⟩⟩
theorem cy_94 : so_my sq_0 94 := ⟨by decide +kernel, Or.inl ⟨by decide +kernel, cw_in 364 rfl⟩⟩
theorem cy_95 : so_my sq_0 95 := ⟨by decide +kernel, Or.inl ⟨by decide +kernel, cw_in 366 rfl⟩⟩
theorem cy_96 : so_my sq_0 96 := ⟨by decide +kernel, Or.inl ⟨by decide +kernel, cw_in 372 rfl⟩⟩
theorem cy_97 : so_my sq_0 97 := ⟨by decide +kernel, Or.inl ⟨by decide +kernel, cw_in 369 rfl⟩⟩
theorem cy_98 : so_my sq_0 98 := ⟨by decide +kernel, Or.inl ⟨by decide +kernel, cw_in 370 rfl⟩⟩
theorem cy_99 : so_my sq_0 99 := ⟨by decide +kernel, Or.inl ⟨by decide +kernel, cw_in 373 rfl⟩⟩
theorem cy_100 : so_my sq_0 100 := ⟨by decide +kernel, Or.inl ⟨by decide +kernel, cw_in 374 rfl⟩⟩
theorem cy_101 : so_my sq_0 101 := ⟨by decide +kernel, Or.inl ⟨by decide +kernel, cw_in 371 rfl⟩⟩
theorem cy_102 : so_my sq_0 102 := ⟨by decide +kernel, Or.inl ⟨by decide +kernel, cw_in 375 rfl⟩⟩
theorem cy_103 : so_my sq_0 103 := ⟨by decide +kernel, Or.inl ⟨by decide +kernel, cw_in 377 rfl⟩⟩
theorem cy_104 : so_my sq_0 104 := ⟨by decide +kernel, Or.inl ⟨by decide +kernel, cw_in 376 rfl⟩⟩
theorem cy_105 : so_my sq_0 105 := ⟨by decide +kernel, Or.inl ⟨by decide +kernel, cw_in 378 rfl⟩⟩
theorem cy_106 : so_my sq_0 106 := ⟨by decide +kernel, Or.inl ⟨by decide +kernel, cw_in 379 rfl⟩⟩
theorem cy_107 : so_my sq_0 107 := ⟨by decide +kernel, Or.inl ⟨by decide +kernel, cw_in 380 rfl⟩⟩
theorem cy_108 : so_my sq_0 108 := ⟨by decide +kernel, Or.inl ⟨by decide +kernel, cw_in 382 rfl⟩⟩
theorem cy_109 : so_my sq_0 109 := ⟨by decide +kernel, Or.inl ⟨by decide +kernel, cw_in 381 rfl⟩⟩
theorem cy_110 : so_my sq_0 110 := ⟨by decide +kernel, Or.inl ⟨by decide +kernel, cw_in 385 rfl⟩⟩
theorem cy_111 : so_my sq_0 111 := ⟨by decide +kernel, Or.inl ⟨by decide +kernel, cw_in 383 rfl⟩⟩
theorem cy_112 : so_my sq_0 112 := ⟨by decide +kernel, Or.inl ⟨by decide +kernel, cw_in 384 rfl⟩⟩
theorem cy_113 : so_my sq_0 113 := ⟨by decide +kernel, Or.inl ⟨by decide +kernel, cw_in 337 rfl⟩⟩
theorem cy_114 : so_my sq_0 114 := ⟨by decide +kernel, Or.inl ⟨by decide +kernel, cw_in 386 rfl⟩⟩
theorem cy_115 : so_my sq_0 115 := ⟨by decide +kernel, Or.inl ⟨by decide +kernel, cw_in 390 rfl⟩⟩
theorem cy_116 : so_my sq_0 116 := ⟨by decide +kernel, Or.inl ⟨by decide +kernel, cw_in 389 rfl⟩⟩
theorem cy_117 : so_my sq_0 117 := ⟨by decide +kernel, Or.inl ⟨by decide +kernel, cw_in 392 rfl⟩⟩
theorem cy_118 : so_my sq_0 118 := ⟨by decide +kernel, Or.inl ⟨by decide +kernel, cw_in 391 rfl⟩⟩
theorem cy_119 : so_my sq_0 119 := ⟨by decide +kernel, Or.inl ⟨by decide +kernel, cw_in 395 rfl⟩⟩
theorem cy_120 : so_my sq_0 120 := ⟨by decide +kernel, Or.inl ⟨by decide +kernel, cw_in 388 rfl⟩⟩
theorem cy_121 : so_my sq_0 121 := ⟨by decide +kernel, Or.inl ⟨by decide +kernel, cw_in 387 rfl⟩⟩
theorem cy_122 : so_my sq_0 122 := ⟨by decide +kernel, Or.inl ⟨by decide +kernel, cw_in 396 rfl⟩⟩
theorem cy_123 : so_my sq_0 123 := ⟨by decide +kernel, Or.inl ⟨by decide +kernel, cw_in 397 rfl⟩⟩
theorem cy_124 : so_my sq_0 124 := ⟨by decide +kernel, Or.inl ⟨by decide +kernel, cw_in 401 rfl⟩⟩
theorem cy_125 : so_my sq_0 125 := ⟨by decide +kernel, Or.inl ⟨by decide +kernel, cw_in 400 rfl⟩⟩
theorem cy_126 : so_my sq_0 126 := ⟨by decide +kernel, Or.inl ⟨by decide +kernel, cw_in 399 rfl⟩⟩
theorem cy_127 : so_my sq_0 127 := ⟨by decide +kernel, Or.inl ⟨by decide +kernel, cw_in 398 rfl⟩⟩
theorem cy_128 : so_my sq_0 128 := ⟨by decide +kernel, Or.inl ⟨by decide +kernel, cw_in 402 rfl⟩⟩
theorem cy_129 : so_my sq_0 129 := ⟨by decide +kernel, Or.inl ⟨by decide +kernel, cw_in 403 rfl⟩⟩
theorem cy_130 : so_my sq_0 130 := ⟨by decide +kernel, Or.inl ⟨by decide +kernel, cw_in 407 rfl⟩⟩
theorem cy_131 : so_my sq_0 131 := ⟨by decide +kernel, Or.inl ⟨by decide +kernel, cw_in 406 rfl⟩⟩
theorem cy_132 : so_my sq_0 132 := ⟨by decide +kernel, Or.inl ⟨by decide +kernel, cw_in 405 rfl⟩⟩
theorem cy_133 : so_my sq_0 133 := ⟨by decide +kernel, Or.inl ⟨by decide +kernel, cw_in 404 rfl⟩⟩
theorem cy_134 : so_my sq_0 134 := ⟨by decide +kernel, Or.inl ⟨by decide +kernel, cw_in 408 rfl⟩⟩
theorem cy_135 : so_my sq_0 135 := ⟨by decide +kernel, Or.inl ⟨by decide +kernel, cw_in 409 rfl⟩⟩
theorem cy_136 : so_my sq_0 136 := ⟨by decide +kernel, Or.inl ⟨by decide +kernel, cw_in 410 rfl⟩⟩
theorem cy_137 : so_my sq_0 137 := ⟨by decide +kernel, Or.inl ⟨by decide +kernel, cw_in 413 rfl⟩⟩
theorem cy_138 : so_my sq_0 138 := ⟨by decide +kernel, Or.inl ⟨by decide +kernel, cw_in 412 rfl⟩⟩
theorem cy_139 : so_my sq_0 139 := ⟨by decide +kernel, Or.inl ⟨by decide +kernel, cw_in 411 rfl⟩⟩
theorem cy_140 : so_my sq_0 140 := ⟨by decide +kernel, Or.inl ⟨by decide +kernel, cw_in 415 rfl⟩⟩
theorem cy_141 : so_my sq_0 141 := ⟨by decide +kernel, Or.inl ⟨by decide +kernel, cw_in 414 rfl⟩⟩
theorem cy_142 : so_my sq_0 142 := ⟨by decide +kernel, Or.inl ⟨by decide +kernel, cw_in 416 rfl⟩⟩
theorem cy_143 : so_my sq_0 143 := ⟨by decide +kernel, Or.inl ⟨by decide +kernel, cw_in 7 rfl⟩⟩
theorem cy_144 : so_my sq_0 144 := ⟨by decide +kernel, Or.inl ⟨by decide +kernel, cw_in 260 rfl⟩⟩
theorem cy_145 : so_my sq_0 145 := ⟨by decide +kernel, Or.inl ⟨by decide +kernel, cw_in 263 rfl⟩⟩
theorem cy_146 : so_my sq_0 146 := ⟨by decide +kernel, Or.inl ⟨by decide +kernel, cw_in 266 rfl⟩⟩
theorem cy_147 : so_my sq_0 147 := ⟨by decide +kernel, Or.inl ⟨by decide +kernel, cw_in 267 rfl⟩⟩
theorem cy_148 : so_my sq_0 148 := ⟨by decide +kernel, Or.inl ⟨by decide +kernel, cw_in 270 rfl⟩⟩
theorem cy_149 : so_my sq_0 149 := ⟨by decide +kernel, Or.inl ⟨by decide +kernel, cw_in 271 rfl⟩⟩
theorem cy_150 : so_my sq_0 150 := ⟨by decide +kernel, Or.inl ⟨by decide +kernel, cw_in 272 rfl⟩⟩
theorem cy_151 : so_my sq_0 151 := ⟨by decide +kernel, Or.inl ⟨by decide +kernel, cw_in 57 rfl⟩⟩
theorem cy_152 : so_my sq_0 152 := ⟨by decide +kernel, Or.inl ⟨by decide +kernel, cw_in 11 rfl⟩⟩
theorem cy_153 : so_my sq_0 153 := ⟨by decide +kernel, Or.inl ⟨by decide +kernel, cw_in 49 rfl⟩⟩
theorem cy_154 : so_my sq_0 154 := ⟨by decide +kernel, Or.inl ⟨by decide +kernel, cw_in 51 rfl⟩⟩
theorem cy_155 : so_my sq_0 155 := ⟨by decide +kernel, Or.inl ⟨by decide +kernel, cw_in 52 rfl⟩⟩
theorem cy_156 : so_my sq_0 156 := ⟨by decide +kernel, Or.inl ⟨by decide +kernel, cw_in 89 rfl⟩⟩
theorem cy_157 : so_my sq_0 157 := ⟨by decide +kernel, Or.inl ⟨by decide +kernel, cw_in 98 rfl⟩⟩
theorem cy_158 : so_my sq_0 158 := ⟨by decide +kernel, Or.inl ⟨by decide +kernel, cw_in 171 rfl⟩⟩
theorem cy_159 : so_my sq_0 159 := ⟨by decide +kernel, Or.inl ⟨by decide +kernel, cw_in 50 rfl⟩⟩
theorem cy_160 : so_my sq_0 160 := ⟨by decide +kernel, Or.inl ⟨by decide +kernel, cw_in 107 rfl⟩⟩
theorem cy_161 : so_my sq_0 161 := ⟨by decide +kernel, Or.inl ⟨by decide +kernel, cw_in 240 rfl⟩⟩
theorem cy_162 : so_my sq_0 162 := ⟨by decide +kernel, Or.inl ⟨by decide +kernel, cw_in 241 rfl⟩⟩
theorem cy_163 : so_my sq_0 163 := ⟨by decide +kernel, Or.inl ⟨by decide +kernel, cw_in 242 rfl⟩⟩
theorem cy_164 : so_my sq_0 164 := ⟨by decide +kernel, Or.inl ⟨by decide +kernel, cw_in 102 rfl⟩⟩
theorem cy_165 : so_my sq_0 165 := ⟨by decide +kernel, Or.inl ⟨by decide +kernel, cw_in 103 rfl⟩⟩
theorem cy_166 : so_my sq_0 166 := ⟨by decide +kernel, Or.inl ⟨by decide +kernel, cw_in 48 rfl⟩⟩
theorem cy_167 : so_my sq_0 167 := ⟨by decide +kernel, Or.inl ⟨by decide +kernel, cw_in 8 rfl⟩⟩
theorem cy_168 : so_my sq_0 168 := ⟨by decide +kernel, Or.inl ⟨by decide +kernel, cw_in 275 rfl⟩⟩
theorem cy_169 : so_my sq_0 169 := ⟨by decide +kernel, Or.inl ⟨by decide +kernel, cw_in 38 rfl⟩⟩
theorem cy_170 : so_my sq_0 170 := ⟨by decide +kernel, Or.inl ⟨by decide +kernel, cw_in 39 rfl⟩⟩
theorem cy_171 : so_my sq_0 171 := ⟨by decide +kernel, Or.inl ⟨by decide +kernel, cw_in 43 rfl⟩⟩
theorem cy_172 : so_my sq_0 172 := ⟨by decide +kernel, Or.inl ⟨by decide +kernel, cw_in 42 rfl⟩⟩
theorem cy_173 : so_my sq_0 173 := ⟨by decide +kernel, Or.inl ⟨by decide +kernel, cw_in 41 rfl⟩⟩
theorem cy_174 : so_my sq_0 174 := ⟨by decide +kernel, Or.inl ⟨by decide +kernel, cw_in 58 rfl⟩⟩
theorem cy_175 : so_my sq_0 175 := ⟨by decide +kernel, Or.inl ⟨by decide +kernel, cw_in 140 rfl⟩⟩
theorem cy_176 : so_my sq_0 176 := ⟨by decide +kernel, Or.inl ⟨by decide +kernel, cw_in 135 rfl⟩⟩
theorem cy_177 : so_my sq_0 177 := ⟨by decide +kernel, Or.inl ⟨by decide +kernel, cw_in 149 rfl⟩⟩
theorem cy_178 : so_my sq_0 178 := ⟨by decide +kernel, Or.inl ⟨by decide +kernel, cw_in 247 rfl⟩⟩
theorem cy_179 : so_my sq_0 179 := ⟨by decide +kernel, Or.inl ⟨by decide +kernel, cw_in 106 rfl⟩⟩
theorem cy_180 : so_my sq_0 180 := ⟨by decide +kernel, Or.inl ⟨by decide +kernel, cw_in 150 rfl⟩⟩
theorem cy_181 : so_my sq_0 181 := ⟨by decide +kernel, Or.inl ⟨by decide +kernel, cw_in 151 rfl⟩⟩
theorem cy_182 : so_my sq_0 182 := ⟨by decide +kernel, Or.inl ⟨by decide +kernel, cw_in 10 rfl⟩⟩
theorem cy_183 : so_my sq_0 183 := ⟨by decide +kernel, Or.inl ⟨by decide +kernel, cw_in 47 rfl⟩⟩
theorem cy_184 : so_my sq_0 184 := ⟨by decide +kernel, Or.inl ⟨by decide +kernel, cw_in 87 rfl⟩⟩
theorem cy_185 : so_my sq_0 185 := ⟨by decide +kernel, Or.inl ⟨by decide +kernel, cw_in 88 rfl⟩⟩
theorem cy_186 : so_my sq_0 186 := ⟨by decide +kernel, Or.inl ⟨by decide +kernel, cw_in 46 rfl⟩⟩
theorem cy_187 : so_my sq_0 187 := ⟨by decide +kernel, Or.inl ⟨by decide +kernel, cw_in 5 rfl⟩⟩
theorem cy_188 : so_my sq_0 188 := ⟨by decide +kernel, Or.inl ⟨by decide +kernel, cw_in 141 rfl⟩⟩
theorem cy_189 : so_my sq_0 189 := ⟨by decide +kernel, Or.inl ⟨by decide +kernel, cw_in 67 rfl⟩⟩
theorem cy_190 : so_my sq_0 190 := ⟨by decide +kernel, Or.inl ⟨by decide +kernel, cw_in 146 rfl⟩⟩
theorem cy_191 : so_my sq_0 191 := ⟨by decide +kernel, Or.inl ⟨by decide +kernel, cw_in 245 rfl⟩⟩
theorem cy_192 : so_my sq_0 192 := ⟨by decide +kernel, Or.inl ⟨by decide +kernel, cw_in 246 rfl⟩⟩
theorem cy_193 : so_my sq_0 193 := ⟨by decide +kernel, Or.inl ⟨by decide +kernel, cw_in 148 rfl⟩⟩
theorem cy_194 : so_my sq_0 194 := ⟨by decide +kernel, Or.inl ⟨by decide +kernel, cw_in 55 rfl⟩⟩
theorem cy_195 : so_my sq_0 195 := ⟨by decide +kernel, Or.inl ⟨by decide +kernel, cw_in 2 rfl⟩⟩
theorem cy_196 : so_my sq_0 196 := ⟨by decide +kernel, Or.inl ⟨by decide +kernel, cw_in 14 rfl⟩⟩
theorem cy_197 : so_my sq_0 197 := ⟨by decide +kernel, Or.inl ⟨by decide +kernel, cw_in 15 rfl⟩⟩
theorem cy_198 : so_my sq_0 198 := ⟨by decide +kernel, Or.inl ⟨by decide +kernel, cw_in 17 rfl⟩⟩
theorem cy_199 : so_my sq_0 199 := ⟨by decide +kernel, Or.inl ⟨by decide +kernel, cw_in 110 rfl⟩⟩
theorem cy_200 : so_my sq_0 200 := ⟨by decide +kernel, Or.inl ⟨by decide +kernel, cw_in 111 rfl⟩⟩
theorem cy_201 : so_my sq_0 201 := ⟨by decide +kernel, Or.inl ⟨by decide +kernel, cw_in 113 rfl⟩⟩
theorem cy_202 : so_my sq_0 202 := ⟨by decide +kernel, Or.inl ⟨by decide +kernel, cw_in 127 rfl⟩⟩
theorem cy_203 : so_my sq_0 203 := ⟨by decide +kernel, Or.inl ⟨by decide +kernel, cw_in 130 rfl⟩⟩
theorem cy_204 : so_my sq_0 204 := ⟨by decide +kernel, Or.inl ⟨by decide +kernel, cw_in 131 rfl⟩⟩
theorem cy_205 : so_my sq_0 205 := ⟨by decide +kernel, Or.inl ⟨by decide +kernel, cw_in 132 rfl⟩⟩
theorem cy_206 : so_my sq_0 206 := ⟨by decide +kernel, Or.inl ⟨by decide +kernel, cw_in 134 rfl⟩⟩
theorem cy_207 : so_my sq_0 207 := ⟨by decide +kernel, Or.inl ⟨by decide +kernel, cw_in 137 rfl⟩⟩
theorem cy_208 : so_my sq_0 208 := ⟨by decide +kernel, Or.inl ⟨by decide +kernel, cw_in 138 rfl⟩⟩
theorem cy_209 : so_my sq_0 209 := ⟨by decide +kernel, Or.inl ⟨by decide +kernel, cw_in 136 rfl⟩⟩
theorem cy_210 : so_my sq_0 210 := ⟨by decide +kernel, Or.inl ⟨by decide +kernel, cw_in 126 rfl⟩⟩
theorem cy_211 : so_my sq_0 211 := ⟨by decide +kernel, Or.inl ⟨by decide +kernel, cw_in 112 rfl⟩⟩
theorem cy_212 : so_my sq_0 212 := ⟨by decide +kernel, Or.inl ⟨by decide +kernel, cw_in 133 rfl⟩⟩
theorem cy_213 : so_my sq_0 213 := ⟨by decide +kernel, Or.inl ⟨by decide +kernel, cw_in 128 rfl⟩⟩
theorem cy_214 : so_my sq_0 214 := ⟨by decide +kernel, Or.inl ⟨by decide +kernel, cw_in 129 rfl⟩⟩
theorem cy_215 : so_my sq_0 215 := ⟨by decide +kernel, Or.inl ⟨by decide +kernel, cw_in 114 rfl⟩⟩
theorem cy_216 : so_my sq_0 216 := ⟨by decide +kernel, Or.inl ⟨by decide +kernel, cw_in 6 rfl⟩⟩
theorem cy_217 : so_my sq_0 217 := ⟨by decide +kernel, Or.inl ⟨by decide +kernel, cw_in 202 rfl⟩⟩
theorem cy_218 : so_my sq_0 218 := ⟨by decide +kernel, Or.inl ⟨by decide +kernel, cw_in 208 rfl⟩⟩
theorem cy_219 : so_my sq_0 219 := ⟨by decide +kernel, Or.inl ⟨by decide +kernel, cw_in 225 rfl⟩⟩
theorem cy_220 : so_my sq_0 220 := ⟨by decide +kernel, Or.inl ⟨by decide +kernel, cw_in 231 rfl⟩⟩
theorem cy_221 : so_my sq_0 221 := ⟨by decide +kernel, Or.inl ⟨by decide +kernel, cw_in 230 rfl⟩⟩
theorem cy_222 : so_my sq_0 222 := ⟨by decide +kernel, Or.inl ⟨by decide +kernel, cw_in 56 rfl⟩⟩
theorem cy_223 : so_my sq_0 223 := ⟨by decide +kernel, Or.inl ⟨by decide +kernel, cw_in 12 rfl⟩⟩
theorem cy_224 : so_my sq_0 224 := ⟨by decide +kernel, Or.inl ⟨by decide +kernel, cw_in 54 rfl⟩⟩
theorem cy_225 : so_my sq_0 225 := ⟨by decide +kernel, Or.inl ⟨by decide +kernel, cw_in 161 rfl⟩⟩
theorem cy_226 : so_my sq_0 226 := ⟨by decide +kernel, Or.inl ⟨by decide +kernel, cw_in 169 rfl⟩⟩
theorem cy_227 : so_my sq_0 227 := ⟨by decide +kernel, Or.inl ⟨by decide +kernel, cw_in 170 rfl⟩⟩
theorem cy_228 : so_my sq_0 228 := ⟨by decide +kernel, Or.inl ⟨by decide +kernel, cw_in 199 rfl⟩⟩
theorem cy_229 : so_my sq_0 229 := ⟨by decide +kernel, Or.inl ⟨by decide +kernel, cw_in 168 rfl⟩⟩
theorem cy_230 : so_my sq_0 230 := ⟨by decide +kernel, Or.inl ⟨by decide +kernel, cw_in 217 rfl⟩⟩
theorem cy_231 : so_my sq_0 231 := ⟨by decide +kernel, Or.inl ⟨by decide +kernel, cw_in 33 rfl⟩⟩
theorem cy_232 : so_my sq_0 232 := ⟨by decide +kernel, Or.inl ⟨by decide +kernel, cw_in 34 rfl⟩⟩
theorem cy_233 : so_my sq_0 233 := ⟨by decide +kernel, Or.inl ⟨by decide +kernel, cw_in 222 rfl⟩⟩
theorem cy_234 : so_my sq_0 234 := ⟨by decide +kernel, Or.inl ⟨by decide +kernel, cw_in 53 rfl⟩⟩
theorem cy_235 : so_my sq_0 235 := ⟨by decide +kernel, Or.inl ⟨by decide +kernel, cw_in 4 rfl⟩⟩
theorem cy_236 : so_my sq_0 236 := ⟨by decide +kernel, Or.inl ⟨by decide +kernel, cw_in 45 rfl⟩⟩
theorem cy_237 : so_my sq_0 237 := ⟨by decide +kernel, Or.inl ⟨by decide +kernel, cw_in 81 rfl⟩⟩
theorem cy_238 : so_my sq_0 238 := ⟨by decide +kernel, Or.inl ⟨by decide +kernel, cw_in 86 rfl⟩⟩
theorem cy_239 : so_my sq_0 239 := ⟨by decide +kernel, Or.inl ⟨by decide +kernel, cw_in 156 rfl⟩⟩
theorem cy_240 : so_my sq_0 240 := ⟨by decide +kernel, Or.inl ⟨by decide +kernel, cw_in 234 rfl⟩⟩
theorem cy_241 : so_my sq_0 241 := ⟨by decide +kernel, Or.inl ⟨by decide +kernel, cw_in 85 rfl⟩⟩
theorem cy_242 : so_my sq_0 242 := ⟨by decide +kernel, Or.inl ⟨by decide +kernel, cw_in 194 rfl⟩⟩
theorem cy_243 : so_my sq_0 243 := ⟨by decide +kernel, Or.inl ⟨by decide +kernel, cw_in 195 rfl⟩⟩
theorem cy_244 : so_my sq_0 244 := ⟨by decide +kernel, Or.inl ⟨by decide +kernel, cw_in 196 rfl⟩⟩
theorem cy_245 : so_my sq_0 245 := ⟨by decide +kernel, Or.inl ⟨by decide +kernel, cw_in 239 rfl⟩⟩
theorem cy_246 : so_my sq_0 246 := ⟨by decide +kernel, Or.inl ⟨by decide +kernel, cw_in 243 rfl⟩⟩
theorem cy_247 : so_my sq_0 247 := ⟨by decide +kernel, Or.inl ⟨by decide +kernel, cw_in 248 rfl⟩⟩
theorem cy_248 : so_my sq_0 248 := ⟨by decide +kernel, Or.inl ⟨by decide +kernel, cw_in 249 rfl⟩⟩
theorem cy_249 : so_my sq_0 249 := ⟨by decide +kernel, Or.inl ⟨by decide +kernel, cw_in 63 rfl⟩⟩
theorem cy_250 : so_my sq_0 250 := ⟨by decide +kernel, Or.inl ⟨by decide +kernel, cw_in 145 rfl⟩⟩
theorem cy_251 : so_my sq_0 251 := ⟨by decide +kernel, Or.inl ⟨by decide +kernel, cw_in 280 rfl⟩⟩
theorem cy_252 : so_my sq_0 252 := ⟨by decide +kernel, Or.inl ⟨by decide +kernel, cw_in 175 rfl⟩⟩
theorem cy_253 : so_my sq_0 253 := ⟨by decide +kernel, Or.inl ⟨by decide +kernel, cw_in 174 rfl⟩⟩
theorem cy_254 : so_my sq_0 254 := ⟨by decide +kernel, Or.inl ⟨by decide +kernel, cw_in 218 rfl⟩⟩
theorem cy_255 : so_my sq_0 255 := ⟨by decide +kernel, Or.inl ⟨by decide +kernel, cw_in 214 rfl⟩⟩
theorem cy_256 : so_my sq_0 256 := ⟨by decide +kernel, Or.inl ⟨by decide +kernel, cw_in 244 rfl⟩⟩
theorem cy_257 : so_my sq_0 257 := ⟨by decide +kernel, Or.inl ⟨by decide +kernel, cw_in 221 rfl⟩⟩
theorem cy_258 : so_my sq_0 258 := ⟨by decide +kernel, Or.inl ⟨by decide +kernel, cw_in 147 rfl⟩⟩
theorem cy_259 : so_my sq_0 259 := ⟨by decide +kernel, Or.inl ⟨by decide +kernel, cw_in 65 rfl⟩⟩
theorem cy_260 : so_my sq_0 260 := ⟨by decide +kernel, Or.inl ⟨by decide +kernel, cw_in 207 rfl⟩⟩
theorem cy_261 : so_my sq_0 261 := ⟨by decide +kernel, Or.inl ⟨by decide +kernel, cw_in 228 rfl⟩⟩
theorem cy_262 : so_my sq_0 262 := ⟨by decide +kernel, Or.inl ⟨by decide +kernel, cw_in 229 rfl⟩⟩
theorem cy_263 : so_my sq_0 263 := ⟨by decide +kernel, Or.inl ⟨by decide +kernel, cw_in 253 rfl⟩⟩
theorem cy_264 : so_my sq_0 264 := ⟨by decide +kernel, Or.inl ⟨by decide +kernel, cw_in 254 rfl⟩⟩
theorem cy_265 : so_my sq_0 265 := ⟨by decide +kernel, Or.inl ⟨by decide +kernel, cw_in 252 rfl⟩⟩
theorem cy_266 : so_my sq_0 266 := ⟨by decide +kernel, Or.inl ⟨by decide +kernel, cw_in 257 rfl⟩⟩
theorem cy_267 : so_my sq_0 267 := ⟨by decide +kernel, Or.inl ⟨by decide +kernel, cw_in 62 rfl⟩⟩
theorem cy_268 : so_my sq_0 268 := ⟨by decide +kernel, Or.inl ⟨by decide +kernel, cw_in 64 rfl⟩⟩
theorem cy_269 : so_my sq_0 269 := ⟨by decide +kernel, Or.inl ⟨by decide +kernel, cw_in 66 rfl⟩⟩
theorem cy_270 : so_my sq_0 270 := ⟨by decide +kernel, Or.inl ⟨by decide +kernel, cw_in 3 rfl⟩⟩
theorem cy_271 : so_my sq_0 271 := ⟨by decide +kernel, Or.inl ⟨by decide +kernel, cw_in 178 rfl⟩⟩
theorem cy_272 : so_my sq_0 272 := ⟨by decide +kernel, Or.inl ⟨by decide +kernel, cw_in 179 rfl⟩⟩
theorem cy_273 : so_my sq_0 273 := ⟨by decide +kernel, Or.inl ⟨by decide +kernel, cw_in 183 rfl⟩⟩
theorem cy_274 : so_my sq_0 274 := ⟨by decide +kernel, Or.inl ⟨by decide +kernel, cw_in 180 rfl⟩⟩
theorem cy_275 : so_my sq_0 275 := ⟨by decide +kernel, Or.inl ⟨by decide +kernel, cw_in 181 rfl⟩⟩
theorem cy_276 : so_my sq_0 276 := ⟨by decide +kernel, Or.inl ⟨by decide +kernel, cw_in 182 rfl⟩⟩
theorem cy_277 : so_my sq_0 277 := ⟨by decide +kernel, Or.inl ⟨by decide +kernel, cw_in 186 rfl⟩⟩
theorem cy_278 : so_my sq_0 278 := ⟨by decide +kernel, Or.inl ⟨by decide +kernel, cw_in 189 rfl⟩⟩
theorem cy_279 : so_my sq_0 279 := ⟨by decide +kernel, Or.inl ⟨by decide +kernel, cw_in 190 rfl⟩⟩
theorem cy_280 : so_my sq_0 280 := ⟨by decide +kernel, Or.inl ⟨by decide +kernel, cw_in 191 rfl⟩⟩
theorem cy_281 : so_my sq_0 281 := ⟨by decide +kernel, Or.inl ⟨by decide +kernel, cw_in 20 rfl⟩⟩
theorem cy_282 : so_my sq_0 282 := ⟨by decide +kernel, Or.inl ⟨by decide +kernel, cw_in 21 rfl⟩⟩
theorem cy_283 : so_my sq_0 283 := ⟨by decide +kernel, Or.inl ⟨by decide +kernel, cw_in 23 rfl⟩⟩
theorem cy_284 : so_my sq_0 284 := ⟨by decide +kernel, Or.inl ⟨by decide +kernel, cw_in 26 rfl⟩⟩
theorem cy_285 : so_my sq_0 285 := ⟨by decide +kernel, Or.inl ⟨by decide +kernel, cw_in 27 rfl⟩⟩
theorem cy_286 : so_my sq_0 286 := ⟨by decide +kernel, Or.inl ⟨by decide +kernel, cw_in 29 rfl⟩⟩
theorem cy_287 : so_my sq_0 287 := ⟨by decide +kernel, Or.inl ⟨by decide +kernel, cw_in 31 rfl⟩⟩
theorem cy_288 : so_my sq_0 288 := ⟨by decide +kernel, Or.inl ⟨by decide +kernel, cw_in 32 rfl⟩⟩
theorem cy_289 : so_my sq_0 289 := ⟨by decide +kernel, Or.inl ⟨by decide +kernel, cw_in 36 rfl⟩⟩
theorem cy_290 : so_my sq_0 290 := ⟨by decide +kernel, Or.inl ⟨by decide +kernel, cw_in 0 rfl⟩⟩
theorem cy_291 : so_my sq_0 291 := ⟨by decide +kernel, Or.inl ⟨by decide +kernel, cw_in 13 rfl⟩⟩
theorem cy_292 : so_my sq_0 292 := ⟨by decide +kernel, Or.inl ⟨by decide +kernel, cw_in 16 rfl⟩⟩
theorem cy_293 : so_my sq_0 293 := ⟨by decide +kernel, Or.inl ⟨by decide +kernel, cw_in 69 rfl⟩⟩
theorem cy_294 : so_my sq_0 294 := ⟨by decide +kernel, Or.inl ⟨by decide +kernel, cw_in 78 rfl⟩⟩
theorem cy_295 : so_my sq_0 295 := ⟨by decide +kernel, Or.inl ⟨by decide +kernel, cw_in 83 rfl⟩⟩
theorem cy_296 : so_my sq_0 296 := ⟨by decide +kernel, Or.inl ⟨by decide +kernel, cw_in 91 rfl⟩⟩
theorem cy_297 : so_my sq_0 297 := ⟨by decide +kernel, Or.inl ⟨by decide +kernel, cw_in 94 rfl⟩⟩
theorem cy_298 : so_my sq_0 298 := ⟨by decide +kernel, Or.inl ⟨by decide +kernel, cw_in 96 rfl⟩⟩
theorem cy_299 : so_my sq_0 299 := ⟨by decide +kernel, Or.inl ⟨by decide +kernel, cw_in 100 rfl⟩⟩
theorem cy_300 : so_my sq_0 300 := ⟨by decide +kernel, Or.inl ⟨by decide +kernel, cw_in 105 rfl⟩⟩
theorem cy_301 : so_my sq_0 301 := ⟨by decide +kernel, Or.inl ⟨by decide +kernel, cw_in 109 rfl⟩⟩
theorem cy_302 : so_my sq_0 302 := ⟨by decide +kernel, Or.inl ⟨by decide +kernel, cw_in 18 rfl⟩⟩
theorem cy_303 : so_my sq_0 303 := ⟨by decide +kernel, Or.inl ⟨by decide +kernel, cw_in 143 rfl⟩⟩
theorem cy_304 : so_my sq_0 304 := ⟨by decide +kernel, Or.inl ⟨by decide +kernel, cw_in 153 rfl⟩⟩
theorem cy_305 : so_my sq_0 305 := ⟨by decide +kernel, Or.inl ⟨by decide +kernel, cw_in 279 rfl⟩⟩
theorem cy_306 : so_my sq_0 306 := ⟨by decide +kernel, Or.inl ⟨by decide +kernel, cw_in 155 rfl⟩⟩
theorem cy_307 : so_my sq_0 307 := ⟨by decide +kernel, Or.inl ⟨by decide +kernel, cw_in 158 rfl⟩⟩
theorem cy_308 : so_my sq_0 308 := ⟨by decide +kernel, Or.inl ⟨by decide +kernel, cw_in 163 rfl⟩⟩
theorem cy_309 : so_my sq_0 309 := ⟨by decide +kernel, Or.inl ⟨by decide +kernel, cw_in 165 rfl⟩⟩
theorem cy_310 : so_my sq_0 310 := ⟨by decide +kernel, Or.inl ⟨by decide +kernel, cw_in 167 rfl⟩⟩
theorem cy_311 : so_my sq_0 311 := ⟨by decide +kernel, Or.inl ⟨by decide +kernel, cw_in 173 rfl⟩⟩
theorem cy_312 : so_my sq_0 312 := ⟨by decide +kernel, Or.inl ⟨by decide +kernel, cw_in 177 rfl⟩⟩
theorem cy_313 : so_my sq_0 313 := ⟨by decide +kernel, Or.inl ⟨by decide +kernel, cw_in 185 rfl⟩⟩
theorem cy_314 : so_my sq_0 314 := ⟨by decide +kernel, Or.inl ⟨by decide +kernel, cw_in 188 rfl⟩⟩
theorem cy_315 : so_my sq_0 315 := ⟨by decide +kernel, Or.inl ⟨by decide +kernel, cw_in 193 rfl⟩⟩
theorem cy_316 : so_my sq_0 316 := ⟨by decide +kernel, Or.inl ⟨by decide +kernel, cw_in 198 rfl⟩⟩
theorem cy_317 : so_my sq_0 317 := ⟨by decide +kernel, Or.inl ⟨by decide +kernel, cw_in 201 rfl⟩⟩
theorem cy_318 : so_my sq_0 318 := ⟨by decide +kernel, Or.inl ⟨by decide +kernel, cw_in 204 rfl⟩⟩
theorem cy_319 : so_my sq_0 319 := ⟨by decide +kernel, Or.inl ⟨by decide +kernel, cw_in 206 rfl⟩⟩
theorem cy_320 : so_my sq_0 320 := ⟨by decide +kernel, Or.inl ⟨by decide +kernel, cw_in 211 rfl⟩⟩
theorem cy_321 : so_my sq_0 321 := ⟨by decide +kernel, Or.inl ⟨by decide +kernel, cw_in 213 rfl⟩⟩
theorem cy_322 : so_my sq_0 322 := ⟨by decide +kernel, Or.inl ⟨by decide +kernel, cw_in 216 rfl⟩⟩
theorem cy_323 : so_my sq_0 323 := ⟨by decide +kernel, Or.inl ⟨by decide +kernel, cw_in 220 rfl⟩⟩
theorem cy_324 : so_my sq_0 324 := ⟨by decide +kernel, Or.inl ⟨by decide +kernel, cw_in 224 rfl⟩⟩
theorem cy_325 : so_my sq_0 325 := ⟨by decide +kernel, Or.inl ⟨by decide +kernel, cw_in 227 rfl⟩⟩
theorem cy_326 : so_my sq_0 326 := ⟨by decide +kernel, Or.inl ⟨by decide +kernel, cw_in 233 rfl⟩⟩
theorem cy_327 : so_my sq_0 327 := ⟨by decide +kernel, Or.inl ⟨by decide +kernel, cw_in 236 rfl⟩⟩
theorem cy_328 : so_my sq_0 328 := ⟨by decide +kernel, Or.inl ⟨by decide +kernel, cw_in 19 rfl⟩⟩
theorem cy_329 : so_my sq_0 329 := ⟨by decide +kernel, Or.inl ⟨by decide +kernel, cw_in 238 rfl⟩⟩
theorem cy_330 : so_my sq_0 330 := ⟨by decide +kernel, Or.inl ⟨by decide +kernel, cw_in 251 rfl⟩⟩
theorem cy_331 : so_my sq_0 331 := ⟨by decide +kernel, Or.inl ⟨by decide +kernel, cw_in 256 rfl⟩⟩
theorem cy_332 : so_my sq_0 332 := ⟨by decide +kernel, Or.inl ⟨by decide +kernel, cw_in 25 rfl⟩⟩
theorem cy_333 : so_my sq_0 333 := ⟨by decide +kernel, Or.inl ⟨by decide +kernel, cw_in 259 rfl⟩⟩
theorem cy_334 : so_my sq_0 334 := ⟨by decide +kernel, Or.inl ⟨by decide +kernel, cw_in 262 rfl⟩⟩
theorem cy_335 : so_my sq_0 335 := ⟨by decide +kernel, Or.inl ⟨by decide +kernel, cw_in 265 rfl⟩⟩
theorem cy_336 : so_my sq_0 336 := ⟨by decide +kernel, Or.inl ⟨by decide +kernel, cw_in 269 rfl⟩⟩
theorem cy_337 : so_my sq_0 337 := ⟨by decide +kernel, Or.inl ⟨by decide +kernel, cw_in 274 rfl⟩⟩
theorem cy_338 : so_my sq_0 338 := ⟨by decide +kernel, Or.inl ⟨by decide +kernel, cw_in 277 rfl⟩⟩
theorem cy_339 : so_my sq_0 339 := ⟨by decide +kernel, Or.inl ⟨by decide +kernel, cw_in 37 rfl⟩⟩
theorem cy_340 : so_my sq_0 340 := ⟨by decide +kernel, Or.inl ⟨by decide +kernel, cw_in 40 rfl⟩⟩
theorem cy_341 : so_my sq_0 341 := ⟨by decide +kernel, Or.inl ⟨by decide +kernel, cw_in 44 rfl⟩⟩
theorem cy_342 : so_my sq_0 342 := ⟨by decide +kernel, Or.inl ⟨by decide +kernel, cw_in 59 rfl⟩⟩
theorem cy_343 : so_my sq_0 343 := ⟨by decide +kernel, Or.inl ⟨by decide +kernel, cw_in 60 rfl⟩⟩
theorem cy_344 : so_my sq_0 344 := ⟨by decide +kernel, Or.inl ⟨by decide +kernel, cw_in 61 rfl⟩⟩
theorem cy_345 : so_my sq_0 345 := ⟨by decide +kernel, Or.inl ⟨by decide +kernel, cw_in 84 rfl⟩⟩
theorem cy_346 : so_my sq_0 346 := ⟨by decide +kernel, Or.inl ⟨by decide +kernel, cw_in 144 rfl⟩⟩
theorem cy_347 : so_my sq_0 347 := ⟨by decide +kernel, Or.inl ⟨by decide +kernel, cw_in 97 rfl⟩⟩
theorem cy_348 : so_my sq_0 348 := ⟨by decide +kernel, Or.inl ⟨by decide +kernel, cw_in 159 rfl⟩⟩
theorem cy_349 : so_my sq_0 349 := ⟨by decide +kernel, Or.inl ⟨by decide +kernel, cw_in 70 rfl⟩⟩
theorem cy_350 : so_my sq_0 350 := ⟨by decide +kernel, Or.inl ⟨by decide +kernel, cw_in 75 rfl⟩⟩
theorem cy_351 : so_my sq_0 351 := ⟨by decide +kernel, Or.inl ⟨by decide +kernel, cw_in 79 rfl⟩⟩
theorem cy_352 : so_my sq_0 352 := ⟨by decide +kernel, Or.inl ⟨by decide +kernel, cw_in 28 rfl⟩⟩
theorem cy_353 : so_my sq_0 353 := ⟨by decide +kernel, Or.inl ⟨by decide +kernel, cw_in 92 rfl⟩⟩
theorem cy_354 : so_my sq_0 354 := ⟨by decide +kernel, Or.inr ⟨[(0, 6, 9, 13), (0, 6, 12, 15)], cw_in 68 rfl, by decide +kernel, hx_of (by decide +kernel : am_hs am_P 354 = [(0, 6, 1, 9), (0, 6, 2, 12)]) ⟨rfl, rfl, rfl, by decide, by decide, by decide, (sq_in 933 (by decide +kernel) rfl), (sq_in 944 (by decide +kernel) rfl), ⟨rfl, rfl, rfl, by decide, by decide, by decide, (sq_in 934 (by decide +kernel) rfl), (sq_in 1013 (by decide +kernel) rfl), trivial⟩⟩, by decide +kernel⟩⟩
theorem cy_355 : so_my sq_0 355 := ⟨by decide +kernel, Or.inr ⟨[(0, 18, 21, 13), (0, 18, 25, 15), (0, 18, 29, 21)], cw_in 77 rfl, by decide +kernel, hx_of (by decide +kernel : am_hs am_P 355 = [(0, 18, 1, 21), (0, 18, 2, 25), (0, 18, 3, 29)]) ⟨rfl, rfl, rfl, by decide, by decide, by decide, (sq_in 933 (by decide +kernel) rfl), (sq_in 944 (by decide +kernel) rfl), ⟨rfl, rfl, rfl, by decide, by decide, by decide, (sq_in 934 (by decide +kernel) rfl), (sq_in 1013 (by decide +kernel) rfl), ⟨rfl, rfl, rfl, by decide, by decide, by decide, (sq_in 1029 (by decide +kernel) rfl), (sq_in 1039 (by decide +kernel) rfl), trivial⟩⟩⟩, by decide +kernel⟩⟩
theorem cy_356 : so_my sq_0 356 := ⟨by decide +kernel, Or.inr ⟨[(0, 10, 13, 13), (0, 10, 17, 15)], cw_in 82 rfl, by decide +kernel, hx_of (by decide +kernel : am_hs am_P 356 = [(0, 10, 1, 13), (0, 10, 2, 17)]) ⟨rfl, rfl, rfl, by decide, by decide, by decide, (sq_in 933 (by decide +kernel) rfl), (sq_in 944 (by decide +kernel) rfl), ⟨rfl, rfl, rfl, by decide, by decide, by decide, (sq_in 934 (by decide +kernel) rfl), (sq_in 1013 (by decide +kernel) rfl), trivial⟩⟩, by decide +kernel⟩⟩
theorem cy_357 : so_my sq_0 357 := ⟨by decide +kernel, Or.inr ⟨[(0, 16, 19, 15), (0, 16, 23, 21)], cw_in 90 rfl, by decide +kernel, hx_of (by decide +kernel : am_hs am_P 357 = [(0, 16, 2, 19), (0, 16, 3, 23)]) ⟨rfl, rfl, rfl, by decide, by decide, by decide, (sq_in 934 (by decide +kernel) rfl), (sq_in 1013 (by decide +kernel) rfl), ⟨rfl, rfl, rfl, by decide, by decide, by decide, (sq_in 1029 (by decide +kernel) rfl), (sq_in 1039 (by decide +kernel) rfl), trivial⟩⟩, by decide +kernel⟩⟩
theorem cy_358 : so_my sq_0 358 := ⟨by decide +kernel, Or.inr ⟨[(0, 5, 8, 15)], cw_in 93 rfl, by decide +kernel, hx_of (by decide +kernel : am_hs am_P 358 = [(0, 5, 2, 8)]) ⟨rfl, rfl, rfl, by decide, by decide, by decide, (sq_in 934 (by decide +kernel) rfl), (sq_in 1013 (by decide +kernel) rfl), trivial⟩, by decide +kernel⟩⟩
theorem cy_359 : so_my sq_0 359 := ⟨by decide +kernel, Or.inr ⟨[(0, 16, 19, 13)], cw_in 95 rfl, by decide +kernel, hx_of (by decide +kernel : am_hs am_P 359 = [(0, 16, 1, 19)]) ⟨rfl, rfl, rfl, by decide, by decide, by decide, (sq_in 933 (by decide +kernel) rfl), (sq_in 944 (by decide +kernel) rfl), trivial⟩, by decide +kernel⟩⟩
theorem cy_360 : so_my sq_0 360 := ⟨by decide +kernel, Or.inr ⟨[(0, 10, 13, 13), (0, 10, 17, 42)], cw_in 99 rfl, by decide +kernel, hx_of (by decide +kernel : am_hs am_P 360 = [(0, 10, 1, 13), (0, 10, 5, 17)]) ⟨rfl, rfl, rfl, by decide, by decide, by decide, (sq_in 933 (by decide +kernel) rfl), (sq_in 944 (by decide +kernel) rfl), ⟨rfl, rfl, rfl, by decide, by decide, by decide, (sq_in 1133 (by decide +kernel) rfl), (sq_in 1140 (by decide +kernel) rfl), trivial⟩⟩, by decide +kernel⟩⟩
theorem cy_361 : so_my sq_0 361 := ⟨by decide +kernel, Or.inr ⟨[(0, 9, 12, 13)], cw_in 104 rfl, by decide +kernel, hx_of (by decide +kernel : am_hs am_P 361 = [(0, 9, 1, 12)]) ⟨rfl, rfl, rfl, by decide, by decide, by decide, (sq_in 933 (by decide +kernel) rfl), (sq_in 944 (by decide +kernel) rfl), trivial⟩, by decide +kernel⟩⟩
theorem cy_362 : so_my sq_0 362 := ⟨by decide +kernel, Or.inr ⟨[(0, 9, 12, 15), (0, 9, 15, 21)], cw_in 108 rfl, by decide +kernel, hx_of (by decide +kernel : am_hs am_P 362 = [(0, 9, 2, 12), (0, 9, 3, 15)]) ⟨rfl, rfl, rfl, by decide, by decide, by decide, (sq_in 934 (by decide +kernel) rfl), (sq_in 1013 (by decide +kernel) rfl), ⟨rfl, rfl, rfl, by decide, by decide, by decide, (sq_in 1029 (by decide +kernel) rfl), (sq_in 1039 (by decide +kernel) rfl), trivial⟩⟩, by decide +kernel⟩⟩
theorem cy_363 : so_my sq_0 363 := ⟨by decide +kernel, Or.inr ⟨[(0, 19, 22, 13)], cw_in 142 rfl, by decide +kernel, hx_of (by decide +kernel : am_hs am_P 363 = [(0, 19, 1, 22)]) ⟨rfl, rfl, rfl, by decide, by decide, by decide, (sq_in 933 (by decide +kernel) rfl), (sq_in 944 (by decide +kernel) rfl), trivial⟩, by decide +kernel⟩⟩
theorem cy_364 : so_my sq_0 364 := ⟨by decide +kernel, Or.inr ⟨[(0, 12, 15, 13)], cw_in 152 rfl, by decide +kernel, hx_of (by decide +kernel : am_hs am_P 364 = [(0, 12, 1, 15)]) ⟨rfl, rfl, rfl, by decide, by decide, by decide, (sq_in 933 (by decide +kernel) rfl), (sq_in 944 (by decide +kernel) rfl), trivial⟩, by decide +kernel⟩⟩
theorem cy_365 : so_my sq_0 365 := ⟨by decide +kernel, Or.inr ⟨[(0, 12, 15, 15), (0, 12, 19, 21)], cw_in 154 rfl, by decide +kernel, hx_of (by decide +kernel : am_hs am_P 365 = [(0, 12, 2, 15), (0, 12, 3, 19)]) ⟨rfl, rfl, rfl, by decide, by decide, by decide, (sq_in 934 (by decide +kernel) rfl), (sq_in 1013 (by decide +kernel) rfl), ⟨rfl, rfl, rfl, by decide, by decide, by decide, (sq_in 1029 (by decide +kernel) rfl), (sq_in 1039 (by decide +kernel) rfl), trivial⟩⟩, by decide +kernel⟩⟩
theorem cy_366 : so_my sq_0 366 := ⟨by decide +kernel, Or.inr ⟨[(0, 16, 19, 13), (0, 16, 23, 15), (0, 16, 27, 66)], cw_in 157 rfl, by decide +kernel, hx_of (by decide +kernel : am_hs am_P 366 = [(0, 16, 1, 19), (0, 16, 2, 23), (0, 16, 4, 27)]) ⟨rfl, rfl, rfl, by decide, by decide, by decide, (sq_in 933 (by decide +kernel) rfl), (sq_in 944 (by decide +kernel) rfl), ⟨rfl, rfl, rfl, by decide, by decide, by decide, (sq_in 934 (by decide +kernel) rfl), (sq_in 1013 (by decide +kernel) rfl), ⟨rfl, rfl, rfl, by decide, by decide, by decide, (sq_in 1415 (by decide +kernel) rfl), (sq_in 1426 (by decide +kernel) rfl), trivial⟩⟩⟩, by decide +kernel⟩⟩
theorem cy_367 : so_my sq_0 367 := ⟨by decide +kernel, Or.inr ⟨[(0, 5, 8, 15)], cw_in 162 rfl, by decide +kernel, hx_of (by decide +kernel : am_hs am_P 367 = [(0, 5, 2, 8)]) ⟨rfl, rfl, rfl, by decide, by decide, by decide, (sq_in 934 (by decide +kernel) rfl), (sq_in 1013 (by decide +kernel) rfl), trivial⟩, by decide +kernel⟩⟩
theorem cy_368 : so_my sq_0 368 := ⟨by decide +kernel, Or.inr ⟨[(0, 16, 19, 13)], cw_in 164 rfl, by decide +kernel, hx_of (by decide +kernel : am_hs am_P 368 = [(0, 16, 1, 19)]) ⟨rfl, rfl, rfl, by decide, by decide, by decide, (sq_in 933 (by decide +kernel) rfl), (sq_in 944 (by decide +kernel) rfl), trivial⟩, by decide +kernel⟩⟩
theorem cy_369 : so_my sq_0 369 := ⟨by decide +kernel, Or.inr ⟨[(0, 21, 24, 13)], cw_in 166 rfl, by decide +kernel, hx_of (by decide +kernel : am_hs am_P 369 = [(0, 21, 1, 24)]) ⟨rfl, rfl, rfl, by decide, by decide, by decide, (sq_in 933 (by decide +kernel) rfl), (sq_in 944 (by decide +kernel) rfl), trivial⟩, by decide +kernel⟩⟩
theorem cy_370 : so_my sq_0 370 := ⟨by decide +kernel, Or.inr ⟨[(0, 10, 13, 13)], cw_in 172 rfl, by decide +kernel, hx_of (by decide +kernel : am_hs am_P 370 = [(0, 10, 1, 13)]) ⟨rfl, rfl, rfl, by decide, by decide, by decide, (sq_in 933 (by decide +kernel) rfl), (sq_in 944 (by decide +kernel) rfl), trivial⟩, by decide +kernel⟩⟩
theorem cy_371 : so_my sq_0 371 := ⟨by decide +kernel, Or.inr ⟨[(0, 10, 13, 13)], cw_in 176 rfl, by decide +kernel, hx_of (by decide +kernel : am_hs am_P 371 = [(0, 10, 1, 13)]) ⟨rfl, rfl, rfl, by decide, by decide, by decide, (sq_in 933 (by decide +kernel) rfl), (sq_in 944 (by decide +kernel) rfl), trivial⟩, by decide +kernel⟩⟩
theorem cy_372 : so_my sq_0 372 := ⟨by decide +kernel, Or.inr ⟨[(0, 12, 15, 13)], cw_in 184 rfl, by decide +kernel, hx_of (by decide +kernel : am_hs am_P 372 = [(0, 12, 1, 15)]) ⟨rfl, rfl, rfl, by decide, by decide, by decide, (sq_in 933 (by decide +kernel) rfl), (sq_in 944 (by decide +kernel) rfl), trivial⟩, by decide +kernel⟩⟩
theorem cy_373 : so_my sq_0 373 := ⟨by decide +kernel, Or.inr ⟨[(0, 10, 13, 13)], cw_in 187 rfl, by decide +kernel, hx_of (by decide +kernel : am_hs am_P 373 = [(0, 10, 1, 13)]) ⟨rfl, rfl, rfl, by decide, by decide, by decide, (sq_in 933 (by decide +kernel) rfl), (sq_in 944 (by decide +kernel) rfl), trivial⟩, by decide +kernel⟩⟩
theorem cy_374 : so_my sq_0 374 := ⟨by decide +kernel, Or.inr ⟨[(0, 10, 13, 13)], cw_in 192 rfl, by decide +kernel, hx_of (by decide +kernel : am_hs am_P 374 = [(0, 10, 1, 13)]) ⟨rfl, rfl, rfl, by decide, by decide, by decide, (sq_in 933 (by decide +kernel) rfl), (sq_in 944 (by decide +kernel) rfl), trivial⟩, by decide +kernel⟩⟩
theorem cy_375 : so_my sq_0 375 := ⟨by decide +kernel, Or.inr ⟨[(0, 16, 19, 13)], cw_in 197 rfl, by decide +kernel, hx_of (by decide +kernel : am_hs am_P 375 = [(0, 16, 1, 19)]) ⟨rfl, rfl, rfl, by decide, by decide, by decide, (sq_in 933 (by decide +kernel) rfl), (sq_in 944 (by decide +kernel) rfl), trivial⟩, by decide +kernel⟩⟩
theorem cy_376 : so_my sq_0 376 := ⟨by decide +kernel, Or.inr ⟨[(0, 9, 12, 15), (0, 9, 15, 21)], cw_in 200 rfl, by decide +kernel, hx_of (by decide +kernel : am_hs am_P 376 = [(0, 9, 2, 12), (0, 9, 3, 15)]) ⟨rfl, rfl, rfl, by decide, by decide, by decide, (sq_in 934 (by decide +kernel) rfl), (sq_in 1013 (by decide +kernel) rfl), ⟨rfl, rfl, rfl, by decide, by decide, by decide, (sq_in 1029 (by decide +kernel) rfl), (sq_in 1039 (by decide +kernel) rfl), trivial⟩⟩, by decide +kernel⟩⟩
theorem cy_377 : so_my sq_0 377 := ⟨by decide +kernel, Or.inr ⟨[(0, 6, 9, 15)], cw_in 203 rfl, by decide +kernel, hx_of (by decide +kernel : am_hs am_P 377 = [(0, 6, 2, 9)]) ⟨rfl, rfl, rfl, by decide, by decide, by decide, (sq_in 934 (by decide +kernel) rfl), (sq_in 1013 (by decide +kernel) rfl), trivial⟩, by decide +kernel⟩⟩
theorem cy_378 : so_my sq_0 378 := ⟨by decide +kernel, Or.inr ⟨[(0, 19, 22, 13)], cw_in 205 rfl, by decide +kernel, hx_of (by decide +kernel : am_hs am_P 378 = [(0, 19, 1, 22)]) ⟨rfl, rfl, rfl, by decide, by decide, by decide, (sq_in 933 (by decide +kernel) rfl), (sq_in 944 (by decide +kernel) rfl), trivial⟩, by decide +kernel⟩⟩
theorem cy_379 : so_my sq_0 379 := ⟨by decide +kernel, Or.inr ⟨[(0, 17, 20, 13)], cw_in 210 rfl, by decide +kernel, hx_of (by decide +kernel : am_hs am_P 379 = [(0, 17, 1, 20)]) ⟨rfl, rfl, rfl, by decide, by decide, by decide, (sq_in 933 (by decide +kernel) rfl), (sq_in 944 (by decide +kernel) rfl), trivial⟩, by decide +kernel⟩⟩
theorem cy_380 : so_my sq_0 380 := ⟨by decide +kernel, Or.inr ⟨[(0, 16, 19, 13)], cw_in 212 rfl, by decide +kernel, hx_of (by decide +kernel : am_hs am_P 380 = [(0, 16, 1, 19)]) ⟨rfl, rfl, rfl, by decide, by decide, by decide, (sq_in 933 (by decide +kernel) rfl), (sq_in 944 (by decide +kernel) rfl), trivial⟩, by decide +kernel⟩⟩
theorem cy_381 : so_my sq_0 381 := ⟨by decide +kernel, Or.inr ⟨[(0, 9, 12, 13)], cw_in 215 rfl, by decide +kernel, hx_of (by decide +kernel : am_hs am_P 381 = [(0, 9, 1, 12)]) ⟨rfl, rfl, rfl, by decide, by decide, by decide, (sq_in 933 (by decide +kernel) rfl), (sq_in 944 (by decide +kernel) rfl), trivial⟩, by decide +kernel⟩⟩
theorem cy_382 : so_my sq_0 382 := ⟨by decide +kernel, Or.inr ⟨[(0, 10, 13, 13), (0, 10, 17, 42)], cw_in 219 rfl, by decide +kernel, hx_of (by decide +kernel : am_hs am_P 382 = [(0, 10, 1, 13), (0, 10, 5, 17)]) ⟨rfl, rfl, rfl, by decide, by decide, by decide, (sq_in 933 (by decide +kernel) rfl), (sq_in 944 (by decide +kernel) rfl), ⟨rfl, rfl, rfl, by decide, by decide, by decide, (sq_in 1133 (by decide +kernel) rfl), (sq_in 1140 (by decide +kernel) rfl), trivial⟩⟩, by decide +kernel⟩⟩
theorem cy_383 : so_my sq_0 383 := ⟨by decide +kernel, Or.inr ⟨[(0, 12, 15, 13)], cw_in 223 rfl, by decide +kernel, hx_of (by decide +kernel : am_hs am_P 383 = [(0, 12, 1, 15)]) ⟨rfl, rfl, rfl, by decide, by decide, by decide, (sq_in 933 (by decide +kernel) rfl), (sq_in 944 (by decide +kernel) rfl), trivial⟩, by decide +kernel⟩⟩
theorem cy_384 : so_my sq_0 384 := ⟨by decide +kernel, Or.inr ⟨[(0, 12, 15, 13), (0, 12, 19, 15)], cw_in 226 rfl, by decide +kernel, hx_of (by decide +kernel : am_hs am_P 384 = [(0, 12, 1, 15), (0, 12, 2, 19)]) ⟨rfl, rfl, rfl, by decide, by decide, by decide, (sq_in 933 (by decide +kernel) rfl), (sq_in 944 (by decide +kernel) rfl), ⟨rfl, rfl, rfl, by decide, by decide, by decide, (sq_in 934 (by decide +kernel) rfl), (sq_in 1013 (by decide +kernel) rfl), trivial⟩⟩, by decide +kernel⟩⟩
theorem cy_385 : so_my sq_0 385 := ⟨by decide +kernel, Or.inr ⟨[(0, 9, 12, 15), (0, 9, 15, 21)], cw_in 232 rfl, by decide +kernel, hx_of (by decide +kernel : am_hs am_P 385 = [(0, 9, 2, 12), (0, 9, 3, 15)]) ⟨rfl, rfl, rfl, by decide, by decide, by decide, (sq_in 934 (by decide +kernel) rfl), (sq_in 1013 (by decide +kernel) rfl), ⟨rfl, rfl, rfl, by decide, by decide, by decide, (sq_in 1029 (by decide +kernel) rfl), (sq_in 1039 (by decide +kernel) rfl), trivial⟩⟩, by decide +kernel⟩⟩
theorem cy_386 : so_my sq_0 386 := ⟨by decide +kernel, Or.inr ⟨[(0, 17, 20, 13)], cw_in 235 rfl, by decide +kernel, hx_of (by decide +kernel : am_hs am_P 386 = [(0, 17, 1, 20)]) ⟨rfl, rfl, rfl, by decide, by decide, by decide, (sq_in 933 (by decide +kernel) rfl), (sq_in 944 (by decide +kernel) rfl), trivial⟩, by decide +kernel⟩⟩
theorem cy_387 : so_my sq_0 387 := ⟨by decide +kernel, Or.inr ⟨[(0, 9, 12, 15)], cw_in 237 rfl, by decide +kernel, hx_of (by decide +kernel : am_hs am_P 387 = [(0, 9, 2, 12)]) ⟨rfl, rfl, rfl, by decide, by decide, by decide, (sq_in 934 (by decide +kernel) rfl), (sq_in 1013 (by decide +kernel) rfl), trivial⟩, by decide +kernel⟩⟩
theorem cy_388 : so_my sq_0 388 := ⟨by decide +kernel, Or.inr ⟨[(0, 10, 13, 13)], cw_in 250 rfl, by decide +kernel, hx_of (by decide +kernel : am_hs am_P 388 = [(0, 10, 1, 13)]) ⟨rfl, rfl, rfl, by decide, by decide, by decide, (sq_in 933 (by decide +kernel) rfl), (sq_in 944 (by decide +kernel) rfl), trivial⟩, by decide +kernel⟩⟩
theorem cy_389 : so_my sq_0 389 := ⟨by decide +kernel, Or.inr ⟨[(0, 9, 12, 13)], cw_in 255 rfl, by decide +kernel, hx_of (by decide +kernel : am_hs am_P 389 = [(0, 9, 1, 12)]) ⟨rfl, rfl, rfl, by decide, by decide, by decide, (sq_in 933 (by decide +kernel) rfl), (sq_in 944 (by decide +kernel) rfl), trivial⟩, by decide +kernel⟩⟩
theorem cy_390 : so_my sq_0 390 := ⟨by decide +kernel, Or.inr ⟨[(0, 14, 17, 15)], cw_in 258 rfl, by decide +kernel, hx_of (by decide +kernel : am_hs am_P 390 = [(0, 14, 2, 17)]) ⟨rfl, rfl, rfl, by decide, by decide, by decide, (sq_in 934 (by decide +kernel) rfl), (sq_in 1013 (by decide +kernel) rfl), trivial⟩, by decide +kernel⟩⟩
theorem cy_391 : so_my sq_0 391 := ⟨by decide +kernel, Or.inr ⟨[(0, 10, 13, 15)], cw_in 261 rfl, by decide +kernel, hx_of (by decide +kernel : am_hs am_P 391 = [(0, 10, 2, 13)]) ⟨rfl, rfl, rfl, by decide, by decide, by decide, (sq_in 934 (by decide +kernel) rfl), (sq_in 1013 (by decide +kernel) rfl), trivial⟩, by decide +kernel⟩⟩
theorem cy_392 : so_my sq_0 392 := ⟨by decide +kernel, Or.inr ⟨[(0, 9, 12, 15)], cw_in 264 rfl, by decide +kernel, hx_of (by decide +kernel : am_hs am_P 392 = [(0, 9, 2, 12)]) ⟨rfl, rfl, rfl, by decide, by decide, by decide, (sq_in 934 (by decide +kernel) rfl), (sq_in 1013 (by decide +kernel) rfl), trivial⟩, by decide +kernel⟩⟩
theorem cy_393 : so_my sq_0 393 := ⟨by decide +kernel, Or.inr ⟨[(0, 9, 12, 15)], cw_in 268 rfl, by decide +kernel, hx_of (by decide +kernel : am_hs am_P 393 = [(0, 9, 2, 12)]) ⟨rfl, rfl, rfl, by decide, by decide, by decide, (sq_in 934 (by decide +kernel) rfl), (sq_in 1013 (by decide +kernel) rfl), trivial⟩, by decide +kernel⟩⟩
theorem cy_394 : so_my sq_0 394 := ⟨by decide +kernel, Or.inr ⟨[(0, 14, 17, 15)], cw_in 273 rfl, by decide +kernel, hx_of (by decide +kernel : am_hs am_P 394 = [(0, 14, 2, 17)]) ⟨rfl, rfl, rfl, by decide, by decide, by decide, (sq_in 934 (by decide +kernel) rfl), (sq_in 1013 (by decide +kernel) rfl), trivial⟩, by decide +kernel⟩⟩
theorem cy_395 : so_my sq_0 395 := ⟨by decide +kernel, Or.inr ⟨[(0, 7, 10, 15)], cw_in 276 rfl, by decide +kernel, hx_of (by decide +kernel : am_hs am_P 395 = [(0, 7, 2, 10)]) ⟨rfl, rfl, rfl, by decide, by decide, by decide, (sq_in 934 (by decide +kernel) rfl), (sq_in 1013 (by decide +kernel) rfl), trivial⟩, by decide +kernel⟩⟩
theorem cy_396 : so_my sq_0 396 := ⟨by decide +kernel, Or.inr ⟨[(0, 10, 13, 13), (0, 10, 17, 15)], cw_in 278 rfl, by decide +kernel, hx_of (by decide +kernel : am_hs am_P 396 = [(0, 10, 1, 13), (0, 10, 2, 17)]) ⟨rfl, rfl, rfl, by decide, by decide, by decide, (sq_in 933 (by decide +kernel) rfl), (sq_in 944 (by decide +kernel) rfl), ⟨rfl, rfl, rfl, by decide, by decide, by decide, (sq_in 934 (by decide +kernel) rfl), (sq_in 1013 (by decide +kernel) rfl), trivial⟩⟩, by decide +kernel⟩⟩
