/-! names: classes, fields, methods (written by wip/gen/names.py out of the Statement) -/
def gR0 : String := "ShapeTrees$Box"
def gT0 : u_T := fun k => match k with
  | 0 => ("ShapeTrees$Box", "x0", "J", false)
  | 1 => ("ShapeTrees$Box", "y0", "J", false)
  | 2 => ("ShapeTrees$Box", "x1", "J", false)
  | 3 => ("ShapeTrees$Box", "y1", "J", false)
  | _ => ("ShapeTrees$Box", "isNothing", "Z", false)
def gt0 : Nat → FieldType := fun k => match k with
  | 0 => .long
  | 1 => .long
  | 2 => .long
  | 3 => .long
  | _ => .boolean
theorem gnm0 : ∀ a, a < 5 → ∀ b, b < 5 → a ≠ b → (gT0 a).2.1 ≠ (gT0 b).2.1 := by decide +kernel
theorem gty0 : ∀ k, k < 5 → parseFieldDescriptor (gT0 k).2.2.1 = some (gt0 k) := by decide +kernel
theorem gin0 : ∀ w ∈ u_ws gR0 gT0 5, w ∈ lw_tbl := by decide +kernel
def gR1 : String := "ShapeTrees$Cell"
def gT1 : u_T := fun k => match k with
  | 0 => ("ShapeTrees$Cell", "shapes", "Ljava/util/ArrayList;", true)
  | 1 => ("ShapeTrees$Cell", "places", "Ljava/util/ArrayList;", true)
  | 2 => ("ShapeTrees$Cell", "seen", "Z", false)
  | 3 => ("ShapeTrees$Cell", "measured", "Z", false)
  | 4 => ("ShapeTrees$Cell", "size", "I", false)
  | _ => ("ShapeTrees$Cell", "box", "LShapeTrees$Box;", true)
def gt1 : Nat → FieldType := fun k => match k with
  | 0 => .object "java/util/ArrayList"
  | 1 => .object "java/util/ArrayList"
  | 2 => .boolean
  | 3 => .boolean
  | 4 => .int
  | _ => .object "ShapeTrees$Box"
theorem gnm1 : ∀ a, a < 6 → ∀ b, b < 6 → a ≠ b → (gT1 a).2.1 ≠ (gT1 b).2.1 := by decide +kernel
theorem gty1 : ∀ k, k < 6 → parseFieldDescriptor (gT1 k).2.2.1 = some (gt1 k) := by decide +kernel
theorem gin1 : ∀ w ∈ u_ws gR1 gT1 6, w ∈ lw_tbl := by decide +kernel
def gR2 : String := "ShapeTrees$Flat"
def gT2 : u_T := fun k => match k with
  | 0 => ("ShapeTrees$Flat", "shapes", "[LShapeTrees$Shape;", true)
  | 1 => ("ShapeTrees$Flat", "corners", "[I", true)
  | 2 => ("ShapeTrees$Flat", "turns", "[I", true)
  | 3 => ("ShapeTrees$Flat", "xs", "[J", true)
  | 4 => ("ShapeTrees$Flat", "ys", "[J", true)
  | 5 => ("ShapeTrees$Flat", "count", "I", false)
  | 6 => ("ShapeTrees$Flat", "layer", "I", false)
  | 7 => ("ShapeTrees$Flat", "mark", "J", false)
  | 8 => ("ShapeTrees$Flat", "isSorted", "Z", false)
  | 9 => ("ShapeTrees$Flat", "order", "[I", true)
  | _ => ("ShapeTrees$Flat", "spare", "[I", true)
def gt2 : Nat → FieldType := fun k => match k with
  | 0 => .array (.object "ShapeTrees$Shape")
  | 1 => .array .int
  | 2 => .array .int
  | 3 => .array .long
  | 4 => .array .long
  | 5 => .int
  | 6 => .int
  | 7 => .long
  | 8 => .boolean
  | 9 => .array .int
  | _ => .array .int
theorem gnm2 : ∀ a, a < 11 → ∀ b, b < 11 → a ≠ b → (gT2 a).2.1 ≠ (gT2 b).2.1 := by decide +kernel
theorem gty2 : ∀ k, k < 11 → parseFieldDescriptor (gT2 k).2.2.1 = some (gt2 k) := by decide +kernel
theorem gin2 : ∀ w ∈ u_ws gR2 gT2 11, w ∈ lw_tbl := by decide +kernel
def gR3 : String := "ShapeTrees$Place"
def gT3 : u_T := fun k => match k with
  | 0 => ("ShapeTrees$Place", "of", "LShapeTrees$Cell;", true)
  | 1 => ("ShapeTrees$Place", "x", "J", true)
  | 2 => ("ShapeTrees$Place", "y", "J", true)
  | 3 => ("ShapeTrees$Place", "turn", "I", true)
  | 4 => ("ShapeTrees$Place", "box", "LShapeTrees$Box;", true)
  | 5 => ("ShapeTrees$Place", "columns", "I", false)
  | 6 => ("ShapeTrees$Place", "rows", "I", false)
  | 7 => ("ShapeTrees$Place", "dx", "J", false)
  | _ => ("ShapeTrees$Place", "dy", "J", false)
def gt3 : Nat → FieldType := fun k => match k with
  | 0 => .object "ShapeTrees$Cell"
  | 1 => .long
  | 2 => .long
  | 3 => .int
  | 4 => .object "ShapeTrees$Box"
  | 5 => .int
  | 6 => .int
  | 7 => .long
  | _ => .long
theorem gnm3 : ∀ a, a < 9 → ∀ b, b < 9 → a ≠ b → (gT3 a).2.1 ≠ (gT3 b).2.1 := by decide +kernel
theorem gty3 : ∀ k, k < 9 → parseFieldDescriptor (gT3 k).2.2.1 = some (gt3 k) := by decide +kernel
theorem gin3 : ∀ w ∈ u_ws gR3 gT3 9, w ∈ lw_tbl := by decide +kernel
def gR4 : String := "ShapeTrees$Shape"
def gT4 : u_T := fun k => match k with
  | 0 => ("ShapeTrees$Shape", "layer", "I", true)
  | 1 => ("ShapeTrees$Shape", "width", "J", true)
  | 2 => ("ShapeTrees$Shape", "ends", "I", true)
  | 3 => ("ShapeTrees$Shape", "xs", "[J", true)
  | 4 => ("ShapeTrees$Shape", "ys", "[J", true)
  | 5 => ("ShapeTrees$Shape", "count", "I", false)
  | 6 => ("ShapeTrees$Shape", "dropped", "Z", false)
  | 7 => ("ShapeTrees$Shape", "box", "LShapeTrees$Box;", true)
  | 8 => ("ShapeTrees$Shape", "firsts", "[I", true)
  | _ => ("ShapeTrees$Shape", "steps", "[I", true)
def gt4 : Nat → FieldType := fun k => match k with
  | 0 => .int
  | 1 => .long
  | 2 => .int
  | 3 => .array .long
  | 4 => .array .long
  | 5 => .int
  | 6 => .boolean
  | 7 => .object "ShapeTrees$Box"
  | 8 => .array .int
  | _ => .array .int
theorem gnm4 : ∀ a, a < 10 → ∀ b, b < 10 → a ≠ b → (gT4 a).2.1 ≠ (gT4 b).2.1 := by decide +kernel
theorem gty4 : ∀ k, k < 10 → parseFieldDescriptor (gT4 k).2.2.1 = some (gt4 k) := by decide +kernel
theorem gin4 : ∀ w ∈ u_ws gR4 gT4 10, w ∈ lw_tbl := by decide +kernel
def gR5 : String := "ShapeTrees"
def gT5 : u_T := fun k => match k with
  | 0 => ("ShapeTrees", "layers", "I", true)
  | 1 => ("ShapeTrees", "cells", "Ljava/util/ArrayList;", true)
  | 2 => ("ShapeTrees", "shapes", "Ljava/util/ArrayList;", true)
  | 3 => ("ShapeTrees", "places", "Ljava/util/ArrayList;", true)
  | 4 => ("ShapeTrees", "atHand", "LShapeTrees$Flat;", true)
  | 5 => ("ShapeTrees", "mine", "LShapeTrees$Flat;", true)
  | 6 => ("ShapeTrees", "theirs", "LShapeTrees$Flat;", true)
  | _ => ("ShapeTrees", "spareBox", "LShapeTrees$Box;", true)
def gt5 : Nat → FieldType := fun k => match k with
  | 0 => .int
  | 1 => .object "java/util/ArrayList"
  | 2 => .object "java/util/ArrayList"
  | 3 => .object "java/util/ArrayList"
  | 4 => .object "ShapeTrees$Flat"
  | 5 => .object "ShapeTrees$Flat"
  | 6 => .object "ShapeTrees$Flat"
  | _ => .object "ShapeTrees$Box"
theorem gnm5 : ∀ a, a < 8 → ∀ b, b < 8 → a ≠ b → (gT5 a).2.1 ≠ (gT5 b).2.1 := by decide +kernel
theorem gty5 : ∀ k, k < 8 → parseFieldDescriptor (gT5 k).2.2.1 = some (gt5 k) := by decide +kernel
theorem gin5 : ∀ w ∈ u_ws gR5 gT5 8, w ∈ lw_tbl := by decide +kernel
def gR6 : String := "ShapeTreesModel"
def gT6 : u_T := fun k => match k with
  | 0 => ("ShapeTreesModel", "code", "I", false)
  | 1 => ("ShapeTreesModel", "layers", "I", true)
  | 2 => ("ShapeTreesModel", "cells", "I", false)
  | 3 => ("ShapeTreesModel", "shapeCells", "[I", true)
  | 4 => ("ShapeTreesModel", "shapeLayers", "[I", true)
  | 5 => ("ShapeTreesModel", "widths", "[J", true)
  | 6 => ("ShapeTreesModel", "ends", "[I", true)
  | 7 => ("ShapeTreesModel", "counts", "[I", true)
  | 8 => ("ShapeTreesModel", "gone", "[Z", true)
  | 9 => ("ShapeTreesModel", "cornerX", "[J", true)
  | 10 => ("ShapeTreesModel", "cornerY", "[J", true)
  | 11 => ("ShapeTreesModel", "shapes", "I", false)
  | 12 => ("ShapeTreesModel", "placeCells", "[I", true)
  | 13 => ("ShapeTreesModel", "placeOf", "[I", true)
  | 14 => ("ShapeTreesModel", "placeX", "[J", true)
  | 15 => ("ShapeTreesModel", "placeY", "[J", true)
  | 16 => ("ShapeTreesModel", "turns", "[I", true)
  | 17 => ("ShapeTreesModel", "columns", "[I", true)
  | 18 => ("ShapeTreesModel", "rows", "[I", true)
  | 19 => ("ShapeTreesModel", "stepX", "[J", true)
  | 20 => ("ShapeTreesModel", "stepY", "[J", true)
  | 21 => ("ShapeTreesModel", "places", "I", false)
  | 22 => ("ShapeTreesModel", "flatX", "[J", true)
  | 23 => ("ShapeTreesModel", "flatY", "[J", true)
  | 24 => ("ShapeTreesModel", "flatShapes", "[I", true)
  | 25 => ("ShapeTreesModel", "flatCounts", "[I", true)
  | 26 => ("ShapeTreesModel", "hand", "I", false)
  | 27 => ("ShapeTreesModel", "under", "[Z", true)
  | 28 => ("ShapeTreesModel", "sizes", "[J", true)
  | 29 => ("ShapeTreesModel", "stackCell", "[I", true)
  | 30 => ("ShapeTreesModel", "stackPlace", "[I", true)
  | 31 => ("ShapeTreesModel", "stackColumn", "[I", true)
  | 32 => ("ShapeTreesModel", "stackRow", "[I", true)
  | 33 => ("ShapeTreesModel", "depth", "I", false)
  | 34 => ("ShapeTreesModel", "px", "J", false)
  | 35 => ("ShapeTreesModel", "py", "J", false)
  | 36 => ("ShapeTreesModel", "x0", "J", false)
  | 37 => ("ShapeTreesModel", "y0", "J", false)
  | 38 => ("ShapeTreesModel", "x1", "J", false)
  | 39 => ("ShapeTreesModel", "y1", "J", false)
  | 40 => ("ShapeTreesModel", "any", "Z", false)
  | 41 => ("ShapeTreesModel", "boxes", "[J", true)
  | 42 => ("ShapeTreesModel", "boxed", "[Z", true)
  | _ => ("ShapeTreesModel", "used", "[Z", true)
def gt6 : Nat → FieldType := fun k => match k with
  | 0 => .int
  | 1 => .int
  | 2 => .int
  | 3 => .array .int
  | 4 => .array .int
  | 5 => .array .long
  | 6 => .array .int
  | 7 => .array .int
  | 8 => .array .boolean
  | 9 => .array .long
  | 10 => .array .long
  | 11 => .int
  | 12 => .array .int
  | 13 => .array .int
  | 14 => .array .long
  | 15 => .array .long
  | 16 => .array .int
  | 17 => .array .int
  | 18 => .array .int
  | 19 => .array .long
  | 20 => .array .long
  | 21 => .int
  | 22 => .array .long
  | 23 => .array .long
  | 24 => .array .int
  | 25 => .array .int
  | 26 => .int
  | 27 => .array .boolean
  | 28 => .array .long
  | 29 => .array .int
  | 30 => .array .int
  | 31 => .array .int
  | 32 => .array .int
  | 33 => .int
  | 34 => .long
  | 35 => .long
  | 36 => .long
  | 37 => .long
  | 38 => .long
  | 39 => .long
  | 40 => .boolean
  | 41 => .array .long
  | 42 => .array .boolean
  | _ => .array .boolean
theorem gnm6 : ∀ a, a < 44 → ∀ b, b < 44 → a ≠ b → (gT6 a).2.1 ≠ (gT6 b).2.1 := by decide +kernel
theorem gty6 : ∀ k, k < 44 → parseFieldDescriptor (gT6 k).2.2.1 = some (gt6 k) := by decide +kernel
theorem gin6 : ∀ w ∈ u_ws gR6 gT6 44, w ∈ lw_tbl := by decide +kernel
def gR7 : String := "java/util/ArrayList"
def gT7 : u_T := fun k => match k with
  | 0 => ("java/util/ArrayList", "elementData", "[Ljava/lang/Object;", false)
  | 1 => ("java/util/ArrayList", "size", "I", false)
  | _ => ("java/util/AbstractList", "modCount", "I", false)
def gt7 : Nat → FieldType := fun k => match k with
  | 0 => .array (.object "java/lang/Object")
  | 1 => .int
  | _ => .int
theorem gnm7 : ∀ a, a < 3 → ∀ b, b < 3 → a ≠ b → (gT7 a).2.1 ≠ (gT7 b).2.1 := by decide +kernel
theorem gty7 : ∀ k, k < 3 → parseFieldDescriptor (gT7 k).2.2.1 = some (gt7 k) := by decide +kernel
theorem gin7 : ∀ w ∈ u_ws gR7 gT7 3, w ∈ lw_tbl := by decide +kernel
abbrev gcl : List vw_C := [(gR0, gT0, 5), (gR1, gT1, 6), (gR2, gT2, 11), (gR3, gT3, 9), (gR4, gT4, 10), (gR5, gT5, 8), (gR6, gT6, 44), (gR7, gT7, 3)]
abbrev b_ST_init : ByteArray := prog_1_method_1_code
def y_ST_init : MethodName := ⟨"ShapeTrees", "<init>", "(I)V"⟩
theorem w_ST_init : Cond.code y_ST_init b_ST_init 2 none ∈ lw_tbl := List.mem_of_getElem? (i := 72) (by decide +kernel)
abbrev b_AL_init : ByteArray := prog_26_method_2_code
def y_AL_init : MethodName := ⟨"java/util/ArrayList", "<init>", "()V"⟩
theorem w_AL_init : Cond.code y_AL_init b_AL_init 1 none ∈ lw_tbl := List.mem_of_getElem? (i := 80) (by decide +kernel)
abbrev b_Ab_init : ByteArray := prog_25_method_1_code
def y_Ab_init : MethodName := ⟨"java/util/AbstractList", "<init>", "()V"⟩
theorem w_Ab_init : Cond.code y_Ab_init b_Ab_init 1 none ∈ lw_tbl := List.mem_of_getElem? (i := 83) (by decide +kernel)
abbrev b_Ac_init : ByteArray := prog_24_method_1_code
def y_Ac_init : MethodName := ⟨"java/util/AbstractCollection", "<init>", "()V"⟩
theorem w_Ac_init : Cond.code y_Ac_init b_Ac_init 1 none ∈ lw_tbl := List.mem_of_getElem? (i := 86) (by decide +kernel)
abbrev b_Fl_init : ByteArray := prog_4_method_1_code
def y_Fl_init : MethodName := ⟨"ShapeTrees$Flat", "<init>", "()V"⟩
theorem w_Fl_init : Cond.code y_Fl_init b_Fl_init 1 none ∈ lw_tbl := List.mem_of_getElem? (i := 106) (by decide +kernel)
abbrev b_Bx_init : ByteArray := prog_2_method_1_code
def y_Bx_init : MethodName := ⟨"ShapeTrees$Box", "<init>", "()V"⟩
theorem w_Bx_init : Cond.code y_Bx_init b_Bx_init 1 none ∈ lw_tbl := List.mem_of_getElem? (i := 156) (by decide +kernel)
abbrev b_Mt_min_0 : ByteArray := prog_18_method_69_code
def y_Mt_min_0 : MethodName := ⟨"java/lang/Math", "min", "(II)I"⟩
theorem w_Mt_min_0 : Cond.code y_Mt_min_0 b_Mt_min_0 2 (some .int) ∈ lw_tbl := List.mem_of_getElem? (i := 179) (by decide +kernel)
abbrev b_Mt_max_0 : ByteArray := prog_18_method_65_code
def y_Mt_max_0 : MethodName := ⟨"java/lang/Math", "max", "(II)I"⟩
theorem w_Mt_max_0 : Cond.code y_Mt_max_0 b_Mt_max_0 2 (some .int) ∈ lw_tbl := List.mem_of_getElem? (i := 182) (by decide +kernel)
abbrev b_Lw_cell_0 : ByteArray := method_2_code
def y_Lw_cell_0 : MethodName := ⟨"ShapeTreesLaw", "cell", "([II)I"⟩
theorem w_Lw_cell_0 : Cond.code y_Lw_cell_0 b_Lw_cell_0 2 (some .int) ∈ lw_tbl := List.mem_of_getElem? (i := 210) (by decide +kernel)
abbrev b_Lw_cell_1 : ByteArray := method_3_code
def y_Lw_cell_1 : MethodName := ⟨"ShapeTreesLaw", "cell", "(LShapeTrees;[J)I"⟩
abbrev hh_Lw_cell_1 : List (Nat × Nat × Nat × Nat) := [(0, 8, 11, 13)]
theorem w_Lw_cell_1 : Cond.codeWith y_Lw_cell_1 b_Lw_cell_1 3 (some .int) hh_Lw_cell_1 ∈ lw_tbl := List.mem_of_getElem? (i := 213) (by decide +kernel)
abbrev b_ST_cell : ByteArray := prog_1_method_2_code
def y_ST_cell : MethodName := ⟨"ShapeTrees", "cell", "()I"⟩
theorem w_ST_cell : Cond.code y_ST_cell b_ST_cell 1 (some .int) ∈ lw_tbl := List.mem_of_getElem? (i := 218) (by decide +kernel)
abbrev b_AL_size : ByteArray := prog_26_method_8_code
def y_AL_size : MethodName := ⟨"java/util/ArrayList", "size", "()I"⟩
theorem w_AL_size : Cond.code y_AL_size b_AL_size 1 (some .int) ∈ lw_tbl := List.mem_of_getElem? (i := 222) (by decide +kernel)
abbrev b_Cl_init : ByteArray := prog_3_method_1_code
def y_Cl_init : MethodName := ⟨"ShapeTrees$Cell", "<init>", "()V"⟩
theorem w_Cl_init : Cond.code y_Cl_init b_Cl_init 1 none ∈ lw_tbl := List.mem_of_getElem? (i := 296) (by decide +kernel)
abbrev b_AL_add_0 : ByteArray := prog_26_method_25_code
def y_AL_add_0 : MethodName := ⟨"java/util/ArrayList", "add", "(Ljava/lang/Object;)Z"⟩
theorem w_AL_add_0 : Cond.code y_AL_add_0 b_AL_add_0 2 (some .boolean) ∈ lw_tbl := List.mem_of_getElem? (i := 333) (by decide +kernel)
abbrev b_AL_add_1 : ByteArray := prog_26_method_24_code
def y_AL_add_1 : MethodName := ⟨"java/util/ArrayList", "add", "(Ljava/lang/Object;[Ljava/lang/Object;I)V"⟩
theorem w_AL_add_1 : Cond.code y_AL_add_1 b_AL_add_1 4 none ∈ lw_tbl := List.mem_of_getElem? (i := 337) (by decide +kernel)
abbrev b_AL_grow_0 : ByteArray := prog_26_method_7_code
def y_AL_grow_0 : MethodName := ⟨"java/util/ArrayList", "grow", "()[Ljava/lang/Object;"⟩
theorem w_AL_grow_0 : Cond.code y_AL_grow_0 b_AL_grow_0 1 (some (.array (.object "java/lang/Object"))) ∈ lw_tbl := List.mem_of_getElem? (i := 341) (by decide +kernel)
abbrev b_AL_grow_1 : ByteArray := prog_26_method_6_code
def y_AL_grow_1 : MethodName := ⟨"java/util/ArrayList", "grow", "(I)[Ljava/lang/Object;"⟩
theorem w_AL_grow_1 : Cond.code y_AL_grow_1 b_AL_grow_1 4 (some (.array (.object "java/lang/Object"))) ∈ lw_tbl := List.mem_of_getElem? (i := 345) (by decide +kernel)
abbrev b_AS_newLength : ByteArray := prog_33_method_27_code
def y_AS_newLength : MethodName := ⟨"jdk/internal/util/ArraysSupport", "newLength", "(III)I"⟩
theorem w_AS_newLength : Cond.code y_AS_newLength b_AS_newLength 4 (some .int) ∈ lw_tbl := List.mem_of_getElem? (i := 348) (by decide +kernel)
abbrev b_AS_hugeLength : ByteArray := prog_33_method_28_code
def y_AS_hugeLength : MethodName := ⟨"jdk/internal/util/ArraysSupport", "hugeLength", "(II)I"⟩
theorem w_AS_hugeLength : Cond.code y_AS_hugeLength b_AS_hugeLength 3 (some .int) ∈ lw_tbl := List.mem_of_getElem? (i := 353) (by decide +kernel)
abbrev b_Ar_copyOf_0 : ByteArray := prog_27_method_119_code
def y_Ar_copyOf_0 : MethodName := ⟨"java/util/Arrays", "copyOf", "([Ljava/lang/Object;I)[Ljava/lang/Object;"⟩
theorem w_Ar_copyOf_0 : Cond.code y_Ar_copyOf_0 b_Ar_copyOf_0 2 (some (.array (.object "java/lang/Object"))) ∈ lw_tbl := List.mem_of_getElem? (i := 356) (by decide +kernel)
abbrev b_Ar_copyOf_1 : ByteArray := prog_27_method_120_code
def y_Ar_copyOf_1 : MethodName := ⟨"java/util/Arrays", "copyOf", "([Ljava/lang/Object;ILjava/lang/Class;)[Ljava/lang/Object;"⟩
theorem w_Ar_copyOf_1 : Cond.code y_Ar_copyOf_1 b_Ar_copyOf_1 4 (some (.array (.object "java/lang/Object"))) ∈ lw_tbl := List.mem_of_getElem? (i := 375) (by decide +kernel)
abbrev b_Lw_polygon : ByteArray := method_4_code
def y_Lw_polygon : MethodName := ⟨"ShapeTreesLaw", "polygon", "(LShapeTrees;II[J)I"⟩
abbrev hh_Lw_polygon : List (Nat × Nat × Nat × Nat) := [(0, 10, 13, 19), (0, 10, 17, 13)]
theorem w_Lw_polygon : Cond.codeWith y_Lw_polygon b_Lw_polygon 5 (some .int) hh_Lw_polygon ∈ lw_tbl := List.mem_of_getElem? (i := 387) (by decide +kernel)
abbrev b_ST_polygon : ByteArray := prog_1_method_3_code
def y_ST_polygon : MethodName := ⟨"ShapeTrees", "polygon", "(II)I"⟩
theorem w_ST_polygon : Cond.code y_ST_polygon b_ST_polygon 4 (some .int) ∈ lw_tbl := List.mem_of_getElem? (i := 392) (by decide +kernel)
abbrev b_ST_knownCell : ByteArray := prog_1_method_15_code
def y_ST_knownCell : MethodName := ⟨"ShapeTrees", "knownCell", "(I)LShapeTrees$Cell;"⟩
theorem w_ST_knownCell : Cond.code y_ST_knownCell b_ST_knownCell 2 (some (.object "ShapeTrees$Cell")) ∈ lw_tbl := List.mem_of_getElem? (i := 396) (by decide +kernel)
abbrev b_AL_get : ByteArray := prog_26_method_20_code
def y_AL_get : MethodName := ⟨"java/util/ArrayList", "get", "(I)Ljava/lang/Object;"⟩
theorem w_AL_get : Cond.code y_AL_get b_AL_get 2 (some (.object "java/lang/Object")) ∈ lw_tbl := List.mem_of_getElem? (i := 416) (by decide +kernel)
abbrev b_Ob_checkIndex : ByteArray := prog_30_method_17_code
def y_Ob_checkIndex : MethodName := ⟨"java/util/Objects", "checkIndex", "(II)I"⟩
theorem w_Ob_checkIndex : Cond.code y_Ob_checkIndex b_Ob_checkIndex 2 (some .int) ∈ lw_tbl := List.mem_of_getElem? (i := 419) (by decide +kernel)
abbrev b_Pr_checkIndex : ByteArray := prog_34_method_11_code
def y_Pr_checkIndex : MethodName := ⟨"jdk/internal/util/Preconditions", "checkIndex", "(IILjava/util/function/BiFunction;)I"⟩
theorem w_Pr_checkIndex : Cond.code y_Pr_checkIndex b_Pr_checkIndex 3 (some .int) ∈ lw_tbl := List.mem_of_getElem? (i := 422) (by decide +kernel)
abbrev b_AL_elementData : ByteArray := prog_26_method_18_code
def y_AL_elementData : MethodName := ⟨"java/util/ArrayList", "elementData", "(I)Ljava/lang/Object;"⟩
theorem w_AL_elementData : Cond.code y_AL_elementData b_AL_elementData 2 (some (.object "java/lang/Object")) ∈ lw_tbl := List.mem_of_getElem? (i := 426) (by decide +kernel)
abbrev b_ST_checkLayer : ByteArray := prog_1_method_18_code
def y_ST_checkLayer : MethodName := ⟨"ShapeTrees", "checkLayer", "(I)V"⟩
theorem w_ST_checkLayer : Cond.code y_ST_checkLayer b_ST_checkLayer 2 none ∈ lw_tbl := List.mem_of_getElem? (i := 430) (by decide +kernel)
abbrev b_ST_checkShapesLeft : ByteArray := prog_1_method_19_code
def y_ST_checkShapesLeft : MethodName := ⟨"ShapeTrees", "checkShapesLeft", "()V"⟩
theorem w_ST_checkShapesLeft : Cond.code y_ST_checkShapesLeft b_ST_checkShapesLeft 1 none ∈ lw_tbl := List.mem_of_getElem? (i := 435) (by decide +kernel)
abbrev b_Sh_init : ByteArray := prog_6_method_1_code
def y_Sh_init : MethodName := ⟨"ShapeTrees$Shape", "<init>", "(IJI)V"⟩
theorem w_Sh_init : Cond.code y_Sh_init b_Sh_init 5 none ∈ lw_tbl := List.mem_of_getElem? (i := 441) (by decide +kernel)
abbrev b_ST_keepShape : ByteArray := prog_1_method_22_code
def y_ST_keepShape : MethodName := ⟨"ShapeTrees", "keepShape", "(LShapeTrees$Cell;LShapeTrees$Shape;)I"⟩
theorem w_ST_keepShape : Cond.code y_ST_keepShape b_ST_keepShape 3 (some .int) ∈ lw_tbl := List.mem_of_getElem? (i := 486) (by decide +kernel)
abbrev b_Lw_corner : ByteArray := method_5_code
def y_Lw_corner : MethodName := ⟨"ShapeTreesLaw", "corner", "(LShapeTrees;IJJ[J)I"⟩
abbrev hh_Lw_corner : List (Nat × Nat × Nat × Nat) := [(0, 20, 23, 19), (0, 20, 27, 13), (0, 20, 31, 25)]
theorem w_Lw_corner : Cond.codeWith y_Lw_corner b_Lw_corner 8 (some .int) hh_Lw_corner ∈ lw_tbl := List.mem_of_getElem? (i := 489) (by decide +kernel)
abbrev b_ST_corner : ByteArray := prog_1_method_4_code
def y_ST_corner : MethodName := ⟨"ShapeTrees", "corner", "(IJJ)Z"⟩
theorem w_ST_corner : Cond.code y_ST_corner b_ST_corner 6 (some .boolean) ∈ lw_tbl := List.mem_of_getElem? (i := 494) (by decide +kernel)
abbrev b_ST_openShape : ByteArray := prog_1_method_17_code
def y_ST_openShape : MethodName := ⟨"ShapeTrees", "openShape", "(IZ)LShapeTrees$Shape;"⟩
theorem w_ST_openShape : Cond.code y_ST_openShape b_ST_openShape 4 (some (.object "ShapeTrees$Shape")) ∈ lw_tbl := List.mem_of_getElem? (i := 498) (by decide +kernel)
abbrev b_ST_knownShape : ByteArray := prog_1_method_16_code
def y_ST_knownShape : MethodName := ⟨"ShapeTrees", "knownShape", "(I)LShapeTrees$Shape;"⟩
theorem w_ST_knownShape : Cond.code y_ST_knownShape b_ST_knownShape 2 (some (.object "ShapeTrees$Shape")) ∈ lw_tbl := List.mem_of_getElem? (i := 502) (by decide +kernel)
abbrev b_Sh_isPath : ByteArray := prog_6_method_2_code
def y_Sh_isPath : MethodName := ⟨"ShapeTrees$Shape", "isPath", "()Z"⟩
theorem w_Sh_isPath : Cond.code y_Sh_isPath b_Sh_isPath 1 (some .boolean) ∈ lw_tbl := List.mem_of_getElem? (i := 507) (by decide +kernel)
abbrev b_ST_extend : ByteArray := prog_1_method_23_code
def y_ST_extend : MethodName := ⟨"ShapeTrees", "extend", "(LShapeTrees$Shape;JJ)Z"⟩
theorem w_ST_extend : Cond.code y_ST_extend b_ST_extend 5 (some .boolean) ∈ lw_tbl := List.mem_of_getElem? (i := 511) (by decide +kernel)
abbrev b_ST_checkNear : ByteArray := prog_1_method_20_code
def y_ST_checkNear : MethodName := ⟨"ShapeTrees", "checkNear", "(J)V"⟩
theorem w_ST_checkNear : Cond.code y_ST_checkNear b_ST_checkNear 2 none ∈ lw_tbl := List.mem_of_getElem? (i := 515) (by decide +kernel)
abbrev b_Sh_takes : ByteArray := prog_6_method_4_code
def y_Sh_takes : MethodName := ⟨"ShapeTrees$Shape", "takes", "(JJ)Z"⟩
theorem w_Sh_takes : Cond.code y_Sh_takes b_Sh_takes 8 (some .boolean) ∈ lw_tbl := List.mem_of_getElem? (i := 537) (by decide +kernel)
abbrev b_Sh_add : ByteArray := prog_6_method_5_code
def y_Sh_add : MethodName := ⟨"ShapeTrees$Shape", "add", "(JJ)V"⟩
theorem w_Sh_add : Cond.code y_Sh_add b_Sh_add 5 none ∈ lw_tbl := List.mem_of_getElem? (i := 542) (by decide +kernel)
abbrev b_Ar_fill : ByteArray := prog_27_method_103_code
def y_Ar_fill : MethodName := ⟨"java/util/Arrays", "fill", "([II)V"⟩
theorem w_Ar_fill : Cond.code y_Ar_fill b_Ar_fill 4 none ∈ lw_tbl := List.mem_of_getElem? (i := 545) (by decide +kernel)
abbrev b_Sh_measurePieces : ByteArray := prog_6_method_6_code
def y_Sh_measurePieces : MethodName := ⟨"ShapeTrees$Shape", "measurePieces", "()V"⟩
theorem w_Sh_measurePieces : Cond.code y_Sh_measurePieces b_Sh_measurePieces 2 none ∈ lw_tbl := List.mem_of_getElem? (i := 549) (by decide +kernel)
abbrev b_Bx_clear : ByteArray := prog_2_method_2_code
def y_Bx_clear : MethodName := ⟨"ShapeTrees$Box", "clear", "()V"⟩
theorem w_Bx_clear : Cond.code y_Bx_clear b_Bx_clear 1 none ∈ lw_tbl := List.mem_of_getElem? (i := 553) (by decide +kernel)
abbrev b_Sh_holdPiece : ByteArray := prog_6_method_7_code
def y_Sh_holdPiece : MethodName := ⟨"ShapeTrees$Shape", "holdPiece", "(I)V"⟩
theorem w_Sh_holdPiece : Cond.code y_Sh_holdPiece b_Sh_holdPiece 22 none ∈ lw_tbl := List.mem_of_getElem? (i := 557) (by decide +kernel)
abbrev b_Lo_signum : ByteArray := prog_17_method_57_code
def y_Lo_signum : MethodName := ⟨"java/lang/Long", "signum", "(J)I"⟩
theorem w_Lo_signum : Cond.code y_Lo_signum b_Lo_signum 2 (some .int) ∈ lw_tbl := List.mem_of_getElem? (i := 561) (by decide +kernel)
abbrev b_Mt_min_1 : ByteArray := prog_18_method_70_code
def y_Mt_min_1 : MethodName := ⟨"java/lang/Math", "min", "(JJ)J"⟩
theorem w_Mt_min_1 : Cond.code y_Mt_min_1 b_Mt_min_1 4 (some .long) ∈ lw_tbl := List.mem_of_getElem? (i := 564) (by decide +kernel)
abbrev b_Mt_max_1 : ByteArray := prog_18_method_66_code
def y_Mt_max_1 : MethodName := ⟨"java/lang/Math", "max", "(JJ)J"⟩
theorem w_Mt_max_1 : Cond.code y_Mt_max_1 b_Mt_max_1 4 (some .long) ∈ lw_tbl := List.mem_of_getElem? (i := 567) (by decide +kernel)
abbrev b_Bx_hold : ByteArray := prog_2_method_3_code
def y_Bx_hold : MethodName := ⟨"ShapeTrees$Box", "hold", "(JJJJ)V"⟩
theorem w_Bx_hold : Cond.code y_Bx_hold b_Bx_hold 9 none ∈ lw_tbl := List.mem_of_getElem? (i := 571) (by decide +kernel)
abbrev b_Lw_path : ByteArray := method_6_code
def y_Lw_path : MethodName := ⟨"ShapeTreesLaw", "path", "(LShapeTrees;IIJI[J)I"⟩
abbrev hh_Lw_path : List (Nat × Nat × Nat × Nat) := [(0, 14, 17, 19), (0, 14, 21, 13), (0, 14, 25, 25)]
theorem w_Lw_path : Cond.codeWith y_Lw_path b_Lw_path 8 (some .int) hh_Lw_path ∈ lw_tbl := List.mem_of_getElem? (i := 576) (by decide +kernel)
abbrev b_ST_path : ByteArray := prog_1_method_5_code
def y_ST_path : MethodName := ⟨"ShapeTrees", "path", "(IIJI)I"⟩
theorem w_ST_path : Cond.code y_ST_path b_ST_path 7 (some .int) ∈ lw_tbl := List.mem_of_getElem? (i := 580) (by decide +kernel)
abbrev b_Lw_point : ByteArray := method_7_code
def y_Lw_point : MethodName := ⟨"ShapeTreesLaw", "point", "(LShapeTrees;IJJ[J)I"⟩
abbrev hh_Lw_point : List (Nat × Nat × Nat × Nat) := [(0, 20, 23, 19), (0, 20, 27, 13), (0, 20, 31, 25)]
theorem w_Lw_point : Cond.codeWith y_Lw_point b_Lw_point 8 (some .int) hh_Lw_point ∈ lw_tbl := List.mem_of_getElem? (i := 587) (by decide +kernel)
abbrev b_ST_point : ByteArray := prog_1_method_6_code
def y_ST_point : MethodName := ⟨"ShapeTrees", "point", "(IJJ)Z"⟩
theorem w_ST_point : Cond.code y_ST_point b_ST_point 6 (some .boolean) ∈ lw_tbl := List.mem_of_getElem? (i := 591) (by decide +kernel)
abbrev b_Lw_place : ByteArray := method_8_code
def y_Lw_place : MethodName := ⟨"ShapeTreesLaw", "place", "(LShapeTrees;IIJJI[J)I"⟩
abbrev hh_Lw_place : List (Nat × Nat × Nat × Nat) := [(0, 16, 19, 19), (0, 16, 23, 13), (0, 16, 27, 25)]
theorem w_Lw_place : Cond.codeWith y_Lw_place b_Lw_place 10 (some .int) hh_Lw_place ∈ lw_tbl := List.mem_of_getElem? (i := 594) (by decide +kernel)
abbrev b_ST_place : ByteArray := prog_1_method_7_code
def y_ST_place : MethodName := ⟨"ShapeTrees", "place", "(IIJJI)I"⟩
theorem w_ST_place : Cond.code y_ST_place b_ST_place 11 (some .int) ∈ lw_tbl := List.mem_of_getElem? (i := 598) (by decide +kernel)
abbrev b_ST_wouldHoldItself : ByteArray := prog_1_method_24_code
def y_ST_wouldHoldItself : MethodName := ⟨"ShapeTrees", "wouldHoldItself", "(LShapeTrees$Cell;LShapeTrees$Cell;)Z"⟩
theorem w_ST_wouldHoldItself : Cond.code y_ST_wouldHoldItself b_ST_wouldHoldItself 4 (some .boolean) ∈ lw_tbl := List.mem_of_getElem? (i := 604) (by decide +kernel)
abbrev b_ST_isWithin : ByteArray := prog_1_method_25_code
def y_ST_isWithin : MethodName := ⟨"ShapeTrees", "isWithin", "(LShapeTrees$Cell;LShapeTrees$Cell;I)Z"⟩
theorem w_ST_isWithin : Cond.code y_ST_isWithin b_ST_isWithin 4 (some .boolean) ∈ lw_tbl := List.mem_of_getElem? (i := 607) (by decide +kernel)
abbrev b_Pl_init : ByteArray := prog_5_method_1_code
def y_Pl_init : MethodName := ⟨"ShapeTrees$Place", "<init>", "(LShapeTrees$Cell;JJI)V"⟩
theorem w_Pl_init : Cond.code y_Pl_init b_Pl_init 7 none ∈ lw_tbl := List.mem_of_getElem? (i := 612) (by decide +kernel)
abbrev b_Lw_array : ByteArray := method_9_code
def y_Lw_array : MethodName := ⟨"ShapeTreesLaw", "array", "(LShapeTrees;IIIJJ[J)I"⟩
abbrev hh_Lw_array : List (Nat × Nat × Nat × Nat) := [(0, 16, 19, 19), (0, 16, 23, 25)]
theorem w_Lw_array : Cond.codeWith y_Lw_array b_Lw_array 10 (some .int) hh_Lw_array ∈ lw_tbl := List.mem_of_getElem? (i := 661) (by decide +kernel)
abbrev b_ST_array : ByteArray := prog_1_method_8_code
def y_ST_array : MethodName := ⟨"ShapeTrees", "array", "(IIIJJ)I"⟩
theorem w_ST_array : Cond.code y_ST_array b_ST_array 9 (some .int) ∈ lw_tbl := List.mem_of_getElem? (i := 665) (by decide +kernel)
abbrev b_Pl_copies : ByteArray := prog_5_method_2_code
def y_Pl_copies : MethodName := ⟨"ShapeTrees$Place", "copies", "()I"⟩
theorem w_Pl_copies : Cond.code y_Pl_copies b_Pl_copies 1 (some .int) ∈ lw_tbl := List.mem_of_getElem? (i := 671) (by decide +kernel)
abbrev b_Lw_box : ByteArray := method_10_code
def y_Lw_box : MethodName := ⟨"ShapeTreesLaw", "box", "(LShapeTrees;III[J)I"⟩
abbrev hh_Lw_box : List (Nat × Nat × Nat × Nat) := [(0, 11, 14, 19), (0, 11, 18, 13)]
theorem w_Lw_box : Cond.codeWith y_Lw_box b_Lw_box 6 (some .int) hh_Lw_box ∈ lw_tbl := List.mem_of_getElem? (i := 674) (by decide +kernel)
abbrev b_ST_box : ByteArray := prog_1_method_9_code
def y_ST_box : MethodName := ⟨"ShapeTrees", "box", "(III)J"⟩
theorem w_ST_box : Cond.code y_ST_box b_ST_box 5 (some .long) ∈ lw_tbl := List.mem_of_getElem? (i := 678) (by decide +kernel)
abbrev b_ST_measureCells : ByteArray := prog_1_method_26_code
def y_ST_measureCells : MethodName := ⟨"ShapeTrees", "measureCells", "(I)V"⟩
theorem w_ST_measureCells : Cond.code y_ST_measureCells b_ST_measureCells 3 none ∈ lw_tbl := List.mem_of_getElem? (i := 683) (by decide +kernel)
abbrev b_ST_measure : ByteArray := prog_1_method_27_code
def y_ST_measure : MethodName := ⟨"ShapeTrees", "measure", "(LShapeTrees$Cell;II)V"⟩
theorem w_ST_measure : Cond.code y_ST_measure b_ST_measure 5 none ∈ lw_tbl := List.mem_of_getElem? (i := 686) (by decide +kernel)
abbrev b_Cl_measureOwn : ByteArray := prog_3_method_2_code
def y_Cl_measureOwn : MethodName := ⟨"ShapeTrees$Cell", "measureOwn", "(I)V"⟩
theorem w_Cl_measureOwn : Cond.code y_Cl_measureOwn b_Cl_measureOwn 4 none ∈ lw_tbl := List.mem_of_getElem? (i := 690) (by decide +kernel)
abbrev b_Sh_isOn : ByteArray := prog_6_method_3_code
def y_Sh_isOn : MethodName := ⟨"ShapeTrees$Shape", "isOn", "(I)Z"⟩
theorem w_Sh_isOn : Cond.code y_Sh_isOn b_Sh_isOn 3 (some .boolean) ∈ lw_tbl := List.mem_of_getElem? (i := 698) (by decide +kernel)
abbrev b_Bx_holdBox : ByteArray := prog_2_method_4_code
def y_Bx_holdBox : MethodName := ⟨"ShapeTrees$Box", "holdBox", "(LShapeTrees$Box;)V"⟩
theorem w_Bx_holdBox : Cond.code y_Bx_holdBox b_Bx_holdBox 2 none ∈ lw_tbl := List.mem_of_getElem? (i := 702) (by decide +kernel)
abbrev b_Cl_measureWith : ByteArray := prog_3_method_3_code
def y_Cl_measureWith : MethodName := ⟨"ShapeTrees$Cell", "measureWith", "(LShapeTrees$Place;)V"⟩
theorem w_Cl_measureWith : Cond.code y_Cl_measureWith b_Cl_measureWith 2 none ∈ lw_tbl := List.mem_of_getElem? (i := 707) (by decide +kernel)
abbrev b_Pl_measureBox : ByteArray := prog_5_method_3_code
def y_Pl_measureBox : MethodName := ⟨"ShapeTrees$Place", "measureBox", "()V"⟩
theorem w_Pl_measureBox : Cond.code y_Pl_measureBox b_Pl_measureBox 1 none ∈ lw_tbl := List.mem_of_getElem? (i := 713) (by decide +kernel)
abbrev b_Bx_become : ByteArray := prog_2_method_5_code
def y_Bx_become : MethodName := ⟨"ShapeTrees$Box", "become", "(LShapeTrees$Box;IJJ)V"⟩
theorem w_Bx_become : Cond.code y_Bx_become b_Bx_become 15 none ∈ lw_tbl := List.mem_of_getElem? (i := 717) (by decide +kernel)
abbrev b_ST_turnedX : ByteArray := prog_1_method_29_code
def y_ST_turnedX : MethodName := ⟨"ShapeTrees", "turnedX", "(IJJ)J"⟩
theorem w_ST_turnedX : Cond.code y_ST_turnedX b_ST_turnedX 5 (some .long) ∈ lw_tbl := List.mem_of_getElem? (i := 720) (by decide +kernel)
abbrev b_ST_turnedY : ByteArray := prog_1_method_30_code
def y_ST_turnedY : MethodName := ⟨"ShapeTrees", "turnedY", "(IJJ)J"⟩
theorem w_ST_turnedY : Cond.code y_ST_turnedY b_ST_turnedY 5 (some .long) ∈ lw_tbl := List.mem_of_getElem? (i := 723) (by decide +kernel)
abbrev b_Bx_stretch : ByteArray := prog_2_method_6_code
def y_Bx_stretch : MethodName := ⟨"ShapeTrees$Box", "stretch", "(JJ)V"⟩
theorem w_Bx_stretch : Cond.code y_Bx_stretch b_Bx_stretch 5 none ∈ lw_tbl := List.mem_of_getElem? (i := 728) (by decide +kernel)
abbrev b_Bx_side : ByteArray := prog_2_method_8_code
def y_Bx_side : MethodName := ⟨"ShapeTrees$Box", "side", "(I)J"⟩
theorem w_Bx_side : Cond.code y_Bx_side b_Bx_side 2 (some .long) ∈ lw_tbl := List.mem_of_getElem? (i := 733) (by decide +kernel)
abbrev b_Lw_flat : ByteArray := method_11_code
def y_Lw_flat : MethodName := ⟨"ShapeTreesLaw", "flat", "(LShapeTrees;II[J)I"⟩
abbrev hh_Lw_flat : List (Nat × Nat × Nat × Nat) := [(0, 10, 13, 19), (0, 10, 17, 49)]
theorem w_Lw_flat : Cond.codeWith y_Lw_flat b_Lw_flat 5 (some .int) hh_Lw_flat ∈ lw_tbl := List.mem_of_getElem? (i := 736) (by decide +kernel)
abbrev b_ST_flat : ByteArray := prog_1_method_10_code
def y_ST_flat : MethodName := ⟨"ShapeTrees", "flat", "(II)I"⟩
theorem w_ST_flat : Cond.code y_ST_flat b_ST_flat 4 (some .int) ∈ lw_tbl := List.mem_of_getElem? (i := 741) (by decide +kernel)
abbrev b_ST_checkFewShapes : ByteArray := prog_1_method_21_code
def y_ST_checkFewShapes : MethodName := ⟨"ShapeTrees", "checkFewShapes", "(LShapeTrees$Cell;)V"⟩
theorem w_ST_checkFewShapes : Cond.code y_ST_checkFewShapes b_ST_checkFewShapes 1 none ∈ lw_tbl := List.mem_of_getElem? (i := 744) (by decide +kernel)
abbrev b_Fl_lay : ByteArray := prog_4_method_2_code
def y_Fl_lay : MethodName := ⟨"ShapeTrees$Flat", "lay", "(LShapeTrees$Cell;I)V"⟩
theorem w_Fl_lay : Cond.code y_Fl_lay b_Fl_lay 3 none ∈ lw_tbl := List.mem_of_getElem? (i := 764) (by decide +kernel)
abbrev b_Fl_layCell : ByteArray := prog_4_method_3_code
def y_Fl_layCell : MethodName := ⟨"ShapeTrees$Flat", "layCell", "(LShapeTrees$Cell;IJJI)V"⟩
theorem w_Fl_layCell : Cond.code y_Fl_layCell b_Fl_layCell 10 none ∈ lw_tbl := List.mem_of_getElem? (i := 768) (by decide +kernel)
abbrev b_Fl_add : ByteArray := prog_4_method_5_code
def y_Fl_add : MethodName := ⟨"ShapeTrees$Flat", "add", "(LShapeTrees$Shape;IJJ)V"⟩
theorem w_Fl_add : Cond.code y_Fl_add b_Fl_add 7 none ∈ lw_tbl := List.mem_of_getElem? (i := 775) (by decide +kernel)
abbrev b_Fl_layPlace : ByteArray := prog_4_method_4_code
def y_Fl_layPlace : MethodName := ⟨"ShapeTrees$Flat", "layPlace", "(LShapeTrees$Place;IJJI)V"⟩
theorem w_Fl_layPlace : Cond.code y_Fl_layPlace b_Fl_layPlace 15 none ∈ lw_tbl := List.mem_of_getElem? (i := 780) (by decide +kernel)
abbrev b_ST_bothTurns : ByteArray := prog_1_method_31_code
def y_ST_bothTurns : MethodName := ⟨"ShapeTrees", "bothTurns", "(II)I"⟩
theorem w_ST_bothTurns : Cond.code y_ST_bothTurns b_ST_bothTurns 3 (some .int) ∈ lw_tbl := List.mem_of_getElem? (i := 783) (by decide +kernel)
abbrev b_Lw_at : ByteArray := method_12_code
def y_Lw_at : MethodName := ⟨"ShapeTreesLaw", "at", "(LShapeTrees;III[J)I"⟩
abbrev hh_Lw_at : List (Nat × Nat × Nat × Nat) := [(0, 11, 14, 19)]
theorem w_Lw_at : Cond.codeWith y_Lw_at b_Lw_at 6 (some .int) hh_Lw_at ∈ lw_tbl := List.mem_of_getElem? (i := 788) (by decide +kernel)
abbrev b_ST_at : ByteArray := prog_1_method_11_code
def y_ST_at : MethodName := ⟨"ShapeTrees", "at", "(III)J"⟩
theorem w_ST_at : Cond.code y_ST_at b_ST_at 4 (some .long) ∈ lw_tbl := List.mem_of_getElem? (i := 792) (by decide +kernel)
abbrev b_Fl_cornerX : ByteArray := prog_4_method_6_code
def y_Fl_cornerX : MethodName := ⟨"ShapeTrees$Flat", "cornerX", "(II)J"⟩
theorem w_Fl_cornerX : Cond.code y_Fl_cornerX b_Fl_cornerX 3 (some .long) ∈ lw_tbl := List.mem_of_getElem? (i := 799) (by decide +kernel)
abbrev b_Fl_cornerY : ByteArray := prog_4_method_7_code
def y_Fl_cornerY : MethodName := ⟨"ShapeTrees$Flat", "cornerY", "(II)J"⟩
theorem w_Fl_cornerY : Cond.code y_Fl_cornerY b_Fl_cornerY 3 (some .long) ∈ lw_tbl := List.mem_of_getElem? (i := 803) (by decide +kernel)
abbrev b_Lw_equalTo : ByteArray := method_13_code
def y_Lw_equalTo : MethodName := ⟨"ShapeTreesLaw", "equalTo", "(LShapeTrees;I[J)I"⟩
abbrev hh_Lw_equalTo : List (Nat × Nat × Nat × Nat) := [(0, 9, 12, 19), (0, 9, 15, 49)]
theorem w_Lw_equalTo : Cond.codeWith y_Lw_equalTo b_Lw_equalTo 4 (some .int) hh_Lw_equalTo ∈ lw_tbl := List.mem_of_getElem? (i := 806) (by decide +kernel)
abbrev b_ST_equalTo : ByteArray := prog_1_method_12_code
def y_ST_equalTo : MethodName := ⟨"ShapeTrees", "equalTo", "(I)I"⟩
theorem w_ST_equalTo : Cond.code y_ST_equalTo b_ST_equalTo 6 (some .int) ∈ lw_tbl := List.mem_of_getElem? (i := 810) (by decide +kernel)
abbrev b_ST_sameSize : ByteArray := prog_1_method_28_code
def y_ST_sameSize : MethodName := ⟨"ShapeTrees", "sameSize", "(LShapeTrees$Cell;LShapeTrees$Cell;)Z"⟩
theorem w_ST_sameSize : Cond.code y_ST_sameSize b_ST_sameSize 2 (some .boolean) ∈ lw_tbl := List.mem_of_getElem? (i := 813) (by decide +kernel)
abbrev b_Bx_width : ByteArray := prog_2_method_9_code
def y_Bx_width : MethodName := ⟨"ShapeTrees$Box", "width", "()J"⟩
theorem w_Bx_width : Cond.code y_Bx_width b_Bx_width 1 (some .long) ∈ lw_tbl := List.mem_of_getElem? (i := 817) (by decide +kernel)
abbrev b_Bx_height : ByteArray := prog_2_method_10_code
def y_Bx_height : MethodName := ⟨"ShapeTrees$Box", "height", "()J"⟩
theorem w_Bx_height : Cond.code y_Bx_height b_Bx_height 1 (some .long) ∈ lw_tbl := List.mem_of_getElem? (i := 821) (by decide +kernel)
abbrev b_Fl_layFromZero : ByteArray := prog_4_method_8_code
def y_Fl_layFromZero : MethodName := ⟨"ShapeTrees$Flat", "layFromZero", "(LShapeTrees$Cell;)V"⟩
theorem w_Fl_layFromZero : Cond.code y_Fl_layFromZero b_Fl_layFromZero 3 none ∈ lw_tbl := List.mem_of_getElem? (i := 825) (by decide +kernel)
abbrev b_Sh_settleOrder : ByteArray := prog_6_method_8_code
def y_Sh_settleOrder : MethodName := ⟨"ShapeTrees$Shape", "settleOrder", "(I)V"⟩
theorem w_Sh_settleOrder : Cond.code y_Sh_settleOrder b_Sh_settleOrder 3 none ∈ lw_tbl := List.mem_of_getElem? (i := 830) (by decide +kernel)
abbrev b_Sh_takeIfLess : ByteArray := prog_6_method_9_code
def y_Sh_takeIfLess : MethodName := ⟨"ShapeTrees$Shape", "takeIfLess", "(III)V"⟩
theorem w_Sh_takeIfLess : Cond.code y_Sh_takeIfLess b_Sh_takeIfLess 8 none ∈ lw_tbl := List.mem_of_getElem? (i := 834) (by decide +kernel)
abbrev b_Mt_floorMod : ByteArray := prog_18_method_50_code
def y_Mt_floorMod : MethodName := ⟨"java/lang/Math", "floorMod", "(II)I"⟩
theorem w_Mt_floorMod : Cond.code y_Mt_floorMod b_Mt_floorMod 3 (some .int) ∈ lw_tbl := List.mem_of_getElem? (i := 837) (by decide +kernel)
abbrev b_Sh_orderedIndex : ByteArray := prog_6_method_10_code
def y_Sh_orderedIndex : MethodName := ⟨"ShapeTrees$Shape", "orderedIndex", "(II)I"⟩
theorem w_Sh_orderedIndex : Cond.code y_Sh_orderedIndex b_Sh_orderedIndex 3 (some .int) ∈ lw_tbl := List.mem_of_getElem? (i := 841) (by decide +kernel)
abbrev b_Lo_compare : ByteArray := prog_17_method_42_code
def y_Lo_compare : MethodName := ⟨"java/lang/Long", "compare", "(JJ)I"⟩
theorem w_Lo_compare : Cond.code y_Lo_compare b_Lo_compare 4 (some .int) ∈ lw_tbl := List.mem_of_getElem? (i := 845) (by decide +kernel)
abbrev b_Fl_markOf : ByteArray := prog_4_method_9_code
def y_Fl_markOf : MethodName := ⟨"ShapeTrees$Flat", "markOf", "(I)J"⟩
theorem w_Fl_markOf : Cond.code y_Fl_markOf b_Fl_markOf 5 (some .long) ∈ lw_tbl := List.mem_of_getElem? (i := 850) (by decide +kernel)
abbrev b_Fl_hasSameShapes : ByteArray := prog_4_method_10_code
def y_Fl_hasSameShapes : MethodName := ⟨"ShapeTrees$Flat", "hasSameShapes", "(LShapeTrees$Flat;)Z"⟩
theorem w_Fl_hasSameShapes : Cond.code y_Fl_hasSameShapes b_Fl_hasSameShapes 3 (some .boolean) ∈ lw_tbl := List.mem_of_getElem? (i := 859) (by decide +kernel)
abbrev b_Fl_sort : ByteArray := prog_4_method_11_code
def y_Fl_sort : MethodName := ⟨"ShapeTrees$Flat", "sort", "()V"⟩
theorem w_Fl_sort : Cond.code y_Fl_sort b_Fl_sort 3 none ∈ lw_tbl := List.mem_of_getElem? (i := 863) (by decide +kernel)
abbrev b_Fl_merge : ByteArray := prog_4_method_12_code
def y_Fl_merge : MethodName := ⟨"ShapeTrees$Flat", "merge", "(III)V"⟩
theorem w_Fl_merge : Cond.code y_Fl_merge b_Fl_merge 8 none ∈ lw_tbl := List.mem_of_getElem? (i := 868) (by decide +kernel)
abbrev b_Fl_compare : ByteArray := prog_4_method_13_code
def y_Fl_compare : MethodName := ⟨"ShapeTrees$Flat", "compare", "(ILShapeTrees$Flat;I)I"⟩
theorem w_Fl_compare : Cond.code y_Fl_compare b_Fl_compare 10 (some .int) ∈ lw_tbl := List.mem_of_getElem? (i := 872) (by decide +kernel)
abbrev b_Sh_compareKind : ByteArray := prog_6_method_11_code
def y_Sh_compareKind : MethodName := ⟨"ShapeTrees$Shape", "compareKind", "(LShapeTrees$Shape;)I"⟩
theorem w_Sh_compareKind : Cond.code y_Sh_compareKind b_Sh_compareKind 3 (some .int) ∈ lw_tbl := List.mem_of_getElem? (i := 877) (by decide +kernel)
abbrev b_In_compare : ByteArray := prog_15_method_40_code
def y_In_compare : MethodName := ⟨"java/lang/Integer", "compare", "(II)I"⟩
theorem w_In_compare : Cond.code y_In_compare b_In_compare 2 (some .int) ∈ lw_tbl := List.mem_of_getElem? (i := 880) (by decide +kernel)
abbrev b_Lw_find : ByteArray := method_14_code
def y_Lw_find : MethodName := ⟨"ShapeTreesLaw", "find", "(LShapeTrees;IJJJJ[J)I"⟩
abbrev hh_Lw_find : List (Nat × Nat × Nat × Nat) := [(0, 17, 20, 19), (0, 17, 24, 25), (0, 17, 28, 49)]
theorem w_Lw_find : Cond.codeWith y_Lw_find b_Lw_find 12 (some .int) hh_Lw_find ∈ lw_tbl := List.mem_of_getElem? (i := 884) (by decide +kernel)
abbrev b_ST_find : ByteArray := prog_1_method_13_code
def y_ST_find : MethodName := ⟨"ShapeTrees", "find", "(IJJJJ)I"⟩
theorem w_ST_find : Cond.code y_ST_find b_ST_find 13 (some .int) ∈ lw_tbl := List.mem_of_getElem? (i := 888) (by decide +kernel)
abbrev b_Bx_touches : ByteArray := prog_2_method_7_code
def y_Bx_touches : MethodName := ⟨"ShapeTrees$Box", "touches", "(JJJJ)Z"⟩
theorem w_Bx_touches : Cond.code y_Bx_touches b_Bx_touches 9 (some .boolean) ∈ lw_tbl := List.mem_of_getElem? (i := 894) (by decide +kernel)
abbrev b_Lw_drop : ByteArray := method_15_code
def y_Lw_drop : MethodName := ⟨"ShapeTreesLaw", "drop", "(LShapeTrees;I[J)I"⟩
abbrev hh_Lw_drop : List (Nat × Nat × Nat × Nat) := [(0, 16, 19, 19)]
theorem w_Lw_drop : Cond.codeWith y_Lw_drop b_Lw_drop 4 (some .int) hh_Lw_drop ∈ lw_tbl := List.mem_of_getElem? (i := 897) (by decide +kernel)
abbrev b_ST_drop : ByteArray := prog_1_method_14_code
def y_ST_drop : MethodName := ⟨"ShapeTrees", "drop", "(I)Z"⟩
theorem w_ST_drop : Cond.code y_ST_drop b_ST_drop 4 (some .boolean) ∈ lw_tbl := List.mem_of_getElem? (i := 901) (by decide +kernel)
abbrev b_Md_init : ByteArray := prog_8_method_1_code
def y_Md_init : MethodName := ⟨"ShapeTreesModel", "<init>", "(I)V"⟩
theorem w_Md_init : Cond.code y_Md_init b_Md_init 2 none ∈ lw_tbl := List.mem_of_getElem? (i := 906) (by decide +kernel)
abbrev b_Md_thrown : ByteArray := prog_8_method_2_code
def y_Md_thrown : MethodName := ⟨"ShapeTreesModel", "thrown", "()I"⟩
theorem w_Md_thrown : Cond.code y_Md_thrown b_Md_thrown 1 (some .int) ∈ lw_tbl := List.mem_of_getElem? (i := 1047) (by decide +kernel)
abbrev b_Md_cell : ByteArray := prog_8_method_6_code
def y_Md_cell : MethodName := ⟨"ShapeTreesModel", "cell", "()I"⟩
theorem w_Md_cell : Cond.code y_Md_cell b_Md_cell 1 (some .int) ∈ lw_tbl := List.mem_of_getElem? (i := 1051) (by decide +kernel)
abbrev b_Md_polygon : ByteArray := prog_8_method_8_code
def y_Md_polygon : MethodName := ⟨"ShapeTreesModel", "polygon", "(II)I"⟩
theorem w_Md_polygon : Cond.code y_Md_polygon b_Md_polygon 3 (some .int) ∈ lw_tbl := List.mem_of_getElem? (i := 1055) (by decide +kernel)
abbrev b_Md_isCell : ByteArray := prog_8_method_3_code
def y_Md_isCell : MethodName := ⟨"ShapeTreesModel", "isCell", "(I)Z"⟩
theorem w_Md_isCell : Cond.code y_Md_isCell b_Md_isCell 2 (some .boolean) ∈ lw_tbl := List.mem_of_getElem? (i := 1059) (by decide +kernel)
abbrev b_Md_isLayer : ByteArray := prog_8_method_4_code
def y_Md_isLayer : MethodName := ⟨"ShapeTreesModel", "isLayer", "(I)Z"⟩
theorem w_Md_isLayer : Cond.code y_Md_isLayer b_Md_isLayer 2 (some .boolean) ∈ lw_tbl := List.mem_of_getElem? (i := 1063) (by decide +kernel)
abbrev b_Md_shape : ByteArray := prog_8_method_7_code
def y_Md_shape : MethodName := ⟨"ShapeTreesModel", "shape", "(IIJI)I"⟩
theorem w_Md_shape : Cond.code y_Md_shape b_Md_shape 6 (some .int) ∈ lw_tbl := List.mem_of_getElem? (i := 1067) (by decide +kernel)
abbrev b_Md_path : ByteArray := prog_8_method_9_code
def y_Md_path : MethodName := ⟨"ShapeTreesModel", "path", "(IIJI)I"⟩
theorem w_Md_path : Cond.code y_Md_path b_Md_path 6 (some .int) ∈ lw_tbl := List.mem_of_getElem? (i := 1071) (by decide +kernel)
abbrev b_Md_corner : ByteArray := prog_8_method_12_code
def y_Md_corner : MethodName := ⟨"ShapeTreesModel", "corner", "(IJJ)Z"⟩
theorem w_Md_corner : Cond.code y_Md_corner b_Md_corner 7 (some .boolean) ∈ lw_tbl := List.mem_of_getElem? (i := 1077) (by decide +kernel)
abbrev b_Md_faultOf : ByteArray := prog_8_method_11_code
def y_Md_faultOf : MethodName := ⟨"ShapeTreesModel", "faultOf", "(IZJJ)I"⟩
theorem w_Md_faultOf : Cond.code y_Md_faultOf b_Md_faultOf 8 (some .int) ∈ lw_tbl := List.mem_of_getElem? (i := 1081) (by decide +kernel)
abbrev b_Md_isFar : ByteArray := prog_8_method_5_code
def y_Md_isFar : MethodName := ⟨"ShapeTreesModel", "isFar", "(J)Z"⟩
theorem w_Md_isFar : Cond.code y_Md_isFar b_Md_isFar 2 (some .boolean) ∈ lw_tbl := List.mem_of_getElem? (i := 1084) (by decide +kernel)
abbrev b_Md_add : ByteArray := prog_8_method_10_code
def y_Md_add : MethodName := ⟨"ShapeTreesModel", "add", "(IJJ)V"⟩
theorem w_Md_add : Cond.code y_Md_add b_Md_add 6 none ∈ lw_tbl := List.mem_of_getElem? (i := 1090) (by decide +kernel)
abbrev b_Md_point : ByteArray := prog_8_method_13_code
def y_Md_point : MethodName := ⟨"ShapeTreesModel", "point", "(IJJ)Z"⟩
theorem w_Md_point : Cond.code y_Md_point b_Md_point 7 (some .boolean) ∈ lw_tbl := List.mem_of_getElem? (i := 1094) (by decide +kernel)
abbrev b_Md_drop : ByteArray := prog_8_method_14_code
def y_Md_drop : MethodName := ⟨"ShapeTreesModel", "drop", "(I)Z"⟩
theorem w_Md_drop : Cond.code y_Md_drop b_Md_drop 2 (some .boolean) ∈ lw_tbl := List.mem_of_getElem? (i := 1098) (by decide +kernel)
abbrev b_Md_place : ByteArray := prog_8_method_16_code
def y_Md_place : MethodName := ⟨"ShapeTreesModel", "place", "(IIJJI)I"⟩
theorem w_Md_place : Cond.code y_Md_place b_Md_place 8 (some .int) ∈ lw_tbl := List.mem_of_getElem? (i := 1102) (by decide +kernel)
abbrev b_Md_has : ByteArray := prog_8_method_15_code
def y_Md_has : MethodName := ⟨"ShapeTreesModel", "has", "(II)Z"⟩
theorem w_Md_has : Cond.code y_Md_has b_Md_has 5 (some .boolean) ∈ lw_tbl := List.mem_of_getElem? (i := 1106) (by decide +kernel)
abbrev b_Md_array : ByteArray := prog_8_method_17_code
def y_Md_array : MethodName := ⟨"ShapeTreesModel", "array", "(IIIJJ)I"⟩
theorem w_Md_array : Cond.code y_Md_array b_Md_array 8 (some .int) ∈ lw_tbl := List.mem_of_getElem? (i := 1110) (by decide +kernel)
abbrev b_Md_flat : ByteArray := prog_8_method_24_code
def y_Md_flat : MethodName := ⟨"ShapeTreesModel", "flat", "(II)I"⟩
theorem w_Md_flat : Cond.code y_Md_flat b_Md_flat 3 (some .int) ∈ lw_tbl := List.mem_of_getElem? (i := 1114) (by decide +kernel)
abbrev b_Md_reckonSizes : ByteArray := prog_8_method_19_code
def y_Md_reckonSizes : MethodName := ⟨"ShapeTreesModel", "reckonSizes", "()V"⟩
theorem w_Md_reckonSizes : Cond.code y_Md_reckonSizes b_Md_reckonSizes 6 none ∈ lw_tbl := List.mem_of_getElem? (i := 1118) (by decide +kernel)
abbrev b_Md_isEmpty : ByteArray := prog_8_method_18_code
def y_Md_isEmpty : MethodName := ⟨"ShapeTreesModel", "isEmpty", "(I)Z"⟩
theorem w_Md_isEmpty : Cond.code y_Md_isEmpty b_Md_isEmpty 2 (some .boolean) ∈ lw_tbl := List.mem_of_getElem? (i := 1122) (by decide +kernel)
abbrev b_Md_lay : ByteArray := prog_8_method_23_code
def y_Md_lay : MethodName := ⟨"ShapeTreesModel", "lay", "(III)I"⟩
theorem w_Md_lay : Cond.code y_Md_lay b_Md_lay 5 (some .int) ∈ lw_tbl := List.mem_of_getElem? (i := 1127) (by decide +kernel)
abbrev b_Md_own : ByteArray := prog_8_method_22_code
def y_Md_own : MethodName := ⟨"ShapeTreesModel", "own", "(III)I"⟩
theorem w_Md_own : Cond.code y_Md_own b_Md_own 7 (some .int) ∈ lw_tbl := List.mem_of_getElem? (i := 1131) (by decide +kernel)
abbrev b_Md_carry : ByteArray := prog_8_method_20_code
def y_Md_carry : MethodName := ⟨"ShapeTreesModel", "carry", "(JJ)V"⟩
theorem w_Md_carry : Cond.code y_Md_carry b_Md_carry 10 none ∈ lw_tbl := List.mem_of_getElem? (i := 1135) (by decide +kernel)
abbrev b_Md_isNext : ByteArray := prog_8_method_21_code
def y_Md_isNext : MethodName := ⟨"ShapeTreesModel", "isNext", "(I)Z"⟩
theorem w_Md_isNext : Cond.code y_Md_isNext b_Md_isNext 3 (some .boolean) ∈ lw_tbl := List.mem_of_getElem? (i := 1140) (by decide +kernel)
abbrev b_Md_at : ByteArray := prog_8_method_25_code
def y_Md_at : MethodName := ⟨"ShapeTreesModel", "at", "(III)J"⟩
theorem w_Md_at : Cond.code y_Md_at b_Md_at 5 (some .long) ∈ lw_tbl := List.mem_of_getElem? (i := 1144) (by decide +kernel)
abbrev b_Md_box : ByteArray := prog_8_method_30_code
def y_Md_box : MethodName := ⟨"ShapeTreesModel", "box", "(III)J"⟩
theorem w_Md_box : Cond.code y_Md_box b_Md_box 6 (some .long) ∈ lw_tbl := List.mem_of_getElem? (i := 1149) (by decide +kernel)
abbrev b_Md_cellBox : ByteArray := prog_8_method_29_code
def y_Md_cellBox : MethodName := ⟨"ShapeTreesModel", "cellBox", "(II)V"⟩
theorem w_Md_cellBox : Cond.code y_Md_cellBox b_Md_cellBox 7 none ∈ lw_tbl := List.mem_of_getElem? (i := 1153) (by decide +kernel)
abbrev b_Md_boxOf : ByteArray := prog_8_method_28_code
def y_Md_boxOf : MethodName := ⟨"ShapeTreesModel", "boxOf", "(II)V"⟩
theorem w_Md_boxOf : Cond.code y_Md_boxOf b_Md_boxOf 13 none ∈ lw_tbl := List.mem_of_getElem? (i := 1157) (by decide +kernel)
abbrev b_Md_hold : ByteArray := prog_8_method_26_code
def y_Md_hold : MethodName := ⟨"ShapeTreesModel", "hold", "(JJ)V"⟩
theorem w_Md_hold : Cond.code y_Md_hold b_Md_hold 5 none ∈ lw_tbl := List.mem_of_getElem? (i := 1161) (by decide +kernel)
abbrev b_Md_piece : ByteArray := prog_8_method_27_code
def y_Md_piece : MethodName := ⟨"ShapeTreesModel", "piece", "(JJJJJJJ)V"⟩
theorem w_Md_piece : Cond.code y_Md_piece b_Md_piece 17 none ∈ lw_tbl := List.mem_of_getElem? (i := 1165) (by decide +kernel)
abbrev b_Md_find : ByteArray := prog_8_method_31_code
def y_Md_find : MethodName := ⟨"ShapeTreesModel", "find", "(IJJJJ)I"⟩
theorem w_Md_find : Cond.code y_Md_find b_Md_find 13 (some .int) ∈ lw_tbl := List.mem_of_getElem? (i := 1170) (by decide +kernel)
abbrev b_Md_equalTo : ByteArray := prog_8_method_36_code
def y_Md_equalTo : MethodName := ⟨"ShapeTreesModel", "equalTo", "(I)I"⟩
theorem w_Md_equalTo : Cond.code y_Md_equalTo b_Md_equalTo 4 (some .int) ∈ lw_tbl := List.mem_of_getElem? (i := 1174) (by decide +kernel)
abbrev b_Md_toZero : ByteArray := prog_8_method_32_code
def y_Md_toZero : MethodName := ⟨"ShapeTreesModel", "toZero", "(II)V"⟩
theorem w_Md_toZero : Cond.code y_Md_toZero b_Md_toZero 5 none ∈ lw_tbl := List.mem_of_getElem? (i := 1178) (by decide +kernel)
abbrev b_Md_isEqual : ByteArray := prog_8_method_35_code
def y_Md_isEqual : MethodName := ⟨"ShapeTreesModel", "isEqual", "(II)Z"⟩
theorem w_Md_isEqual : Cond.code y_Md_isEqual b_Md_isEqual 6 (some .boolean) ∈ lw_tbl := List.mem_of_getElem? (i := 1182) (by decide +kernel)
abbrev b_Md_isSame : ByteArray := prog_8_method_34_code
def y_Md_isSame : MethodName := ⟨"ShapeTreesModel", "isSame", "(II)Z"⟩
theorem w_Md_isSame : Cond.code y_Md_isSame b_Md_isSame 7 (some .boolean) ∈ lw_tbl := List.mem_of_getElem? (i := 1186) (by decide +kernel)
abbrev b_Md_isSameFrom : ByteArray := prog_8_method_33_code
def y_Md_isSameFrom : MethodName := ⟨"ShapeTreesModel", "isSameFrom", "(IIIII)Z"⟩
theorem w_Md_isSameFrom : Cond.code y_Md_isSameFrom b_Md_isSameFrom 9 (some .boolean) ∈ lw_tbl := List.mem_of_getElem? (i := 1190) (by decide +kernel)
