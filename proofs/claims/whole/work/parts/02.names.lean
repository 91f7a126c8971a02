def sg_R0 : String := "SoftGlass"
def sg_F0 : u_T := fun k => match k with
  | 0 => ("SoftGlass", "pieces", "[LSoftGlass$Piece;", true)
  | 1 => ("SoftGlass", "stages", "[LSoftGlass$Piece;", true)
  | 2 => ("SoftGlass", "bit", "LSoftGlass$Piece;", true)
  | 3 => ("SoftGlass", "recipes", "[LSoftGlass$Recipe;", true)
  | 4 => ("SoftGlass", "text", "LSoftGlass$Text;", true)
  | 5 => ("SoftGlass", "shop", "LSoftGlass$Shop;", true)
  | 6 => ("SoftGlass", "sheets", "[LSoftGlass$Sheet;", true)
  | 7 => ("SoftGlass", "aimed", "[I", true)
  | 8 => ("SoftGlass", "pieceCount", "I", false)
  | 9 => ("SoftGlass", "recipeCount", "I", false)
  | 10 => ("SoftGlass", "aimCount", "I", false)
  | 11 => ("SoftGlass", "traced", "I", false)
  | _ => ("SoftGlass", "latestFault", "I", false)
def sg_Y0 : Nat → FieldType := fun k => match k with
  | 0 => .array (.object "SoftGlass$Piece")
  | 1 => .array (.object "SoftGlass$Piece")
  | 2 => .object "SoftGlass$Piece"
  | 3 => .array (.object "SoftGlass$Recipe")
  | 4 => .object "SoftGlass$Text"
  | 5 => .object "SoftGlass$Shop"
  | 6 => .array (.object "SoftGlass$Sheet")
  | 7 => .array .int
  | 8 => .int
  | 9 => .int
  | 10 => .int
  | 11 => .int
  | _ => .int
theorem sg_Yok0 : ∀ k, k < 13 → parseFieldDescriptor (sg_F0 k).2.2.1 = some (sg_Y0 k) := by decide +kernel
theorem sg_Fnm0 : ∀ a, a < 13 → ∀ b, b < 13 → a ≠ b → (sg_F0 a).2.1 ≠ (sg_F0 b).2.1 := by decide +kernel
def sg_R1 : String := "SoftGlass$Piece"
def sg_F1 : u_T := fun k => match k with
  | 0 => ("SoftGlass$Piece", "onIron", "Z", true)
  | 1 => ("SoftGlass$Piece", "glass", "[I", true)
  | 2 => ("SoftGlass$Piece", "radius", "[I", true)
  | 3 => ("SoftGlass$Piece", "heat", "[I", true)
  | 4 => ("SoftGlass$Piece", "strain", "[I", true)
  | 5 => ("SoftGlass$Piece", "was", "[I", true)
  | 6 => ("SoftGlass$Piece", "rings", "I", false)
  | _ => ("SoftGlass$Piece", "off", "I", false)
def sg_Y1 : Nat → FieldType := fun k => match k with
  | 0 => .boolean
  | 1 => .array .int
  | 2 => .array .int
  | 3 => .array .int
  | 4 => .array .int
  | 5 => .array .int
  | 6 => .int
  | _ => .int
theorem sg_Yok1 : ∀ k, k < 8 → parseFieldDescriptor (sg_F1 k).2.2.1 = some (sg_Y1 k) := by decide +kernel
theorem sg_Fnm1 : ∀ a, a < 8 → ∀ b, b < 8 → a ≠ b → (sg_F1 a).2.1 ≠ (sg_F1 b).2.1 := by decide +kernel
def sg_R2 : String := "SoftGlass$Recipe"
def sg_F2 : u_T := fun k => match k with
  | 0 => ("SoftGlass$Recipe", "letters", "[I", true)
  | 1 => ("SoftGlass$Recipe", "numbers", "[I", true)
  | _ => ("SoftGlass$Recipe", "count", "I", false)
def sg_Y2 : Nat → FieldType := fun k => match k with
  | 0 => .array .int
  | 1 => .array .int
  | _ => .int
theorem sg_Yok2 : ∀ k, k < 3 → parseFieldDescriptor (sg_F2 k).2.2.1 = some (sg_Y2 k) := by decide +kernel
theorem sg_Fnm2 : ∀ a, a < 3 → ∀ b, b < 3 → a ≠ b → (sg_F2 a).2.1 ≠ (sg_F2 b).2.1 := by decide +kernel
def sg_R3 : String := "SoftGlass$Text"
def sg_F3 : u_T := fun k => match k with
  | 0 => ("SoftGlass$Text", "codes", "[I", true)
  | _ => ("SoftGlass$Text", "length", "I", false)
def sg_Y3 : Nat → FieldType := fun k => match k with
  | 0 => .array .int
  | _ => .int
theorem sg_Yok3 : ∀ k, k < 2 → parseFieldDescriptor (sg_F3 k).2.2.1 = some (sg_Y3 k) := by decide +kernel
theorem sg_Fnm3 : ∀ a, a < 2 → ∀ b, b < 2 → a ≠ b → (sg_F3 a).2.1 ≠ (sg_F3 b).2.1 := by decide +kernel
def sg_R4 : String := "SoftGlass$Shop"
def sg_F4 : u_T := fun k => match k with
  | 0 => ("SoftGlass$Shop", "mouths", "[I", true)
  | 1 => ("SoftGlass$Shop", "benches", "[I", true)
  | 2 => ("SoftGlass$Shop", "worths", "[I", true)
  | 3 => ("SoftGlass$Shop", "ranked", "[I", true)
  | _ => ("SoftGlass$Shop", "count", "I", false)
def sg_Y4 : Nat → FieldType := fun k => match k with
  | 0 => .array .int
  | 1 => .array .int
  | 2 => .array .int
  | 3 => .array .int
  | _ => .int
theorem sg_Yok4 : ∀ k, k < 5 → parseFieldDescriptor (sg_F4 k).2.2.1 = some (sg_Y4 k) := by decide +kernel
theorem sg_Fnm4 : ∀ a, a < 5 → ∀ b, b < 5 → a ≠ b → (sg_F4 a).2.1 ≠ (sg_F4 b).2.1 := by decide +kernel
def sg_R5 : String := "SoftGlass$Sheet"
def sg_F5 : u_T := fun k => match k with
  | 0 => ("SoftGlass$Sheet", "cells", "[I", true)
  | 1 => ("SoftGlass$Sheet", "lane", "I", false)
  | _ => ("SoftGlass$Sheet", "length", "I", false)
def sg_Y5 : Nat → FieldType := fun k => match k with
  | 0 => .array .int
  | 1 => .int
  | _ => .int
theorem sg_Yok5 : ∀ k, k < 3 → parseFieldDescriptor (sg_F5 k).2.2.1 = some (sg_Y5 k) := by decide +kernel
theorem sg_Fnm5 : ∀ a, a < 3 → ∀ b, b < 3 → a ≠ b → (sg_F5 a).2.1 ≠ (sg_F5 b).2.1 := by decide +kernel
def sg_R6 : String := "SoftGlassModel"
def sg_F6 : u_T := fun k => match k with
  | 0 => ("SoftGlassModel", "fault", "I", false)
  | 1 => ("SoftGlassModel", "pieces", "I", false)
  | 2 => ("SoftGlassModel", "ringMany", "[I", true)
  | 3 => ("SoftGlassModel", "ringGlass", "[I", true)
  | 4 => ("SoftGlassModel", "ringRadius", "[I", true)
  | 5 => ("SoftGlassModel", "ringHeat", "[I", true)
  | 6 => ("SoftGlassModel", "ringStrain", "[I", true)
  | 7 => ("SoftGlassModel", "offOf", "[I", true)
  | 8 => ("SoftGlassModel", "many", "I", false)
  | 9 => ("SoftGlassModel", "off", "I", false)
  | 10 => ("SoftGlassModel", "tenths", "I", false)
  | 11 => ("SoftGlassModel", "glass", "[I", true)
  | 12 => ("SoftGlassModel", "radius", "[I", true)
  | 13 => ("SoftGlassModel", "heat", "[I", true)
  | 14 => ("SoftGlassModel", "strain", "[I", true)
  | 15 => ("SoftGlassModel", "heatWas", "[I", true)
  | 16 => ("SoftGlassModel", "recipes", "I", false)
  | 17 => ("SoftGlassModel", "itemMany", "[I", true)
  | 18 => ("SoftGlassModel", "itemLetter", "[I", true)
  | 19 => ("SoftGlassModel", "itemNumber", "[I", true)
  | 20 => ("SoftGlassModel", "readMany", "I", false)
  | 21 => ("SoftGlassModel", "readLetter", "[I", true)
  | 22 => ("SoftGlassModel", "readNumber", "[I", true)
  | 23 => ("SoftGlassModel", "bitHeat", "I", false)
  | 24 => ("SoftGlassModel", "aimMany", "I", false)
  | 25 => ("SoftGlassModel", "aimRadius", "[I", true)
  | 26 => ("SoftGlassModel", "jobs", "I", false)
  | 27 => ("SoftGlassModel", "jobMouth", "[I", true)
  | 28 => ("SoftGlassModel", "jobBench", "[I", true)
  | 29 => ("SoftGlassModel", "jobWorth", "[I", true)
  | 30 => ("SoftGlassModel", "rowMany", "I", false)
  | 31 => ("SoftGlassModel", "row", "[I", true)
  | 32 => ("SoftGlassModel", "sheetSize", "[I", true)
  | 33 => ("SoftGlassModel", "sheetLane", "[I", true)
  | 34 => ("SoftGlassModel", "sheet", "[I", true)
  | 35 => ("SoftGlassModel", "hands", "[I", true)
  | _ => ("SoftGlassModel", "traceNow", "I", false)
def sg_Y6 : Nat → FieldType := fun k => match k with
  | 0 => .int
  | 1 => .int
  | 2 => .array .int
  | 3 => .array .int
  | 4 => .array .int
  | 5 => .array .int
  | 6 => .array .int
  | 7 => .array .int
  | 8 => .int
  | 9 => .int
  | 10 => .int
  | 11 => .array .int
  | 12 => .array .int
  | 13 => .array .int
  | 14 => .array .int
  | 15 => .array .int
  | 16 => .int
  | 17 => .array .int
  | 18 => .array .int
  | 19 => .array .int
  | 20 => .int
  | 21 => .array .int
  | 22 => .array .int
  | 23 => .int
  | 24 => .int
  | 25 => .array .int
  | 26 => .int
  | 27 => .array .int
  | 28 => .array .int
  | 29 => .array .int
  | 30 => .int
  | 31 => .array .int
  | 32 => .array .int
  | 33 => .array .int
  | 34 => .array .int
  | 35 => .array .int
  | _ => .int
theorem sg_Yok6 : ∀ k, k < 37 → parseFieldDescriptor (sg_F6 k).2.2.1 = some (sg_Y6 k) := by decide +kernel
theorem sg_Fnm6 : ∀ a, a < 37 → ∀ b, b < 37 → a ≠ b → (sg_F6 a).2.1 ≠ (sg_F6 b).2.1 := by decide +kernel
abbrev sg_cl : List vw_C := [(sg_R0, sg_F0, 13), (sg_R1, sg_F1, 8), (sg_R2, sg_F2, 3), (sg_R3, sg_F3, 2), (sg_R4, sg_F4, 5), (sg_R5, sg_F5, 3), (sg_R6, sg_F6, 37)]
def sg_cns : List String := ["SoftGlass", "SoftGlass$Piece", "SoftGlass$Recipe", "SoftGlass$Text", "SoftGlass$Shop", "SoftGlass$Sheet", "SoftGlassModel", "SoftGlassLaw", "java/util/Arrays"]
/-- own class, place in its pool, class of the field, its number, by the nest, place in the tables -/
def sg_flL : List (Nat × Nat × Nat × Nat × Bool × Nat) := [(1, 27, 1, 0, false, 87), (1, 9, 1, 1, false, 88), (1, 15, 1, 2, false, 89), (1, 18, 1, 3, false, 90), (0, 188, 1, 3, true, 91), (1, 21, 1, 4, false, 92), (1, 24, 1, 5, false, 93), (1, 31, 1, 6, false, 94), (0, 185, 1, 6, true, 95), (1, 35, 1, 7, false, 96), (0, 107, 1, 7, true, 97), (3, 9, 3, 0, false, 124), (3, 21, 3, 1, false, 125), (4, 9, 4, 0, false, 137), (4, 15, 4, 1, false, 138), (4, 18, 4, 2, false, 139), (4, 21, 4, 3, false, 140), (4, 24, 4, 4, false, 141), (0, 297, 4, 4, true, 142), (2, 9, 2, 0, false, 161), (0, 130, 2, 0, true, 162), (2, 15, 2, 1, false, 163), (0, 133, 2, 1, true, 164), (2, 18, 2, 2, false, 165), (0, 123, 2, 2, true, 166), (5, 9, 5, 0, false, 179), (3, 25, 5, 0, true, 180), (1, 38, 5, 0, true, 181), (0, 197, 5, 0, true, 182), (5, 19, 5, 1, false, 183), (0, 264, 5, 1, true, 184), (5, 15, 5, 2, false, 185), (0, 13, 0, 0, false, 193), (0, 17, 0, 1, false, 194), (0, 23, 0, 2, false, 195), (0, 29, 0, 3, false, 196), (0, 36, 0, 4, false, 197), (0, 43, 0, 5, false, 198), (0, 49, 0, 6, false, 199), (0, 53, 0, 7, false, 200), (0, 67, 0, 8, false, 201), (0, 113, 0, 9, false, 202), (0, 200, 0, 10, false, 203), (0, 294, 0, 11, false, 204), (0, 235, 0, 12, false, 205), (6, 87, 6, 0, false, 719), (6, 112, 6, 1, false, 720), (6, 7, 6, 2, false, 721), (6, 13, 6, 3, false, 722), (6, 16, 6, 4, false, 723), (6, 19, 6, 5, false, 724), (6, 22, 6, 6, false, 725), (6, 25, 6, 7, false, 726), (6, 137, 6, 8, false, 727), (6, 140, 6, 9, false, 728), (6, 143, 6, 10, false, 729), (6, 28, 6, 11, false, 730), (6, 31, 6, 12, false, 731), (6, 34, 6, 13, false, 732), (6, 37, 6, 14, false, 733), (6, 40, 6, 15, false, 734), (6, 209, 6, 16, false, 735), (6, 43, 6, 17, false, 736), (6, 46, 6, 18, false, 737), (6, 49, 6, 19, false, 738), (6, 219, 6, 20, false, 739), (6, 52, 6, 21, false, 740), (6, 55, 6, 22, false, 741), (6, 268, 6, 23, false, 742), (6, 292, 6, 24, false, 743), (6, 58, 6, 25, false, 744), (6, 301, 6, 26, false, 745), (6, 61, 6, 27, false, 746), (6, 64, 6, 28, false, 747), (6, 67, 6, 29, false, 748), (6, 304, 6, 30, false, 749), (6, 70, 6, 31, false, 750), (6, 73, 6, 32, false, 751), (6, 76, 6, 33, false, 752), (6, 79, 6, 34, false, 753), (6, 82, 6, 35, false, 754), (6, 337, 6, 36, false, 755)]
/-- own class, place in its pool, number of the static array, place in the tables -/
def sg_slL : List (Nat × Nat × Nat × Nat) := [(3, 40, 5, 394), (2, 28, 1, 396), (2, 38, 2, 406), (2, 41, 3, 408), (2, 55, 4, 459)]
def sg_sn : List (String × String × String) := [("", "", ""), ("SoftGlass$Recipe", "MOST_DIGITS", "[I"), ("SoftGlass$Recipe", "LEAST_NUMBER", "[I"), ("SoftGlass$Recipe", "MOST_NUMBER", "[I"), ("SoftGlass$Recipe", "KINDS", "[I"), ("SoftGlass$Text", "LETTERS", "[C")]
def sg_sv : List (List Int32) := [[], [2, 2, 2, 2, 1, 1, 1], [1, 1, 1, 1, 0, 1, 0], [99, 99, 99, 99, 9, 9, 7], [0, 1, 2, 3, 1, 3, 0], [119, 116, 98, 109, 117, 111, 106]]
/-- own class, place in its pool, the long, place in the tables -/
def sg_kL : List (Nat × Nat × Int64 × Nat) := [(0, 180, (-9223372036854775808), 537), (6, 125, 3, 838), (6, 95, 2, 850), (6, 131, 8, 858), (6, 115, 999, 862), (6, 117, 99, 863), (6, 119, 1500, 864), (6, 197, 200, 915), (6, 225, 48, 956), (6, 227, 57, 957), (6, 215, 9, 961), (6, 217, 7, 962), (6, 236, (-1), 971), (6, 245, 20, 988), (6, 247, 5, 989), (6, 249, 10, 990), (6, 251, 15, 991), (6, 253, 400, 999), (6, 255, 560, 1000), (6, 260, 40, 1001), (6, 278, 100, 1018), (6, 284, 97, 1039), (6, 286, 9999, 1040), (6, 85, (-9223372036854775808), 1044), (6, 322, 6, 1084)]
/-- name, bytes, places for locals, what it answers, its class, frames and locals that it needs below it, how many it takes -/
def sg_mt : List (MethodName × ByteArray × Nat × Option FieldType × Nat × Nat × Nat × Nat) := [
  (⟨"SoftGlass", "piece", "(IIII)I"⟩, prog_1_method_2_code, 6, some .int, 0, 3, 68, 4),
  (⟨"SoftGlass", "barOfTaking", "(IIIII)I"⟩, prog_1_method_47_code, 7, some .int, 0, 2, 42, 5),
  (⟨"SoftGlass", "isSheet", "(I)Z"⟩, prog_1_method_43_code, 1, some .boolean, 0, 1, 22, 1),
  (⟨"SoftGlass", "within", "(III)Z"⟩, prog_1_method_34_code, 3, some .boolean, 0, 0, 0, 3),
  (⟨"SoftGlass", "isLane", "(I)Z"⟩, prog_1_method_36_code, 1, some .boolean, 0, 1, 22, 1),
  (⟨"SoftGlass$Sheet", "isHeld", "()Z"⟩, prog_4_method_2_code, 1, some .boolean, 5, 0, 0, 0),
  (⟨"SoftGlass", "failed", "(I)I"⟩, prog_1_method_46_code, 2, some .int, 0, 0, 0, 1),
  (⟨"SoftGlass$Sheet", "covers", "(IJ)Z"⟩, prog_4_method_5_code, 4, some .boolean, 5, 0, 0, 2),
  (⟨"SoftGlass", "areRings", "(LSoftGlass$Sheet;II)Z"⟩, prog_1_method_44_code, 5, some .boolean, 0, 2, 44, 3),
  (⟨"SoftGlass", "isRing", "(III)Z"⟩, prog_1_method_39_code, 3, some .boolean, 0, 1, 22, 3),
  (⟨"SoftGlass$Piece", "gather", "(LSoftGlass$Sheet;II)V"⟩, prog_2_method_2_code, 6, none, 1, 1, 23, 3),
  (⟨"SoftGlass$Piece", "addRing", "(III)V"⟩, prog_2_method_4_code, 4, none, 1, 0, 0, 3),
  (⟨"SoftGlass", "ring", "(III)I"⟩, prog_1_method_3_code, 4, some .int, 0, 2, 43, 3),
  (⟨"SoftGlass", "isPiece", "(I)Z"⟩, prog_1_method_40_code, 2, some .boolean, 0, 1, 22, 1),
  (⟨"SoftGlass$Piece", "hasRing", "(I)Z"⟩, prog_2_method_6_code, 2, some .boolean, 1, 1, 22, 1),
  (⟨"SoftGlass", "isFact", "(I)Z"⟩, prog_1_method_37_code, 1, some .boolean, 0, 1, 22, 1),
  (⟨"SoftGlass$Piece", "factOfRing", "(II)I"⟩, prog_2_method_14_code, 3, some .int, 1, 1, 21, 2),
  (⟨"SoftGlass$Piece", "thick", "(I)I"⟩, prog_2_method_8_code, 2, some .int, 1, 0, 0, 1),
  (⟨"SoftGlass$Piece", "softAt", "(I)I"⟩, prog_2_method_9_code, 1, some .int, 1, 0, 0, 1),
  (⟨"SoftGlass", "ofPiece", "(II)I"⟩, prog_1_method_4_code, 3, some .int, 0, 4, 83, 2),
  (⟨"SoftGlass$Piece", "factOfAll", "(I)I"⟩, prog_2_method_15_code, 2, some .int, 1, 3, 62, 1),
  (⟨"SoftGlass$Piece", "hasFallen", "()Z"⟩, prog_2_method_7_code, 1, some .boolean, 1, 0, 0, 0),
  (⟨"SoftGlass$Piece", "greatestSoft", "()I"⟩, prog_2_method_11_code, 1, some .int, 1, 2, 42, 0),
  (⟨"SoftGlass$Piece", "softestRing", "()I"⟩, prog_2_method_10_code, 3, some .int, 1, 1, 20, 0),
  (⟨"SoftGlass$Piece", "greatestStrain", "()I"⟩, prog_2_method_12_code, 3, some .int, 1, 1, 40, 0),
  (⟨"SoftGlass$Piece", "allGlass", "()I"⟩, prog_2_method_13_code, 3, some .int, 1, 0, 0, 0),
  (⟨"SoftGlass", "tenth", "(III)I"⟩, prog_1_method_5_code, 5, some .int, 0, 5, 109, 3),
  (⟨"SoftGlass", "isKind", "(I)Z"⟩, prog_1_method_35_code, 1, some .boolean, 0, 1, 22, 1),
  (⟨"SoftGlass$Piece", "goTenths", "(II)I"⟩, prog_2_method_16_code, 4, some .int, 1, 4, 86, 2),
  (⟨"SoftGlass$Piece", "goTenth", "(I)V"⟩, prog_2_method_17_code, 3, none, 1, 3, 64, 1),
  (⟨"SoftGlass$Piece", "nextHeat", "(IZ)I"⟩, prog_2_method_18_code, 5, some .int, 1, 1, 40, 2),
  (⟨"SoftGlass$Piece", "strainIfStiffened", "(I)V"⟩, prog_2_method_19_code, 4, none, 1, 1, 40, 1),
  (⟨"SoftGlass$Piece", "swell", "()V"⟩, prog_2_method_20_code, 3, none, 1, 2, 42, 0),
  (⟨"SoftGlass", "recipe", "(IIII)I"⟩, prog_1_method_6_code, 7, some .int, 0, 4, 93, 4),
  (⟨"SoftGlass$Text", "take", "(LSoftGlass$Sheet;II)V"⟩, prog_6_method_2_code, 4, none, 3, 1, 40, 3),
  (⟨"SoftGlass$Recipe", "read", "(LSoftGlass$Text;)I"⟩, prog_3_method_2_code, 7, some .int, 2, 3, 67, 1),
  (⟨"SoftGlass$Text", "letterAt", "(I)I"⟩, prog_6_method_5_code, 4, some .int, 3, 2, 43, 1),
  (⟨"SoftGlass$Text", "codeAt", "(I)I"⟩, prog_6_method_8_code, 2, some .int, 3, 1, 22, 1),
  (⟨"SoftGlass$Text", "digitsAt", "(II)I"⟩, prog_6_method_6_code, 4, some .int, 3, 2, 43, 2),
  (⟨"SoftGlass$Text", "numberAt", "(II)I"⟩, prog_6_method_7_code, 5, some .int, 3, 2, 43, 2),
  (⟨"SoftGlass$Text", "endsAt", "(I)Z"⟩, prog_6_method_3_code, 2, some .boolean, 3, 0, 0, 1),
  (⟨"SoftGlass$Text", "partsAt", "(I)Z"⟩, prog_6_method_4_code, 2, some .boolean, 3, 2, 43, 1),
  (⟨"SoftGlass", "item", "(II)I"⟩, prog_1_method_7_code, 3, some .int, 0, 3, 65, 2),
  (⟨"SoftGlass", "isRecipe", "(I)Z"⟩, prog_1_method_41_code, 2, some .boolean, 0, 1, 22, 1),
  (⟨"SoftGlass", "isItem", "(II)Z"⟩, prog_1_method_42_code, 3, some .boolean, 0, 2, 43, 2),
  (⟨"SoftGlass", "make", "(II)I"⟩, prog_1_method_8_code, 3, some .int, 0, 6, 136, 2),
  (⟨"SoftGlass$Recipe", "doOn", "(LSoftGlass$Piece;II)I"⟩, prog_3_method_4_code, 6, some .int, 2, 5, 111, 3),
  (⟨"SoftGlass$Recipe", "doItem", "(LSoftGlass$Piece;I)I"⟩, prog_3_method_5_code, 6, some .int, 2, 4, 86, 2),
  (⟨"SoftGlass$Piece", "jack", "(I)V"⟩, prog_2_method_21_code, 2, none, 1, 2, 43, 1),
  (⟨"SoftGlass$Recipe", "goesOn", "(LSoftGlass$Piece;I)Z"⟩, prog_3_method_6_code, 3, some .boolean, 2, 3, 62, 2),
  (⟨"SoftGlass$Recipe", "kindOf", "(I)I"⟩, prog_3_method_3_code, 2, some .int, 2, 0, 0, 1),
  (⟨"SoftGlass", "look", "(IIIIII)I"⟩, prog_1_method_9_code, 8, some .int, 0, 6, 136, 6),
  (⟨"SoftGlass", "isLateness", "(I)Z"⟩, prog_1_method_38_code, 1, some .boolean, 0, 1, 22, 1),
  (⟨"SoftGlass$Piece", "becomeLike", "(LSoftGlass$Piece;)V"⟩, prog_2_method_5_code, 2, none, 1, 1, 40, 1),
  (⟨"SoftGlass", "oven", "(III)I"⟩, prog_1_method_10_code, 6, some .int, 0, 4, 82, 3),
  (⟨"SoftGlass$Piece", "mayBake", "()Z"⟩, prog_2_method_22_code, 1, some .boolean, 1, 3, 62, 0),
  (⟨"SoftGlass$Piece", "bakeHour", "(I)V"⟩, prog_2_method_23_code, 3, none, 1, 0, 0, 1),
  (⟨"SoftGlass$Piece", "leaveOven", "(I)V"⟩, prog_2_method_26_code, 3, none, 1, 1, 23, 1),
  (⟨"SoftGlass$Piece", "strainOfOven", "(I)I"⟩, prog_2_method_24_code, 1, some .int, 1, 0, 0, 1),
  (⟨"java/util/Arrays", "fill", "([II)V"⟩, prog_11_method_103_code, 4, none, 8, 0, 0, 2),
  (⟨"SoftGlass", "quickest", "(III)I"⟩, prog_1_method_11_code, 8, some .int, 0, 4, 108, 3),
  (⟨"SoftGlass", "hoursToBake", "(LSoftGlass$Piece;II)I"⟩, prog_1_method_49_code, 6, some .int, 0, 3, 83, 3),
  (⟨"SoftGlass$Piece", "strainBehindOven", "(I)I"⟩, prog_2_method_25_code, 2, some .int, 1, 2, 62, 1),
  (⟨"SoftGlass", "holds", "(IIIII)I"⟩, prog_1_method_12_code, 8, some .int, 0, 5, 109, 5),
  (⟨"SoftGlass", "barOfBit", "(IIIIZ)I"⟩, prog_1_method_48_code, 6, some .int, 0, 2, 44, 5),
  (⟨"SoftGlass$Piece", "becomeBit", "(III)V"⟩, prog_2_method_3_code, 4, none, 1, 1, 23, 3),
  (⟨"SoftGlass", "turnBoth", "(LSoftGlass$Piece;I)V"⟩, prog_1_method_50_code, 4, none, 0, 4, 86, 2),
  (⟨"SoftGlass$Piece", "holdsBit", "(LSoftGlass$Piece;)Z"⟩, prog_2_method_27_code, 4, some .boolean, 1, 1, 40, 1),
  (⟨"SoftGlass", "span", "(IIIII)I"⟩, prog_1_method_13_code, 12, some .int, 0, 5, 109, 5),
  (⟨"SoftGlass", "odds", "(IIIIIII)J"⟩, prog_1_method_14_code, 15, some .long, 0, 5, 109, 7),
  (⟨"SoftGlass", "greatestDivisor", "(II)I"⟩, prog_1_method_51_code, 3, some .int, 0, 0, 0, 2),
  (⟨"SoftGlass", "join", "(IIIII)I"⟩, prog_1_method_15_code, 8, some .int, 0, 5, 109, 5),
  (⟨"SoftGlass", "aim", "(IIII)I"⟩, prog_1_method_16_code, 7, some .int, 0, 3, 68, 4),
  (⟨"SoftGlass", "areRadii", "(LSoftGlass$Sheet;II)Z"⟩, prog_1_method_45_code, 4, some .boolean, 0, 1, 22, 3),
  (⟨"SoftGlass", "miss", "(I)I"⟩, prog_1_method_17_code, 2, some .int, 0, 2, 65, 1),
  (⟨"SoftGlass$Piece", "missOf", "([II)I"⟩, prog_2_method_28_code, 6, some .int, 1, 1, 40, 2),
  (⟨"SoftGlass", "nearest", "(III)I"⟩, prog_1_method_18_code, 9, some .int, 0, 7, 160, 3),
  (⟨"SoftGlass", "power", "(II)I"⟩, prog_1_method_52_code, 4, some .int, 0, 0, 0, 2),
  (⟨"SoftGlass", "missOfRow", "(II)I"⟩, prog_1_method_54_code, 5, some .int, 0, 6, 136, 2),
  (⟨"SoftGlass", "recipeInRow", "(III)I"⟩, prog_1_method_53_code, 5, some .int, 0, 1, 23, 3),
  (⟨"SoftGlass", "spoils", "(IIII)I"⟩, prog_1_method_19_code, 9, some .int, 0, 6, 136, 4),
  (⟨"SoftGlass", "job", "(III)I"⟩, prog_1_method_20_code, 4, some .int, 0, 2, 47, 3),
  (⟨"SoftGlass$Shop", "add", "(III)I"⟩, prog_5_method_2_code, 5, some .int, 4, 1, 23, 3),
  (⟨"SoftGlass$Shop", "goesAhead", "(II)Z"⟩, prog_5_method_3_code, 4, some .boolean, 4, 0, 0, 2),
  (⟨"SoftGlass", "order", "(II)I"⟩, prog_1_method_21_code, 3, some .int, 0, 4, 121, 2),
  (⟨"SoftGlass$Shop", "sets", "()I"⟩, prog_5_method_4_code, 1, some .int, 4, 0, 0, 0),
  (⟨"SoftGlass$Shop", "doneWith", "(III)I"⟩, prog_5_method_5_code, 8, some .int, 4, 1, 40, 3),
  (⟨"SoftGlass$Shop", "has", "(II)Z"⟩, prog_5_method_6_code, 2, some .boolean, 4, 0, 0, 2),
  (⟨"SoftGlass$Shop", "jobInRow", "(II)I"⟩, prog_5_method_7_code, 9, some .int, 4, 3, 93, 2),
  (⟨"SoftGlass$Shop", "nextInRow", "(IIII)I"⟩, prog_5_method_8_code, 7, some .int, 4, 2, 67, 4),
  (⟨"SoftGlass", "morning", "(II)I"⟩, prog_1_method_22_code, 4, some .int, 0, 3, 90, 2),
  (⟨"SoftGlass$Shop", "worthiest", "(I)I"⟩, prog_5_method_10_code, 4, some .int, 4, 2, 67, 1),
  (⟨"SoftGlass$Shop", "worthOf", "(I)I"⟩, prog_5_method_9_code, 4, some .int, 4, 1, 21, 1),
  (⟨"SoftGlass", "sheet", "(III)I"⟩, prog_1_method_23_code, 4, some .int, 0, 2, 45, 3),
  (⟨"SoftGlass$Sheet", "renew", "(II)V"⟩, prog_4_method_4_code, 3, none, 5, 1, 23, 2),
  (⟨"SoftGlass", "lose", "(I)I"⟩, prog_1_method_24_code, 3, some .int, 0, 2, 42, 1),
  (⟨"SoftGlass$Sheet", "clear", "()V"⟩, prog_4_method_3_code, 1, none, 5, 0, 0, 0),
  (⟨"SoftGlass", "put", "(III)I"⟩, prog_1_method_25_code, 4, some .int, 0, 2, 42, 3),
  (⟨"SoftGlass$Sheet", "write", "(II)V"⟩, prog_4_method_6_code, 3, none, 5, 0, 0, 2),
  (⟨"SoftGlass", "cell", "(III)J"⟩, prog_1_method_26_code, 4, some .long, 0, 3, 68, 3),
  (⟨"SoftGlass", "copy", "(IIIII)I"⟩, prog_1_method_27_code, 8, some .int, 0, 2, 42, 5),
  (⟨"SoftGlass", "tell", "(II)I"⟩, prog_1_method_28_code, 4, some .int, 0, 4, 85, 2),
  (⟨"SoftGlass", "bodyOfTurn", "(I)I"⟩, prog_1_method_57_code, 2, some .int, 0, 2, 42, 1),
  (⟨"SoftGlass", "mark", "(I)V"⟩, prog_1_method_55_code, 2, none, 0, 0, 0, 1),
  (⟨"SoftGlass", "bodyOfWait", "(I)I"⟩, prog_1_method_56_code, 2, some .int, 0, 1, 21, 1),
  (⟨"SoftGlass", "bodyOfBlow", "(I)I"⟩, prog_1_method_58_code, 3, some .int, 0, 3, 63, 1),
  (⟨"SoftGlass", "bodyOfMouth", "(I)I"⟩, prog_1_method_59_code, 2, some .int, 0, 3, 63, 1),
  (⟨"SoftGlass", "call", "(II)I"⟩, prog_1_method_29_code, 3, some .int, 0, 3, 65, 2),
  (⟨"SoftGlass", "as", "(III)I"⟩, prog_1_method_30_code, 4, some .int, 0, 3, 65, 3),
  (⟨"SoftGlass", "isOfKind", "(II)Z"⟩, prog_1_method_60_code, 2, some .boolean, 0, 0, 0, 2),
  (⟨"SoftGlass", "trace", "()I"⟩, prog_1_method_31_code, 1, some .int, 0, 0, 0, 0),
  (⟨"SoftGlass", "fault", "()I"⟩, prog_1_method_32_code, 1, some .int, 0, 0, 0, 0),
  (⟨"SoftGlass", "many", "(I)I"⟩, prog_1_method_33_code, 2, some .int, 0, 0, 0, 1),
  (⟨"SoftGlassModel", "piece", "(IIII)I"⟩, prog_8_method_17_code, 10, some .int, 6, 2, 50, 4),
  (⟨"SoftGlassModel", "noSheet", "(I)Z"⟩, prog_8_method_72_code, 1, some .boolean, 6, 1, 25, 1),
  (⟨"SoftGlassModel", "in", "(JJJ)Z"⟩, prog_8_method_2_code, 6, some .boolean, 6, 0, 0, 3),
  (⟨"SoftGlassModel", "refused", "(I)I"⟩, prog_8_method_9_code, 2, some .int, 6, 0, 0, 1),
  (⟨"SoftGlassModel", "barred", "(IIIJ)I"⟩, prog_8_method_12_code, 6, some .int, 6, 1, 25, 4),
  (⟨"SoftGlassModel", "failed", "(I)I"⟩, prog_8_method_10_code, 2, some .int, 6, 0, 0, 1),
  (⟨"SoftGlassModel", "isBeyond", "(IJI)Z"⟩, prog_8_method_78_code, 4, some .boolean, 6, 0, 0, 3),
  (⟨"SoftGlassModel", "isRing", "(III)Z"⟩, prog_8_method_16_code, 3, some .boolean, 6, 1, 25, 3),
  (⟨"SoftGlassModel", "ring", "(III)I"⟩, prog_8_method_28_code, 4, some .int, 6, 2, 46, 3),
  (⟨"SoftGlassModel", "noPiece", "(I)Z"⟩, prog_8_method_13_code, 2, some .boolean, 6, 1, 25, 1),
  (⟨"SoftGlassModel", "takeUp", "(I)V"⟩, prog_8_method_18_code, 3, none, 6, 0, 0, 1),
  (⟨"SoftGlassModel", "ofRing", "(II)I"⟩, prog_8_method_29_code, 3, some .int, 6, 1, 20, 2),
  (⟨"SoftGlassModel", "softOf", "(I)I"⟩, prog_8_method_15_code, 1, some .int, 6, 0, 0, 1),
  (⟨"SoftGlassModel", "ofPiece", "(II)I"⟩, prog_8_method_31_code, 3, some .int, 6, 4, 83, 2),
  (⟨"SoftGlassModel", "ofWhole", "(I)I"⟩, prog_8_method_30_code, 2, some .int, 6, 3, 62, 1),
  (⟨"SoftGlassModel", "greatestSoft", "()I"⟩, prog_8_method_21_code, 1, some .int, 6, 2, 42, 0),
  (⟨"SoftGlassModel", "softest", "()I"⟩, prog_8_method_20_code, 3, some .int, 6, 1, 20, 0),
  (⟨"SoftGlassModel", "greatestStrain", "()I"⟩, prog_8_method_22_code, 3, some .int, 6, 1, 21, 0),
  (⟨"SoftGlassModel", "greater", "(II)I"⟩, prog_8_method_7_code, 2, some .int, 6, 0, 0, 2),
  (⟨"SoftGlassModel", "glassInAll", "()I"⟩, prog_8_method_23_code, 3, some .int, 6, 0, 0, 0),
  (⟨"SoftGlassModel", "tenth", "(III)I"⟩, prog_8_method_32_code, 4, some .int, 6, 5, 109, 3),
  (⟨"SoftGlassModel", "isFallen", "(I)Z"⟩, prog_8_method_14_code, 2, some .boolean, 6, 0, 0, 1),
  (⟨"SoftGlassModel", "goTenths", "(II)V"⟩, prog_8_method_27_code, 4, none, 6, 4, 86, 2),
  (⟨"SoftGlassModel", "goTenth", "(I)V"⟩, prog_8_method_26_code, 5, none, 6, 3, 62, 1),
  (⟨"SoftGlassModel", "cool", "(Z)V"⟩, prog_8_method_25_code, 5, none, 6, 1, 22, 1),
  (⟨"SoftGlassModel", "warmth", "(IIZ)I"⟩, prog_8_method_24_code, 3, some .int, 6, 0, 0, 3),
  (⟨"SoftGlassModel", "held", "(III)I"⟩, prog_8_method_5_code, 3, some .int, 6, 0, 0, 3),
  (⟨"SoftGlassModel", "sizeOf", "(I)I"⟩, prog_8_method_6_code, 1, some .int, 6, 0, 0, 1),
  (⟨"SoftGlassModel", "layBack", "(I)V"⟩, prog_8_method_19_code, 3, none, 6, 0, 0, 1),
  (⟨"SoftGlassModel", "recipe", "(IIII)I"⟩, prog_8_method_39_code, 8, some .int, 6, 3, 73, 4),
  (⟨"SoftGlassModel", "readRecipe", "(II)I"⟩, prog_8_method_38_code, 8, some .int, 6, 2, 46, 2),
  (⟨"SoftGlassModel", "letterBy", "(I)I"⟩, prog_8_method_35_code, 1, some .int, 6, 0, 0, 1),
  (⟨"SoftGlassModel", "isNumber", "(II)Z"⟩, prog_8_method_37_code, 2, some .boolean, 6, 1, 25, 2),
  (⟨"SoftGlassModel", "item", "(II)I"⟩, prog_8_method_40_code, 3, some .int, 6, 2, 46, 2),
  (⟨"SoftGlassModel", "noRecipe", "(I)Z"⟩, prog_8_method_33_code, 2, some .boolean, 6, 1, 25, 1),
  (⟨"SoftGlassModel", "make", "(II)I"⟩, prog_8_method_43_code, 3, some .int, 6, 7, 156, 2),
  (⟨"SoftGlassModel", "doRecipe", "(III)V"⟩, prog_8_method_42_code, 5, none, 6, 6, 132, 3),
  (⟨"SoftGlassModel", "doItem", "(II)V"⟩, prog_8_method_41_code, 4, none, 6, 5, 109, 2),
  (⟨"SoftGlassModel", "look", "(IIIIII)I"⟩, prog_8_method_44_code, 7, some .int, 6, 7, 156, 6),
  (⟨"SoftGlassModel", "oven", "(III)I"⟩, prog_8_method_48_code, 4, some .int, 6, 2, 46, 3),
  (⟨"SoftGlassModel", "isOven", "(I)Z"⟩, prog_8_method_46_code, 1, some .boolean, 6, 1, 25, 1),
  (⟨"SoftGlassModel", "isStiff", "(I)Z"⟩, prog_8_method_45_code, 4, some .boolean, 6, 1, 21, 1),
  (⟨"SoftGlassModel", "bake", "(II)V"⟩, prog_8_method_47_code, 5, none, 6, 0, 0, 2),
  (⟨"SoftGlassModel", "quickest", "(III)I"⟩, prog_8_method_49_code, 6, some .int, 6, 2, 46, 3),
  (⟨"SoftGlassModel", "holds", "(IIIII)I"⟩, prog_8_method_53_code, 6, some .int, 6, 6, 134, 5),
  (⟨"SoftGlassModel", "holdsBehind", "(IIIII)Z"⟩, prog_8_method_52_code, 6, some .boolean, 6, 5, 109, 5),
  (⟨"SoftGlassModel", "goBoth", "(II)V"⟩, prog_8_method_51_code, 4, none, 6, 4, 86, 2),
  (⟨"SoftGlassModel", "doesHold", "()Z"⟩, prog_8_method_50_code, 2, some .boolean, 6, 1, 20, 0),
  (⟨"SoftGlassModel", "span", "(IIIII)I"⟩, prog_8_method_54_code, 11, some .int, 6, 5, 109, 5),
  (⟨"SoftGlassModel", "odds", "(IIIIIII)J"⟩, prog_8_method_55_code, 14, some .long, 6, 6, 134, 7),
  (⟨"SoftGlassModel", "lost", "()J"⟩, prog_8_method_3_code, 0, some .long, 6, 0, 0, 0),
  (⟨"SoftGlassModel", "share", "(JJI)J"⟩, prog_8_method_8_code, 11, some .long, 6, 0, 0, 3),
  (⟨"SoftGlassModel", "join", "(IIIII)I"⟩, prog_8_method_56_code, 7, some .int, 6, 6, 134, 5),
  (⟨"SoftGlassModel", "aim", "(IIII)I"⟩, prog_8_method_57_code, 8, some .int, 6, 2, 50, 4),
  (⟨"SoftGlassModel", "miss", "(I)I"⟩, prog_8_method_59_code, 2, some .int, 6, 2, 46, 1),
  (⟨"SoftGlassModel", "missed", "()I"⟩, prog_8_method_58_code, 5, some .int, 6, 1, 20, 0),
  (⟨"SoftGlassModel", "nearest", "(III)I"⟩, prog_8_method_61_code, 9, some .int, 6, 7, 156, 3),
  (⟨"SoftGlassModel", "recipeIn", "(III)I"⟩, prog_8_method_60_code, 6, some .int, 6, 0, 0, 3),
  (⟨"SoftGlassModel", "spoils", "(IIII)I"⟩, prog_8_method_62_code, 9, some .int, 6, 7, 156, 4),
  (⟨"SoftGlassModel", "job", "(III)I"⟩, prog_8_method_63_code, 4, some .int, 6, 1, 25, 3),
  (⟨"SoftGlassModel", "order", "(II)I"⟩, prog_8_method_70_code, 4, some .int, 6, 3, 68, 2),
  (⟨"SoftGlassModel", "earliest", "(I)I"⟩, prog_8_method_67_code, 5, some .int, 6, 2, 44, 1),
  (⟨"SoftGlassModel", "layRow", "(I)V"⟩, prog_8_method_65_code, 3, none, 6, 1, 21, 1),
  (⟨"SoftGlassModel", "hasBit", "(II)Z"⟩, prog_8_method_4_code, 2, some .boolean, 6, 0, 0, 2),
  (⟨"SoftGlassModel", "isAhead", "(II)Z"⟩, prog_8_method_66_code, 5, some .boolean, 6, 0, 0, 2),
  (⟨"SoftGlassModel", "doneWith", "()I"⟩, prog_8_method_64_code, 4, some .int, 6, 1, 21, 0),
  (⟨"SoftGlassModel", "toNextRow", "()V"⟩, prog_8_method_69_code, 5, none, 6, 1, 23, 0),
  (⟨"SoftGlassModel", "swap", "(II)V"⟩, prog_8_method_68_code, 4, none, 6, 0, 0, 2),
  (⟨"SoftGlassModel", "morning", "(II)I"⟩, prog_8_method_71_code, 8, some .int, 6, 3, 68, 2),
  (⟨"SoftGlassModel", "sheet", "(III)I"⟩, prog_8_method_73_code, 5, some .int, 6, 2, 45, 3),
  (⟨"SoftGlassModel", "lose", "(I)I"⟩, prog_8_method_74_code, 3, some .int, 6, 2, 45, 1),
  (⟨"SoftGlassModel", "put", "(III)I"⟩, prog_8_method_76_code, 4, some .int, 6, 2, 47, 3),
  (⟨"SoftGlassModel", "noCell", "(II)I"⟩, prog_8_method_75_code, 3, some .int, 6, 1, 25, 2),
  (⟨"SoftGlassModel", "cell", "(III)J"⟩, prog_8_method_77_code, 4, some .long, 6, 2, 47, 3),
  (⟨"SoftGlassModel", "failedLong", "(I)J"⟩, prog_8_method_11_code, 2, some .long, 6, 1, 19, 1),
  (⟨"SoftGlassModel", "copy", "(IIIII)I"⟩, prog_8_method_79_code, 7, some .int, 6, 2, 45, 5),
  (⟨"SoftGlassModel", "tell", "(II)I"⟩, prog_8_method_82_code, 5, some .int, 6, 3, 68, 2),
  (⟨"SoftGlassModel", "noItem", "(II)Z"⟩, prog_8_method_34_code, 3, some .boolean, 6, 2, 46, 2),
  (⟨"SoftGlassModel", "kindOf", "(II)I"⟩, prog_8_method_81_code, 3, some .int, 6, 1, 20, 2),
  (⟨"SoftGlassModel", "kindBy", "(I)I"⟩, prog_8_method_36_code, 1, some .int, 6, 0, 0, 1),
  (⟨"SoftGlassModel", "traced", "(I)V"⟩, prog_8_method_80_code, 2, none, 6, 0, 0, 1),
  (⟨"SoftGlassModel", "call", "(II)I"⟩, prog_8_method_83_code, 3, some .int, 6, 3, 68, 2),
  (⟨"SoftGlassModel", "as", "(III)I"⟩, prog_8_method_84_code, 5, some .int, 6, 3, 68, 3),
  (⟨"SoftGlassModel", "trace", "()I"⟩, prog_8_method_85_code, 1, some .int, 6, 0, 0, 0),
  (⟨"SoftGlassModel", "fault", "()I"⟩, prog_8_method_86_code, 1, some .int, 6, 0, 0, 0),
  (⟨"SoftGlassModel", "many", "(I)I"⟩, prog_8_method_87_code, 2, some .int, 6, 0, 0, 1),
  (⟨"SoftGlassLaw", "law", "([I)Z"⟩, code, 4, some .boolean, 7, 8, 188, 1)]
/-- place of each method's word in the tables -/
def sg_cp : List Nat := [236, 240, 243, 246, 249, 253, 257, 261, 264, 267, 271, 275, 279, 283, 287, 291, 295, 299, 302, 306, 310, 314, 318, 322, 326, 333, 337, 340, 345, 349, 356, 363, 370, 374, 378, 384, 388, 392, 401, 405, 414, 418, 422, 426, 430, 434, 438, 443, 447, 453, 458, 465, 468, 472, 476, 480, 484, 488, 491, 494, 499, 503, 507, 511, 515, 519, 523, 528, 532, 536, 540, 544, 549, 552, 556, 560, 564, 567, 571, 575, 579, 583, 587, 591, 595, 599, 603, 606, 611, 616, 620, 624, 629, 634, 638, 643, 647, 651, 655, 659, 663, 668, 673, 677, 681, 685, 689, 693, 697, 700, 704, 708, 712, 834, 837, 841, 845, 849, 854, 857, 861, 868, 872, 876, 880, 883, 887, 891, 895, 899, 903, 906, 910, 914, 919, 923, 927, 931, 934, 937, 940, 944, 948, 952, 955, 960, 966, 970, 975, 979, 983, 987, 995, 998, 1005, 1009, 1013, 1017, 1022, 1026, 1030, 1034, 1038, 1043, 1047, 1051, 1055, 1059, 1063, 1067, 1071, 1075, 1079, 1083, 1088, 1092, 1095, 1099, 1103, 1107, 1111, 1115, 1119, 1123, 1127, 1131, 1135, 1139, 1143, 1147, 1151, 1155, 1158, 1162, 1166, 1170, 1174, 1178, 1182]
/-- own class, place in its pool, kind, method; places in the tables: the link, instanceMethod or static, selects, initialized -/
def sg_mlL : List (Nat × Nat × Nat × Nat × Nat × Nat × Nat × Nat) := [(7, 13, 0, 0, 233, 234, 235, 62), (0, 59, 0, 1, 237, 239, 0, 62), (0, 238, 1, 2, 241, 242, 0, 62), (0, 96, 1, 3, 244, 245, 0, 62), (0, 241, 1, 4, 247, 248, 0, 62), (0, 251, 0, 5, 250, 251, 252, 67), (0, 244, 0, 6, 254, 256, 1, 62), (0, 257, 0, 7, 258, 259, 260, 67), (0, 63, 1, 8, 262, 263, 0, 62), (0, 298, 1, 9, 265, 266, 0, 62), (0, 71, 0, 10, 268, 269, 270, 63), (1, 43, 0, 11, 272, 273, 274, 63), (7, 18, 0, 12, 276, 277, 278, 62), (0, 75, 0, 13, 280, 282, 2, 62), (0, 79, 0, 14, 284, 285, 286, 63), (1, 53, 3, 3, 288, 245, 0, 62), (0, 82, 1, 15, 289, 290, 0, 62), (0, 85, 0, 16, 292, 293, 294, 63), (1, 71, 0, 17, 296, 297, 298, 63), (1, 57, 1, 18, 300, 301, 0, 63), (7, 23, 0, 19, 303, 304, 305, 62), (0, 89, 0, 20, 307, 308, 309, 63), (1, 74, 0, 21, 311, 312, 313, 63), (1, 78, 0, 22, 315, 316, 317, 63), (1, 61, 0, 23, 319, 320, 321, 63), (1, 81, 0, 24, 323, 324, 325, 63), (1, 65, 5, 0, 327, 328, 329, 69), (1, 84, 0, 25, 330, 331, 332, 63), (7, 28, 0, 26, 334, 335, 336, 62), (0, 93, 1, 27, 338, 339, 0, 62), (0, 100, 0, 21, 341, 312, 313, 63), (0, 104, 0, 28, 342, 343, 344, 63), (1, 87, 0, 29, 346, 347, 348, 63), (1, 47, 8, 0, 350, 351, 352, 70), (1, 91, 0, 30, 353, 355, 3, 63), (1, 101, 6, 0, 357, 358, 359, 69), (1, 95, 0, 31, 360, 362, 4, 63), (1, 104, 7, 0, 364, 365, 366, 69), (1, 98, 0, 32, 367, 369, 5, 63), (7, 32, 0, 33, 371, 372, 373, 62), (0, 110, 0, 34, 375, 376, 377, 64), (3, 15, 6, 0, 379, 358, 359, 69), (3, 30, 8, 0, 380, 351, 352, 70), (0, 116, 0, 35, 381, 382, 383, 66), (2, 22, 0, 36, 385, 386, 387, 64), (3, 36, 0, 37, 389, 391, 6, 64), (3, 44, 3, 3, 393, 245, 0, 62), (2, 31, 0, 38, 398, 399, 400, 64), (2, 35, 0, 39, 402, 403, 404, 64), (2, 44, 3, 3, 410, 245, 0, 62), (2, 48, 0, 40, 411, 412, 413, 64), (2, 52, 0, 41, 415, 416, 417, 64), (7, 36, 0, 42, 419, 420, 421, 62), (0, 120, 0, 43, 423, 425, 7, 62), (0, 126, 0, 44, 427, 429, 8, 62), (7, 40, 0, 45, 431, 432, 433, 62), (0, 136, 0, 46, 435, 436, 437, 66), (2, 58, 0, 28, 439, 343, 344, 63), (2, 63, 0, 47, 440, 442, 9, 66), (2, 67, 0, 48, 444, 445, 446, 63), (1, 107, 0, 14, 448, 285, 286, 63), (2, 71, 0, 21, 449, 312, 313, 63), (2, 75, 0, 49, 450, 452, 10, 66), (2, 85, 0, 22, 454, 316, 317, 63), (2, 79, 0, 50, 455, 456, 457, 66), (2, 82, 0, 29, 461, 347, 348, 63), (7, 44, 0, 51, 462, 463, 464, 62), (0, 140, 1, 52, 466, 467, 0, 62), (0, 143, 0, 53, 469, 470, 471, 63), (7, 49, 0, 54, 473, 474, 475, 62), (0, 147, 0, 55, 477, 478, 479, 63), (0, 150, 0, 56, 481, 482, 483, 63), (0, 154, 0, 57, 485, 486, 487, 63), (1, 111, 1, 58, 489, 490, 0, 63), (1, 114, 4, 59, 492, 493, 0, 71), (0, 157, 0, 24, 495, 324, 325, 63), (7, 53, 0, 60, 496, 497, 498, 62), (0, 161, 0, 61, 500, 502, 11, 62), (0, 301, 0, 62, 504, 505, 506, 63), (7, 57, 0, 63, 508, 509, 510, 62), (0, 164, 0, 64, 512, 514, 12, 62), (0, 168, 0, 65, 516, 517, 518, 63), (0, 172, 0, 66, 520, 522, 13, 62), (0, 304, 0, 29, 524, 347, 348, 63), (0, 176, 0, 67, 525, 526, 527, 63), (7, 62, 0, 68, 529, 530, 531, 62), (7, 66, 0, 69, 533, 534, 535, 62), (0, 182, 1, 70, 538, 539, 0, 62), (7, 71, 0, 71, 541, 542, 543, 62), (0, 191, 0, 11, 545, 273, 274, 63), (7, 75, 0, 72, 546, 547, 548, 62), (0, 194, 1, 73, 550, 551, 0, 62), (7, 79, 0, 74, 553, 554, 555, 62), (0, 203, 0, 75, 557, 558, 559, 63), (7, 84, 0, 76, 561, 562, 563, 62), (0, 207, 1, 77, 565, 566, 0, 62), (0, 210, 0, 78, 568, 570, 14, 62), (0, 213, 0, 79, 572, 574, 15, 62), (7, 88, 0, 80, 576, 577, 578, 62), (7, 92, 0, 81, 580, 581, 582, 62), (0, 217, 0, 82, 584, 585, 586, 65), (4, 28, 0, 83, 588, 590, 16, 65), (7, 96, 0, 84, 592, 593, 594, 62), (0, 220, 0, 85, 596, 597, 598, 65), (0, 223, 0, 86, 600, 601, 602, 65), (4, 32, 1, 87, 604, 605, 0, 65), (4, 35, 5, 0, 607, 328, 329, 69), (0, 226, 0, 88, 608, 609, 610, 65), (4, 41, 0, 86, 612, 601, 602, 65), (4, 45, 0, 89, 613, 615, 17, 65), (7, 100, 0, 90, 617, 618, 619, 62), (0, 229, 0, 91, 621, 622, 623, 65), (4, 49, 0, 85, 625, 597, 598, 65), (4, 53, 0, 92, 626, 627, 628, 65), (0, 232, 0, 92, 630, 627, 628, 65), (7, 104, 0, 93, 631, 632, 633, 62), (0, 247, 0, 94, 635, 636, 637, 67), (5, 22, 4, 59, 639, 493, 0, 71), (7, 108, 0, 95, 640, 641, 642, 62), (0, 254, 0, 96, 644, 645, 646, 67), (7, 112, 0, 97, 648, 649, 650, 62), (0, 261, 0, 98, 652, 653, 654, 67), (7, 116, 0, 99, 656, 657, 658, 62), (7, 121, 0, 100, 660, 661, 662, 62), (0, 267, 8, 0, 664, 351, 352, 70), (7, 125, 0, 101, 665, 666, 667, 62), (0, 273, 0, 50, 669, 456, 457, 66), (0, 276, 0, 102, 670, 672, 18, 62), (0, 288, 0, 103, 674, 676, 19, 62), (0, 285, 0, 104, 678, 680, 20, 62), (0, 279, 0, 105, 682, 684, 21, 62), (0, 282, 0, 106, 686, 688, 22, 62), (7, 129, 0, 107, 690, 691, 692, 62), (7, 133, 0, 108, 694, 695, 696, 62), (0, 291, 1, 109, 698, 699, 0, 62), (7, 137, 0, 110, 701, 702, 703, 62), (7, 142, 0, 111, 705, 706, 707, 62), (7, 146, 0, 112, 709, 710, 711, 62), (7, 17, 0, 113, 831, 832, 833, 68), (6, 121, 1, 114, 835, 836, 0, 68), (6, 97, 1, 115, 839, 840, 0, 68), (6, 101, 0, 116, 842, 844, 23, 68), (6, 127, 0, 117, 846, 848, 24, 68), (6, 105, 0, 118, 851, 853, 25, 68), (6, 108, 1, 119, 855, 856, 0, 68), (6, 133, 1, 120, 859, 860, 0, 68), (7, 22, 0, 121, 865, 866, 867, 68), (6, 179, 0, 122, 869, 871, 26, 68), (6, 182, 0, 123, 873, 875, 27, 68), (6, 185, 0, 124, 877, 879, 28, 68), (6, 146, 1, 125, 881, 882, 0, 68), (7, 27, 0, 126, 884, 885, 886, 68), (6, 194, 0, 127, 888, 890, 29, 68), (6, 172, 0, 128, 892, 894, 30, 68), (6, 149, 0, 129, 896, 898, 31, 68), (6, 188, 0, 130, 900, 902, 32, 68), (6, 153, 1, 131, 904, 905, 0, 68), (6, 191, 0, 132, 907, 909, 33, 68), (7, 31, 0, 133, 911, 912, 913, 68), (6, 199, 0, 134, 916, 918, 34, 68), (6, 202, 0, 135, 920, 922, 35, 68), (6, 175, 0, 136, 924, 926, 36, 68), (6, 168, 0, 137, 928, 930, 37, 68), (6, 157, 1, 138, 932, 933, 0, 68), (6, 161, 1, 139, 935, 936, 0, 68), (6, 165, 1, 140, 938, 939, 0, 68), (6, 206, 0, 141, 941, 943, 38, 68), (7, 35, 0, 142, 945, 946, 947, 68), (6, 233, 0, 143, 949, 951, 39, 68), (6, 222, 1, 144, 953, 954, 0, 68), (6, 229, 1, 145, 958, 959, 0, 68), (7, 39, 0, 146, 963, 964, 965, 68), (6, 212, 0, 147, 967, 969, 40, 68), (7, 43, 0, 148, 972, 973, 974, 68), (6, 241, 0, 149, 976, 978, 41, 68), (6, 238, 0, 150, 980, 982, 42, 68), (7, 48, 0, 151, 984, 985, 986, 68), (7, 52, 0, 152, 992, 993, 994, 68), (6, 257, 1, 153, 996, 997, 0, 68), (6, 262, 0, 154, 1002, 1004, 43, 68), (6, 265, 0, 155, 1006, 1008, 44, 68), (7, 56, 0, 156, 1010, 1011, 1012, 68), (7, 61, 0, 157, 1014, 1015, 1016, 68), (6, 280, 0, 158, 1019, 1021, 45, 68), (6, 271, 0, 159, 1023, 1025, 46, 68), (6, 274, 0, 160, 1027, 1029, 47, 68), (7, 65, 0, 161, 1031, 1032, 1033, 68), (7, 70, 0, 162, 1035, 1036, 1037, 68), (6, 91, 1, 163, 1041, 1042, 0, 68), (6, 288, 1, 164, 1045, 1046, 0, 68), (7, 74, 0, 165, 1048, 1049, 1050, 68), (7, 78, 0, 166, 1052, 1053, 1054, 68), (7, 83, 0, 167, 1056, 1057, 1058, 68), (6, 295, 0, 168, 1060, 1062, 48, 68), (7, 87, 0, 169, 1064, 1065, 1066, 68), (6, 298, 0, 170, 1068, 1070, 49, 68), (7, 91, 0, 171, 1072, 1073, 1074, 68), (7, 95, 0, 172, 1076, 1077, 1078, 68), (7, 99, 0, 173, 1080, 1081, 1082, 68), (6, 324, 0, 174, 1085, 1087, 50, 68), (6, 310, 0, 175, 1089, 1091, 51, 68), (6, 307, 1, 176, 1093, 1094, 0, 68), (6, 313, 0, 177, 1096, 1098, 52, 68), (6, 316, 0, 178, 1100, 1102, 53, 68), (6, 327, 0, 179, 1104, 1106, 54, 68), (6, 319, 0, 180, 1108, 1110, 55, 68), (7, 103, 0, 181, 1112, 1113, 1114, 68), (7, 107, 0, 182, 1116, 1117, 1118, 68), (7, 111, 0, 183, 1120, 1121, 1122, 68), (7, 115, 0, 184, 1124, 1125, 1126, 68), (6, 330, 0, 185, 1128, 1130, 56, 68), (7, 120, 0, 186, 1132, 1133, 1134, 68), (6, 333, 0, 187, 1136, 1138, 57, 68), (7, 124, 0, 188, 1140, 1141, 1142, 68), (7, 128, 0, 189, 1144, 1145, 1146, 68), (6, 343, 0, 190, 1148, 1150, 58, 68), (6, 346, 0, 191, 1152, 1154, 59, 68), (6, 340, 1, 192, 1156, 1157, 0, 68), (6, 349, 0, 193, 1159, 1161, 60, 68), (7, 132, 0, 194, 1163, 1164, 1165, 68), (7, 136, 0, 195, 1167, 1168, 1169, 68), (7, 141, 0, 196, 1171, 1172, 1173, 68), (7, 145, 0, 197, 1175, 1176, 1177, 68), (7, 149, 0, 198, 1179, 1180, 1181, 68)]
def sg_nwp : List Nat := [91, 95, 97, 120, 133, 142, 157, 162, 164, 166, 175, 180, 181, 182, 184, 288, 393, 410]
def sg_tagL : List Nat := [1, 8, 9, 2, 108, 108, 108, 108, 108, 10, 4, 160, 5, 107, 107, 107, 107, 11, 108, 2, 108, 108, 108, 108, 108, 2, 108, 108, 108, 108, 108, 2, 108, 108, 108, 108, 108, 2, 108, 108, 108, 108, 108, 2, 108, 108, 108, 108, 108, 2, 108, 108, 108, 108, 108, 2, 108, 108, 108, 108, 108, 2, 108, 108, 108, 108, 108, 2, 108, 108, 108, 108, 108, 2, 108, 108, 108, 108, 108, 2, 108, 108, 108, 108, 108, 2, 108, 108, 108, 108, 108, 3, 108, 108, 3, 108, 108, 3, 108, 108, 3, 108, 108, 3, 108, 108, 3, 108, 108, 3, 108, 108, 6, 160, 6, 160, 6, 160, 6, 160, 7, 108, 164, 164, 164, 164, 108, 108, 108, 108, 108, 108, 106, 148, 148, 108, 108, 108, 107, 107, 107, 107, 104, 104, 340, 160]
abbrev sg_T : Type := Nat ⊕ ((Nat × Nat × Nat × Nat) ⊕ (Nat × List (Option (Nat × Nat))))
def sg_shL : List sg_T := [.inl 0, .inr (.inr (0, [some (8, 1), some (9, 2), some (2, 3), some (10, 9), some (4, 10), some (5, 12), some (11, 17), some (108, 18), none, none, none, none, none])), .inr (.inr (1, [none, some (108, 1), some (108, 2), some (108, 3), some (108, 4), some (108, 5), none, none])), .inr (.inr (2, [some (108, 1), some (108, 2), none])), .inr (.inr (3, [some (160, 1), none])), .inr (.inr (4, [some (107, 1), some (107, 2), some (107, 3), some (107, 4), none])), .inr (.inr (5, [some (160, 1), none, none])), .inr (.inr (6, [none, none, some (108, 1), some (164, 2), some (164, 3), some (164, 4), some (164, 5), some (108, 6), none, none, none, some (108, 7), some (108, 8), some (108, 9), some (108, 10), some (108, 11), none, some (106, 12), some (148, 13), some (148, 14), none, some (108, 15), some (108, 16), none, none, some (108, 17), none, some (107, 18), some (107, 19), some (107, 20), none, some (107, 21), some (104, 22), some (104, 23), some (340, 24), some (160, 25), none])), .inr (.inl (8, 2, 18, 6)), .inr (.inl (4, 2, 65, 6)), .inr (.inl (7, 3, 82, 3)), .inr (.inl (4, 6, 95, 2))]
