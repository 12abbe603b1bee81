/-! names and tables, by program (wip/whole-tools/tables.py) out of the Statement and javap -/
def fT_O : u_T := fun k => match k with
  | 0 => ("ObjectLinker", "fed", "LObjectLinker$Tape;", true)
  | 1 => ("ObjectLinker", "output", "LObjectLinker$Tape;", false)
  | 2 => ("ObjectLinker", "draft", "LObjectLinker$Tape;", false)
  | 3 => ("ObjectLinker", "formats", "[LObjectLinker$Format;", true)
  | 4 => ("ObjectLinker", "linkage", "LObjectLinker$Linkage;", true)
  | 5 => ("ObjectLinker", "units", "[LObjectLinker$Unit;", true)
  | _ => ("ObjectLinker", "unitCount", "I", false)
def fy_O : Nat → FieldType := fun k => match k with
  | 0 => (.object "ObjectLinker$Tape")
  | 1 => (.object "ObjectLinker$Tape")
  | 2 => (.object "ObjectLinker$Tape")
  | 3 => (.array (.object "ObjectLinker$Format"))
  | 4 => (.object "ObjectLinker$Linkage")
  | 5 => (.array (.object "ObjectLinker$Unit"))
  | _ => .int
theorem fn_O : ∀ a, a < 7 → ∀ b, b < 7 → a ≠ b → (fT_O a).2.1 ≠ (fT_O b).2.1 := by decide +kernel
theorem fo_O : ∀ k, k < 7 → parseFieldDescriptor (fT_O k).2.2.1 = some (fy_O k) := by decide +kernel
def fT_T : u_T := fun k => match k with
  | 0 => ("ObjectLinker$Tape", "bytes", "[I", true)
  | 1 => ("ObjectLinker$Tape", "size", "I", false)
  | _ => ("ObjectLinker$Tape", "overrun", "Z", false)
def fy_T : Nat → FieldType := fun k => match k with
  | 0 => (.array .int)
  | 1 => .int
  | _ => .boolean
theorem fn_T : ∀ a, a < 3 → ∀ b, b < 3 → a ≠ b → (fT_T a).2.1 ≠ (fT_T b).2.1 := by decide +kernel
theorem fo_T : ∀ k, k < 3 → parseFieldDescriptor (fT_T k).2.2.1 = some (fy_T k) := by decide +kernel
def fT_FZ : u_T := fun k => match k with
  | _ => ("", "", "", false)
def fy_FZ : Nat → FieldType := fun k => match k with
  | _ => .int
theorem fn_FZ : ∀ a, a < 0 → ∀ b, b < 0 → a ≠ b → (fT_FZ a).2.1 ≠ (fT_FZ b).2.1 := by decide +kernel
theorem fo_FZ : ∀ k, k < 0 → parseFieldDescriptor (fT_FZ k).2.2.1 = some (fy_FZ k) := by decide +kernel
def fT_FO : u_T := fun k => match k with
  | _ => ("", "", "", false)
def fy_FO : Nat → FieldType := fun k => match k with
  | _ => .int
theorem fn_FO : ∀ a, a < 0 → ∀ b, b < 0 → a ≠ b → (fT_FO a).2.1 ≠ (fT_FO b).2.1 := by decide +kernel
theorem fo_FO : ∀ k, k < 0 → parseFieldDescriptor (fT_FO k).2.2.1 = some (fy_FO k) := by decide +kernel
def fT_FT : u_T := fun k => match k with
  | 0 => ("ObjectLinker$FormatTwo", "starts", "[I", true)
  | 1 => ("ObjectLinker$FormatTwo", "lengths", "[I", true)
  | 2 => ("ObjectLinker$FormatTwo", "targetOfNumber", "[I", true)
  | 3 => ("ObjectLinker$FormatTwo", "numberOfTarget", "[I", true)
  | _ => ("ObjectLinker$FormatTwo", "numberCount", "I", false)
def fy_FT : Nat → FieldType := fun k => match k with
  | 0 => (.array .int)
  | 1 => (.array .int)
  | 2 => (.array .int)
  | 3 => (.array .int)
  | _ => .int
theorem fn_FT : ∀ a, a < 5 → ∀ b, b < 5 → a ≠ b → (fT_FT a).2.1 ≠ (fT_FT b).2.1 := by decide +kernel
theorem fo_FT : ∀ k, k < 5 → parseFieldDescriptor (fT_FT k).2.2.1 = some (fy_FT k) := by decide +kernel
def fT_K : u_T := fun k => match k with
  | 0 => ("ObjectLinker$Linkage", "units", "[LObjectLinker$Unit;", true)
  | 1 => ("ObjectLinker$Linkage", "image", "[I", true)
  | 2 => ("ObjectLinker$Linkage", "imageSize", "I", false)
  | 3 => ("ObjectLinker$Linkage", "symbolCounts", "[I", true)
  | 4 => ("ObjectLinker$Linkage", "symbolValues", "[I", true)
  | 5 => ("ObjectLinker$Linkage", "classStarts", "[I", true)
  | 6 => ("ObjectLinker$Linkage", "commonStarts", "[I", true)
  | _ => ("ObjectLinker$Linkage", "position", "I", false)
def fy_K : Nat → FieldType := fun k => match k with
  | 0 => (.array (.object "ObjectLinker$Unit"))
  | 1 => (.array .int)
  | 2 => .int
  | 3 => (.array .int)
  | 4 => (.array .int)
  | 5 => (.array .int)
  | 6 => (.array .int)
  | _ => .int
theorem fn_K : ∀ a, a < 8 → ∀ b, b < 8 → a ≠ b → (fT_K a).2.1 ≠ (fT_K b).2.1 := by decide +kernel
theorem fo_K : ∀ k, k < 8 → parseFieldDescriptor (fT_K k).2.2.1 = some (fy_K k) := by decide +kernel
def fT_U : u_T := fun k => match k with
  | 0 => ("ObjectLinker$Unit", "sizes", "[I", true)
  | 1 => ("ObjectLinker$Unit", "content", "[I", true)
  | 2 => ("ObjectLinker$Unit", "symbolCount", "I", false)
  | 3 => ("ObjectLinker$Unit", "places", "[I", true)
  | 4 => ("ObjectLinker$Unit", "values", "[I", true)
  | 5 => ("ObjectLinker$Unit", "bindings", "[I", true)
  | 6 => ("ObjectLinker$Unit", "nameLengths", "[I", true)
  | 7 => ("ObjectLinker$Unit", "letters", "[I", true)
  | 8 => ("ObjectLinker$Unit", "relocationCount", "I", false)
  | 9 => ("ObjectLinker$Unit", "fieldClasses", "[I", true)
  | 10 => ("ObjectLinker$Unit", "offsets", "[I", true)
  | 11 => ("ObjectLinker$Unit", "targets", "[I", true)
  | 12 => ("ObjectLinker$Unit", "relatives", "[I", true)
  | _ => ("ObjectLinker$Unit", "addends", "[I", true)
def fy_U : Nat → FieldType := fun k => match k with
  | 0 => (.array .int)
  | 1 => (.array .int)
  | 2 => .int
  | 3 => (.array .int)
  | 4 => (.array .int)
  | 5 => (.array .int)
  | 6 => (.array .int)
  | 7 => (.array .int)
  | 8 => .int
  | 9 => (.array .int)
  | 10 => (.array .int)
  | 11 => (.array .int)
  | 12 => (.array .int)
  | _ => (.array .int)
theorem fn_U : ∀ a, a < 14 → ∀ b, b < 14 → a ≠ b → (fT_U a).2.1 ≠ (fT_U b).2.1 := by decide +kernel
theorem fo_U : ∀ k, k < 14 → parseFieldDescriptor (fT_U k).2.2.1 = some (fy_U k) := by decide +kernel
def fT_M : u_T := fun k => match k with
  | 0 => ("ObjectLinkerModel", "thrown", "I", false)
  | 1 => ("ObjectLinkerModel", "objects", "I", false)
  | 2 => ("ObjectLinkerModel", "held", "[I", true)
  | 3 => ("ObjectLinkerModel", "fed", "I", false)
  | 4 => ("ObjectLinkerModel", "in", "[I", true)
  | 5 => ("ObjectLinkerModel", "out", "I", false)
  | 6 => ("ObjectLinkerModel", "file", "[I", true)
  | 7 => ("ObjectLinkerModel", "at", "I", false)
  | 8 => ("ObjectLinkerModel", "strings", "I", false)
  | 9 => ("ObjectLinkerModel", "stringsEnd", "I", false)
  | 10 => ("ObjectLinkerModel", "good", "Z", false)
  | 11 => ("ObjectLinkerModel", "start", "[I", true)
  | 12 => ("ObjectLinkerModel", "size", "[I", true)
  | 13 => ("ObjectLinkerModel", "there", "[Z", true)
  | 14 => ("ObjectLinkerModel", "means", "[I", true)
  | 15 => ("ObjectLinkerModel", "imageSize", "I", false)
  | 16 => ("ObjectLinkerModel", "image", "[I", true)
  | 17 => ("ObjectLinkerModel", "linked", "I", false)
  | 18 => ("ObjectLinkerModel", "linkedSymbols", "[I", true)
  | 19 => ("ObjectLinkerModel", "values", "[I", true)
  | 20 => ("ObjectLinkerModel", "origin", "[I", true)
  | _ => ("ObjectLinkerModel", "commonAt", "[I", true)
def fy_M : Nat → FieldType := fun k => match k with
  | 0 => .int
  | 1 => .int
  | 2 => (.array .int)
  | 3 => .int
  | 4 => (.array .int)
  | 5 => .int
  | 6 => (.array .int)
  | 7 => .int
  | 8 => .int
  | 9 => .int
  | 10 => .boolean
  | 11 => (.array .int)
  | 12 => (.array .int)
  | 13 => (.array .boolean)
  | 14 => (.array .int)
  | 15 => .int
  | 16 => (.array .int)
  | 17 => .int
  | 18 => (.array .int)
  | 19 => (.array .int)
  | 20 => (.array .int)
  | _ => (.array .int)
theorem fn_M : ∀ a, a < 22 → ∀ b, b < 22 → a ≠ b → (fT_M a).2.1 ≠ (fT_M b).2.1 := by decide +kernel
theorem fo_M : ∀ k, k < 22 → parseFieldDescriptor (fT_M k).2.2.1 = some (fy_M k) := by decide +kernel
def am_classes : List vw_C := [("ObjectLinker", fT_O, 7), ("ObjectLinker$Tape", fT_T, 3), ("ObjectLinker$FormatZero", fT_FZ, 0), ("ObjectLinker$FormatOne", fT_FO, 0), ("ObjectLinker$FormatTwo", fT_FT, 5), ("ObjectLinker$Linkage", fT_K, 8), ("ObjectLinker$Unit", fT_U, 14), ("ObjectLinkerModel", fT_M, 22)]
def am_types : List FieldType := [.int, .byte, .boolean, .long, .object "ObjectLinker$Format", .object "ObjectLinker$Unit"]
def am_words : List Cond := lw_tbl.filter goodWord
def am_nests : List Cond := tables_1.filter am_isN
abbrev am_p : am_P := (am_classes, am_types, am_words, am_nests)
theorem am_p_tc : am_tc am_p := ⟨rfl, rfl, rfl, rfl⟩
theorem am_p_good : am_good am_p := ⟨fun w hw => good_of_word (List.mem_filter.mp hw).2, fun w hw => (List.mem_filter.mp hw).2⟩
theorem am_w_in {w : Cond} (h : w ∈ lw_tbl) (hg : goodWord w = true) : w ∈ am_words := List.mem_filter.mpr ⟨h, hg⟩
theorem fw_O : ∀ w ∈ u_ws "ObjectLinker" fT_O 7, w ∈ am_words := fun w h => by
  have e : u_ws "ObjectLinker" fT_O 7 = [232, 234, 236, 238, 240, 242, 244].filterMap (fun i => tables_1[i]?) := by decide +kernel
  have g : (u_ws "ObjectLinker" fT_O 7).all goodWord = true := by decide +kernel
  have hg := List.all_eq_true.mp g w h
  rw [e] at h
  obtain ⟨i, -, hi⟩ := List.mem_filterMap.mp h
  exact am_w_in (List.mem_append_right _ (List.mem_of_getElem? hi)) hg
theorem fw_T : ∀ w ∈ u_ws "ObjectLinker$Tape" fT_T 3, w ∈ am_words := fun w h => by
  have e : u_ws "ObjectLinker$Tape" fT_T 3 = [41, 43, 45].filterMap (fun i => tables_1[i]?) := by decide +kernel
  have g : (u_ws "ObjectLinker$Tape" fT_T 3).all goodWord = true := by decide +kernel
  have hg := List.all_eq_true.mp g w h
  rw [e] at h
  obtain ⟨i, -, hi⟩ := List.mem_filterMap.mp h
  exact am_w_in (List.mem_append_right _ (List.mem_of_getElem? hi)) hg
theorem fw_FZ : ∀ w ∈ u_ws "ObjectLinker$FormatZero" fT_FZ 0, w ∈ am_words := fun w h => by cases h
theorem fw_FO : ∀ w ∈ u_ws "ObjectLinker$FormatOne" fT_FO 0, w ∈ am_words := fun w h => by cases h
theorem fw_FT : ∀ w ∈ u_ws "ObjectLinker$FormatTwo" fT_FT 5, w ∈ am_words := fun w h => by
  have e : u_ws "ObjectLinker$FormatTwo" fT_FT 5 = [79, 81, 83, 85, 87].filterMap (fun i => tables_1[i]?) := by decide +kernel
  have g : (u_ws "ObjectLinker$FormatTwo" fT_FT 5).all goodWord = true := by decide +kernel
  have hg := List.all_eq_true.mp g w h
  rw [e] at h
  obtain ⟨i, -, hi⟩ := List.mem_filterMap.mp h
  exact am_w_in (List.mem_append_right _ (List.mem_of_getElem? hi)) hg
theorem fw_K : ∀ w ∈ u_ws "ObjectLinker$Linkage" fT_K 8, w ∈ am_words := fun w h => by
  have e : u_ws "ObjectLinker$Linkage" fT_K 8 = [208, 210, 212, 214, 216, 218, 220, 222].filterMap (fun i => tables_1[i]?) := by decide +kernel
  have g : (u_ws "ObjectLinker$Linkage" fT_K 8).all goodWord = true := by decide +kernel
  have hg := List.all_eq_true.mp g w h
  rw [e] at h
  obtain ⟨i, -, hi⟩ := List.mem_filterMap.mp h
  exact am_w_in (List.mem_append_right _ (List.mem_of_getElem? hi)) hg
theorem fw_U : ∀ w ∈ u_ws "ObjectLinker$Unit" fT_U 14, w ∈ am_words := fun w h => by
  have e : u_ws "ObjectLinker$Unit" fT_U 14 = [169, 171, 173, 175, 177, 179, 181, 183, 185, 187, 189, 191, 193, 195].filterMap (fun i => tables_1[i]?) := by decide +kernel
  have g : (u_ws "ObjectLinker$Unit" fT_U 14).all goodWord = true := by decide +kernel
  have hg := List.all_eq_true.mp g w h
  rw [e] at h
  obtain ⟨i, -, hi⟩ := List.mem_filterMap.mp h
  exact am_w_in (List.mem_append_right _ (List.mem_of_getElem? hi)) hg
theorem fw_M : ∀ w ∈ u_ws "ObjectLinkerModel" fT_M 22, w ∈ am_words := fun w h => by
  have e : u_ws "ObjectLinkerModel" fT_M 22 = [877, 879, 881, 883, 885, 887, 889, 891, 893, 895, 897, 899, 901, 903, 905, 907, 909, 911, 913, 915, 917, 919].filterMap (fun i => tables_1[i]?) := by decide +kernel
  have g : (u_ws "ObjectLinkerModel" fT_M 22).all goodWord = true := by decide +kernel
  have hg := List.all_eq_true.mp g w h
  rw [e] at h
  obtain ⟨i, -, hi⟩ := List.mem_filterMap.mp h
  exact am_w_in (List.mem_append_right _ (List.mem_of_getElem? hi)) hg
