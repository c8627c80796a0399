def R_G : String := "QueryGraph"
def R_Sc : String := "QueryGraph$Schema"
def R_Ro : String := "QueryGraph$Rows"
def R_Te : String := "QueryGraph$Texts"
def R_Pl : String := "QueryGraph$Plan"
def R_St : String := "QueryGraph$Step"
def R_Co : String := "QueryGraph$Collector"
def R_Pa : String := "QueryGraph$Places"
def R_As : String := "QueryGraph$Asking"
def R_Mo : String := "QueryGraphModel"
def R_L : String := "QueryGraphLaw"
def T_G : u_T := fun k => match k with
  | 0 => ("QueryGraph", "schema", "LQueryGraph$Schema;", true)
  | 1 => ("QueryGraph", "rows", "LQueryGraph$Rows;", true)
  | 2 => ("QueryGraph", "texts", "LQueryGraph$Texts;", true)
  | 3 => ("QueryGraph", "switches", "[I", true)
  | 4 => ("QueryGraph", "plan", "LQueryGraph$Plan;", true)
  | _ => ("QueryGraph", "asking", "LQueryGraph$Asking;", true)
def ty_G : Nat → FieldType := fun k => match k with
  | 0 => (.object "QueryGraph$Schema")
  | 1 => (.object "QueryGraph$Rows")
  | 2 => (.object "QueryGraph$Texts")
  | 3 => (.array .int)
  | 4 => (.object "QueryGraph$Plan")
  | _ => (.object "QueryGraph$Asking")
def T_Sc : u_T := fun k => match k with
  | 0 => ("QueryGraph$Schema", "fieldCounts", "[I", true)
  | 1 => ("QueryGraph$Schema", "kinds", "[I", true)
  | 2 => ("QueryGraph$Schema", "targets", "[I", true)
  | 3 => ("QueryGraph$Schema", "required", "[Z", true)
  | _ => ("QueryGraph$Schema", "typeCount", "I", false)
def ty_Sc : Nat → FieldType := fun k => match k with
  | 0 => (.array .int)
  | 1 => (.array .int)
  | 2 => (.array .int)
  | 3 => (.array .boolean)
  | _ => .int
def T_Ro : u_T := fun k => match k with
  | 0 => ("QueryGraph$Rows", "types", "[I", true)
  | 1 => ("QueryGraph$Rows", "numbers", "[I", true)
  | 2 => ("QueryGraph$Rows", "linkedCounts", "[I", true)
  | 3 => ("QueryGraph$Rows", "linked", "[I", true)
  | _ => ("QueryGraph$Rows", "rowCount", "I", false)
def ty_Ro : Nat → FieldType := fun k => match k with
  | 0 => (.array .int)
  | 1 => (.array .int)
  | 2 => (.array .int)
  | 3 => (.array .int)
  | _ => .int
def T_Te : u_T := fun k => match k with
  | 0 => ("QueryGraph$Texts", "lengths", "[I", true)
  | 1 => ("QueryGraph$Texts", "ops", "[I", true)
  | 2 => ("QueryGraph$Texts", "firsts", "[I", true)
  | _ => ("QueryGraph$Texts", "seconds", "[I", true)
def ty_Te : Nat → FieldType := fun k => match k with
  | 0 => (.array .int)
  | 1 => (.array .int)
  | 2 => (.array .int)
  | _ => (.array .int)
def T_Pl : u_T := fun k => match k with
  | 0 => ("QueryGraph$Plan", "schema", "LQueryGraph$Schema;", true)
  | 1 => ("QueryGraph$Plan", "texts", "LQueryGraph$Texts;", true)
  | 2 => ("QueryGraph$Plan", "steps", "[LQueryGraph$Step;", true)
  | 3 => ("QueryGraph$Plan", "busy", "[Z", true)
  | 4 => ("QueryGraph$Plan", "size", "I", false)
  | _ => ("QueryGraph$Plan", "wrongPlace", "I", false)
def ty_Pl : Nat → FieldType := fun k => match k with
  | 0 => (.object "QueryGraph$Schema")
  | 1 => (.object "QueryGraph$Texts")
  | 2 => (.array (.object "QueryGraph$Step"))
  | 3 => (.array .boolean)
  | 4 => .int
  | _ => .int
def T_St : u_T := fun k => match k with
  | 0 => ("QueryGraph$Step", "at", "I", true)
  | 1 => ("QueryGraph$Step", "op", "I", false)
  | 2 => ("QueryGraph$Step", "a", "I", false)
  | 3 => ("QueryGraph$Step", "b", "I", false)
  | 4 => ("QueryGraph$Step", "outer", "LQueryGraph$Step;", false)
  | 5 => ("QueryGraph$Step", "typeWithin", "I", false)
  | 6 => ("QueryGraph$Step", "close", "I", false)
  | 7 => ("QueryGraph$Step", "kind", "I", false)
  | 8 => ("QueryGraph$Step", "required", "Z", false)
  | 9 => ("QueryGraph$Step", "nextEntry", "LQueryGraph$Step;", false)
  | _ => ("QueryGraph$Step", "nextSet", "LQueryGraph$Step;", false)
def ty_St : Nat → FieldType := fun k => match k with
  | 0 => .int
  | 1 => .int
  | 2 => .int
  | 3 => .int
  | 4 => (.object "QueryGraph$Step")
  | 5 => .int
  | 6 => .int
  | 7 => .int
  | 8 => .boolean
  | 9 => (.object "QueryGraph$Step")
  | _ => (.object "QueryGraph$Step")
def T_Co : u_T := fun k => match k with
  | 0 => ("QueryGraph$Collector", "plan", "LQueryGraph$Plan;", true)
  | 1 => ("QueryGraph$Collector", "switches", "[I", true)
  | 2 => ("QueryGraph$Collector", "firstEntry", "LQueryGraph$Step;", false)
  | 3 => ("QueryGraph$Collector", "lastEntry", "LQueryGraph$Step;", false)
  | _ => ("QueryGraph$Collector", "clashed", "Z", false)
def ty_Co : Nat → FieldType := fun k => match k with
  | 0 => (.object "QueryGraph$Plan")
  | 1 => (.array .int)
  | 2 => (.object "QueryGraph$Step")
  | 3 => (.object "QueryGraph$Step")
  | _ => .boolean
def T_Pa : u_T := fun k => match k with
  | 0 => ("QueryGraph$Places", "here", "[I", true)
  | 1 => ("QueryGraph$Places", "lengths", "[I", true)
  | 2 => ("QueryGraph$Places", "parts", "[I", true)
  | 3 => ("QueryGraph$Places", "hereLength", "I", false)
  | _ => ("QueryGraph$Places", "placeCount", "I", false)
def ty_Pa : Nat → FieldType := fun k => match k with
  | 0 => (.array .int)
  | 1 => (.array .int)
  | 2 => (.array .int)
  | 3 => .int
  | _ => .int
def T_As : u_T := fun k => match k with
  | 0 => ("QueryGraph$Asking", "rows", "LQueryGraph$Rows;", true)
  | 1 => ("QueryGraph$Asking", "collector", "LQueryGraph$Collector;", true)
  | 2 => ("QueryGraph$Asking", "places", "LQueryGraph$Places;", true)
  | 3 => ("QueryGraph$Asking", "codes", "[I", true)
  | 4 => ("QueryGraph$Asking", "codeCount", "I", false)
  | 5 => ("QueryGraph$Asking", "workedOut", "I", false)
  | _ => ("QueryGraph$Asking", "stopped", "I", false)
def ty_As : Nat → FieldType := fun k => match k with
  | 0 => (.object "QueryGraph$Rows")
  | 1 => (.object "QueryGraph$Collector")
  | 2 => (.object "QueryGraph$Places")
  | 3 => (.array .int)
  | 4 => .int
  | 5 => .int
  | _ => .int
def T_Mo : u_T := fun k => match k with
  | 0 => ("QueryGraphModel", "types", "I", false)
  | 1 => ("QueryGraphModel", "fields", "[I", true)
  | 2 => ("QueryGraphModel", "field", "[I", true)
  | 3 => ("QueryGraphModel", "rows", "I", false)
  | 4 => ("QueryGraphModel", "typeOf", "[I", true)
  | 5 => ("QueryGraphModel", "many", "[I", true)
  | 6 => ("QueryGraphModel", "value", "[I", true)
  | 7 => ("QueryGraphModel", "switches", "[I", true)
  | 8 => ("QueryGraphModel", "length", "[I", true)
  | 9 => ("QueryGraphModel", "op", "[I", true)
  | 10 => ("QueryGraphModel", "first", "[I", true)
  | 11 => ("QueryGraphModel", "second", "[I", true)
  | 12 => ("QueryGraphModel", "place", "I", false)
  | 13 => ("QueryGraphModel", "open", "I", false)
  | 14 => ("QueryGraphModel", "expected", "[I", true)
  | 15 => ("QueryGraphModel", "back", "[I", true)
  | 16 => ("QueryGraphModel", "using", "[Z", true)
  | 17 => ("QueryGraphModel", "level", "I", false)
  | 18 => ("QueryGraphModel", "row", "[I", true)
  | 19 => ("QueryGraphModel", "entries", "[I", true)
  | 20 => ("QueryGraphModel", "name", "[I", true)
  | 21 => ("QueryGraphModel", "what", "[I", true)
  | 22 => ("QueryGraphModel", "which", "[I", true)
  | 23 => ("QueryGraphModel", "sets", "[I", true)
  | 24 => ("QueryGraphModel", "set", "[I", true)
  | 25 => ("QueryGraphModel", "setOf", "[I", true)
  | 26 => ("QueryGraphModel", "at", "[I", true)
  | 27 => ("QueryGraphModel", "inMany", "[I", true)
  | 28 => ("QueryGraphModel", "start", "[I", true)
  | 29 => ("QueryGraphModel", "bad", "[Z", true)
  | 30 => ("QueryGraphModel", "made", "I", false)
  | 31 => ("QueryGraphModel", "codes", "I", false)
  | 32 => ("QueryGraphModel", "code", "[I", true)
  | 33 => ("QueryGraphModel", "places", "I", false)
  | 34 => ("QueryGraphModel", "ends", "[I", true)
  | _ => ("QueryGraphModel", "part", "[I", true)
def ty_Mo : Nat → FieldType := fun k => match k with
  | 0 => .int
  | 1 => (.array .int)
  | 2 => (.array .int)
  | 3 => .int
  | 4 => (.array .int)
  | 5 => (.array .int)
  | 6 => (.array .int)
  | 7 => (.array .int)
  | 8 => (.array .int)
  | 9 => (.array .int)
  | 10 => (.array .int)
  | 11 => (.array .int)
  | 12 => .int
  | 13 => .int
  | 14 => (.array .int)
  | 15 => (.array .int)
  | 16 => (.array .boolean)
  | 17 => .int
  | 18 => (.array .int)
  | 19 => (.array .int)
  | 20 => (.array .int)
  | 21 => (.array .int)
  | 22 => (.array .int)
  | 23 => (.array .int)
  | 24 => (.array .int)
  | 25 => (.array .int)
  | 26 => (.array .int)
  | 27 => (.array .int)
  | 28 => (.array .int)
  | 29 => (.array .boolean)
  | 30 => .int
  | 31 => .int
  | 32 => (.array .int)
  | 33 => .int
  | 34 => (.array .int)
  | _ => (.array .int)
abbrev vwCl : List vw_C := [(R_G, T_G, 6), (R_Sc, T_Sc, 5), (R_Ro, T_Ro, 5), (R_Te, T_Te, 4), (R_Pl, T_Pl, 6), (R_St, T_St, 11), (R_Co, T_Co, 5), (R_Pa, T_Pa, 5), (R_As, T_As, 7), (R_Mo, T_Mo, 36)]
theorem nm_G : ∀ a, a < 6 → ∀ b, b < 6 → a ≠ b → (T_G a).2.1 ≠ (T_G b).2.1 := by decide +kernel
theorem tyok_G : ∀ k, k < 6 → parseFieldDescriptor (T_G k).2.2.1 = some (ty_G k) := by decide +kernel
set_option maxRecDepth 20000 in
theorem hin_G : ∀ w ∈ u_ws R_G T_G 6, w ∈ zG := by
  have h : u_ws R_G T_G 6 = [300, 302, 304, 306, 308, 310].filterMap (fun i => lw_tbl[i]?) := by decide +kernel
  have hg : (u_ws R_G T_G 6).all goodWord = true := by decide +kernel
  intro w hw
  have h2 := List.all_eq_true.mp hg w hw
  rw [h] at hw
  obtain ⟨i, -, hi⟩ := List.mem_filterMap.mp hw
  exact zG_in i hi h2
theorem nm_Sc : ∀ a, a < 5 → ∀ b, b < 5 → a ≠ b → (T_Sc a).2.1 ≠ (T_Sc b).2.1 := by decide +kernel
theorem tyok_Sc : ∀ k, k < 5 → parseFieldDescriptor (T_Sc k).2.2.1 = some (ty_Sc k) := by decide +kernel
set_option maxRecDepth 20000 in
theorem hin_Sc : ∀ w ∈ u_ws R_Sc T_Sc 5, w ∈ zG := by
  have h : u_ws R_Sc T_Sc 5 = [76, 78, 80, 82, 84].filterMap (fun i => lw_tbl[i]?) := by decide +kernel
  have hg : (u_ws R_Sc T_Sc 5).all goodWord = true := by decide +kernel
  intro w hw
  have h2 := List.all_eq_true.mp hg w hw
  rw [h] at hw
  obtain ⟨i, -, hi⟩ := List.mem_filterMap.mp hw
  exact zG_in i hi h2
theorem nm_Ro : ∀ a, a < 5 → ∀ b, b < 5 → a ≠ b → (T_Ro a).2.1 ≠ (T_Ro b).2.1 := by decide +kernel
theorem tyok_Ro : ∀ k, k < 5 → parseFieldDescriptor (T_Ro k).2.2.1 = some (ty_Ro k) := by decide +kernel
set_option maxRecDepth 20000 in
theorem hin_Ro : ∀ w ∈ u_ws R_Ro T_Ro 5, w ∈ zG := by
  have h : u_ws R_Ro T_Ro 5 = [101, 103, 105, 107, 109].filterMap (fun i => lw_tbl[i]?) := by decide +kernel
  have hg : (u_ws R_Ro T_Ro 5).all goodWord = true := by decide +kernel
  intro w hw
  have h2 := List.all_eq_true.mp hg w hw
  rw [h] at hw
  obtain ⟨i, -, hi⟩ := List.mem_filterMap.mp hw
  exact zG_in i hi h2
theorem nm_Te : ∀ a, a < 4 → ∀ b, b < 4 → a ≠ b → (T_Te a).2.1 ≠ (T_Te b).2.1 := by decide +kernel
theorem tyok_Te : ∀ k, k < 4 → parseFieldDescriptor (T_Te k).2.2.1 = some (ty_Te k) := by decide +kernel
set_option maxRecDepth 20000 in
theorem hin_Te : ∀ w ∈ u_ws R_Te T_Te 4, w ∈ zG := by
  have h : u_ws R_Te T_Te 4 = [127, 129, 131, 133].filterMap (fun i => lw_tbl[i]?) := by decide +kernel
  have hg : (u_ws R_Te T_Te 4).all goodWord = true := by decide +kernel
  intro w hw
  have h2 := List.all_eq_true.mp hg w hw
  rw [h] at hw
  obtain ⟨i, -, hi⟩ := List.mem_filterMap.mp hw
  exact zG_in i hi h2
theorem nm_Pl : ∀ a, a < 6 → ∀ b, b < 6 → a ≠ b → (T_Pl a).2.1 ≠ (T_Pl b).2.1 := by decide +kernel
theorem tyok_Pl : ∀ k, k < 6 → parseFieldDescriptor (T_Pl k).2.2.1 = some (ty_Pl k) := by decide +kernel
set_option maxRecDepth 20000 in
theorem hin_Pl : ∀ w ∈ u_ws R_Pl T_Pl 6, w ∈ zG := by
  have h : u_ws R_Pl T_Pl 6 = [204, 206, 208, 210, 212, 214].filterMap (fun i => lw_tbl[i]?) := by decide +kernel
  have hg : (u_ws R_Pl T_Pl 6).all goodWord = true := by decide +kernel
  intro w hw
  have h2 := List.all_eq_true.mp hg w hw
  rw [h] at hw
  obtain ⟨i, -, hi⟩ := List.mem_filterMap.mp hw
  exact zG_in i hi h2
theorem nm_St : ∀ a, a < 11 → ∀ b, b < 11 → a ≠ b → (T_St a).2.1 ≠ (T_St b).2.1 := by decide +kernel
theorem tyok_St : ∀ k, k < 11 → parseFieldDescriptor (T_St k).2.2.1 = some (ty_St k) := by decide +kernel
set_option maxRecDepth 20000 in
theorem hin_St : ∀ w ∈ u_ws R_St T_St 11, w ∈ zG := by
  have h : u_ws R_St T_St 11 = [173, 175, 177, 179, 181, 183, 185, 187, 189, 191, 193].filterMap (fun i => lw_tbl[i]?) := by decide +kernel
  have hg : (u_ws R_St T_St 11).all goodWord = true := by decide +kernel
  intro w hw
  have h2 := List.all_eq_true.mp hg w hw
  rw [h] at hw
  obtain ⟨i, -, hi⟩ := List.mem_filterMap.mp hw
  exact zG_in i hi h2
theorem nm_Co : ∀ a, a < 5 → ∀ b, b < 5 → a ≠ b → (T_Co a).2.1 ≠ (T_Co b).2.1 := by decide +kernel
theorem tyok_Co : ∀ k, k < 5 → parseFieldDescriptor (T_Co k).2.2.1 = some (ty_Co k) := by decide +kernel
set_option maxRecDepth 20000 in
theorem hin_Co : ∀ w ∈ u_ws R_Co T_Co 5, w ∈ zG := by
  have h : u_ws R_Co T_Co 5 = [231, 233, 235, 237, 239].filterMap (fun i => lw_tbl[i]?) := by decide +kernel
  have hg : (u_ws R_Co T_Co 5).all goodWord = true := by decide +kernel
  intro w hw
  have h2 := List.all_eq_true.mp hg w hw
  rw [h] at hw
  obtain ⟨i, -, hi⟩ := List.mem_filterMap.mp hw
  exact zG_in i hi h2
theorem nm_Pa : ∀ a, a < 5 → ∀ b, b < 5 → a ≠ b → (T_Pa a).2.1 ≠ (T_Pa b).2.1 := by decide +kernel
theorem tyok_Pa : ∀ k, k < 5 → parseFieldDescriptor (T_Pa k).2.2.1 = some (ty_Pa k) := by decide +kernel
set_option maxRecDepth 20000 in
theorem hin_Pa : ∀ w ∈ u_ws R_Pa T_Pa 5, w ∈ zG := by
  have h : u_ws R_Pa T_Pa 5 = [258, 260, 262, 264, 266].filterMap (fun i => lw_tbl[i]?) := by decide +kernel
  have hg : (u_ws R_Pa T_Pa 5).all goodWord = true := by decide +kernel
  intro w hw
  have h2 := List.all_eq_true.mp hg w hw
  rw [h] at hw
  obtain ⟨i, -, hi⟩ := List.mem_filterMap.mp hw
  exact zG_in i hi h2
theorem nm_As : ∀ a, a < 7 → ∀ b, b < 7 → a ≠ b → (T_As a).2.1 ≠ (T_As b).2.1 := by decide +kernel
theorem tyok_As : ∀ k, k < 7 → parseFieldDescriptor (T_As k).2.2.1 = some (ty_As k) := by decide +kernel
set_option maxRecDepth 20000 in
theorem hin_As : ∀ w ∈ u_ws R_As T_As 7, w ∈ zG := by
  have h : u_ws R_As T_As 7 = [279, 281, 283, 285, 287, 289, 291].filterMap (fun i => lw_tbl[i]?) := by decide +kernel
  have hg : (u_ws R_As T_As 7).all goodWord = true := by decide +kernel
  intro w hw
  have h2 := List.all_eq_true.mp hg w hw
  rw [h] at hw
  obtain ⟨i, -, hi⟩ := List.mem_filterMap.mp hw
  exact zG_in i hi h2
theorem nm_Mo : ∀ a, a < 36 → ∀ b, b < 36 → a ≠ b → (T_Mo a).2.1 ≠ (T_Mo b).2.1 := by decide +kernel
theorem tyok_Mo : ∀ k, k < 36 → parseFieldDescriptor (T_Mo k).2.2.1 = some (ty_Mo k) := by decide +kernel
set_option maxRecDepth 20000 in
theorem hin_Mo : ∀ w ∈ u_ws R_Mo T_Mo 36, w ∈ zG := by
  have h : u_ws R_Mo T_Mo 36 = [640, 642, 644, 646, 648, 650, 652, 654, 656, 658, 660, 662, 664, 666, 668, 670, 672, 674, 676, 678, 680, 682, 684, 686, 688, 690, 692, 694, 696, 698, 700, 702, 704, 706, 708, 710].filterMap (fun i => lw_tbl[i]?) := by decide +kernel
  have hg : (u_ws R_Mo T_Mo 36).all goodWord = true := by decide +kernel
  intro w hw
  have h2 := List.all_eq_true.mp hg w hw
  rw [h] at hw
  obtain ⟨i, -, hi⟩ := List.mem_filterMap.mp hw
  exact zG_in i hi h2
def fx_elem : String := "QueryGraph$Step"
def fx_isrL : List (List Bool) := [[true, true, true, true, true, true], [true, true, true, true, false], [true, true, true, true, false], [true, true, true, true], [true, true, true, true, false, false], [false, false, false, false, true, false, false, false, false, true, true], [true, true, true, true, false], [true, true, true, false, false], [true, true, true, true, false, false, false], [false, true, true, false, true, true, true, true, true, true, true, true, false, false, true, true, true, false, true, true, true, true, true, true, true, true, true, true, true, true, false, false, true, false, true, true]]
def fx_isr (ci k : Nat) : Bool := (fx_isrL.getD ci []).getD k false
def fx_lyL : List (Nat × Nat) := [(0, 6), (1, 5), (100, 5), (100, 20), (100, 20), (101, 20), (2, 5), (100, 12), (100, 48), (100, 48), (100, 192), (3, 4), (100, 4), (100, 64), (100, 64), (100, 64), (100, 4), (4, 6), (102, 61), (101, 4), (5, 11), (5, 11), (5, 11), (5, 11), (5, 11), (5, 11), (5, 11), (5, 11), (5, 11), (5, 11), (5, 11), (5, 11), (5, 11), (5, 11), (5, 11), (5, 11), (5, 11), (5, 11), (5, 11), (5, 11), (5, 11), (5, 11), (5, 11), (5, 11), (5, 11), (5, 11), (5, 11), (5, 11), (5, 11), (5, 11), (5, 11), (5, 11), (5, 11), (5, 11), (5, 11), (5, 11), (5, 11), (5, 11), (5, 11), (5, 11), (5, 11), (5, 11), (5, 11), (5, 11), (5, 11), (5, 11), (5, 11), (5, 11), (5, 11), (5, 11), (5, 11), (5, 11), (5, 11), (5, 11), (5, 11), (5, 11), (5, 11), (5, 11), (5, 11), (5, 11), (5, 11), (8, 7), (6, 5), (7, 5), (100, 26), (100, 60), (100, 1560), (100, 120), (9, 36), (100, 5), (100, 60), (100, 13), (100, 52), (100, 208), (100, 4), (100, 4), (100, 64), (100, 64), (100, 64), (100, 70), (100, 70), (101, 4), (100, 40), (100, 40), (100, 400), (100, 400), (100, 400), (100, 40), (100, 2600), (100, 2600), (100, 40), (100, 40), (100, 40), (101, 40), (100, 130), (100, 130), (100, 6000)]
def fx_ly (c : Int) : Nat × Nat := if c < 0 then (99, 0) else if 20 ≤ c ∧ c < 81 then (5, 11) else fx_lyL.getD c.toNat (99, 0)
/-- which slots stay as they are once the system stands: final fields; the array of the steps -/
def fx_kkL : List (List Bool) := [[true, true, true, true, true, true], [true, true, true, true, false], [true, true, true, true, false], [true, true, true, true], [true, true, true, true, false, false], [true, false, false, false, false, false, false, false, false, false, false], [true, true, false, false, false], [true, true, true, false, false], [true, true, true, true, false, false, false], [false, true, true, false, true, true, true, true, true, true, true, true, false, false, true, true, true, false, true, true, true, true, true, true, true, true, true, true, true, true, false, false, true, false, true, true]]
def fx_kk (ci : Nat) (k : Int) : Bool := if k < 0 then false else if ci = 102 then decide (k < 61) else (fx_kkL.getD ci []).getD k.toNat false
def fx_cvL : List (List Int) := [[1, 6, 11, 16, 17, 81], [2, 3, 4, 5, 0], [], [], [], [], [7, 8, 9, 10, 0], [], [], [], [], [12, 13, 14, 15], [], [], [], [], [], [1, 11, 18, 19, 0, 0], [], [], [], [], [], [], [], [], [], [], [], [], [], [], [], [], [], [], [], [], [], [], [], [], [], [], [], [], [], [], [], [], [], [], [], [], [], [], [], [], [], [], [], [], [], [], [], [], [], [], [], [], [], [], [], [], [], [], [], [], [], [], [], [6, 82, 83, 87, 0, 0, 0], [17, 16, 0, 0, 0], [84, 85, 86, 0, 0], [], [], [], [], [0, 89, 90, 0, 91, 92, 93, 94, 95, 96, 97, 98, 0, 0, 99, 100, 101, 0, 102, 103, 104, 105, 106, 107, 108, 109, 110, 111, 112, 113, 0, 0, 114, 0, 115, 116], [], [], [], [], [], [], [], [], [], [], [], [], [], [], [], [], [], [], [], [], [], [], [], [], [], [], [], []]
def fx_cv (c k : Int) : Int := if c = 18 then 20 + k else if 20 ≤ c ∧ c < 81 then c - 20 else (fx_cvL.getD c.toNat []).getD k.toNat 0
theorem ly_0 : fx_ly 0 = (0, 6) := by decide +kernel
theorem ly_1 : fx_ly 1 = (1, 5) := by decide +kernel
theorem ly_2 : fx_ly 2 = (100, 5) := by decide +kernel
theorem ly_3 : fx_ly 3 = (100, 20) := by decide +kernel
theorem ly_4 : fx_ly 4 = (100, 20) := by decide +kernel
theorem ly_5 : fx_ly 5 = (101, 20) := by decide +kernel
theorem ly_6 : fx_ly 6 = (2, 5) := by decide +kernel
theorem ly_7 : fx_ly 7 = (100, 12) := by decide +kernel
theorem ly_8 : fx_ly 8 = (100, 48) := by decide +kernel
theorem ly_9 : fx_ly 9 = (100, 48) := by decide +kernel
theorem ly_10 : fx_ly 10 = (100, 192) := by decide +kernel
theorem ly_11 : fx_ly 11 = (3, 4) := by decide +kernel
theorem ly_12 : fx_ly 12 = (100, 4) := by decide +kernel
theorem ly_13 : fx_ly 13 = (100, 64) := by decide +kernel
theorem ly_14 : fx_ly 14 = (100, 64) := by decide +kernel
theorem ly_15 : fx_ly 15 = (100, 64) := by decide +kernel
theorem ly_16 : fx_ly 16 = (100, 4) := by decide +kernel
theorem ly_17 : fx_ly 17 = (4, 6) := by decide +kernel
theorem ly_18 : fx_ly 18 = (102, 61) := by decide +kernel
theorem ly_19 : fx_ly 19 = (101, 4) := by decide +kernel
theorem ly_81 : fx_ly 81 = (8, 7) := by decide +kernel
theorem ly_82 : fx_ly 82 = (6, 5) := by decide +kernel
theorem ly_83 : fx_ly 83 = (7, 5) := by decide +kernel
theorem ly_84 : fx_ly 84 = (100, 26) := by decide +kernel
theorem ly_85 : fx_ly 85 = (100, 60) := by decide +kernel
theorem ly_86 : fx_ly 86 = (100, 1560) := by decide +kernel
theorem ly_87 : fx_ly 87 = (100, 120) := by decide +kernel
theorem ly_88 : fx_ly 88 = (9, 36) := by decide +kernel
theorem ly_89 : fx_ly 89 = (100, 5) := by decide +kernel
theorem ly_90 : fx_ly 90 = (100, 60) := by decide +kernel
theorem ly_91 : fx_ly 91 = (100, 13) := by decide +kernel
theorem ly_92 : fx_ly 92 = (100, 52) := by decide +kernel
theorem ly_93 : fx_ly 93 = (100, 208) := by decide +kernel
theorem ly_94 : fx_ly 94 = (100, 4) := by decide +kernel
theorem ly_95 : fx_ly 95 = (100, 4) := by decide +kernel
theorem ly_96 : fx_ly 96 = (100, 64) := by decide +kernel
theorem ly_97 : fx_ly 97 = (100, 64) := by decide +kernel
theorem ly_98 : fx_ly 98 = (100, 64) := by decide +kernel
theorem ly_99 : fx_ly 99 = (100, 70) := by decide +kernel
theorem ly_100 : fx_ly 100 = (100, 70) := by decide +kernel
theorem ly_101 : fx_ly 101 = (101, 4) := by decide +kernel
theorem ly_102 : fx_ly 102 = (100, 40) := by decide +kernel
theorem ly_103 : fx_ly 103 = (100, 40) := by decide +kernel
theorem ly_104 : fx_ly 104 = (100, 400) := by decide +kernel
theorem ly_105 : fx_ly 105 = (100, 400) := by decide +kernel
theorem ly_106 : fx_ly 106 = (100, 400) := by decide +kernel
theorem ly_107 : fx_ly 107 = (100, 40) := by decide +kernel
theorem ly_108 : fx_ly 108 = (100, 2600) := by decide +kernel
theorem ly_109 : fx_ly 109 = (100, 2600) := by decide +kernel
theorem ly_110 : fx_ly 110 = (100, 40) := by decide +kernel
theorem ly_111 : fx_ly 111 = (100, 40) := by decide +kernel
theorem ly_112 : fx_ly 112 = (100, 40) := by decide +kernel
theorem ly_113 : fx_ly 113 = (101, 40) := by decide +kernel
theorem ly_114 : fx_ly 114 = (100, 130) := by decide +kernel
theorem ly_115 : fx_ly 115 = (100, 130) := by decide +kernel
theorem ly_116 : fx_ly 116 = (100, 6000) := by decide +kernel
theorem ly_S {c : Int} (h : 20 ≤ c ∧ c < 81) : fx_ly c = (5, 11) := by unfold fx_ly; rw [if_neg (by omega), if_pos h]
theorem cv_0_0 : fx_cv 0 0 = 1 := by decide +kernel
theorem cv_0_1 : fx_cv 0 1 = 6 := by decide +kernel
theorem cv_0_2 : fx_cv 0 2 = 11 := by decide +kernel
theorem cv_0_3 : fx_cv 0 3 = 16 := by decide +kernel
theorem cv_0_4 : fx_cv 0 4 = 17 := by decide +kernel
theorem cv_0_5 : fx_cv 0 5 = 81 := by decide +kernel
theorem cv_1_0 : fx_cv 1 0 = 2 := by decide +kernel
theorem cv_1_1 : fx_cv 1 1 = 3 := by decide +kernel
theorem cv_1_2 : fx_cv 1 2 = 4 := by decide +kernel
theorem cv_1_3 : fx_cv 1 3 = 5 := by decide +kernel
theorem cv_6_0 : fx_cv 6 0 = 7 := by decide +kernel
theorem cv_6_1 : fx_cv 6 1 = 8 := by decide +kernel
theorem cv_6_2 : fx_cv 6 2 = 9 := by decide +kernel
theorem cv_6_3 : fx_cv 6 3 = 10 := by decide +kernel
theorem cv_11_0 : fx_cv 11 0 = 12 := by decide +kernel
theorem cv_11_1 : fx_cv 11 1 = 13 := by decide +kernel
theorem cv_11_2 : fx_cv 11 2 = 14 := by decide +kernel
theorem cv_11_3 : fx_cv 11 3 = 15 := by decide +kernel
theorem cv_17_0 : fx_cv 17 0 = 1 := by decide +kernel
theorem cv_17_1 : fx_cv 17 1 = 11 := by decide +kernel
theorem cv_17_2 : fx_cv 17 2 = 18 := by decide +kernel
theorem cv_17_3 : fx_cv 17 3 = 19 := by decide +kernel
theorem cv_81_0 : fx_cv 81 0 = 6 := by decide +kernel
theorem cv_81_1 : fx_cv 81 1 = 82 := by decide +kernel
theorem cv_81_2 : fx_cv 81 2 = 83 := by decide +kernel
theorem cv_81_3 : fx_cv 81 3 = 87 := by decide +kernel
theorem cv_82_0 : fx_cv 82 0 = 17 := by decide +kernel
theorem cv_82_1 : fx_cv 82 1 = 16 := by decide +kernel
theorem cv_83_0 : fx_cv 83 0 = 84 := by decide +kernel
theorem cv_83_1 : fx_cv 83 1 = 85 := by decide +kernel
theorem cv_83_2 : fx_cv 83 2 = 86 := by decide +kernel
theorem cv_88_1 : fx_cv 88 1 = 89 := by decide +kernel
theorem cv_88_2 : fx_cv 88 2 = 90 := by decide +kernel
theorem cv_88_4 : fx_cv 88 4 = 91 := by decide +kernel
theorem cv_88_5 : fx_cv 88 5 = 92 := by decide +kernel
theorem cv_88_6 : fx_cv 88 6 = 93 := by decide +kernel
theorem cv_88_7 : fx_cv 88 7 = 94 := by decide +kernel
theorem cv_88_8 : fx_cv 88 8 = 95 := by decide +kernel
theorem cv_88_9 : fx_cv 88 9 = 96 := by decide +kernel
theorem cv_88_10 : fx_cv 88 10 = 97 := by decide +kernel
theorem cv_88_11 : fx_cv 88 11 = 98 := by decide +kernel
theorem cv_88_14 : fx_cv 88 14 = 99 := by decide +kernel
theorem cv_88_15 : fx_cv 88 15 = 100 := by decide +kernel
theorem cv_88_16 : fx_cv 88 16 = 101 := by decide +kernel
theorem cv_88_18 : fx_cv 88 18 = 102 := by decide +kernel
theorem cv_88_19 : fx_cv 88 19 = 103 := by decide +kernel
theorem cv_88_20 : fx_cv 88 20 = 104 := by decide +kernel
theorem cv_88_21 : fx_cv 88 21 = 105 := by decide +kernel
theorem cv_88_22 : fx_cv 88 22 = 106 := by decide +kernel
theorem cv_88_23 : fx_cv 88 23 = 107 := by decide +kernel
theorem cv_88_24 : fx_cv 88 24 = 108 := by decide +kernel
theorem cv_88_25 : fx_cv 88 25 = 109 := by decide +kernel
theorem cv_88_26 : fx_cv 88 26 = 110 := by decide +kernel
theorem cv_88_27 : fx_cv 88 27 = 111 := by decide +kernel
theorem cv_88_28 : fx_cv 88 28 = 112 := by decide +kernel
theorem cv_88_29 : fx_cv 88 29 = 113 := by decide +kernel
theorem cv_88_32 : fx_cv 88 32 = 114 := by decide +kernel
theorem cv_88_34 : fx_cv 88 34 = 115 := by decide +kernel
theorem cv_88_35 : fx_cv 88 35 = 116 := by decide +kernel
theorem cv_S {c k : Int} (h : 20 ≤ c ∧ c < 81) : fx_cv c k = c - 20 := by unfold fx_cv; rw [if_neg (by omega), if_pos h]
theorem cv_st (k : Int) : fx_cv 18 k = 20 + k := by unfold fx_cv; rw [if_pos rfl]
abbrev MD : Type := MethodName × ByteArray × Nat × Option FieldType
abbrev c_G_init : ByteArray := prog_1_method_1_code
abbrev m_G_init : MD := (⟨R_G, "<init>", "()V"⟩, c_G_init, 1, none)
abbrev c_G_type : ByteArray := prog_1_method_2_code
abbrev m_G_type : MD := (⟨R_G, "type", "()I"⟩, c_G_type, 1, (some .int))
abbrev c_G_field : ByteArray := prog_1_method_3_code
abbrev m_G_field : MD := (⟨R_G, "field", "(IIIZ)I"⟩, c_G_field, 5, (some .int))
abbrev c_G_row : ByteArray := prog_1_method_4_code
abbrev m_G_row : MD := (⟨R_G, "row", "(I)I"⟩, c_G_row, 2, (some .int))
abbrev c_G_put : ByteArray := prog_1_method_5_code
abbrev m_G_put : MD := (⟨R_G, "put", "(III)I"⟩, c_G_put, 4, (some .int))
abbrev c_G_link : ByteArray := prog_1_method_6_code
abbrev m_G_link : MD := (⟨R_G, "link", "(III)I"⟩, c_G_link, 6, (some .int))
abbrev c_G_clear : ByteArray := prog_1_method_7_code
abbrev m_G_clear : MD := (⟨R_G, "clear", "(II)I"⟩, c_G_clear, 3, (some .int))
abbrev c_G_set : ByteArray := prog_1_method_8_code
abbrev m_G_set : MD := (⟨R_G, "set", "(II)I"⟩, c_G_set, 3, (some .int))
abbrev c_G_token : ByteArray := prog_1_method_9_code
abbrev m_G_token : MD := (⟨R_G, "token", "(IIII)I"⟩, c_G_token, 5, (some .int))
abbrev c_G_wipe : ByteArray := prog_1_method_10_code
abbrev m_G_wipe : MD := (⟨R_G, "wipe", "(I)I"⟩, c_G_wipe, 3, (some .int))
abbrev c_G_check : ByteArray := prog_1_method_11_code
abbrev m_G_check : MD := (⟨R_G, "check", "(I)I"⟩, c_G_check, 2, (some .int))
abbrev c_G_place : ByteArray := prog_1_method_12_code
abbrev m_G_place : MD := (⟨R_G, "place", "()I"⟩, c_G_place, 1, (some .int))
abbrev c_G_ask : ByteArray := prog_1_method_13_code
abbrev m_G_ask : MD := (⟨R_G, "ask", "(I)I"⟩, c_G_ask, 2, (some .int))
abbrev c_G_code : ByteArray := prog_1_method_14_code
abbrev m_G_code : MD := (⟨R_G, "code", "(I)I"⟩, c_G_code, 2, (some .int))
abbrev c_G_missing : ByteArray := prog_1_method_15_code
abbrev m_G_missing : MD := (⟨R_G, "missing", "(II)I"⟩, c_G_missing, 3, (some .int))
abbrev c_G_count : ByteArray := prog_1_method_16_code
abbrev m_G_count : MD := (⟨R_G, "count", "(I)I"⟩, c_G_count, 2, (some .int))
abbrev c_G_isWithin : ByteArray := prog_1_method_17_code
abbrev m_G_isWithin : MD := (⟨R_G, "isWithin", "(III)Z"⟩, c_G_isWithin, 3, (some .boolean))
abbrev c_G_isTokenInRange : ByteArray := prog_1_method_18_code
abbrev m_G_isTokenInRange : MD := (⟨R_G, "isTokenInRange", "(III)Z"⟩, c_G_isTokenInRange, 3, (some .boolean))
abbrev c_G_hasSetBehind : ByteArray := prog_1_method_19_code
abbrev m_G_hasSetBehind : MD := (⟨R_G, "hasSetBehind", "(I)Z"⟩, c_G_hasSetBehind, 1, (some .boolean))
abbrev c_G_kindIn : ByteArray := prog_1_method_20_code
abbrev m_G_kindIn : MD := (⟨R_G, "kindIn", "(II)I"⟩, c_G_kindIn, 3, (some .int))
abbrev c_Mo_init : ByteArray := prog_11_method_1_code
abbrev m_Mo_init : MD := (⟨R_Mo, "<init>", "()V"⟩, c_Mo_init, 1, none)
abbrev c_Mo_in : ByteArray := prog_11_method_2_code
abbrev m_Mo_in : MD := (⟨R_Mo, "in", "(III)Z"⟩, c_Mo_in, 3, (some .boolean))
abbrev c_Mo_type : ByteArray := prog_11_method_3_code
abbrev m_Mo_type : MD := (⟨R_Mo, "type", "()I"⟩, c_Mo_type, 1, (some .int))
abbrev c_Mo_field : ByteArray := prog_11_method_4_code
abbrev m_Mo_field : MD := (⟨R_Mo, "field", "(IIIZ)I"⟩, c_Mo_field, 6, (some .int))
abbrev c_Mo_row : ByteArray := prog_11_method_5_code
abbrev m_Mo_row : MD := (⟨R_Mo, "row", "(I)I"⟩, c_Mo_row, 2, (some .int))
abbrev c_Mo_of : ByteArray := prog_11_method_6_code
abbrev m_Mo_of : MD := (⟨R_Mo, "of", "(III)I"⟩, c_Mo_of, 4, (some .int))
abbrev c_Mo_badField : ByteArray := prog_11_method_7_code
abbrev m_Mo_badField : MD := (⟨R_Mo, "badField", "(II)Z"⟩, c_Mo_badField, 3, (some .boolean))
abbrev c_Mo_put : ByteArray := prog_11_method_8_code
abbrev m_Mo_put : MD := (⟨R_Mo, "put", "(III)I"⟩, c_Mo_put, 4, (some .int))
abbrev c_Mo_link : ByteArray := prog_11_method_9_code
abbrev m_Mo_link : MD := (⟨R_Mo, "link", "(III)I"⟩, c_Mo_link, 7, (some .int))
abbrev c_Mo_clear : ByteArray := prog_11_method_10_code
abbrev m_Mo_clear : MD := (⟨R_Mo, "clear", "(II)I"⟩, c_Mo_clear, 3, (some .int))
abbrev c_Mo_set : ByteArray := prog_11_method_11_code
abbrev m_Mo_set : MD := (⟨R_Mo, "set", "(II)I"⟩, c_Mo_set, 3, (some .int))
abbrev c_Mo_fits : ByteArray := prog_11_method_12_code
abbrev m_Mo_fits : MD := (⟨R_Mo, "fits", "(III)Z"⟩, c_Mo_fits, 3, (some .boolean))
abbrev c_Mo_token : ByteArray := prog_11_method_13_code
abbrev m_Mo_token : MD := (⟨R_Mo, "token", "(IIII)I"⟩, c_Mo_token, 6, (some .int))
abbrev c_Mo_wipe : ByteArray := prog_11_method_14_code
abbrev m_Mo_wipe : MD := (⟨R_Mo, "wipe", "(I)I"⟩, c_Mo_wipe, 3, (some .int))
abbrev c_Mo_opens : ByteArray := prog_11_method_15_code
abbrev m_Mo_opens : MD := (⟨R_Mo, "opens", "(I)Z"⟩, c_Mo_opens, 2, (some .boolean))
abbrev c_Mo_good : ByteArray := prog_11_method_16_code
abbrev m_Mo_good : MD := (⟨R_Mo, "good", "(I)Z"⟩, c_Mo_good, 4, (some .boolean))
abbrev c_Mo_behind : ByteArray := prog_11_method_17_code
abbrev m_Mo_behind : MD := (⟨R_Mo, "behind", "(I)I"⟩, c_Mo_behind, 4, (some .int))
abbrev c_Mo_fieldRight : ByteArray := prog_11_method_18_code
abbrev m_Mo_fieldRight : MD := (⟨R_Mo, "fieldRight", "(II)Z"⟩, c_Mo_fieldRight, 4, (some .boolean))
abbrev c_Mo_right : ByteArray := prog_11_method_19_code
abbrev m_Mo_right : MD := (⟨R_Mo, "right", "(II)Z"⟩, c_Mo_right, 3, (some .boolean))
abbrev c_Mo_enter : ByteArray := prog_11_method_20_code
abbrev m_Mo_enter : MD := (⟨R_Mo, "enter", "(II)V"⟩, c_Mo_enter, 3, none)
abbrev c_Mo_through : ByteArray := prog_11_method_21_code
abbrev m_Mo_through : MD := (⟨R_Mo, "through", "(I)I"⟩, c_Mo_through, 3, (some .int))
abbrev c_Mo_checked : ByteArray := prog_11_method_22_code
abbrev m_Mo_checked : MD := (⟨R_Mo, "checked", "(I)Z"⟩, c_Mo_checked, 4, (some .boolean))
abbrev c_Mo_check : ByteArray := prog_11_method_23_code
abbrev m_Mo_check : MD := (⟨R_Mo, "check", "(I)I"⟩, c_Mo_check, 2, (some .int))
abbrev c_Mo_place : ByteArray := prog_11_method_24_code
abbrev m_Mo_place : MD := (⟨R_Mo, "place", "()I"⟩, c_Mo_place, 1, (some .int))
abbrev c_Mo_addSet : ByteArray := prog_11_method_25_code
abbrev m_Mo_addSet : MD := (⟨R_Mo, "addSet", "(III)V"⟩, c_Mo_addSet, 4, none)
abbrev c_Mo_take : ByteArray := prog_11_method_26_code
abbrev m_Mo_take : MD := (⟨R_Mo, "take", "(II)Z"⟩, c_Mo_take, 5, (some .boolean))
abbrev c_Mo_collectOne : ByteArray := prog_11_method_27_code
abbrev m_Mo_collectOne : MD := (⟨R_Mo, "collectOne", "(II)Z"⟩, c_Mo_collectOne, 6, (some .boolean))
abbrev c_Mo_begin : ByteArray := prog_11_method_28_code
abbrev m_Mo_begin : MD := (⟨R_Mo, "begin", "(I)I"⟩, c_Mo_begin, 5, (some .int))
abbrev c_Mo_say : ByteArray := prog_11_method_29_code
abbrev m_Mo_say : MD := (⟨R_Mo, "say", "(I)I"⟩, c_Mo_say, 2, (some .int))
abbrev c_Mo_entry : ByteArray := prog_11_method_30_code
abbrev m_Mo_entry : MD := (⟨R_Mo, "entry", "(I)I"⟩, c_Mo_entry, 2, (some .int))
abbrev c_Mo_kindAt : ByteArray := prog_11_method_31_code
abbrev m_Mo_kindAt : MD := (⟨R_Mo, "kindAt", "(I)I"⟩, c_Mo_kindAt, 2, (some .int))
abbrev c_Mo_note : ByteArray := prog_11_method_32_code
abbrev m_Mo_note : MD := (⟨R_Mo, "note", "()V"⟩, c_Mo_note, 3, none)
abbrev c_Mo_nothing : ByteArray := prog_11_method_33_code
abbrev m_Mo_nothing : MD := (⟨R_Mo, "nothing", "(IZ)V"⟩, c_Mo_nothing, 3, none)
abbrev c_Mo_endObject : ByteArray := prog_11_method_34_code
abbrev m_Mo_endObject : MD := (⟨R_Mo, "endObject", "()I"⟩, c_Mo_endObject, 3, (some .int))
abbrev c_Mo_manyStep : ByteArray := prog_11_method_35_code
abbrev m_Mo_manyStep : MD := (⟨R_Mo, "manyStep", "(I)I"⟩, c_Mo_manyStep, 3, (some .int))
abbrev c_Mo_plain : ByteArray := prog_11_method_36_code
abbrev m_Mo_plain : MD := (⟨R_Mo, "plain", "(II)I"⟩, c_Mo_plain, 3, (some .int))
abbrev c_Mo_step : ByteArray := prog_11_method_37_code
abbrev m_Mo_step : MD := (⟨R_Mo, "step", "()I"⟩, c_Mo_step, 4, (some .int))
abbrev c_Mo_ask : ByteArray := prog_11_method_38_code
abbrev m_Mo_ask : MD := (⟨R_Mo, "ask", "(I)I"⟩, c_Mo_ask, 3, (some .int))
abbrev c_Mo_code : ByteArray := prog_11_method_39_code
abbrev m_Mo_code : MD := (⟨R_Mo, "code", "(I)I"⟩, c_Mo_code, 2, (some .int))
abbrev c_Mo_missing : ByteArray := prog_11_method_40_code
abbrev m_Mo_missing : MD := (⟨R_Mo, "missing", "(II)I"⟩, c_Mo_missing, 4, (some .int))
abbrev c_Mo_count : ByteArray := prog_11_method_41_code
abbrev m_Mo_count : MD := (⟨R_Mo, "count", "(I)I"⟩, c_Mo_count, 2, (some .int))
abbrev c_As_init : ByteArray := prog_2_method_1_code
abbrev m_As_init : MD := (⟨R_As, "<init>", "(LQueryGraph$Rows;LQueryGraph$Collector;)V"⟩, c_As_init, 3, none)
abbrev c_As_forget : ByteArray := prog_2_method_2_code
abbrev m_As_forget : MD := (⟨R_As, "forget", "()V"⟩, c_As_forget, 1, none)
abbrev c_As_answer : ByteArray := prog_2_method_3_code
abbrev m_As_answer : MD := (⟨R_As, "answer", "(ILQueryGraph$Step;)I"⟩, c_As_answer, 3, (some .int))
abbrev c_As_workOutObject : ByteArray := prog_2_method_4_code
abbrev m_As_workOutObject : MD := (⟨R_As, "workOutObject", "(ILQueryGraph$Step;I)Z"⟩, c_As_workOutObject, 8, (some .boolean))
abbrev c_As_collectEntries : ByteArray := prog_2_method_5_code
abbrev m_As_collectEntries : MD := (⟨R_As, "collectEntries", "(ILQueryGraph$Step;I)LQueryGraph$Step;"⟩, c_As_collectEntries, 5, (some (.object "QueryGraph$Step")))
abbrev c_As_workOutValue : ByteArray := prog_2_method_6_code
abbrev m_As_workOutValue : MD := (⟨R_As, "workOutValue", "(ILQueryGraph$Step;I)Z"⟩, c_As_workOutValue, 4, (some .boolean))
abbrev c_As_workOutNumber : ByteArray := prog_2_method_7_code
abbrev m_As_workOutNumber : MD := (⟨R_As, "workOutNumber", "(ILQueryGraph$Step;)Z"⟩, c_As_workOutNumber, 4, (some .boolean))
abbrev c_As_workOutLink : ByteArray := prog_2_method_8_code
abbrev m_As_workOutLink : MD := (⟨R_As, "workOutLink", "(ILQueryGraph$Step;I)Z"⟩, c_As_workOutLink, 5, (some .boolean))
abbrev c_As_workOutMany : ByteArray := prog_2_method_9_code
abbrev m_As_workOutMany : MD := (⟨R_As, "workOutMany", "(ILQueryGraph$Step;I)Z"⟩, c_As_workOutMany, 6, (some .boolean))
abbrev c_As_workOutNothing : ByteArray := prog_2_method_10_code
abbrev m_As_workOutNothing : MD := (⟨R_As, "workOutNothing", "(LQueryGraph$Step;)Z"⟩, c_As_workOutNothing, 2, (some .boolean))
abbrev c_As_addCode : ByteArray := prog_2_method_11_code
abbrev m_As_addCode : MD := (⟨R_As, "addCode", "(I)V"⟩, c_As_addCode, 2, none)
abbrev c_As_cutBack : ByteArray := prog_2_method_12_code
abbrev m_As_cutBack : MD := (⟨R_As, "cutBack", "(I)V"⟩, c_As_cutBack, 2, none)
abbrev c_Co_init : ByteArray := prog_3_method_1_code
abbrev m_Co_init : MD := (⟨R_Co, "<init>", "(LQueryGraph$Plan;[I)V"⟩, c_Co_init, 3, none)
abbrev c_Co_collect : ByteArray := prog_3_method_2_code
abbrev m_Co_collect : MD := (⟨R_Co, "collect", "(ILQueryGraph$Step;)LQueryGraph$Step;"⟩, c_Co_collect, 6, (some (.object "QueryGraph$Step")))
abbrev c_Co_isPassedOver : ByteArray := prog_3_method_3_code
abbrev m_Co_isPassedOver : MD := (⟨R_Co, "isPassedOver", "(LQueryGraph$Step;I)Z"⟩, c_Co_isPassedOver, 3, (some .boolean))
abbrev c_Co_enter : ByteArray := prog_3_method_4_code
abbrev m_Co_enter : MD := (⟨R_Co, "enter", "(LQueryGraph$Step;)V"⟩, c_Co_enter, 3, none)
abbrev c_Co_putBehind : ByteArray := prog_3_method_5_code
abbrev m_Co_putBehind : MD := (⟨R_Co, "putBehind", "(LQueryGraph$Step;LQueryGraph$Step;)V"⟩, c_Co_putBehind, 3, none)
abbrev c_Co_entryNamed : ByteArray := prog_3_method_6_code
abbrev m_Co_entryNamed : MD := (⟨R_Co, "entryNamed", "(I)LQueryGraph$Step;"⟩, c_Co_entryNamed, 3, (some (.object "QueryGraph$Step")))
abbrev c_Co_addEntry : ByteArray := prog_3_method_7_code
abbrev m_Co_addEntry : MD := (⟨R_Co, "addEntry", "(LQueryGraph$Step;)V"⟩, c_Co_addEntry, 2, none)
abbrev c_Pa_init : ByteArray := prog_4_method_1_code
abbrev m_Pa_init : MD := (⟨R_Pa, "<init>", "()V"⟩, c_Pa_init, 1, none)
abbrev c_Pa_forgetAll : ByteArray := prog_4_method_2_code
abbrev m_Pa_forgetAll : MD := (⟨R_Pa, "forgetAll", "()V"⟩, c_Pa_forgetAll, 1, none)
abbrev c_Pa_goInto : ByteArray := prog_4_method_3_code
abbrev m_Pa_goInto : MD := (⟨R_Pa, "goInto", "(I)V"⟩, c_Pa_goInto, 2, none)
abbrev c_Pa_goOut : ByteArray := prog_4_method_4_code
abbrev m_Pa_goOut : MD := (⟨R_Pa, "goOut", "()V"⟩, c_Pa_goOut, 1, none)
abbrev c_Pa_noteHere : ByteArray := prog_4_method_5_code
abbrev m_Pa_noteHere : MD := (⟨R_Pa, "noteHere", "()V"⟩, c_Pa_noteHere, 1, none)
abbrev c_Pa_partOf : ByteArray := prog_4_method_6_code
abbrev m_Pa_partOf : MD := (⟨R_Pa, "partOf", "(II)I"⟩, c_Pa_partOf, 3, (some .int))
abbrev c_Pl_init : ByteArray := prog_5_method_1_code
abbrev m_Pl_init : MD := (⟨R_Pl, "<init>", "(LQueryGraph$Schema;LQueryGraph$Texts;)V"⟩, c_Pl_init, 4, none)
abbrev c_Pl_root : ByteArray := prog_5_method_2_code
abbrev m_Pl_root : MD := (⟨R_Pl, "root", "()LQueryGraph$Step;"⟩, c_Pl_root, 1, (some (.object "QueryGraph$Step")))
abbrev c_Pl_writeOutQuery : ByteArray := prog_5_method_3_code
abbrev m_Pl_writeOutQuery : MD := (⟨R_Pl, "writeOutQuery", "(I)Z"⟩, c_Pl_writeOutQuery, 3, (some .boolean))
abbrev c_Pl_writeOut : ByteArray := prog_5_method_4_code
abbrev m_Pl_writeOut : MD := (⟨R_Pl, "writeOut", "(ILQueryGraph$Step;)Z"⟩, c_Pl_writeOut, 7, (some .boolean))
abbrev c_Pl_takeStep : ByteArray := prog_5_method_5_code
abbrev m_Pl_takeStep : MD := (⟨R_Pl, "takeStep", "(ILQueryGraph$Step;)LQueryGraph$Step;"⟩, c_Pl_takeStep, 4, (some (.object "QueryGraph$Step")))
abbrev c_Pl_isRight : ByteArray := prog_5_method_6_code
abbrev m_Pl_isRight : MD := (⟨R_Pl, "isRight", "(LQueryGraph$Step;I)Z"⟩, c_Pl_isRight, 3, (some .boolean))
abbrev c_Pl_findField : ByteArray := prog_5_method_7_code
abbrev m_Pl_findField : MD := (⟨R_Pl, "findField", "(LQueryGraph$Step;I)Z"⟩, c_Pl_findField, 3, (some .boolean))
abbrev c_Pl_typeBehind : ByteArray := prog_5_method_8_code
abbrev m_Pl_typeBehind : MD := (⟨R_Pl, "typeBehind", "(LQueryGraph$Step;I)I"⟩, c_Pl_typeBehind, 3, (some .int))
abbrev c_Ro_init : ByteArray := prog_6_method_1_code
abbrev m_Ro_init : MD := (⟨R_Ro, "<init>", "()V"⟩, c_Ro_init, 1, none)
abbrev c_Ro_hasRow : ByteArray := prog_6_method_2_code
abbrev m_Ro_hasRow : MD := (⟨R_Ro, "hasRow", "(I)Z"⟩, c_Ro_hasRow, 2, (some .boolean))
abbrev c_Ro_typeOf : ByteArray := prog_6_method_3_code
abbrev m_Ro_typeOf : MD := (⟨R_Ro, "typeOf", "(I)I"⟩, c_Ro_typeOf, 2, (some .int))
abbrev c_Ro_addRow : ByteArray := prog_6_method_4_code
abbrev m_Ro_addRow : MD := (⟨R_Ro, "addRow", "(I)I"⟩, c_Ro_addRow, 3, (some .int))
abbrev c_Ro_emptyField : ByteArray := prog_6_method_5_code
abbrev m_Ro_emptyField : MD := (⟨R_Ro, "emptyField", "(II)V"⟩, c_Ro_emptyField, 3, none)
abbrev c_Ro_holdNumber : ByteArray := prog_6_method_6_code
abbrev m_Ro_holdNumber : MD := (⟨R_Ro, "holdNumber", "(III)V"⟩, c_Ro_holdNumber, 4, none)
abbrev c_Ro_numberOf : ByteArray := prog_6_method_7_code
abbrev m_Ro_numberOf : MD := (⟨R_Ro, "numberOf", "(II)I"⟩, c_Ro_numberOf, 3, (some .int))
abbrev c_Ro_addLinked : ByteArray := prog_6_method_8_code
abbrev m_Ro_addLinked : MD := (⟨R_Ro, "addLinked", "(III)I"⟩, c_Ro_addLinked, 5, (some .int))
abbrev c_Ro_linkedCount : ByteArray := prog_6_method_9_code
abbrev m_Ro_linkedCount : MD := (⟨R_Ro, "linkedCount", "(II)I"⟩, c_Ro_linkedCount, 3, (some .int))
abbrev c_Ro_linkedRow : ByteArray := prog_6_method_10_code
abbrev m_Ro_linkedRow : MD := (⟨R_Ro, "linkedRow", "(III)I"⟩, c_Ro_linkedRow, 4, (some .int))
abbrev c_Ro_cellOf : ByteArray := prog_6_method_11_code
abbrev m_Ro_cellOf : MD := (⟨R_Ro, "cellOf", "(II)I"⟩, c_Ro_cellOf, 2, (some .int))
abbrev c_Sc_init : ByteArray := prog_7_method_1_code
abbrev m_Sc_init : MD := (⟨R_Sc, "<init>", "()V"⟩, c_Sc_init, 1, none)
abbrev c_Sc_hasType : ByteArray := prog_7_method_2_code
abbrev m_Sc_hasType : MD := (⟨R_Sc, "hasType", "(I)Z"⟩, c_Sc_hasType, 2, (some .boolean))
abbrev c_Sc_hasField : ByteArray := prog_7_method_3_code
abbrev m_Sc_hasField : MD := (⟨R_Sc, "hasField", "(II)Z"⟩, c_Sc_hasField, 3, (some .boolean))
abbrev c_Sc_kindOf : ByteArray := prog_7_method_4_code
abbrev m_Sc_kindOf : MD := (⟨R_Sc, "kindOf", "(II)I"⟩, c_Sc_kindOf, 3, (some .int))
abbrev c_Sc_targetOf : ByteArray := prog_7_method_5_code
abbrev m_Sc_targetOf : MD := (⟨R_Sc, "targetOf", "(II)I"⟩, c_Sc_targetOf, 3, (some .int))
abbrev c_Sc_isRequired : ByteArray := prog_7_method_6_code
abbrev m_Sc_isRequired : MD := (⟨R_Sc, "isRequired", "(II)Z"⟩, c_Sc_isRequired, 3, (some .boolean))
abbrev c_Sc_addType : ByteArray := prog_7_method_7_code
abbrev m_Sc_addType : MD := (⟨R_Sc, "addType", "()I"⟩, c_Sc_addType, 2, (some .int))
abbrev c_Sc_addField : ByteArray := prog_7_method_8_code
abbrev m_Sc_addField : MD := (⟨R_Sc, "addField", "(IIIZ)I"⟩, c_Sc_addField, 7, (some .int))
abbrev c_St_init : ByteArray := prog_8_method_1_code
abbrev m_St_init : MD := (⟨R_St, "<init>", "(I)V"⟩, c_St_init, 2, none)
abbrev c_St_isEntry : ByteArray := prog_8_method_2_code
abbrev m_St_isEntry : MD := (⟨R_St, "isEntry", "()Z"⟩, c_St_isEntry, 1, (some .boolean))
abbrev c_Te_init : ByteArray := prog_9_method_1_code
abbrev m_Te_init : MD := (⟨R_Te, "<init>", "()V"⟩, c_Te_init, 1, none)
abbrev c_Te_addToken : ByteArray := prog_9_method_2_code
abbrev m_Te_addToken : MD := (⟨R_Te, "addToken", "(IIII)I"⟩, c_Te_addToken, 6, (some .int))
abbrev c_Te_isGood : ByteArray := prog_9_method_3_code
abbrev m_Te_isGood : MD := (⟨R_Te, "isGood", "(I)Z"⟩, c_Te_isGood, 5, (some .boolean))
def fx_nest : List (String × Nat × MethodName × String) := [(R_G, 11, m_Sc_init.1, "QueryGraph"), (R_G, 18, m_Ro_init.1, "QueryGraph"), (R_G, 25, m_Te_init.1, "QueryGraph"), (R_As, 11, m_Pa_init.1, "QueryGraph"), (R_Pa, 40, m_G_isWithin.1, "QueryGraph"), (R_Pl, 84, m_G_hasSetBehind.1, "QueryGraph"), (R_Ro, 28, m_G_isWithin.1, "QueryGraph"), (R_Te, 24, m_G_hasSetBehind.1, "QueryGraph")]
