/-- all words of the tables that a call may take along -/
def WA : List Cond := lw_tbl.filter goodWord
theorem wa_t {w : Cond} (i : Nat) (h : tables_1[i]? = some w) (g : goodWord w = true) : w ∈ WA := List.mem_filter.mpr ⟨List.mem_append_right _ (List.mem_of_getElem? h), g⟩
theorem wa_s {w : Cond} (i : Nat) (h : (k2_sels lw_privs)[i]? = some w) (g : goodWord w = true) : w ∈ WA := List.mem_filter.mpr ⟨List.mem_append_left _ (List.mem_of_getElem? h), g⟩
theorem wa_good {w : Cond} (h : w ∈ WA) : (w.onTables && w.keeps) = true ∨ ∃ ty, w = .arrayClass ty := good_of_word (List.mem_filter.mp h).2
theorem wa_self : GoodIn WA WA := fun w h => ⟨h, wa_good h⟩
def F_NJ : u_T := fun k => match k with
  | 0 => ("NetJoins", "sheets", "Ljava/util/ArrayList;", true)
  | 1 => ("NetJoins", "wires", "Ljava/util/ArrayList;", true)
  | 2 => ("NetJoins", "junctions", "Ljava/util/ArrayList;", true)
  | 3 => ("NetJoins", "labels", "Ljava/util/ArrayList;", true)
  | 4 => ("NetJoins", "labelsByName", "Ljava/util/ArrayList;", true)
  | 5 => ("NetJoins", "pins", "Ljava/util/ArrayList;", true)
  | 6 => ("NetJoins", "ports", "Ljava/util/ArrayList;", true)
  | 7 => ("NetJoins", "buses", "Ljava/util/ArrayList;", true)
  | 8 => ("NetJoins", "ranks", "[I", true)
  | 9 => ("NetJoins", "touching", "LNetJoins$Joins;", true)
  | 10 => ("NetJoins", "joined", "LNetJoins$Joins;", true)
  | 11 => ("NetJoins", "table", "LNetJoins$NetTable;", true)
  | 12 => ("NetJoins", "nameStart", "[I", true)
  | 13 => ("NetJoins", "netNames", "[I", true)
  | 14 => ("NetJoins", "namesAreListed", "Z", false)
  | 15 => ("NetJoins", "remarks", "[I", true)
  | 16 => ("NetJoins", "remarkCount", "I", false)
  | _ => ("NetJoins", "remarksAreListed", "Z", false)
def t_NJ : Nat → FieldType := fun k => match k with
  | 0 => .object "java/util/ArrayList"
  | 1 => .object "java/util/ArrayList"
  | 2 => .object "java/util/ArrayList"
  | 3 => .object "java/util/ArrayList"
  | 4 => .object "java/util/ArrayList"
  | 5 => .object "java/util/ArrayList"
  | 6 => .object "java/util/ArrayList"
  | 7 => .object "java/util/ArrayList"
  | 8 => .array .int
  | 9 => .object "NetJoins$Joins"
  | 10 => .object "NetJoins$Joins"
  | 11 => .object "NetJoins$NetTable"
  | 12 => .array .int
  | 13 => .array .int
  | 14 => .boolean
  | 15 => .array .int
  | 16 => .int
  | _ => .boolean
theorem n_NJ : ∀ a, a < 18 → ∀ b, b < 18 → a ≠ b → (F_NJ a).2.1 ≠ (F_NJ b).2.1 := by decide +kernel
theorem t_NJ_ok : ∀ k, k < 18 → parseFieldDescriptor (F_NJ k).2.2.1 = some (t_NJ k) := by decide +kernel
theorem iw_NJ_0 : u_lay "NetJoins" F_NJ 0 ∈ WA := wa_t 138 (by decide +kernel) (by decide +kernel)
theorem iw_NJ_1 : u_lay "NetJoins" F_NJ 1 ∈ WA := wa_t 140 (by decide +kernel) (by decide +kernel)
theorem iw_NJ_2 : u_lay "NetJoins" F_NJ 2 ∈ WA := wa_t 142 (by decide +kernel) (by decide +kernel)
theorem iw_NJ_3 : u_lay "NetJoins" F_NJ 3 ∈ WA := wa_t 144 (by decide +kernel) (by decide +kernel)
theorem iw_NJ_4 : u_lay "NetJoins" F_NJ 4 ∈ WA := wa_t 146 (by decide +kernel) (by decide +kernel)
theorem iw_NJ_5 : u_lay "NetJoins" F_NJ 5 ∈ WA := wa_t 148 (by decide +kernel) (by decide +kernel)
theorem iw_NJ_6 : u_lay "NetJoins" F_NJ 6 ∈ WA := wa_t 150 (by decide +kernel) (by decide +kernel)
theorem iw_NJ_7 : u_lay "NetJoins" F_NJ 7 ∈ WA := wa_t 152 (by decide +kernel) (by decide +kernel)
theorem iw_NJ_8 : u_lay "NetJoins" F_NJ 8 ∈ WA := wa_t 154 (by decide +kernel) (by decide +kernel)
theorem iw_NJ_9 : u_lay "NetJoins" F_NJ 9 ∈ WA := wa_t 156 (by decide +kernel) (by decide +kernel)
theorem iw_NJ_10 : u_lay "NetJoins" F_NJ 10 ∈ WA := wa_t 158 (by decide +kernel) (by decide +kernel)
theorem iw_NJ_11 : u_lay "NetJoins" F_NJ 11 ∈ WA := wa_t 160 (by decide +kernel) (by decide +kernel)
theorem iw_NJ_12 : u_lay "NetJoins" F_NJ 12 ∈ WA := wa_t 162 (by decide +kernel) (by decide +kernel)
theorem iw_NJ_13 : u_lay "NetJoins" F_NJ 13 ∈ WA := wa_t 164 (by decide +kernel) (by decide +kernel)
theorem iw_NJ_14 : u_lay "NetJoins" F_NJ 14 ∈ WA := wa_t 166 (by decide +kernel) (by decide +kernel)
theorem iw_NJ_15 : u_lay "NetJoins" F_NJ 15 ∈ WA := wa_t 168 (by decide +kernel) (by decide +kernel)
theorem iw_NJ_16 : u_lay "NetJoins" F_NJ 16 ∈ WA := wa_t 170 (by decide +kernel) (by decide +kernel)
theorem iw_NJ_17 : u_lay "NetJoins" F_NJ 17 ∈ WA := wa_t 172 (by decide +kernel) (by decide +kernel)
theorem i_NJ : ∀ w ∈ u_ws "NetJoins" F_NJ 18, w ∈ WA := by
  intro w hw
  obtain ⟨k, hk, rfl⟩ := List.mem_map.mp hw
  have hk := List.mem_range.mp hk
  match k, hk with
  | 0, _ => exact iw_NJ_0
  | 1, _ => exact iw_NJ_1
  | 2, _ => exact iw_NJ_2
  | 3, _ => exact iw_NJ_3
  | 4, _ => exact iw_NJ_4
  | 5, _ => exact iw_NJ_5
  | 6, _ => exact iw_NJ_6
  | 7, _ => exact iw_NJ_7
  | 8, _ => exact iw_NJ_8
  | 9, _ => exact iw_NJ_9
  | 10, _ => exact iw_NJ_10
  | 11, _ => exact iw_NJ_11
  | 12, _ => exact iw_NJ_12
  | 13, _ => exact iw_NJ_13
  | 14, _ => exact iw_NJ_14
  | 15, _ => exact iw_NJ_15
  | 16, _ => exact iw_NJ_16
  | 17, _ => exact iw_NJ_17
  | k + 18, hk => omega
def F_Bus : u_T := fun k => match k with
  | 0 => ("NetJoins$Bus", "sheet", "I", true)
  | 1 => ("NetJoins$Bus", "name", "I", true)
  | 2 => ("NetJoins$Bus", "from", "I", true)
  | _ => ("NetJoins$Bus", "to", "I", true)
def t_Bus : Nat → FieldType := fun k => match k with
  | 0 => .int
  | 1 => .int
  | 2 => .int
  | _ => .int
theorem n_Bus : ∀ a, a < 4 → ∀ b, b < 4 → a ≠ b → (F_Bus a).2.1 ≠ (F_Bus b).2.1 := by decide +kernel
theorem t_Bus_ok : ∀ k, k < 4 → parseFieldDescriptor (F_Bus k).2.2.1 = some (t_Bus k) := by decide +kernel
theorem iw_Bus_0 : u_lay "NetJoins$Bus" F_Bus 0 ∈ WA := wa_t 1068 (by decide +kernel) (by decide +kernel)
theorem iw_Bus_1 : u_lay "NetJoins$Bus" F_Bus 1 ∈ WA := wa_t 1070 (by decide +kernel) (by decide +kernel)
theorem iw_Bus_2 : u_lay "NetJoins$Bus" F_Bus 2 ∈ WA := wa_t 1072 (by decide +kernel) (by decide +kernel)
theorem iw_Bus_3 : u_lay "NetJoins$Bus" F_Bus 3 ∈ WA := wa_t 1074 (by decide +kernel) (by decide +kernel)
theorem i_Bus : ∀ w ∈ u_ws "NetJoins$Bus" F_Bus 4, w ∈ WA := by
  intro w hw
  obtain ⟨k, hk, rfl⟩ := List.mem_map.mp hw
  have hk := List.mem_range.mp hk
  match k, hk with
  | 0, _ => exact iw_Bus_0
  | 1, _ => exact iw_Bus_1
  | 2, _ => exact iw_Bus_2
  | 3, _ => exact iw_Bus_3
  | k + 4, hk => omega
def F_Joins : u_T := fun k => match k with
  | _ => ("NetJoins$Joins", "up", "[[I", true)
def t_Joins : Nat → FieldType := fun k => match k with
  | _ => .array (.array .int)
theorem n_Joins : ∀ a, a < 1 → ∀ b, b < 1 → a ≠ b → (F_Joins a).2.1 ≠ (F_Joins b).2.1 := by decide +kernel
theorem t_Joins_ok : ∀ k, k < 1 → parseFieldDescriptor (F_Joins k).2.2.1 = some (t_Joins k) := by decide +kernel
theorem iw_Joins_0 : u_lay "NetJoins$Joins" F_Joins 0 ∈ WA := wa_t 81 (by decide +kernel) (by decide +kernel)
theorem i_Joins : ∀ w ∈ u_ws "NetJoins$Joins" F_Joins 1, w ∈ WA := by
  intro w hw
  obtain ⟨k, hk, rfl⟩ := List.mem_map.mp hw
  have hk := List.mem_range.mp hk
  match k, hk with
  | 0, _ => exact iw_Joins_0
  | k + 1, hk => omega
def F_Tab : u_T := fun k => match k with
  | 0 => ("NetJoins$NetTable", "least", "[I", true)
  | 1 => ("NetJoins$NetTable", "leastBefore", "[I", true)
  | 2 => ("NetJoins$NetTable", "net", "[I", true)
  | 3 => ("NetJoins$NetTable", "size", "[I", true)
  | 4 => ("NetJoins$NetTable", "isChanged", "[Z", true)
  | 5 => ("NetJoins$NetTable", "count", "I", false)
  | _ => ("NetJoins$NetTable", "used", "I", false)
def t_Tab : Nat → FieldType := fun k => match k with
  | 0 => .array .int
  | 1 => .array .int
  | 2 => .array .int
  | 3 => .array .int
  | 4 => .array (.boolean)
  | 5 => .int
  | _ => .int
theorem n_Tab : ∀ a, a < 7 → ∀ b, b < 7 → a ≠ b → (F_Tab a).2.1 ≠ (F_Tab b).2.1 := by decide +kernel
theorem t_Tab_ok : ∀ k, k < 7 → parseFieldDescriptor (F_Tab k).2.2.1 = some (t_Tab k) := by decide +kernel
theorem iw_Tab_0 : u_lay "NetJoins$NetTable" F_Tab 0 ∈ WA := wa_t 104 (by decide +kernel) (by decide +kernel)
theorem iw_Tab_1 : u_lay "NetJoins$NetTable" F_Tab 1 ∈ WA := wa_t 106 (by decide +kernel) (by decide +kernel)
theorem iw_Tab_2 : u_lay "NetJoins$NetTable" F_Tab 2 ∈ WA := wa_t 108 (by decide +kernel) (by decide +kernel)
theorem iw_Tab_3 : u_lay "NetJoins$NetTable" F_Tab 3 ∈ WA := wa_t 110 (by decide +kernel) (by decide +kernel)
theorem iw_Tab_4 : u_lay "NetJoins$NetTable" F_Tab 4 ∈ WA := wa_t 112 (by decide +kernel) (by decide +kernel)
theorem iw_Tab_5 : u_lay "NetJoins$NetTable" F_Tab 5 ∈ WA := wa_t 114 (by decide +kernel) (by decide +kernel)
theorem iw_Tab_6 : u_lay "NetJoins$NetTable" F_Tab 6 ∈ WA := wa_t 116 (by decide +kernel) (by decide +kernel)
theorem i_Tab : ∀ w ∈ u_ws "NetJoins$NetTable" F_Tab 7, w ∈ WA := by
  intro w hw
  obtain ⟨k, hk, rfl⟩ := List.mem_map.mp hw
  have hk := List.mem_range.mp hk
  match k, hk with
  | 0, _ => exact iw_Tab_0
  | 1, _ => exact iw_Tab_1
  | 2, _ => exact iw_Tab_2
  | 3, _ => exact iw_Tab_3
  | 4, _ => exact iw_Tab_4
  | 5, _ => exact iw_Tab_5
  | 6, _ => exact iw_Tab_6
  | k + 7, hk => omega
def F_Port : u_T := fun k => match k with
  | 0 => ("NetJoins$Port", "sheet", "I", true)
  | 1 => ("NetJoins$Port", "label", "I", true)
  | 2 => ("NetJoins$Port", "name", "I", true)
  | 3 => ("NetJoins$Port", "inner", "I", true)
  | _ => ("NetJoins$Port", "outer", "I", true)
def t_Port : Nat → FieldType := fun k => match k with
  | 0 => .int
  | 1 => .int
  | 2 => .int
  | 3 => .int
  | _ => .int
theorem n_Port : ∀ a, a < 5 → ∀ b, b < 5 → a ≠ b → (F_Port a).2.1 ≠ (F_Port b).2.1 := by decide +kernel
theorem t_Port_ok : ∀ k, k < 5 → parseFieldDescriptor (F_Port k).2.2.1 = some (t_Port k) := by decide +kernel
theorem iw_Port_0 : u_lay "NetJoins$Port" F_Port 0 ∈ WA := wa_t 1033 (by decide +kernel) (by decide +kernel)
theorem iw_Port_1 : u_lay "NetJoins$Port" F_Port 1 ∈ WA := wa_t 1035 (by decide +kernel) (by decide +kernel)
theorem iw_Port_2 : u_lay "NetJoins$Port" F_Port 2 ∈ WA := wa_t 1037 (by decide +kernel) (by decide +kernel)
theorem iw_Port_3 : u_lay "NetJoins$Port" F_Port 3 ∈ WA := wa_t 1039 (by decide +kernel) (by decide +kernel)
theorem iw_Port_4 : u_lay "NetJoins$Port" F_Port 4 ∈ WA := wa_t 1041 (by decide +kernel) (by decide +kernel)
theorem i_Port : ∀ w ∈ u_ws "NetJoins$Port" F_Port 5, w ∈ WA := by
  intro w hw
  obtain ⟨k, hk, rfl⟩ := List.mem_map.mp hw
  have hk := List.mem_range.mp hk
  match k, hk with
  | 0, _ => exact iw_Port_0
  | 1, _ => exact iw_Port_1
  | 2, _ => exact iw_Port_2
  | 3, _ => exact iw_Port_3
  | 4, _ => exact iw_Port_4
  | k + 5, hk => omega
def F_Sheet : u_T := fun k => match k with
  | 0 => ("NetJoins$Sheet", "number", "I", true)
  | 1 => ("NetJoins$Sheet", "parent", "I", true)
  | 2 => ("NetJoins$Sheet", "drawn", "I", true)
  | 3 => ("NetJoins$Sheet", "copy", "I", true)
  | _ => ("NetJoins$Sheet", "copies", "I", false)
def t_Sheet : Nat → FieldType := fun k => match k with
  | 0 => .int
  | 1 => .int
  | 2 => .int
  | 3 => .int
  | _ => .int
theorem n_Sheet : ∀ a, a < 5 → ∀ b, b < 5 → a ≠ b → (F_Sheet a).2.1 ≠ (F_Sheet b).2.1 := by decide +kernel
theorem t_Sheet_ok : ∀ k, k < 5 → parseFieldDescriptor (F_Sheet k).2.2.1 = some (t_Sheet k) := by decide +kernel
theorem iw_Sheet_0 : u_lay "NetJoins$Sheet" F_Sheet 0 ∈ WA := wa_t 531 (by decide +kernel) (by decide +kernel)
theorem iw_Sheet_1 : u_lay "NetJoins$Sheet" F_Sheet 1 ∈ WA := wa_t 533 (by decide +kernel) (by decide +kernel)
theorem iw_Sheet_2 : u_lay "NetJoins$Sheet" F_Sheet 2 ∈ WA := wa_t 535 (by decide +kernel) (by decide +kernel)
theorem iw_Sheet_3 : u_lay "NetJoins$Sheet" F_Sheet 3 ∈ WA := wa_t 537 (by decide +kernel) (by decide +kernel)
theorem iw_Sheet_4 : u_lay "NetJoins$Sheet" F_Sheet 4 ∈ WA := wa_t 539 (by decide +kernel) (by decide +kernel)
theorem i_Sheet : ∀ w ∈ u_ws "NetJoins$Sheet" F_Sheet 5, w ∈ WA := by
  intro w hw
  obtain ⟨k, hk, rfl⟩ := List.mem_map.mp hw
  have hk := List.mem_range.mp hk
  match k, hk with
  | 0, _ => exact iw_Sheet_0
  | 1, _ => exact iw_Sheet_1
  | 2, _ => exact iw_Sheet_2
  | 3, _ => exact iw_Sheet_3
  | 4, _ => exact iw_Sheet_4
  | k + 5, hk => omega
def F_Spot : u_T := fun k => match k with
  | 0 => ("NetJoins$Spot", "sheet", "I", true)
  | 1 => ("NetJoins$Spot", "x", "J", true)
  | 2 => ("NetJoins$Spot", "y", "J", true)
  | 3 => ("NetJoins$Spot", "mark", "I", true)
  | 4 => ("NetJoins$Spot", "thing", "I", true)
  | _ => ("NetJoins$Spot", "open", "Z", false)
def t_Spot : Nat → FieldType := fun k => match k with
  | 0 => .int
  | 1 => .long
  | 2 => .long
  | 3 => .int
  | 4 => .int
  | _ => .boolean
theorem n_Spot : ∀ a, a < 6 → ∀ b, b < 6 → a ≠ b → (F_Spot a).2.1 ≠ (F_Spot b).2.1 := by decide +kernel
theorem t_Spot_ok : ∀ k, k < 6 → parseFieldDescriptor (F_Spot k).2.2.1 = some (t_Spot k) := by decide +kernel
theorem iw_Spot_0 : u_lay "NetJoins$Spot" F_Spot 0 ∈ WA := wa_t 712 (by decide +kernel) (by decide +kernel)
theorem iw_Spot_1 : u_lay "NetJoins$Spot" F_Spot 1 ∈ WA := wa_t 714 (by decide +kernel) (by decide +kernel)
theorem iw_Spot_2 : u_lay "NetJoins$Spot" F_Spot 2 ∈ WA := wa_t 716 (by decide +kernel) (by decide +kernel)
theorem iw_Spot_3 : u_lay "NetJoins$Spot" F_Spot 3 ∈ WA := wa_t 718 (by decide +kernel) (by decide +kernel)
theorem iw_Spot_4 : u_lay "NetJoins$Spot" F_Spot 4 ∈ WA := wa_t 720 (by decide +kernel) (by decide +kernel)
theorem iw_Spot_5 : u_lay "NetJoins$Spot" F_Spot 5 ∈ WA := wa_t 722 (by decide +kernel) (by decide +kernel)
theorem i_Spot : ∀ w ∈ u_ws "NetJoins$Spot" F_Spot 6, w ∈ WA := by
  intro w hw
  obtain ⟨k, hk, rfl⟩ := List.mem_map.mp hw
  have hk := List.mem_range.mp hk
  match k, hk with
  | 0, _ => exact iw_Spot_0
  | 1, _ => exact iw_Spot_1
  | 2, _ => exact iw_Spot_2
  | 3, _ => exact iw_Spot_3
  | 4, _ => exact iw_Spot_4
  | 5, _ => exact iw_Spot_5
  | k + 6, hk => omega
def F_Wire : u_T := fun k => match k with
  | 0 => ("NetJoins$Wire", "sheet", "I", true)
  | 1 => ("NetJoins$Wire", "number", "I", true)
  | 2 => ("NetJoins$Wire", "x", "J", true)
  | 3 => ("NetJoins$Wire", "y", "J", true)
  | 4 => ("NetJoins$Wire", "x2", "J", true)
  | 5 => ("NetJoins$Wire", "y2", "J", true)
  | _ => ("NetJoins$Wire", "dropped", "Z", false)
def t_Wire : Nat → FieldType := fun k => match k with
  | 0 => .int
  | 1 => .int
  | 2 => .long
  | 3 => .long
  | 4 => .long
  | 5 => .long
  | _ => .boolean
theorem n_Wire : ∀ a, a < 7 → ∀ b, b < 7 → a ≠ b → (F_Wire a).2.1 ≠ (F_Wire b).2.1 := by decide +kernel
theorem t_Wire_ok : ∀ k, k < 7 → parseFieldDescriptor (F_Wire k).2.2.1 = some (t_Wire k) := by decide +kernel
theorem iw_Wire_0 : u_lay "NetJoins$Wire" F_Wire 0 ∈ WA := wa_t 659 (by decide +kernel) (by decide +kernel)
theorem iw_Wire_1 : u_lay "NetJoins$Wire" F_Wire 1 ∈ WA := wa_t 661 (by decide +kernel) (by decide +kernel)
theorem iw_Wire_2 : u_lay "NetJoins$Wire" F_Wire 2 ∈ WA := wa_t 663 (by decide +kernel) (by decide +kernel)
theorem iw_Wire_3 : u_lay "NetJoins$Wire" F_Wire 3 ∈ WA := wa_t 665 (by decide +kernel) (by decide +kernel)
theorem iw_Wire_4 : u_lay "NetJoins$Wire" F_Wire 4 ∈ WA := wa_t 667 (by decide +kernel) (by decide +kernel)
theorem iw_Wire_5 : u_lay "NetJoins$Wire" F_Wire 5 ∈ WA := wa_t 669 (by decide +kernel) (by decide +kernel)
theorem iw_Wire_6 : u_lay "NetJoins$Wire" F_Wire 6 ∈ WA := wa_t 671 (by decide +kernel) (by decide +kernel)
theorem i_Wire : ∀ w ∈ u_ws "NetJoins$Wire" F_Wire 7, w ∈ WA := by
  intro w hw
  obtain ⟨k, hk, rfl⟩ := List.mem_map.mp hw
  have hk := List.mem_range.mp hk
  match k, hk with
  | 0, _ => exact iw_Wire_0
  | 1, _ => exact iw_Wire_1
  | 2, _ => exact iw_Wire_2
  | 3, _ => exact iw_Wire_3
  | 4, _ => exact iw_Wire_4
  | 5, _ => exact iw_Wire_5
  | 6, _ => exact iw_Wire_6
  | k + 7, hk => omega
def F_Mod : u_T := fun k => match k with
  | 0 => ("NetJoinsModel", "thrown", "I", false)
  | 1 => ("NetJoinsModel", "sheets", "I", false)
  | 2 => ("NetJoinsModel", "parents", "[I", true)
  | 3 => ("NetJoinsModel", "bases", "[I", true)
  | 4 => ("NetJoinsModel", "wires", "I", false)
  | 5 => ("NetJoinsModel", "wireSheet", "[I", true)
  | 6 => ("NetJoinsModel", "wireAt", "[J", true)
  | 7 => ("NetJoinsModel", "dropped", "[Z", true)
  | 8 => ("NetJoinsModel", "junctions", "I", false)
  | 9 => ("NetJoinsModel", "junctionSheet", "[I", true)
  | 10 => ("NetJoinsModel", "junctionAt", "[J", true)
  | 11 => ("NetJoinsModel", "labels", "I", false)
  | 12 => ("NetJoinsModel", "labelSheet", "[I", true)
  | 13 => ("NetJoinsModel", "labelName", "[I", true)
  | 14 => ("NetJoinsModel", "labelAt", "[J", true)
  | 15 => ("NetJoinsModel", "pins", "I", false)
  | 16 => ("NetJoinsModel", "pinSheet", "[I", true)
  | 17 => ("NetJoinsModel", "pinPart", "[I", true)
  | 18 => ("NetJoinsModel", "pinAt", "[J", true)
  | 19 => ("NetJoinsModel", "opens", "[Z", true)
  | 20 => ("NetJoinsModel", "ports", "I", false)
  | 21 => ("NetJoinsModel", "port", "[I", true)
  | 22 => ("NetJoinsModel", "buses", "I", false)
  | 23 => ("NetJoinsModel", "bus", "[I", true)
  | 24 => ("NetJoinsModel", "ranks", "[I", true)
  | 25 => ("NetJoinsModel", "near", "[I", true)
  | 26 => ("NetJoinsModel", "netAt", "[I", true)
  | 27 => ("NetJoinsModel", "net", "[I", true)
  | 28 => ("NetJoinsModel", "netBefore", "[I", true)
  | 29 => ("NetJoinsModel", "netCount", "I", false)
  | 30 => ("NetJoinsModel", "isChanged", "[Z", true)
  | 31 => ("NetJoinsModel", "changes", "I", false)
  | _ => ("NetJoinsModel", "hasNets", "Z", false)
def t_Mod : Nat → FieldType := fun k => match k with
  | 0 => .int
  | 1 => .int
  | 2 => .array .int
  | 3 => .array .int
  | 4 => .int
  | 5 => .array .int
  | 6 => .array (.long)
  | 7 => .array (.boolean)
  | 8 => .int
  | 9 => .array .int
  | 10 => .array (.long)
  | 11 => .int
  | 12 => .array .int
  | 13 => .array .int
  | 14 => .array (.long)
  | 15 => .int
  | 16 => .array .int
  | 17 => .array .int
  | 18 => .array (.long)
  | 19 => .array (.boolean)
  | 20 => .int
  | 21 => .array .int
  | 22 => .int
  | 23 => .array .int
  | 24 => .array .int
  | 25 => .array .int
  | 26 => .array .int
  | 27 => .array .int
  | 28 => .array .int
  | 29 => .int
  | 30 => .array (.boolean)
  | 31 => .int
  | _ => .boolean
theorem n_Mod : ∀ a, a < 33 → ∀ b, b < 33 → a ≠ b → (F_Mod a).2.1 ≠ (F_Mod b).2.1 := by decide +kernel
theorem t_Mod_ok : ∀ k, k < 33 → parseFieldDescriptor (F_Mod k).2.2.1 = some (t_Mod k) := by decide +kernel
theorem iw_Mod_0 : u_lay "NetJoinsModel" F_Mod 0 ∈ WA := wa_t 1168 (by decide +kernel) (by decide +kernel)
theorem iw_Mod_1 : u_lay "NetJoinsModel" F_Mod 1 ∈ WA := wa_t 1170 (by decide +kernel) (by decide +kernel)
theorem iw_Mod_2 : u_lay "NetJoinsModel" F_Mod 2 ∈ WA := wa_t 1172 (by decide +kernel) (by decide +kernel)
theorem iw_Mod_3 : u_lay "NetJoinsModel" F_Mod 3 ∈ WA := wa_t 1174 (by decide +kernel) (by decide +kernel)
theorem iw_Mod_4 : u_lay "NetJoinsModel" F_Mod 4 ∈ WA := wa_t 1176 (by decide +kernel) (by decide +kernel)
theorem iw_Mod_5 : u_lay "NetJoinsModel" F_Mod 5 ∈ WA := wa_t 1178 (by decide +kernel) (by decide +kernel)
theorem iw_Mod_6 : u_lay "NetJoinsModel" F_Mod 6 ∈ WA := wa_t 1180 (by decide +kernel) (by decide +kernel)
theorem iw_Mod_7 : u_lay "NetJoinsModel" F_Mod 7 ∈ WA := wa_t 1182 (by decide +kernel) (by decide +kernel)
theorem iw_Mod_8 : u_lay "NetJoinsModel" F_Mod 8 ∈ WA := wa_t 1184 (by decide +kernel) (by decide +kernel)
theorem iw_Mod_9 : u_lay "NetJoinsModel" F_Mod 9 ∈ WA := wa_t 1186 (by decide +kernel) (by decide +kernel)
theorem iw_Mod_10 : u_lay "NetJoinsModel" F_Mod 10 ∈ WA := wa_t 1188 (by decide +kernel) (by decide +kernel)
theorem iw_Mod_11 : u_lay "NetJoinsModel" F_Mod 11 ∈ WA := wa_t 1190 (by decide +kernel) (by decide +kernel)
theorem iw_Mod_12 : u_lay "NetJoinsModel" F_Mod 12 ∈ WA := wa_t 1192 (by decide +kernel) (by decide +kernel)
theorem iw_Mod_13 : u_lay "NetJoinsModel" F_Mod 13 ∈ WA := wa_t 1194 (by decide +kernel) (by decide +kernel)
theorem iw_Mod_14 : u_lay "NetJoinsModel" F_Mod 14 ∈ WA := wa_t 1196 (by decide +kernel) (by decide +kernel)
theorem iw_Mod_15 : u_lay "NetJoinsModel" F_Mod 15 ∈ WA := wa_t 1198 (by decide +kernel) (by decide +kernel)
theorem iw_Mod_16 : u_lay "NetJoinsModel" F_Mod 16 ∈ WA := wa_t 1200 (by decide +kernel) (by decide +kernel)
theorem iw_Mod_17 : u_lay "NetJoinsModel" F_Mod 17 ∈ WA := wa_t 1202 (by decide +kernel) (by decide +kernel)
theorem iw_Mod_18 : u_lay "NetJoinsModel" F_Mod 18 ∈ WA := wa_t 1204 (by decide +kernel) (by decide +kernel)
theorem iw_Mod_19 : u_lay "NetJoinsModel" F_Mod 19 ∈ WA := wa_t 1206 (by decide +kernel) (by decide +kernel)
theorem iw_Mod_20 : u_lay "NetJoinsModel" F_Mod 20 ∈ WA := wa_t 1208 (by decide +kernel) (by decide +kernel)
theorem iw_Mod_21 : u_lay "NetJoinsModel" F_Mod 21 ∈ WA := wa_t 1210 (by decide +kernel) (by decide +kernel)
theorem iw_Mod_22 : u_lay "NetJoinsModel" F_Mod 22 ∈ WA := wa_t 1212 (by decide +kernel) (by decide +kernel)
theorem iw_Mod_23 : u_lay "NetJoinsModel" F_Mod 23 ∈ WA := wa_t 1214 (by decide +kernel) (by decide +kernel)
theorem iw_Mod_24 : u_lay "NetJoinsModel" F_Mod 24 ∈ WA := wa_t 1216 (by decide +kernel) (by decide +kernel)
theorem iw_Mod_25 : u_lay "NetJoinsModel" F_Mod 25 ∈ WA := wa_t 1218 (by decide +kernel) (by decide +kernel)
theorem iw_Mod_26 : u_lay "NetJoinsModel" F_Mod 26 ∈ WA := wa_t 1220 (by decide +kernel) (by decide +kernel)
theorem iw_Mod_27 : u_lay "NetJoinsModel" F_Mod 27 ∈ WA := wa_t 1222 (by decide +kernel) (by decide +kernel)
theorem iw_Mod_28 : u_lay "NetJoinsModel" F_Mod 28 ∈ WA := wa_t 1224 (by decide +kernel) (by decide +kernel)
theorem iw_Mod_29 : u_lay "NetJoinsModel" F_Mod 29 ∈ WA := wa_t 1226 (by decide +kernel) (by decide +kernel)
theorem iw_Mod_30 : u_lay "NetJoinsModel" F_Mod 30 ∈ WA := wa_t 1228 (by decide +kernel) (by decide +kernel)
theorem iw_Mod_31 : u_lay "NetJoinsModel" F_Mod 31 ∈ WA := wa_t 1230 (by decide +kernel) (by decide +kernel)
theorem iw_Mod_32 : u_lay "NetJoinsModel" F_Mod 32 ∈ WA := wa_t 1232 (by decide +kernel) (by decide +kernel)
theorem i_Mod : ∀ w ∈ u_ws "NetJoinsModel" F_Mod 33, w ∈ WA := by
  intro w hw
  obtain ⟨k, hk, rfl⟩ := List.mem_map.mp hw
  have hk := List.mem_range.mp hk
  match k, hk with
  | 0, _ => exact iw_Mod_0
  | 1, _ => exact iw_Mod_1
  | 2, _ => exact iw_Mod_2
  | 3, _ => exact iw_Mod_3
  | 4, _ => exact iw_Mod_4
  | 5, _ => exact iw_Mod_5
  | 6, _ => exact iw_Mod_6
  | 7, _ => exact iw_Mod_7
  | 8, _ => exact iw_Mod_8
  | 9, _ => exact iw_Mod_9
  | 10, _ => exact iw_Mod_10
  | 11, _ => exact iw_Mod_11
  | 12, _ => exact iw_Mod_12
  | 13, _ => exact iw_Mod_13
  | 14, _ => exact iw_Mod_14
  | 15, _ => exact iw_Mod_15
  | 16, _ => exact iw_Mod_16
  | 17, _ => exact iw_Mod_17
  | 18, _ => exact iw_Mod_18
  | 19, _ => exact iw_Mod_19
  | 20, _ => exact iw_Mod_20
  | 21, _ => exact iw_Mod_21
  | 22, _ => exact iw_Mod_22
  | 23, _ => exact iw_Mod_23
  | 24, _ => exact iw_Mod_24
  | 25, _ => exact iw_Mod_25
  | 26, _ => exact iw_Mod_26
  | 27, _ => exact iw_Mod_27
  | 28, _ => exact iw_Mod_28
  | 29, _ => exact iw_Mod_29
  | 30, _ => exact iw_Mod_30
  | 31, _ => exact iw_Mod_31
  | 32, _ => exact iw_Mod_32
  | k + 33, hk => omega
def F_AL : u_T := fun k => match k with
  | 0 => ("java/util/ArrayList", "elementData", "[Ljava/lang/Object;", false)
  | 1 => ("java/util/ArrayList", "size", "I", false)
  | _ => ("java/util/AbstractList", "modCount", "I", false)
def t_AL : Nat → FieldType := fun k => match k with
  | 0 => .array (.object "java/lang/Object")
  | 1 => .int
  | _ => .int
theorem n_AL : ∀ a, a < 3 → ∀ b, b < 3 → a ≠ b → (F_AL a).2.1 ≠ (F_AL b).2.1 := by decide +kernel
theorem t_AL_ok : ∀ k, k < 3 → parseFieldDescriptor (F_AL k).2.2.1 = some (t_AL k) := by decide +kernel
theorem iw_AL_0 : u_lay "java/util/ArrayList" F_AL 0 ∈ WA := wa_t 58 (by decide +kernel) (by decide +kernel)
theorem iw_AL_1 : u_lay "java/util/ArrayList" F_AL 1 ∈ WA := wa_t 60 (by decide +kernel) (by decide +kernel)
theorem iw_AL_2 : u_lay "java/util/ArrayList" F_AL 2 ∈ WA := wa_t 62 (by decide +kernel) (by decide +kernel)
theorem i_AL : ∀ w ∈ u_ws "java/util/ArrayList" F_AL 3, w ∈ WA := by
  intro w hw
  obtain ⟨k, hk, rfl⟩ := List.mem_map.mp hw
  have hk := List.mem_range.mp hk
  match k, hk with
  | 0, _ => exact iw_AL_0
  | 1, _ => exact iw_AL_1
  | 2, _ => exact iw_AL_2
  | k + 3, hk => omega
def vcl : List vw_C := [("NetJoins", F_NJ, 18), ("NetJoins$Bus", F_Bus, 4), ("NetJoins$Joins", F_Joins, 1), ("NetJoins$NetTable", F_Tab, 7), ("NetJoins$Port", F_Port, 5), ("NetJoins$Sheet", F_Sheet, 5), ("NetJoins$Spot", F_Spot, 6), ("NetJoins$Wire", F_Wire, 7), ("NetJoinsModel", F_Mod, 33), ("java/util/ArrayList", F_AL, 3)]
def lk : Nat → List Nat := fun ci => match ci with
  | 0 => [2, 2, 2, 2, 2, 2, 2, 2, 2, 2, 2, 2, 2, 2, 0, 2, 0, 0]
  | 1 => [0, 0, 0, 0]
  | 2 => [2]
  | 3 => [2, 2, 2, 2, 2, 0, 0]
  | 4 => [0, 0, 0, 0, 0]
  | 5 => [0, 0, 0, 0, 0]
  | 6 => [0, 1, 1, 0, 0, 0]
  | 7 => [0, 0, 1, 1, 1, 1, 0]
  | 8 => [0, 0, 2, 2, 0, 2, 2, 2, 0, 2, 2, 0, 2, 2, 2, 0, 2, 2, 2, 2, 0, 2, 0, 2, 2, 2, 2, 2, 2, 0, 2, 0, 0]
  | _ => [2, 0, 0]
