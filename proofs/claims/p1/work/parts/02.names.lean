def g_tbl : List Cond := lw_tbl.filter goodWord
def R_Press : String := "RotationPress"
def T_Press : u_T := fun k => match k with
  | 0 => ("RotationPress", "tape", "LRotationPress$ByteRow;", true)
  | 1 => ("RotationPress", "made", "LRotationPress$ByteRow;", true)
  | 2 => ("RotationPress", "packer", "LRotationPress$Packer;", true)
  | 3 => ("RotationPress", "unpacker", "LRotationPress$Unpacker;", true)
  | 4 => ("RotationPress", "faultPlace", "I", false)
  | _ => ("RotationPress", "piecesStand", "Z", false)
def t_Press : Nat → FieldType := fun k => match k with
  | 0 => .object "RotationPress$ByteRow"
  | 1 => .object "RotationPress$ByteRow"
  | 2 => .object "RotationPress$Packer"
  | 3 => .object "RotationPress$Unpacker"
  | 4 => .int
  | _ => .boolean
theorem n_Press : ∀ a, a < 6 → ∀ b, b < 6 → a ≠ b → (T_Press a).2.1 ≠ (T_Press b).2.1 := by decide +kernel
theorem tk_Press : ∀ k, k < 6 → parseFieldDescriptor (T_Press k).2.2.1 = some (t_Press k) := by decide +kernel
theorem i_Press : ∀ w ∈ u_ws R_Press T_Press 6, w ∈ g_tbl := by decide +kernel
def R_BitReader : String := "RotationPress$BitReader"
def T_BitReader : u_T := fun k => match k with
  | 0 => ("RotationPress$BitReader", "row", "LRotationPress$ByteRow;", true)
  | 1 => ("RotationPress$BitReader", "end", "I", false)
  | 2 => ("RotationPress$BitReader", "at", "I", false)
  | 3 => ("RotationPress$BitReader", "taken", "I", false)
  | 4 => ("RotationPress$BitReader", "fault", "I", false)
  | _ => ("RotationPress$BitReader", "faultAt", "I", false)
def t_BitReader : Nat → FieldType := fun k => match k with
  | 0 => .object "RotationPress$ByteRow"
  | 1 => .int
  | 2 => .int
  | 3 => .int
  | 4 => .int
  | _ => .int
theorem n_BitReader : ∀ a, a < 6 → ∀ b, b < 6 → a ≠ b → (T_BitReader a).2.1 ≠ (T_BitReader b).2.1 := by decide +kernel
theorem tk_BitReader : ∀ k, k < 6 → parseFieldDescriptor (T_BitReader k).2.2.1 = some (t_BitReader k) := by decide +kernel
theorem i_BitReader : ∀ w ∈ u_ws R_BitReader T_BitReader 6, w ∈ g_tbl := by decide +kernel
def R_BitWriter : String := "RotationPress$BitWriter"
def T_BitWriter : u_T := fun k => match k with
  | 0 => ("RotationPress$BitWriter", "row", "LRotationPress$ByteRow;", true)
  | 1 => ("RotationPress$BitWriter", "tableList", "LRotationPress$FrontList;", true)
  | 2 => ("RotationPress$BitWriter", "held", "I", false)
  | _ => ("RotationPress$BitWriter", "heldCount", "I", false)
def t_BitWriter : Nat → FieldType := fun k => match k with
  | 0 => .object "RotationPress$ByteRow"
  | 1 => .object "RotationPress$FrontList"
  | 2 => .int
  | _ => .int
theorem n_BitWriter : ∀ a, a < 4 → ∀ b, b < 4 → a ≠ b → (T_BitWriter a).2.1 ≠ (T_BitWriter b).2.1 := by decide +kernel
theorem tk_BitWriter : ∀ k, k < 4 → parseFieldDescriptor (T_BitWriter k).2.2.1 = some (t_BitWriter k) := by decide +kernel
theorem i_BitWriter : ∀ w ∈ u_ws R_BitWriter T_BitWriter 4, w ∈ g_tbl := by decide +kernel
def R_Block : String := "RotationPress$Block"
def T_Block : u_T := fun k => match k with
  | 0 => ("RotationPress$Block", "told", "[I", true)
  | 1 => ("RotationPress$Block", "toldCount", "I", false)
  | 2 => ("RotationPress$Block", "last", "[I", true)
  | 3 => ("RotationPress$Block", "ups", "[I", true)
  | 4 => ("RotationPress$Block", "symbols", "[I", true)
  | 5 => ("RotationPress$Block", "symbolCount", "I", false)
  | 6 => ("RotationPress$Block", "used", "[I", true)
  | 7 => ("RotationPress$Block", "list", "LRotationPress$FrontList;", true)
  | 8 => ("RotationPress$Block", "origin", "I", false)
  | 9 => ("RotationPress$Block", "check", "I", false)
  | 10 => ("RotationPress$Block", "groupTables", "[I", true)
  | 11 => ("RotationPress$Block", "groupCount", "I", false)
  | 12 => ("RotationPress$Block", "tableCount", "I", false)
  | _ => ("RotationPress$Block", "tables", "[LRotationPress$CodeTable;", true)
def t_Block : Nat → FieldType := fun k => match k with
  | 0 => .array .int
  | 1 => .int
  | 2 => .array .int
  | 3 => .array .int
  | 4 => .array .int
  | 5 => .int
  | 6 => .array .int
  | 7 => .object "RotationPress$FrontList"
  | 8 => .int
  | 9 => .int
  | 10 => .array .int
  | 11 => .int
  | 12 => .int
  | _ => .array (.object "RotationPress$CodeTable")
theorem n_Block : ∀ a, a < 14 → ∀ b, b < 14 → a ≠ b → (T_Block a).2.1 ≠ (T_Block b).2.1 := by decide +kernel
theorem tk_Block : ∀ k, k < 14 → parseFieldDescriptor (T_Block k).2.2.1 = some (t_Block k) := by decide +kernel
theorem i_Block : ∀ w ∈ u_ws R_Block T_Block 14, w ∈ g_tbl := by decide +kernel
def R_ByteRow : String := "RotationPress$ByteRow"
def T_ByteRow : u_T := fun k => match k with
  | 0 => ("RotationPress$ByteRow", "bytes", "[I", false)
  | _ => ("RotationPress$ByteRow", "count", "I", false)
def t_ByteRow : Nat → FieldType := fun k => match k with
  | 0 => .array .int
  | _ => .int
theorem n_ByteRow : ∀ a, a < 2 → ∀ b, b < 2 → a ≠ b → (T_ByteRow a).2.1 ≠ (T_ByteRow b).2.1 := by decide +kernel
theorem tk_ByteRow : ∀ k, k < 2 → parseFieldDescriptor (T_ByteRow k).2.2.1 = some (t_ByteRow k) := by decide +kernel
theorem i_ByteRow : ∀ w ∈ u_ws R_ByteRow T_ByteRow 2, w ∈ g_tbl := by decide +kernel
def R_Check : String := "RotationPress$Check"
def T_Check : u_T := fun k => match k with
  | 0 => ("RotationPress$Check", "leaves", "[I", true)
  | _ => ("RotationPress$Check", "bits", "I", false)
def t_Check : Nat → FieldType := fun k => match k with
  | 0 => .array .int
  | _ => .int
theorem n_Check : ∀ a, a < 2 → ∀ b, b < 2 → a ≠ b → (T_Check a).2.1 ≠ (T_Check b).2.1 := by decide +kernel
theorem tk_Check : ∀ k, k < 2 → parseFieldDescriptor (T_Check k).2.2.1 = some (t_Check k) := by decide +kernel
theorem i_Check : ∀ w ∈ u_ws R_Check T_Check 2, w ∈ g_tbl := by decide +kernel
def R_CodeTable : String := "RotationPress$CodeTable"
def T_CodeTable : u_T := fun k => match k with
  | 0 => ("RotationPress$CodeTable", "lengths", "[I", true)
  | 1 => ("RotationPress$CodeTable", "codes", "[I", true)
  | 2 => ("RotationPress$CodeTable", "kinds", "I", false)
  | 3 => ("RotationPress$CodeTable", "sorted", "[I", true)
  | 4 => ("RotationPress$CodeTable", "counts", "[I", true)
  | 5 => ("RotationPress$CodeTable", "firsts", "[I", true)
  | 6 => ("RotationPress$CodeTable", "places", "[I", true)
  | _ => ("RotationPress$CodeTable", "filled", "I", false)
def t_CodeTable : Nat → FieldType := fun k => match k with
  | 0 => .array .int
  | 1 => .array .int
  | 2 => .int
  | 3 => .array .int
  | 4 => .array .int
  | 5 => .array .int
  | 6 => .array .int
  | _ => .int
theorem n_CodeTable : ∀ a, a < 8 → ∀ b, b < 8 → a ≠ b → (T_CodeTable a).2.1 ≠ (T_CodeTable b).2.1 := by decide +kernel
theorem tk_CodeTable : ∀ k, k < 8 → parseFieldDescriptor (T_CodeTable k).2.2.1 = some (t_CodeTable k) := by decide +kernel
theorem i_CodeTable : ∀ w ∈ u_ws R_CodeTable T_CodeTable 8, w ∈ g_tbl := by decide +kernel
def R_Coder : String := "RotationPress$Coder"
def T_Coder : u_T := fun k => match k with
  | 0 => ("RotationPress$Coder", "weights", "[I", true)
  | 1 => ("RotationPress$Coder", "sums", "[I", true)
  | 2 => ("RotationPress$Coder", "depths", "[I", true)
  | 3 => ("RotationPress$Coder", "sorted", "[I", true)
  | _ => ("RotationPress$Coder", "slots", "[I", true)
def t_Coder : Nat → FieldType := fun k => match k with
  | 0 => .array .int
  | 1 => .array .int
  | 2 => .array .int
  | 3 => .array .int
  | _ => .array .int
theorem n_Coder : ∀ a, a < 5 → ∀ b, b < 5 → a ≠ b → (T_Coder a).2.1 ≠ (T_Coder b).2.1 := by decide +kernel
theorem tk_Coder : ∀ k, k < 5 → parseFieldDescriptor (T_Coder k).2.2.1 = some (t_Coder k) := by decide +kernel
theorem i_Coder : ∀ w ∈ u_ws R_Coder T_Coder 5, w ∈ g_tbl := by decide +kernel
def R_FrontList : String := "RotationPress$FrontList"
def T_FrontList : u_T := fun k => match k with
  | 0 => ("RotationPress$FrontList", "members", "[I", true)
  | _ => ("RotationPress$FrontList", "count", "I", false)
def t_FrontList : Nat → FieldType := fun k => match k with
  | 0 => .array .int
  | _ => .int
theorem n_FrontList : ∀ a, a < 2 → ∀ b, b < 2 → a ≠ b → (T_FrontList a).2.1 ≠ (T_FrontList b).2.1 := by decide +kernel
theorem tk_FrontList : ∀ k, k < 2 → parseFieldDescriptor (T_FrontList k).2.2.1 = some (t_FrontList k) := by decide +kernel
theorem i_FrontList : ∀ w ∈ u_ws R_FrontList T_FrontList 2, w ∈ g_tbl := by decide +kernel
def R_Packer : String := "RotationPress$Packer"
def T_Packer : u_T := fun k => match k with
  | 0 => ("RotationPress$Packer", "tape", "LRotationPress$ByteRow;", true)
  | 1 => ("RotationPress$Packer", "block", "LRotationPress$Block;", true)
  | 2 => ("RotationPress$Packer", "blocks", "I", false)
  | 3 => ("RotationPress$Packer", "toldInAll", "I", false)
  | 4 => ("RotationPress$Packer", "symbolsInAll", "I", false)
  | 5 => ("RotationPress$Packer", "groupsInAll", "I", false)
  | 6 => ("RotationPress$Packer", "check", "LRotationPress$Check;", true)
  | 7 => ("RotationPress$Packer", "rotations", "LRotationPress$Rotations;", true)
  | 8 => ("RotationPress$Packer", "coder", "LRotationPress$Coder;", true)
  | _ => ("RotationPress$Packer", "writer", "LRotationPress$BitWriter;", true)
def t_Packer : Nat → FieldType := fun k => match k with
  | 0 => .object "RotationPress$ByteRow"
  | 1 => .object "RotationPress$Block"
  | 2 => .int
  | 3 => .int
  | 4 => .int
  | 5 => .int
  | 6 => .object "RotationPress$Check"
  | 7 => .object "RotationPress$Rotations"
  | 8 => .object "RotationPress$Coder"
  | _ => .object "RotationPress$BitWriter"
theorem n_Packer : ∀ a, a < 10 → ∀ b, b < 10 → a ≠ b → (T_Packer a).2.1 ≠ (T_Packer b).2.1 := by decide +kernel
theorem tk_Packer : ∀ k, k < 10 → parseFieldDescriptor (T_Packer k).2.2.1 = some (t_Packer k) := by decide +kernel
theorem i_Packer : ∀ w ∈ u_ws R_Packer T_Packer 10, w ∈ g_tbl := by decide +kernel
def R_Rotations : String := "RotationPress$Rotations"
def T_Rotations : u_T := fun k => match k with
  | 0 => ("RotationPress$Rotations", "order", "[I", false)
  | 1 => ("RotationPress$Rotations", "orderNext", "[I", false)
  | 2 => ("RotationPress$Rotations", "rank", "[I", false)
  | 3 => ("RotationPress$Rotations", "rankNext", "[I", false)
  | 4 => ("RotationPress$Rotations", "slots", "[I", true)
  | _ => ("RotationPress$Rotations", "ranks", "I", false)
def t_Rotations : Nat → FieldType := fun k => match k with
  | 0 => .array .int
  | 1 => .array .int
  | 2 => .array .int
  | 3 => .array .int
  | 4 => .array .int
  | _ => .int
theorem n_Rotations : ∀ a, a < 6 → ∀ b, b < 6 → a ≠ b → (T_Rotations a).2.1 ≠ (T_Rotations b).2.1 := by decide +kernel
theorem tk_Rotations : ∀ k, k < 6 → parseFieldDescriptor (T_Rotations k).2.2.1 = some (t_Rotations k) := by decide +kernel
theorem i_Rotations : ∀ w ∈ u_ws R_Rotations T_Rotations 6, w ∈ g_tbl := by decide +kernel
def R_Unpacker : String := "RotationPress$Unpacker"
def T_Unpacker : u_T := fun k => match k with
  | 0 => ("RotationPress$Unpacker", "row", "LRotationPress$ByteRow;", true)
  | 1 => ("RotationPress$Unpacker", "reader", "LRotationPress$BitReader;", true)
  | 2 => ("RotationPress$Unpacker", "check", "LRotationPress$Check;", true)
  | 3 => ("RotationPress$Unpacker", "list", "LRotationPress$FrontList;", true)
  | 4 => ("RotationPress$Unpacker", "tableList", "LRotationPress$FrontList;", true)
  | 5 => ("RotationPress$Unpacker", "tables", "[LRotationPress$CodeTable;", true)
  | 6 => ("RotationPress$Unpacker", "groupTables", "[I", true)
  | 7 => ("RotationPress$Unpacker", "last", "[I", true)
  | 8 => ("RotationPress$Unpacker", "nexts", "[I", true)
  | 9 => ("RotationPress$Unpacker", "slots", "[I", true)
  | 10 => ("RotationPress$Unpacker", "limit", "I", false)
  | 11 => ("RotationPress$Unpacker", "most", "I", false)
  | 12 => ("RotationPress$Unpacker", "blockAt", "I", false)
  | 13 => ("RotationPress$Unpacker", "originAt", "I", false)
  | 14 => ("RotationPress$Unpacker", "origin", "I", false)
  | 15 => ("RotationPress$Unpacker", "blockCheck", "I", false)
  | 16 => ("RotationPress$Unpacker", "tableCount", "I", false)
  | 17 => ("RotationPress$Unpacker", "groupCount", "I", false)
  | _ => ("RotationPress$Unpacker", "lastCount", "I", false)
def t_Unpacker : Nat → FieldType := fun k => match k with
  | 0 => .object "RotationPress$ByteRow"
  | 1 => .object "RotationPress$BitReader"
  | 2 => .object "RotationPress$Check"
  | 3 => .object "RotationPress$FrontList"
  | 4 => .object "RotationPress$FrontList"
  | 5 => .array (.object "RotationPress$CodeTable")
  | 6 => .array .int
  | 7 => .array .int
  | 8 => .array .int
  | 9 => .array .int
  | 10 => .int
  | 11 => .int
  | 12 => .int
  | 13 => .int
  | 14 => .int
  | 15 => .int
  | 16 => .int
  | 17 => .int
  | _ => .int
theorem n_Unpacker : ∀ a, a < 19 → ∀ b, b < 19 → a ≠ b → (T_Unpacker a).2.1 ≠ (T_Unpacker b).2.1 := by decide +kernel
theorem tk_Unpacker : ∀ k, k < 19 → parseFieldDescriptor (T_Unpacker k).2.2.1 = some (t_Unpacker k) := by decide +kernel
theorem i_Unpacker : ∀ w ∈ u_ws R_Unpacker T_Unpacker 19, w ∈ g_tbl := by decide +kernel
def R_Model : String := "RotationPressModel"
def T_Model : u_T := fun k => match k with
  | 0 => ("RotationPressModel", "tape", "[B", true)
  | 1 => ("RotationPressModel", "fed", "I", false)
  | 2 => ("RotationPressModel", "out", "[B", true)
  | 3 => ("RotationPressModel", "size", "I", false)
  | 4 => ("RotationPressModel", "thrown", "I", false)
  | 5 => ("RotationPressModel", "place", "I", false)
  | 6 => ("RotationPressModel", "told", "[I", true)
  | 7 => ("RotationPressModel", "tells", "I", false)
  | 8 => ("RotationPressModel", "order", "[I", true)
  | 9 => ("RotationPressModel", "merged", "[I", true)
  | 10 => ("RotationPressModel", "last", "[I", true)
  | 11 => ("RotationPressModel", "up", "[I", true)
  | 12 => ("RotationPressModel", "symbols", "[I", true)
  | 13 => ("RotationPressModel", "many", "I", false)
  | 14 => ("RotationPressModel", "list", "[I", true)
  | 15 => ("RotationPressModel", "listed", "I", false)
  | 16 => ("RotationPressModel", "tables", "[I", true)
  | 17 => ("RotationPressModel", "groups", "I", false)
  | 18 => ("RotationPressModel", "tableCount", "I", false)
  | 19 => ("RotationPressModel", "lengths", "[I", true)
  | 20 => ("RotationPressModel", "codes", "[I", true)
  | 21 => ("RotationPressModel", "weights", "[I", true)
  | 22 => ("RotationPressModel", "parents", "[I", true)
  | 23 => ("RotationPressModel", "counts", "[I", true)
  | 24 => ("RotationPressModel", "origin", "I", false)
  | 25 => ("RotationPressModel", "check", "I", false)
  | 26 => ("RotationPressModel", "blocks", "I", false)
  | 27 => ("RotationPressModel", "fresh", "Z", false)
  | 28 => ("RotationPressModel", "allTells", "I", false)
  | 29 => ("RotationPressModel", "allSymbols", "I", false)
  | 30 => ("RotationPressModel", "allGroups", "I", false)
  | 31 => ("RotationPressModel", "bit", "I", false)
  | 32 => ("RotationPressModel", "checkOfAll", "I", false)
  | 33 => ("RotationPressModel", "fault", "I", false)
  | 34 => ("RotationPressModel", "total", "I", false)
  | 35 => ("RotationPressModel", "rows", "[I", true)
  | 36 => ("RotationPressModel", "from", "[I", true)
  | 37 => ("RotationPressModel", "rowCount", "I", false)
  | 38 => ("RotationPressModel", "chosen", "[I", true)
  | 39 => ("RotationPressModel", "chosenCount", "I", false)
  | 40 => ("RotationPressModel", "seen", "[I", true)
  | 41 => ("RotationPressModel", "prefix", "[I", true)
  | 42 => ("RotationPressModel", "seenTables", "I", false)
  | 43 => ("RotationPressModel", "seenBytes", "I", false)
  | 44 => ("RotationPressModel", "limit", "I", false)
  | _ => ("RotationPressModel", "count", "I", false)
def t_Model : Nat → FieldType := fun k => match k with
  | 0 => .array .byte
  | 1 => .int
  | 2 => .array .byte
  | 3 => .int
  | 4 => .int
  | 5 => .int
  | 6 => .array .int
  | 7 => .int
  | 8 => .array .int
  | 9 => .array .int
  | 10 => .array .int
  | 11 => .array .int
  | 12 => .array .int
  | 13 => .int
  | 14 => .array .int
  | 15 => .int
  | 16 => .array .int
  | 17 => .int
  | 18 => .int
  | 19 => .array .int
  | 20 => .array .int
  | 21 => .array .int
  | 22 => .array .int
  | 23 => .array .int
  | 24 => .int
  | 25 => .int
  | 26 => .int
  | 27 => .boolean
  | 28 => .int
  | 29 => .int
  | 30 => .int
  | 31 => .int
  | 32 => .int
  | 33 => .int
  | 34 => .int
  | 35 => .array .int
  | 36 => .array .int
  | 37 => .int
  | 38 => .array .int
  | 39 => .int
  | 40 => .array .int
  | 41 => .array .int
  | 42 => .int
  | 43 => .int
  | 44 => .int
  | _ => .int
theorem n_Model : ∀ a, a < 46 → ∀ b, b < 46 → a ≠ b → (T_Model a).2.1 ≠ (T_Model b).2.1 := by decide +kernel
theorem tk_Model : ∀ k, k < 46 → parseFieldDescriptor (T_Model k).2.2.1 = some (t_Model k) := by decide +kernel
theorem i_Model : ∀ w ∈ u_ws R_Model T_Model 46, w ∈ g_tbl := by decide +kernel
abbrev vwCl : List vw_C := [(R_Press, T_Press, 6), (R_BitReader, T_BitReader, 6), (R_BitWriter, T_BitWriter, 4), (R_Block, T_Block, 14), (R_ByteRow, T_ByteRow, 2), (R_Check, T_Check, 2), (R_CodeTable, T_CodeTable, 8), (R_Coder, T_Coder, 5), (R_FrontList, T_FrontList, 2), (R_Packer, T_Packer, 10), (R_Rotations, T_Rotations, 6), (R_Unpacker, T_Unpacker, 19), (R_Model, T_Model, 46)]
def tyA (K : Nat → ClassId) : List (ClassId × FieldType) := [(K 0, .int), (K 1, .byte), (K 2, .long), (K 3, .object "RotationPress$CodeTable")]
