/-! the classes: names, fields, types; the arrays' types: by program out of the claim's own tables -/
def R_Net : String := "TextNet"
def T_Net : u_T := fun k => match k with
  | 0 => ("TextNet", "draft", "LTextNet$Draft;", true)
  | 1 => ("TextNet", "switches", "[LTextNet$Switch;", true)
  | 2 => ("TextNet", "lines", "[LTextNet$Line;", true)
  | 3 => ("TextNet", "messages", "[LTextNet$Message;", true)
  | 4 => ("TextNet", "parts", "[I", true)
  | 5 => ("TextNet", "messageCount", "I", false)
  | _ => ("TextNet", "minute", "I", false)
def t_Net : Nat → FieldType := fun k => match k with
  | 0 => .object "TextNet$Draft"
  | 1 => .array (.object "TextNet$Switch")
  | 2 => .array (.object "TextNet$Line")
  | 3 => .array (.object "TextNet$Message")
  | 4 => .array .int
  | 5 => .int
  | _ => .int
theorem n_Net : ∀ a, a < 7 → ∀ b, b < 7 → a ≠ b → (T_Net a).2.1 ≠ (T_Net b).2.1 := by decide +kernel
theorem t_Net_ok : ∀ k, k < 7 → parseFieldDescriptor (T_Net k).2.2.1 = some (t_Net k) := by decide +kernel
set_option maxRecDepth 20000 in
theorem g_Net : GoodIn lw_tbl (u_ws R_Net T_Net 7) := goodIn_r _ [171, 173, 175, 177, 179, 181, 183] (by decide +kernel) (by decide +kernel)
def R_Chn : String := "TextNet$Channel"
def T_Chn : u_T := fun k => match k with
  | 0 => ("TextNet$Channel", "queues", "[LTextNet$CopyList;", true)
  | 1 => ("TextNet$Channel", "kept", "LTextNet$Frames;", true)
  | 2 => ("TextNet$Channel", "wire", "LTextNet$Frames;", true)
  | 3 => ("TextNet$Channel", "nextSerial", "I", false)
  | 4 => ("TextNet$Channel", "expected", "I", false)
  | 5 => ("TextNet$Channel", "messagePutAt", "I", false)
  | _ => ("TextNet$Channel", "requestPutAt", "I", false)
def t_Chn : Nat → FieldType := fun k => match k with
  | 0 => .array (.object "TextNet$CopyList")
  | 1 => .object "TextNet$Frames"
  | 2 => .object "TextNet$Frames"
  | 3 => .int
  | 4 => .int
  | 5 => .int
  | _ => .int
theorem n_Chn : ∀ a, a < 7 → ∀ b, b < 7 → a ≠ b → (T_Chn a).2.1 ≠ (T_Chn b).2.1 := by decide +kernel
theorem t_Chn_ok : ∀ k, k < 7 → parseFieldDescriptor (T_Chn k).2.2.1 = some (t_Chn k) := by decide +kernel
set_option maxRecDepth 20000 in
theorem g_Chn : GoodIn lw_tbl (u_ws R_Chn T_Chn 7) := goodIn_r _ [316, 318, 320, 322, 324, 326, 328] (by decide +kernel) (by decide +kernel)
def R_Cpy : String := "TextNet$Copy"
def T_Cpy : u_T := fun k => match k with
  | 0 => ("TextNet$Copy", "message", "LTextNet$Message;", true)
  | 1 => ("TextNet$Copy", "addresses", "I", true)
  | 2 => ("TextNet$Copy", "cameBy", "I", true)
  | _ => ("TextNet$Copy", "next", "LTextNet$Copy;", false)
def t_Cpy : Nat → FieldType := fun k => match k with
  | 0 => .object "TextNet$Message"
  | 1 => .int
  | 2 => .int
  | _ => .object "TextNet$Copy"
theorem n_Cpy : ∀ a, a < 4 → ∀ b, b < 4 → a ≠ b → (T_Cpy a).2.1 ≠ (T_Cpy b).2.1 := by decide +kernel
theorem t_Cpy_ok : ∀ k, k < 4 → parseFieldDescriptor (T_Cpy k).2.2.1 = some (t_Cpy k) := by decide +kernel
set_option maxRecDepth 20000 in
theorem g_Cpy : GoodIn lw_tbl (u_ws R_Cpy T_Cpy 4) := goodIn_r _ [733, 735, 737, 739] (by decide +kernel) (by decide +kernel)
def R_Lst : String := "TextNet$CopyList"
def T_Lst : u_T := fun k => match k with
  | 0 => ("TextNet$CopyList", "first", "LTextNet$Copy;", false)
  | 1 => ("TextNet$CopyList", "last", "LTextNet$Copy;", false)
  | _ => ("TextNet$CopyList", "size", "I", false)
def t_Lst : Nat → FieldType := fun k => match k with
  | 0 => .object "TextNet$Copy"
  | 1 => .object "TextNet$Copy"
  | _ => .int
theorem n_Lst : ∀ a, a < 3 → ∀ b, b < 3 → a ≠ b → (T_Lst a).2.1 ≠ (T_Lst b).2.1 := by decide +kernel
theorem t_Lst_ok : ∀ k, k < 3 → parseFieldDescriptor (T_Lst k).2.2.1 = some (t_Lst k) := by decide +kernel
set_option maxRecDepth 20000 in
theorem g_Lst : GoodIn lw_tbl (u_ws R_Lst T_Lst 3) := goodIn_r _ [127, 129, 131] (by decide +kernel) (by decide +kernel)
def R_Drf : String := "TextNet$Draft"
def T_Drf : u_T := fun k => match k with
  | 0 => ("TextNet$Draft", "bytes", "[B", true)
  | 1 => ("TextNet$Draft", "addresses", "[J", true)
  | 2 => ("TextNet$Draft", "addressCount", "I", false)
  | 3 => ("TextNet$Draft", "priority", "I", false)
  | 4 => ("TextNet$Draft", "length", "I", false)
  | 5 => ("TextNet$Draft", "place", "I", false)
  | _ => ("TextNet$Draft", "fault", "I", false)
def t_Drf : Nat → FieldType := fun k => match k with
  | 0 => .array .byte
  | 1 => .array .long
  | 2 => .int
  | 3 => .int
  | 4 => .int
  | 5 => .int
  | _ => .int
theorem n_Drf : ∀ a, a < 7 → ∀ b, b < 7 → a ≠ b → (T_Drf a).2.1 ≠ (T_Drf b).2.1 := by decide +kernel
theorem t_Drf_ok : ∀ k, k < 7 → parseFieldDescriptor (T_Drf k).2.2.1 = some (t_Drf k) := by decide +kernel
set_option maxRecDepth 20000 in
theorem g_Drf : GoodIn lw_tbl (u_ws R_Drf T_Drf 7) := goodIn_r _ [86, 88, 90, 92, 94, 96, 98] (by decide +kernel) (by decide +kernel)
def R_Ent : String := "TextNet$Entry"
def T_Ent : u_T := fun k => match k with
  | 0 => ("TextNet$Entry", "prefix", "J", true)
  | 1 => ("TextNet$Entry", "length", "I", true)
  | 2 => ("TextNet$Entry", "main", "I", true)
  | _ => ("TextNet$Entry", "alternate", "I", true)
def t_Ent : Nat → FieldType := fun k => match k with
  | 0 => .long
  | 1 => .int
  | 2 => .int
  | _ => .int
theorem n_Ent : ∀ a, a < 4 → ∀ b, b < 4 → a ≠ b → (T_Ent a).2.1 ≠ (T_Ent b).2.1 := by decide +kernel
theorem t_Ent_ok : ∀ k, k < 4 → parseFieldDescriptor (T_Ent k).2.2.1 = some (t_Ent k) := by decide +kernel
set_option maxRecDepth 20000 in
theorem g_Ent : GoodIn lw_tbl (u_ws R_Ent T_Ent 4) := goodIn_r _ [420, 422, 424, 426] (by decide +kernel) (by decide +kernel)
def R_Frm : String := "TextNet$Frame"
def T_Frm : u_T := fun k => match k with
  | 0 => ("TextNet$Frame", "serial", "I", true)
  | 1 => ("TextNet$Frame", "copy", "LTextNet$Copy;", true)
  | _ => ("TextNet$Frame", "isRequest", "Z", true)
def t_Frm : Nat → FieldType := fun k => match k with
  | 0 => .int
  | 1 => .object "TextNet$Copy"
  | _ => .boolean
theorem n_Frm : ∀ a, a < 3 → ∀ b, b < 3 → a ≠ b → (T_Frm a).2.1 ≠ (T_Frm b).2.1 := by decide +kernel
theorem t_Frm_ok : ∀ k, k < 3 → parseFieldDescriptor (T_Frm k).2.2.1 = some (t_Frm k) := by decide +kernel
set_option maxRecDepth 20000 in
theorem g_Frm : GoodIn lw_tbl (u_ws R_Frm T_Frm 3) := goodIn_r _ [802, 804, 806] (by decide +kernel) (by decide +kernel)
def R_Frs : String := "TextNet$Frames"
def T_Frs : u_T := fun k => match k with
  | 0 => ("TextNet$Frames", "ring", "[LTextNet$Frame;", true)
  | 1 => ("TextNet$Frames", "start", "I", false)
  | _ => ("TextNet$Frames", "size", "I", false)
def t_Frs : Nat → FieldType := fun k => match k with
  | 0 => .array (.object "TextNet$Frame")
  | 1 => .int
  | _ => .int
theorem n_Frs : ∀ a, a < 3 → ∀ b, b < 3 → a ≠ b → (T_Frs a).2.1 ≠ (T_Frs b).2.1 := by decide +kernel
theorem t_Frs_ok : ∀ k, k < 3 → parseFieldDescriptor (T_Frs k).2.2.1 = some (t_Frs k) := by decide +kernel
set_option maxRecDepth 20000 in
theorem g_Frs : GoodIn lw_tbl (u_ws R_Frs T_Frs 3) := goodIn_r _ [295, 297, 299] (by decide +kernel) (by decide +kernel)
def R_Lin : String := "TextNet$Line"
def T_Lin : u_T := fun k => match k with
  | 0 => ("TextNet$Line", "a", "I", true)
  | 1 => ("TextNet$Line", "b", "I", true)
  | 2 => ("TextNet$Line", "forth", "LTextNet$Channel;", true)
  | 3 => ("TextNet$Line", "back", "LTextNet$Channel;", true)
  | _ => ("TextNet$Line", "inService", "Z", false)
def t_Lin : Nat → FieldType := fun k => match k with
  | 0 => .int
  | 1 => .int
  | 2 => .object "TextNet$Channel"
  | 3 => .object "TextNet$Channel"
  | _ => .boolean
theorem n_Lin : ∀ a, a < 5 → ∀ b, b < 5 → a ≠ b → (T_Lin a).2.1 ≠ (T_Lin b).2.1 := by decide +kernel
theorem t_Lin_ok : ∀ k, k < 5 → parseFieldDescriptor (T_Lin k).2.2.1 = some (t_Lin k) := by decide +kernel
set_option maxRecDepth 20000 in
theorem g_Lin : GoodIn lw_tbl (u_ws R_Lin T_Lin 5) := goodIn_r _ [341, 343, 345, 347, 349] (by decide +kernel) (by decide +kernel)
def R_Msg : String := "TextNet$Message"
def T_Msg : u_T := fun k => match k with
  | 0 => ("TextNet$Message", "text", "[B", true)
  | 1 => ("TextNet$Message", "addresses", "[J", true)
  | 2 => ("TextNet$Message", "priority", "I", true)
  | 3 => ("TextNet$Message", "arrivedFor", "I", false)
  | _ => ("TextNet$Message", "desks", "I", false)
def t_Msg : Nat → FieldType := fun k => match k with
  | 0 => .array .byte
  | 1 => .array .long
  | 2 => .int
  | 3 => .int
  | _ => .int
theorem n_Msg : ∀ a, a < 5 → ∀ b, b < 5 → a ≠ b → (T_Msg a).2.1 ≠ (T_Msg b).2.1 := by decide +kernel
theorem t_Msg_ok : ∀ k, k < 5 → parseFieldDescriptor (T_Msg k).2.2.1 = some (t_Msg k) := by decide +kernel
set_option maxRecDepth 20000 in
theorem g_Msg : GoodIn lw_tbl (u_ws R_Msg T_Msg 5) := goodIn_r _ [668, 670, 672, 674, 676] (by decide +kernel) (by decide +kernel)
def R_Swt : String := "TextNet$Switch"
def T_Swt : u_T := fun k => match k with
  | 0 => ("TextNet$Switch", "entries", "[LTextNet$Entry;", true)
  | 1 => ("TextNet$Switch", "desk", "[LTextNet$Message;", true)
  | 2 => ("TextNet$Switch", "held", "LTextNet$CopyList;", true)
  | 3 => ("TextNet$Switch", "entryCount", "I", false)
  | 4 => ("TextNet$Switch", "deskCount", "I", false)
  | 5 => ("TextNet$Switch", "lineCount", "I", false)
  | 6 => ("TextNet$Switch", "unknown", "I", false)
  | _ => ("TextNet$Switch", "doubles", "I", false)
def t_Swt : Nat → FieldType := fun k => match k with
  | 0 => .array (.object "TextNet$Entry")
  | 1 => .array (.object "TextNet$Message")
  | 2 => .object "TextNet$CopyList"
  | 3 => .int
  | 4 => .int
  | 5 => .int
  | 6 => .int
  | _ => .int
theorem n_Swt : ∀ a, a < 8 → ∀ b, b < 8 → a ≠ b → (T_Swt a).2.1 ≠ (T_Swt b).2.1 := by decide +kernel
theorem t_Swt_ok : ∀ k, k < 8 → parseFieldDescriptor (T_Swt k).2.2.1 = some (t_Swt k) := by decide +kernel
set_option maxRecDepth 20000 in
theorem g_Swt : GoodIn lw_tbl (u_ws R_Swt T_Swt 8) := goodIn_r _ [147, 149, 151, 153, 155, 157, 159, 161] (by decide +kernel) (by decide +kernel)
def R_Mod : String := "TextNetModel"
def T_Mod : u_T := fun k => match k with
  | 0 => ("TextNetModel", "code", "I", false)
  | 1 => ("TextNetModel", "minute", "I", false)
  | 2 => ("TextNetModel", "puts", "I", false)
  | 3 => ("TextNetModel", "putAt", "[I", true)
  | 4 => ("TextNetModel", "putBytes", "[I", true)
  | 5 => ("TextNetModel", "text", "[I", true)
  | 6 => ("TextNetModel", "isLine", "[Z", true)
  | 7 => ("TextNetModel", "endA", "[I", true)
  | 8 => ("TextNetModel", "endB", "[I", true)
  | 9 => ("TextNetModel", "serves", "[Z", true)
  | 10 => ("TextNetModel", "routes", "[I", true)
  | 11 => ("TextNetModel", "prefix", "[J", true)
  | 12 => ("TextNetModel", "prefixLength", "[I", true)
  | 13 => ("TextNetModel", "mainLine", "[I", true)
  | 14 => ("TextNetModel", "otherLine", "[I", true)
  | 15 => ("TextNetModel", "messages", "I", false)
  | 16 => ("TextNetModel", "putsThen", "[I", true)
  | 17 => ("TextNetModel", "lengthOf", "[I", true)
  | 18 => ("TextNetModel", "priority", "[I", true)
  | 19 => ("TextNetModel", "addresses", "[I", true)
  | 20 => ("TextNetModel", "address", "[J", true)
  | 21 => ("TextNetModel", "come", "[I", true)
  | 22 => ("TextNetModel", "copies", "I", false)
  | 23 => ("TextNetModel", "copy", "[I", true)
  | 24 => ("TextNetModel", "next", "[I", true)
  | 25 => ("TextNetModel", "expects", "[I", true)
  | 26 => ("TextNetModel", "keptMany", "[I", true)
  | 27 => ("TextNetModel", "kept", "[I", true)
  | 28 => ("TextNetModel", "frames", "[I", true)
  | 29 => ("TextNetModel", "frame", "[I", true)
  | 30 => ("TextNetModel", "lastPut", "[I", true)
  | 31 => ("TextNetModel", "lastAsked", "[I", true)
  | 32 => ("TextNetModel", "hasAsked", "[Z", true)
  | 33 => ("TextNetModel", "unknown", "[I", true)
  | 34 => ("TextNetModel", "doubles", "[I", true)
  | 35 => ("TextNetModel", "arrivals", "[I", true)
  | 36 => ("TextNetModel", "arrival", "[I", true)
  | 37 => ("TextNetModel", "fault", "I", false)
  | 38 => ("TextNetModel", "rule", "I", false)
  | 39 => ("TextNetModel", "length", "I", false)
  | 40 => ("TextNetModel", "at", "I", false)
  | 41 => ("TextNetModel", "asks", "I", false)
  | _ => ("TextNetModel", "shares", "[I", true)
def t_Mod : Nat → FieldType := fun k => match k with
  | 0 => .int
  | 1 => .int
  | 2 => .int
  | 3 => .array .int
  | 4 => .array .int
  | 5 => .array .int
  | 6 => .array .boolean
  | 7 => .array .int
  | 8 => .array .int
  | 9 => .array .boolean
  | 10 => .array .int
  | 11 => .array .long
  | 12 => .array .int
  | 13 => .array .int
  | 14 => .array .int
  | 15 => .int
  | 16 => .array .int
  | 17 => .array .int
  | 18 => .array .int
  | 19 => .array .int
  | 20 => .array .long
  | 21 => .array .int
  | 22 => .int
  | 23 => .array .int
  | 24 => .array .int
  | 25 => .array .int
  | 26 => .array .int
  | 27 => .array .int
  | 28 => .array .int
  | 29 => .array .int
  | 30 => .array .int
  | 31 => .array .int
  | 32 => .array .boolean
  | 33 => .array .int
  | 34 => .array .int
  | 35 => .array .int
  | 36 => .array .int
  | 37 => .int
  | 38 => .int
  | 39 => .int
  | 40 => .int
  | 41 => .int
  | _ => .array .int
set_option maxRecDepth 20000 in
theorem n_Mod : ∀ a, a < 43 → ∀ b, b < 43 → a ≠ b → (T_Mod a).2.1 ≠ (T_Mod b).2.1 := by decide +kernel
theorem t_Mod_ok : ∀ k, k < 43 → parseFieldDescriptor (T_Mod k).2.2.1 = some (t_Mod k) := by decide +kernel
set_option maxRecDepth 20000 in
theorem g_Mod : GoodIn lw_tbl (u_ws R_Mod T_Mod 43) := goodIn_r _ [1016, 1018, 1020, 1022, 1024, 1026, 1028, 1030, 1032, 1034, 1036, 1038, 1040, 1042, 1044, 1046, 1048, 1050, 1052, 1054, 1056, 1058, 1060, 1062, 1064, 1066, 1068, 1070, 1072, 1074, 1076, 1078, 1080, 1082, 1084, 1086, 1088, 1090, 1092, 1094, 1096, 1098, 1100] (by decide +kernel) (by decide +kernel)
abbrev vwCl : List vw_C := [(R_Net, T_Net, 7), (R_Chn, T_Chn, 7), (R_Cpy, T_Cpy, 4), (R_Lst, T_Lst, 3), (R_Drf, T_Drf, 7), (R_Ent, T_Ent, 4), (R_Frm, T_Frm, 3), (R_Frs, T_Frs, 3), (R_Lin, T_Lin, 5), (R_Msg, T_Msg, 5), (R_Swt, T_Swt, 8), (R_Mod, T_Mod, 43)]
def aTy : List FieldType := [.int, .long, .byte, .boolean, .object "TextNet$CopyList", .object "TextNet$Frame", .object "TextNet$Entry", .object "TextNet$Message", .object "TextNet$Switch", .object "TextNet$Line"]
