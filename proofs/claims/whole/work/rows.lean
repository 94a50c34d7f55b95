section
/-! Names: classes, fields, methods, the words that the tables must say (written by wip/whole/gen/mk_names.py). -/
def R_OW : String := "OnceWire"
def R_Bytes : String := "OnceWire$Bytes"
def R_Client : String := "OnceWire$Client"
def R_Fragments : String := "OnceWire$Fragments"
def R_Network : String := "OnceWire$Network"
def R_Reader : String := "OnceWire$Reader"
def R_Schema : String := "OnceWire$Schema"
def R_Server : String := "OnceWire$Server"
def R_TaggedFormat : String := "OnceWire$TaggedFormat"
def R_Value : String := "OnceWire$Value"
def R_WordFormat : String := "OnceWire$WordFormat"
def R_Format : String := "OnceWire$Format"
def R_Md : String := "OnceWireModel"
def R_Lw : String := "OnceWireLaw"
def F_OW : u_T := fun k => match k with
  | 0 => (R_OW, "schema", "LOnceWire$Schema;", true)
  | 1 => (R_OW, "draftValue", "LOnceWire$Value;", true)
  | 2 => (R_OW, "draftBytes", "LOnceWire$Bytes;", true)
  | 3 => (R_OW, "network", "LOnceWire$Network;", true)
  | 4 => (R_OW, "server", "LOnceWire$Server;", true)
  | _ => (R_OW, "client", "LOnceWire$Client;", true)
def t_OW : Nat → FieldType := fun k => match k with
  | 0 => .object "OnceWire$Schema"
  | 1 => .object "OnceWire$Value"
  | 2 => .object "OnceWire$Bytes"
  | 3 => .object "OnceWire$Network"
  | 4 => .object "OnceWire$Server"
  | _ => .object "OnceWire$Client"
theorem n_OW : ∀ a, a < 6 → ∀ b, b < 6 → a ≠ b → (F_OW a).2.1 ≠ (F_OW b).2.1 := by decide +kernel
theorem t_OW_ok : ∀ k, k < 6 → parseFieldDescriptor (F_OW k).2.2.1 = some (t_OW k) := by decide +kernel
def F_Bytes : u_T := fun k => match k with
  | 0 => (R_Bytes, "cells", "[I", true)
  | _ => (R_Bytes, "length", "I", false)
def t_Bytes : Nat → FieldType := fun k => match k with
  | 0 => .array (.int)
  | _ => .int
theorem n_Bytes : ∀ a, a < 2 → ∀ b, b < 2 → a ≠ b → (F_Bytes a).2.1 ≠ (F_Bytes b).2.1 := by decide +kernel
theorem t_Bytes_ok : ∀ k, k < 2 → parseFieldDescriptor (F_Bytes k).2.2.1 = some (t_Bytes k) := by decide +kernel
def F_Client : u_T := fun k => match k with
  | 0 => (R_Client, "network", "LOnceWire$Network;", true)
  | 1 => (R_Client, "format", "LOnceWire$Format;", true)
  | 2 => (R_Client, "record", "LOnceWire$Bytes;", true)
  | 3 => (R_Client, "statuses", "[I", true)
  | 4 => (R_Client, "results", "[I", true)
  | 5 => (R_Client, "made", "I", false)
  | 6 => (R_Client, "xids", "[I", true)
  | 7 => (R_Client, "ages", "[I", true)
  | 8 => (R_Client, "messages", "[LOnceWire$Bytes;", true)
  | _ => (R_Client, "pending", "I", false)
def t_Client : Nat → FieldType := fun k => match k with
  | 0 => .object "OnceWire$Network"
  | 1 => .object "OnceWire$Format"
  | 2 => .object "OnceWire$Bytes"
  | 3 => .array (.int)
  | 4 => .array (.int)
  | 5 => .int
  | 6 => .array (.int)
  | 7 => .array (.int)
  | 8 => .array (.object "OnceWire$Bytes")
  | _ => .int
theorem n_Client : ∀ a, a < 10 → ∀ b, b < 10 → a ≠ b → (F_Client a).2.1 ≠ (F_Client b).2.1 := by decide +kernel
theorem t_Client_ok : ∀ k, k < 10 → parseFieldDescriptor (F_Client k).2.2.1 = some (t_Client k) := by decide +kernel
def F_Network : u_T := fun k => match k with
  | 0 => (R_Network, "rows", "[LOnceWire$Bytes;", true)
  | 1 => (R_Network, "forServer", "[Z", true)
  | _ => (R_Network, "count", "I", false)
def t_Network : Nat → FieldType := fun k => match k with
  | 0 => .array (.object "OnceWire$Bytes")
  | 1 => .array (.boolean)
  | _ => .int
theorem n_Network : ∀ a, a < 3 → ∀ b, b < 3 → a ≠ b → (F_Network a).2.1 ≠ (F_Network b).2.1 := by decide +kernel
theorem t_Network_ok : ∀ k, k < 3 → parseFieldDescriptor (F_Network k).2.2.1 = some (t_Network k) := by decide +kernel
def F_Reader : u_T := fun k => match k with
  | 0 => (R_Reader, "source", "LOnceWire$Bytes;", true)
  | 1 => (R_Reader, "at", "I", false)
  | _ => (R_Reader, "faulty", "Z", false)
def t_Reader : Nat → FieldType := fun k => match k with
  | 0 => .object "OnceWire$Bytes"
  | 1 => .int
  | _ => .boolean
theorem n_Reader : ∀ a, a < 3 → ∀ b, b < 3 → a ≠ b → (F_Reader a).2.1 ≠ (F_Reader b).2.1 := by decide +kernel
theorem t_Reader_ok : ∀ k, k < 3 → parseFieldDescriptor (F_Reader k).2.2.1 = some (t_Reader k) := by decide +kernel
def F_Schema : u_T := fun k => match k with
  | 0 => (R_Schema, "numbers", "[I", true)
  | 1 => (R_Schema, "kinds", "[I", true)
  | 2 => (R_Schema, "keys", "[I", true)
  | 3 => (R_Schema, "repeats", "[Z", true)
  | _ => (R_Schema, "count", "I", false)
def t_Schema : Nat → FieldType := fun k => match k with
  | 0 => .array (.int)
  | 1 => .array (.int)
  | 2 => .array (.int)
  | 3 => .array (.boolean)
  | _ => .int
theorem n_Schema : ∀ a, a < 5 → ∀ b, b < 5 → a ≠ b → (F_Schema a).2.1 ≠ (F_Schema b).2.1 := by decide +kernel
theorem t_Schema_ok : ∀ k, k < 5 → parseFieldDescriptor (F_Schema k).2.2.1 = some (t_Schema k) := by decide +kernel
def F_Server : u_T := fun k => match k with
  | 0 => (R_Server, "network", "LOnceWire$Network;", true)
  | 1 => (R_Server, "format", "LOnceWire$Format;", true)
  | 2 => (R_Server, "value", "LOnceWire$Value;", true)
  | 3 => (R_Server, "record", "LOnceWire$Bytes;", true)
  | 4 => (R_Server, "reader", "LOnceWire$Reader;", true)
  | 5 => (R_Server, "xids", "[I", true)
  | 6 => (R_Server, "replies", "[LOnceWire$Bytes;", true)
  | 7 => (R_Server, "remembered", "I", false)
  | 8 => (R_Server, "oldest", "I", false)
  | 9 => (R_Server, "total", "I", false)
  | _ => (R_Server, "runs", "I", false)
def t_Server : Nat → FieldType := fun k => match k with
  | 0 => .object "OnceWire$Network"
  | 1 => .object "OnceWire$Format"
  | 2 => .object "OnceWire$Value"
  | 3 => .object "OnceWire$Bytes"
  | 4 => .object "OnceWire$Reader"
  | 5 => .array (.int)
  | 6 => .array (.object "OnceWire$Bytes")
  | 7 => .int
  | 8 => .int
  | 9 => .int
  | _ => .int
theorem n_Server : ∀ a, a < 11 → ∀ b, b < 11 → a ≠ b → (F_Server a).2.1 ≠ (F_Server b).2.1 := by decide +kernel
theorem t_Server_ok : ∀ k, k < 11 → parseFieldDescriptor (F_Server k).2.2.1 = some (t_Server k) := by decide +kernel
def F_TaggedFormat : u_T := fun k => match k with
  | _ => (R_Format, "schema", "LOnceWire$Schema;", true)
def t_TaggedFormat : Nat → FieldType := fun k => match k with
  | _ => .object "OnceWire$Schema"
theorem n_TaggedFormat : ∀ a, a < 1 → ∀ b, b < 1 → a ≠ b → (F_TaggedFormat a).2.1 ≠ (F_TaggedFormat b).2.1 := by decide +kernel
theorem t_TaggedFormat_ok : ∀ k, k < 1 → parseFieldDescriptor (F_TaggedFormat k).2.2.1 = some (t_TaggedFormat k) := by decide +kernel
def F_Value : u_T := fun k => match k with
  | 0 => (R_Value, "schema", "LOnceWire$Schema;", true)
  | 1 => (R_Value, "ints", "[I", true)
  | _ => (R_Value, "listed", "[I", true)
def t_Value : Nat → FieldType := fun k => match k with
  | 0 => .object "OnceWire$Schema"
  | 1 => .array (.int)
  | _ => .array (.int)
theorem n_Value : ∀ a, a < 3 → ∀ b, b < 3 → a ≠ b → (F_Value a).2.1 ≠ (F_Value b).2.1 := by decide +kernel
theorem t_Value_ok : ∀ k, k < 3 → parseFieldDescriptor (F_Value k).2.2.1 = some (t_Value k) := by decide +kernel
def F_WordFormat : u_T := fun k => match k with
  | _ => (R_Format, "schema", "LOnceWire$Schema;", true)
def t_WordFormat : Nat → FieldType := fun k => match k with
  | _ => .object "OnceWire$Schema"
theorem n_WordFormat : ∀ a, a < 1 → ∀ b, b < 1 → a ≠ b → (F_WordFormat a).2.1 ≠ (F_WordFormat b).2.1 := by decide +kernel
theorem t_WordFormat_ok : ∀ k, k < 1 → parseFieldDescriptor (F_WordFormat k).2.2.1 = some (t_WordFormat k) := by decide +kernel
def F_Md : u_T := fun k => match k with
  | 0 => (R_Md, "words", "Z", false)
  | 1 => (R_Md, "fields", "I", false)
  | 2 => (R_Md, "numbers", "[I", false)
  | 3 => (R_Md, "kinds", "[I", false)
  | 4 => (R_Md, "repeated", "[Z", false)
  | 5 => (R_Md, "many", "[I", false)
  | 6 => (R_Md, "ints", "[I", false)
  | 7 => (R_Md, "sheet", "[I", false)
  | 8 => (R_Md, "recordLength", "I", false)
  | 9 => (R_Md, "message", "[I", false)
  | 10 => (R_Md, "messageLength", "I", false)
  | 11 => (R_Md, "at", "I", false)
  | 12 => (R_Md, "number", "J", false)
  | 13 => (R_Md, "line", "I", false)
  | 14 => (R_Md, "net", "[I", false)
  | 15 => (R_Md, "lengths", "[I", false)
  | 16 => (R_Md, "replies", "[Z", false)
  | 17 => (R_Md, "draft", "[I", false)
  | 18 => (R_Md, "drafted", "I", false)
  | 19 => (R_Md, "total", "I", false)
  | 20 => (R_Md, "runs", "I", false)
  | 21 => (R_Md, "known", "I", false)
  | 22 => (R_Md, "knownXid", "[I", false)
  | 23 => (R_Md, "knownStatus", "[I", false)
  | 24 => (R_Md, "knownResult", "[I", false)
  | 25 => (R_Md, "calls", "I", false)
  | 26 => (R_Md, "state", "[I", false)
  | 27 => (R_Md, "results", "[I", false)
  | 28 => (R_Md, "ages", "[I", false)
  | 29 => (R_Md, "kept", "[I", false)
  | 30 => (R_Md, "keptLength", "[I", false)
  | _ => (R_Md, "owner", "[I", false)
def t_Md : Nat → FieldType := fun k => match k with
  | 0 => .boolean
  | 1 => .int
  | 2 => .array (.int)
  | 3 => .array (.int)
  | 4 => .array (.boolean)
  | 5 => .array (.int)
  | 6 => .array (.int)
  | 7 => .array (.int)
  | 8 => .int
  | 9 => .array (.int)
  | 10 => .int
  | 11 => .int
  | 12 => .long
  | 13 => .int
  | 14 => .array (.int)
  | 15 => .array (.int)
  | 16 => .array (.boolean)
  | 17 => .array (.int)
  | 18 => .int
  | 19 => .int
  | 20 => .int
  | 21 => .int
  | 22 => .array (.int)
  | 23 => .array (.int)
  | 24 => .array (.int)
  | 25 => .int
  | 26 => .array (.int)
  | 27 => .array (.int)
  | 28 => .array (.int)
  | 29 => .array (.int)
  | 30 => .array (.int)
  | _ => .array (.int)
theorem n_Md : ∀ a, a < 32 → ∀ b, b < 32 → a ≠ b → (F_Md a).2.1 ≠ (F_Md b).2.1 := by decide +kernel
theorem t_Md_ok : ∀ k, k < 32 → parseFieldDescriptor (F_Md k).2.2.1 = some (t_Md k) := by decide +kernel
abbrev classes : List vw_C := [(R_OW, F_OW, 6), (R_Bytes, F_Bytes, 2), (R_Client, F_Client, 10), (R_Network, F_Network, 3), (R_Reader, F_Reader, 3), (R_Schema, F_Schema, 5), (R_Server, F_Server, 11), (R_TaggedFormat, F_TaggedFormat, 1), (R_Value, F_Value, 3), (R_WordFormat, F_WordFormat, 1), (R_Md, F_Md, 32)]
abbrev b_OW_init : ByteArray := prog_1_method_1_code
def y_OW_init : MethodName := ⟨R_OW, "<init>", "(I)V"⟩
abbrev b_OW_field : ByteArray := prog_1_method_2_code
def y_OW_field : MethodName := ⟨R_OW, "field", "(IIZ)I"⟩
abbrev b_OW_put : ByteArray := prog_1_method_3_code
def y_OW_put : MethodName := ⟨R_OW, "put", "(II)Z"⟩
abbrev b_OW_reset : ByteArray := prog_1_method_4_code
def y_OW_reset : MethodName := ⟨R_OW, "reset", "()V"⟩
abbrev b_OW_call : ByteArray := prog_1_method_5_code
def y_OW_call : MethodName := ⟨R_OW, "call", "(I)I"⟩
abbrev b_OW_tick : ByteArray := prog_1_method_6_code
def y_OW_tick : MethodName := ⟨R_OW, "tick", "()I"⟩
abbrev b_OW_deliver : ByteArray := prog_1_method_7_code
def y_OW_deliver : MethodName := ⟨R_OW, "deliver", "(I)I"⟩
abbrev b_OW_lose : ByteArray := prog_1_method_8_code
def y_OW_lose : MethodName := ⟨R_OW, "lose", "(I)Z"⟩
abbrev b_OW_copy : ByteArray := prog_1_method_9_code
def y_OW_copy : MethodName := ⟨R_OW, "copy", "(I)Z"⟩
abbrev b_OW_add : ByteArray := prog_1_method_10_code
def y_OW_add : MethodName := ⟨R_OW, "add", "(I)Z"⟩
abbrev b_OW_hand : ByteArray := prog_1_method_11_code
def y_OW_hand : MethodName := ⟨R_OW, "hand", "(Z)I"⟩
abbrev b_OW_total : ByteArray := prog_1_method_12_code
def y_OW_total : MethodName := ⟨R_OW, "total", "()I"⟩
abbrev b_OW_runs : ByteArray := prog_1_method_13_code
def y_OW_runs : MethodName := ⟨R_OW, "runs", "()I"⟩
abbrev b_OW_status : ByteArray := prog_1_method_14_code
def y_OW_status : MethodName := ⟨R_OW, "status", "(I)I"⟩
abbrev b_OW_result : ByteArray := prog_1_method_15_code
def y_OW_result : MethodName := ⟨R_OW, "result", "(I)I"⟩
abbrev b_OW_flight : ByteArray := prog_1_method_16_code
def y_OW_flight : MethodName := ⟨R_OW, "flight", "()I"⟩
abbrev b_OW_size : ByteArray := prog_1_method_17_code
def y_OW_size : MethodName := ⟨R_OW, "size", "(I)I"⟩
abbrev b_OW_byteAt : ByteArray := prog_1_method_18_code
def y_OW_byteAt : MethodName := ⟨R_OW, "byteAt", "(II)I"⟩
abbrev b_Bytes_init : ByteArray := prog_2_method_1_code
def y_Bytes_init : MethodName := ⟨R_Bytes, "<init>", "(I)V"⟩
abbrev b_Bytes_clear : ByteArray := prog_2_method_2_code
def y_Bytes_clear : MethodName := ⟨R_Bytes, "clear", "()V"⟩
abbrev b_Bytes_append : ByteArray := prog_2_method_3_code
def y_Bytes_append : MethodName := ⟨R_Bytes, "append", "(I)Z"⟩
abbrev b_Bytes_appendWord : ByteArray := prog_2_method_4_code
def y_Bytes_appendWord : MethodName := ⟨R_Bytes, "appendWord", "(I)V"⟩
abbrev b_Bytes_appendPart : ByteArray := prog_2_method_5_code
def y_Bytes_appendPart : MethodName := ⟨R_Bytes, "appendPart", "(LOnceWire$Bytes;II)V"⟩
abbrev b_Bytes_become : ByteArray := prog_2_method_6_code
def y_Bytes_become : MethodName := ⟨R_Bytes, "become", "(LOnceWire$Bytes;)V"⟩
abbrev b_Bytes_at : ByteArray := prog_2_method_7_code
def y_Bytes_at : MethodName := ⟨R_Bytes, "at", "(I)I"⟩
abbrev b_Bytes_wordAt : ByteArray := prog_2_method_8_code
def y_Bytes_wordAt : MethodName := ⟨R_Bytes, "wordAt", "(I)I"⟩
abbrev b_Bytes_swapped : ByteArray := prog_2_method_9_code
def y_Bytes_swapped : MethodName := ⟨R_Bytes, "swapped", "(I)I"⟩
abbrev b_Bytes_moveToEnd : ByteArray := prog_2_method_10_code
def y_Bytes_moveToEnd : MethodName := ⟨R_Bytes, "moveToEnd", "([LOnceWire$Bytes;I)V"⟩
abbrev b_Client_init : ByteArray := prog_3_method_1_code
def y_Client_init : MethodName := ⟨R_Client, "<init>", "(LOnceWire$Network;LOnceWire$Format;)V"⟩
abbrev b_Client_place : ByteArray := prog_3_method_2_code
def y_Client_place : MethodName := ⟨R_Client, "place", "(ILOnceWire$Value;)I"⟩
abbrev b_Client_growOlder : ByteArray := prog_3_method_3_code
def y_Client_growOlder : MethodName := ⟨R_Client, "growOlder", "()I"⟩
abbrev b_Client_receive : ByteArray := prog_3_method_4_code
def y_Client_receive : MethodName := ⟨R_Client, "receive", "(LOnceWire$Bytes;)I"⟩
abbrev b_Client_pendingPlaceOf : ByteArray := prog_3_method_5_code
def y_Client_pendingPlaceOf : MethodName := ⟨R_Client, "pendingPlaceOf", "(I)I"⟩
abbrev b_Client_settle : ByteArray := prog_3_method_6_code
def y_Client_settle : MethodName := ⟨R_Client, "settle", "(III)V"⟩
abbrev b_Client_statusOf : ByteArray := prog_3_method_7_code
def y_Client_statusOf : MethodName := ⟨R_Client, "statusOf", "(I)I"⟩
abbrev b_Client_resultOf : ByteArray := prog_3_method_8_code
def y_Client_resultOf : MethodName := ⟨R_Client, "resultOf", "(I)I"⟩
abbrev b_Fragments_wrap : ByteArray := prog_5_method_2_code
def y_Fragments_wrap : MethodName := ⟨R_Fragments, "wrap", "(LOnceWire$Bytes;LOnceWire$Bytes;)V"⟩
abbrev b_Fragments_unwrap : ByteArray := prog_5_method_3_code
def y_Fragments_unwrap : MethodName := ⟨R_Fragments, "unwrap", "(LOnceWire$Bytes;LOnceWire$Bytes;)Z"⟩
abbrev b_Network_init : ByteArray := prog_6_method_1_code
def y_Network_init : MethodName := ⟨R_Network, "<init>", "()V"⟩
abbrev b_Network_has : ByteArray := prog_6_method_2_code
def y_Network_has : MethodName := ⟨R_Network, "has", "(I)Z"⟩
abbrev b_Network_isFull : ByteArray := prog_6_method_3_code
def y_Network_isFull : MethodName := ⟨R_Network, "isFull", "()Z"⟩
abbrev b_Network_message : ByteArray := prog_6_method_4_code
def y_Network_message : MethodName := ⟨R_Network, "message", "(I)LOnceWire$Bytes;"⟩
abbrev b_Network_isForServer : ByteArray := prog_6_method_5_code
def y_Network_isForServer : MethodName := ⟨R_Network, "isForServer", "(I)Z"⟩
abbrev b_Network_send : ByteArray := prog_6_method_6_code
def y_Network_send : MethodName := ⟨R_Network, "send", "(LOnceWire$Bytes;Z)V"⟩
abbrev b_Network_take : ByteArray := prog_6_method_7_code
def y_Network_take : MethodName := ⟨R_Network, "take", "(I)LOnceWire$Bytes;"⟩
abbrev b_Reader_init : ByteArray := prog_7_method_1_code
def y_Reader_init : MethodName := ⟨R_Reader, "<init>", "(LOnceWire$Bytes;)V"⟩
abbrev b_Reader_startAt : ByteArray := prog_7_method_2_code
def y_Reader_startAt : MethodName := ⟨R_Reader, "startAt", "(I)V"⟩
abbrev b_Reader_left : ByteArray := prog_7_method_3_code
def y_Reader_left : MethodName := ⟨R_Reader, "left", "()I"⟩
abbrev b_Reader_takeWord : ByteArray := prog_7_method_4_code
def y_Reader_takeWord : MethodName := ⟨R_Reader, "takeWord", "()I"⟩
abbrev b_Reader_takeVarint : ByteArray := prog_7_method_5_code
def y_Reader_takeVarint : MethodName := ⟨R_Reader, "takeVarint", "()J"⟩
abbrev b_Reader_skip : ByteArray := prog_7_method_6_code
def y_Reader_skip : MethodName := ⟨R_Reader, "skip", "(J)V"⟩
abbrev b_Schema_init : ByteArray := prog_8_method_1_code
def y_Schema_init : MethodName := ⟨R_Schema, "<init>", "()V"⟩
abbrev b_Schema_declare : ByteArray := prog_8_method_2_code
def y_Schema_declare : MethodName := ⟨R_Schema, "declare", "(IIZ)I"⟩
abbrev b_Schema_indexOf : ByteArray := prog_8_method_3_code
def y_Schema_indexOf : MethodName := ⟨R_Schema, "indexOf", "(I)I"⟩
abbrev b_Schema_has : ByteArray := prog_8_method_4_code
def y_Schema_has : MethodName := ⟨R_Schema, "has", "(I)Z"⟩
abbrev b_Schema_kindOf : ByteArray := prog_8_method_5_code
def y_Schema_kindOf : MethodName := ⟨R_Schema, "kindOf", "(I)I"⟩
abbrev b_Schema_isRepeated : ByteArray := prog_8_method_6_code
def y_Schema_isRepeated : MethodName := ⟨R_Schema, "isRepeated", "(I)Z"⟩
abbrev b_Schema_keyOf : ByteArray := prog_8_method_7_code
def y_Schema_keyOf : MethodName := ⟨R_Schema, "keyOf", "(I)I"⟩
abbrev b_Schema_allows : ByteArray := prog_8_method_8_code
def y_Schema_allows : MethodName := ⟨R_Schema, "allows", "(II)Z"⟩
abbrev b_Server_init : ByteArray := prog_9_method_1_code
def y_Server_init : MethodName := ⟨R_Server, "<init>", "(LOnceWire$Network;LOnceWire$Format;LOnceWire$Value;)V"⟩
abbrev b_Server_receive : ByteArray := prog_9_method_2_code
def y_Server_receive : MethodName := ⟨R_Server, "receive", "(LOnceWire$Bytes;)I"⟩
abbrev b_Server_answer : ByteArray := prog_9_method_3_code
def y_Server_answer : MethodName := ⟨R_Server, "answer", "(II)I"⟩
abbrev b_Server_run : ByteArray := prog_9_method_4_code
def y_Server_run : MethodName := ⟨R_Server, "run", "(II)I"⟩
abbrev b_Server_reply : ByteArray := prog_9_method_5_code
def y_Server_reply : MethodName := ⟨R_Server, "reply", "(III)V"⟩
abbrev b_Server_slotForNew : ByteArray := prog_9_method_6_code
def y_Server_slotForNew : MethodName := ⟨R_Server, "slotForNew", "()I"⟩
abbrev b_TaggedFormat_init : ByteArray := prog_10_method_1_code
def y_TaggedFormat_init : MethodName := ⟨R_TaggedFormat, "<init>", "(LOnceWire$Schema;)V"⟩
abbrev b_TaggedFormat_write : ByteArray := prog_10_method_2_code
def y_TaggedFormat_write : MethodName := ⟨R_TaggedFormat, "write", "(LOnceWire$Value;LOnceWire$Bytes;)V"⟩
abbrev b_TaggedFormat_writeInt : ByteArray := prog_10_method_3_code
def y_TaggedFormat_writeInt : MethodName := ⟨R_TaggedFormat, "writeInt", "(IILOnceWire$Bytes;)V"⟩
abbrev b_TaggedFormat_writeVarint : ByteArray := prog_10_method_4_code
def y_TaggedFormat_writeVarint : MethodName := ⟨R_TaggedFormat, "writeVarint", "(JLOnceWire$Bytes;)V"⟩
abbrev b_TaggedFormat_read : ByteArray := prog_10_method_5_code
def y_TaggedFormat_read : MethodName := ⟨R_TaggedFormat, "read", "(LOnceWire$Reader;LOnceWire$Value;)Z"⟩
abbrev b_TaggedFormat_readEntry : ByteArray := prog_10_method_6_code
def y_TaggedFormat_readEntry : MethodName := ⟨R_TaggedFormat, "readEntry", "(LOnceWire$Reader;LOnceWire$Value;)Z"⟩
abbrev b_TaggedFormat_takePayload : ByteArray := prog_10_method_7_code
def y_TaggedFormat_takePayload : MethodName := ⟨R_TaggedFormat, "takePayload", "(LOnceWire$Reader;I)J"⟩
abbrev b_TaggedFormat_intOfPayload : ByteArray := prog_10_method_8_code
def y_TaggedFormat_intOfPayload : MethodName := ⟨R_TaggedFormat, "intOfPayload", "(IJ)I"⟩
abbrev b_Value_init : ByteArray := prog_11_method_1_code
def y_Value_init : MethodName := ⟨R_Value, "<init>", "(LOnceWire$Schema;)V"⟩
abbrev b_Value_clear : ByteArray := prog_11_method_2_code
def y_Value_clear : MethodName := ⟨R_Value, "clear", "()V"⟩
abbrev b_Value_store : ByteArray := prog_11_method_3_code
def y_Value_store : MethodName := ⟨R_Value, "store", "(II)Z"⟩
abbrev b_Value_countOf : ByteArray := prog_11_method_4_code
def y_Value_countOf : MethodName := ⟨R_Value, "countOf", "(I)I"⟩
abbrev b_Value_intOf : ByteArray := prog_11_method_5_code
def y_Value_intOf : MethodName := ⟨R_Value, "intOf", "(II)I"⟩
abbrev b_Value_digest : ByteArray := prog_11_method_6_code
def y_Value_digest : MethodName := ⟨R_Value, "digest", "()I"⟩
abbrev b_WordFormat_init : ByteArray := prog_12_method_1_code
def y_WordFormat_init : MethodName := ⟨R_WordFormat, "<init>", "(LOnceWire$Schema;)V"⟩
abbrev b_WordFormat_write : ByteArray := prog_12_method_2_code
def y_WordFormat_write : MethodName := ⟨R_WordFormat, "write", "(LOnceWire$Value;LOnceWire$Bytes;)V"⟩
abbrev b_WordFormat_read : ByteArray := prog_12_method_3_code
def y_WordFormat_read : MethodName := ⟨R_WordFormat, "read", "(LOnceWire$Reader;LOnceWire$Value;)Z"⟩
abbrev b_Format_init : ByteArray := prog_4_method_1_code
def y_Format_init : MethodName := ⟨R_Format, "<init>", "(LOnceWire$Schema;)V"⟩
abbrev b_Md_init : ByteArray := prog_14_method_1_code
def y_Md_init : MethodName := ⟨R_Md, "<init>", "(I)V"⟩
abbrev b_Md_field : ByteArray := prog_14_method_2_code
def y_Md_field : MethodName := ⟨R_Md, "field", "(IIZ)I"⟩
abbrev b_Md_empty : ByteArray := prog_14_method_3_code
def y_Md_empty : MethodName := ⟨R_Md, "empty", "(I)V"⟩
abbrev b_Md_give : ByteArray := prog_14_method_4_code
def y_Md_give : MethodName := ⟨R_Md, "give", "(II)Z"⟩
abbrev b_Md_put : ByteArray := prog_14_method_5_code
def y_Md_put : MethodName := ⟨R_Md, "put", "(II)Z"⟩
abbrev b_Md_reset : ByteArray := prog_14_method_6_code
def y_Md_reset : MethodName := ⟨R_Md, "reset", "()V"⟩
abbrev b_Md_digest : ByteArray := prog_14_method_7_code
def y_Md_digest : MethodName := ⟨R_Md, "digest", "()I"⟩
abbrev b_Md_write : ByteArray := prog_14_method_8_code
def y_Md_write : MethodName := ⟨R_Md, "write", "(I)V"⟩
abbrev b_Md_writeWord : ByteArray := prog_14_method_9_code
def y_Md_writeWord : MethodName := ⟨R_Md, "writeWord", "(I)V"⟩
abbrev b_Md_writeVarint : ByteArray := prog_14_method_10_code
def y_Md_writeVarint : MethodName := ⟨R_Md, "writeVarint", "(J)V"⟩
abbrev b_Md_writeTagged : ByteArray := prog_14_method_11_code
def y_Md_writeTagged : MethodName := ⟨R_Md, "writeTagged", "(II)V"⟩
abbrev b_Md_writeDraft : ByteArray := prog_14_method_12_code
def y_Md_writeDraft : MethodName := ⟨R_Md, "writeDraft", "()V"⟩
abbrev b_Md_fragment : ByteArray := prog_14_method_13_code
def y_Md_fragment : MethodName := ⟨R_Md, "fragment", "()V"⟩
abbrev b_Md_send : ByteArray := prog_14_method_14_code
def y_Md_send : MethodName := ⟨R_Md, "send", "(Z)V"⟩
abbrev b_Md_isMessage : ByteArray := prog_14_method_15_code
def y_Md_isMessage : MethodName := ⟨R_Md, "isMessage", "(I)Z"⟩
abbrev b_Md_load : ByteArray := prog_14_method_16_code
def y_Md_load : MethodName := ⟨R_Md, "load", "(I)V"⟩
abbrev b_Md_lose : ByteArray := prog_14_method_17_code
def y_Md_lose : MethodName := ⟨R_Md, "lose", "(I)Z"⟩
abbrev b_Md_copy : ByteArray := prog_14_method_18_code
def y_Md_copy : MethodName := ⟨R_Md, "copy", "(I)Z"⟩
abbrev b_Md_gather : ByteArray := prog_14_method_19_code
def y_Md_gather : MethodName := ⟨R_Md, "gather", "()Z"⟩
abbrev b_Md_word : ByteArray := prog_14_method_20_code
def y_Md_word : MethodName := ⟨R_Md, "word", "(I)I"⟩
abbrev b_Md_readVarint : ByteArray := prog_14_method_21_code
def y_Md_readVarint : MethodName := ⟨R_Md, "readVarint", "()Z"⟩
abbrev b_Md_fieldOf : ByteArray := prog_14_method_22_code
def y_Md_fieldOf : MethodName := ⟨R_Md, "fieldOf", "(II)I"⟩
abbrev b_Md_meant : ByteArray := prog_14_method_23_code
def y_Md_meant : MethodName := ⟨R_Md, "meant", "(I)I"⟩
abbrev b_Md_readTagged : ByteArray := prog_14_method_24_code
def y_Md_readTagged : MethodName := ⟨R_Md, "readTagged", "()Z"⟩
abbrev b_Md_readTaggedBody : ByteArray := prog_14_method_25_code
def y_Md_readTaggedBody : MethodName := ⟨R_Md, "readTaggedBody", "()Z"⟩
abbrev b_Md_readWords : ByteArray := prog_14_method_26_code
def y_Md_readWords : MethodName := ⟨R_Md, "readWords", "()Z"⟩
abbrev b_Md_readBody : ByteArray := prog_14_method_27_code
def y_Md_readBody : MethodName := ⟨R_Md, "readBody", "()Z"⟩
abbrev b_Md_sendReply : ByteArray := prog_14_method_28_code
def y_Md_sendReply : MethodName := ⟨R_Md, "sendReply", "(III)V"⟩
abbrev b_Md_run : ByteArray := prog_14_method_29_code
def y_Md_run : MethodName := ⟨R_Md, "run", "(I)I"⟩
abbrev b_Md_remember : ByteArray := prog_14_method_30_code
def y_Md_remember : MethodName := ⟨R_Md, "remember", "(III)V"⟩
abbrev b_Md_serve : ByteArray := prog_14_method_31_code
def y_Md_serve : MethodName := ⟨R_Md, "serve", "()I"⟩
abbrev b_Md_accept : ByteArray := prog_14_method_32_code
def y_Md_accept : MethodName := ⟨R_Md, "accept", "()I"⟩
abbrev b_Md_slotOf : ByteArray := prog_14_method_33_code
def y_Md_slotOf : MethodName := ⟨R_Md, "slotOf", "(I)I"⟩
abbrev b_Md_call : ByteArray := prog_14_method_34_code
def y_Md_call : MethodName := ⟨R_Md, "call", "(I)I"⟩
abbrev b_Md_tick : ByteArray := prog_14_method_35_code
def y_Md_tick : MethodName := ⟨R_Md, "tick", "()I"⟩
abbrev b_Md_sendKept : ByteArray := prog_14_method_36_code
def y_Md_sendKept : MethodName := ⟨R_Md, "sendKept", "(I)V"⟩
abbrev b_Md_deliver : ByteArray := prog_14_method_37_code
def y_Md_deliver : MethodName := ⟨R_Md, "deliver", "(I)I"⟩
abbrev b_Md_add : ByteArray := prog_14_method_38_code
def y_Md_add : MethodName := ⟨R_Md, "add", "(I)Z"⟩
abbrev b_Md_hand : ByteArray := prog_14_method_39_code
def y_Md_hand : MethodName := ⟨R_Md, "hand", "(Z)I"⟩
abbrev b_Md_total : ByteArray := prog_14_method_40_code
def y_Md_total : MethodName := ⟨R_Md, "total", "()I"⟩
abbrev b_Md_runs : ByteArray := prog_14_method_41_code
def y_Md_runs : MethodName := ⟨R_Md, "runs", "()I"⟩
abbrev b_Md_status : ByteArray := prog_14_method_42_code
def y_Md_status : MethodName := ⟨R_Md, "status", "(I)I"⟩
abbrev b_Md_result : ByteArray := prog_14_method_43_code
def y_Md_result : MethodName := ⟨R_Md, "result", "(I)I"⟩
abbrev b_Md_flight : ByteArray := prog_14_method_44_code
def y_Md_flight : MethodName := ⟨R_Md, "flight", "()I"⟩
abbrev b_Md_size : ByteArray := prog_14_method_45_code
def y_Md_size : MethodName := ⟨R_Md, "size", "(I)I"⟩
abbrev b_Md_byteAt : ByteArray := prog_14_method_46_code
def y_Md_byteAt : MethodName := ⟨R_Md, "byteAt", "(II)I"⟩
abbrev b_Lw_cell : ByteArray := method_2_code
def y_Lw_cell : MethodName := ⟨R_Lw, "cell", "([II)I"⟩
abbrev b_Lw_law : ByteArray := code
def y_Lw_law : MethodName := ⟨R_Lw, "law", "([I)Z"⟩
def Wa0 : List Cond := [.code y_OW_init b_OW_init 3 none,
  .instanceMethod y_OW_init,
  .code y_OW_field b_OW_field 4 (some (.int)),
  .instanceMethod y_OW_field,
  .code y_OW_put b_OW_put 3 (some (.boolean)),
  .instanceMethod y_OW_put,
  .code y_OW_reset b_OW_reset 1 none,
  .instanceMethod y_OW_reset,
  .code y_OW_call b_OW_call 2 (some (.int)),
  .instanceMethod y_OW_call,
  .code y_OW_tick b_OW_tick 1 (some (.int)),
  .instanceMethod y_OW_tick,
  .code y_OW_deliver b_OW_deliver 4 (some (.int)),
  .instanceMethod y_OW_deliver,
  .code y_OW_lose b_OW_lose 2 (some (.boolean)),
  .instanceMethod y_OW_lose,
  .code y_OW_copy b_OW_copy 2 (some (.boolean)),
  .instanceMethod y_OW_copy,
  .code y_OW_add b_OW_add 2 (some (.boolean)),
  .instanceMethod y_OW_add,
  .code y_OW_hand b_OW_hand 3 (some (.int)),
  .instanceMethod y_OW_hand,
  .code y_OW_total b_OW_total 1 (some (.int)),
  .instanceMethod y_OW_total,
  .code y_OW_runs b_OW_runs 1 (some (.int)),
  .instanceMethod y_OW_runs,
  .code y_OW_status b_OW_status 2 (some (.int)),
  .instanceMethod y_OW_status,
  .code y_OW_result b_OW_result 2 (some (.int)),
  .instanceMethod y_OW_result,
  .code y_OW_flight b_OW_flight 1 (some (.int)),
  .instanceMethod y_OW_flight,
  .code y_OW_size b_OW_size 2 (some (.int)),
  .instanceMethod y_OW_size,
  .code y_OW_byteAt b_OW_byteAt 3 (some (.int)),
  .instanceMethod y_OW_byteAt,
  .code y_Bytes_init b_Bytes_init 2 none,
  .instanceMethod y_Bytes_init,
  .code y_Bytes_clear b_Bytes_clear 1 none,
  .instanceMethod y_Bytes_clear,
  .code y_Bytes_append b_Bytes_append 2 (some (.boolean)),
  .instanceMethod y_Bytes_append,
  .code y_Bytes_appendWord b_Bytes_appendWord 2 none,
  .instanceMethod y_Bytes_appendWord,
  .code y_Bytes_appendPart b_Bytes_appendPart 6 none,
  .instanceMethod y_Bytes_appendPart,
  .code y_Bytes_become b_Bytes_become 2 none,
  .instanceMethod y_Bytes_become,
  .code y_Bytes_at b_Bytes_at 2 (some (.int)),
  .instanceMethod y_Bytes_at,
  .code y_Bytes_wordAt b_Bytes_wordAt 2 (some (.int)),
  .instanceMethod y_Bytes_wordAt,
  .code y_Bytes_swapped b_Bytes_swapped 1 (some (.int)),
  .static y_Bytes_swapped,
  .code y_Bytes_moveToEnd b_Bytes_moveToEnd 4 none,
  .static y_Bytes_moveToEnd,
  .code y_Client_init b_Client_init 4 none,
  .instanceMethod y_Client_init,
  .code y_Client_place b_Client_place 4 (some (.int)),
  .instanceMethod y_Client_place,
  .code y_Client_growOlder b_Client_growOlder 3 (some (.int)),
  .instanceMethod y_Client_growOlder,
  .code y_Client_receive b_Client_receive 4 (some (.int)),
  .instanceMethod y_Client_receive]
def Wa1 : List Cond := [.code y_Client_pendingPlaceOf b_Client_pendingPlaceOf 3 (some (.int)),
  .instanceMethod y_Client_pendingPlaceOf,
  .code y_Client_settle b_Client_settle 6 none,
  .instanceMethod y_Client_settle,
  .code y_Client_statusOf b_Client_statusOf 2 (some (.int)),
  .instanceMethod y_Client_statusOf,
  .code y_Client_resultOf b_Client_resultOf 2 (some (.int)),
  .instanceMethod y_Client_resultOf,
  .code y_Fragments_wrap b_Fragments_wrap 5 none,
  .static y_Fragments_wrap,
  .code y_Fragments_unwrap b_Fragments_unwrap 6 (some (.boolean)),
  .static y_Fragments_unwrap,
  .code y_Network_init b_Network_init 2 none,
  .instanceMethod y_Network_init,
  .code y_Network_has b_Network_has 2 (some (.boolean)),
  .instanceMethod y_Network_has,
  .code y_Network_isFull b_Network_isFull 1 (some (.boolean)),
  .instanceMethod y_Network_isFull,
  .code y_Network_message b_Network_message 2 (some (.object "OnceWire$Bytes")),
  .instanceMethod y_Network_message,
  .code y_Network_isForServer b_Network_isForServer 2 (some (.boolean)),
  .instanceMethod y_Network_isForServer,
  .code y_Network_send b_Network_send 3 none,
  .instanceMethod y_Network_send,
  .code y_Network_take b_Network_take 3 (some (.object "OnceWire$Bytes")),
  .instanceMethod y_Network_take,
  .code y_Reader_init b_Reader_init 2 none,
  .instanceMethod y_Reader_init,
  .code y_Reader_startAt b_Reader_startAt 2 none,
  .instanceMethod y_Reader_startAt,
  .code y_Reader_left b_Reader_left 1 (some (.int)),
  .instanceMethod y_Reader_left,
  .code y_Reader_takeWord b_Reader_takeWord 3 (some (.int)),
  .instanceMethod y_Reader_takeWord,
  .code y_Reader_takeVarint b_Reader_takeVarint 5 (some (.long)),
  .instanceMethod y_Reader_takeVarint,
  .code y_Reader_skip b_Reader_skip 3 none,
  .instanceMethod y_Reader_skip,
  .code y_Schema_init b_Schema_init 1 none,
  .instanceMethod y_Schema_init,
  .code y_Schema_declare b_Schema_declare 4 (some (.int)),
  .instanceMethod y_Schema_declare,
  .code y_Schema_indexOf b_Schema_indexOf 3 (some (.int)),
  .instanceMethod y_Schema_indexOf,
  .code y_Schema_has b_Schema_has 2 (some (.boolean)),
  .instanceMethod y_Schema_has,
  .code y_Schema_kindOf b_Schema_kindOf 2 (some (.int)),
  .instanceMethod y_Schema_kindOf,
  .code y_Schema_isRepeated b_Schema_isRepeated 2 (some (.boolean)),
  .instanceMethod y_Schema_isRepeated,
  .code y_Schema_keyOf b_Schema_keyOf 2 (some (.int)),
  .instanceMethod y_Schema_keyOf,
  .code y_Schema_allows b_Schema_allows 3 (some (.boolean)),
  .instanceMethod y_Schema_allows,
  .code y_Server_init b_Server_init 5 none,
  .instanceMethod y_Server_init,
  .code y_Server_receive b_Server_receive 4 (some (.int)),
  .instanceMethod y_Server_receive,
  .code y_Server_answer b_Server_answer 3 (some (.int)),
  .instanceMethod y_Server_answer,
  .code y_Server_run b_Server_run 4 (some (.int)),
  .instanceMethod y_Server_run,
  .code y_Server_reply b_Server_reply 5 none,
  .instanceMethod y_Server_reply]
def Wa2 : List Cond := [.code y_Server_slotForNew b_Server_slotForNew 2 (some (.int)),
  .instanceMethod y_Server_slotForNew,
  .code y_TaggedFormat_init b_TaggedFormat_init 2 none,
  .instanceMethod y_TaggedFormat_init,
  .code y_TaggedFormat_write b_TaggedFormat_write 7 none,
  .instanceMethod y_TaggedFormat_write,
  .code y_TaggedFormat_writeInt b_TaggedFormat_writeInt 3 none,
  .static y_TaggedFormat_writeInt,
  .code y_TaggedFormat_writeVarint b_TaggedFormat_writeVarint 6 none,
  .static y_TaggedFormat_writeVarint,
  .code y_TaggedFormat_read b_TaggedFormat_read 5 (some (.boolean)),
  .instanceMethod y_TaggedFormat_read,
  .code y_TaggedFormat_readEntry b_TaggedFormat_readEntry 8 (some (.boolean)),
  .instanceMethod y_TaggedFormat_readEntry,
  .code y_TaggedFormat_takePayload b_TaggedFormat_takePayload 2 (some (.long)),
  .static y_TaggedFormat_takePayload,
  .code y_TaggedFormat_intOfPayload b_TaggedFormat_intOfPayload 5 (some (.int)),
  .static y_TaggedFormat_intOfPayload,
  .code y_Value_init b_Value_init 2 none,
  .instanceMethod y_Value_init,
  .code y_Value_clear b_Value_clear 2 none,
  .instanceMethod y_Value_clear,
  .code y_Value_store b_Value_store 3 (some (.boolean)),
  .instanceMethod y_Value_store,
  .code y_Value_countOf b_Value_countOf 2 (some (.int)),
  .instanceMethod y_Value_countOf,
  .code y_Value_intOf b_Value_intOf 3 (some (.int)),
  .instanceMethod y_Value_intOf,
  .code y_Value_digest b_Value_digest 5 (some (.int)),
  .instanceMethod y_Value_digest,
  .code y_WordFormat_init b_WordFormat_init 2 none,
  .instanceMethod y_WordFormat_init,
  .code y_WordFormat_write b_WordFormat_write 6 none,
  .instanceMethod y_WordFormat_write,
  .code y_WordFormat_read b_WordFormat_read 7 (some (.boolean)),
  .instanceMethod y_WordFormat_read,
  .code y_Format_init b_Format_init 2 none,
  .instanceMethod y_Format_init,
  .code y_Md_init b_Md_init 2 none,
  .instanceMethod y_Md_init,
  .code y_Md_field b_Md_field 6 (some (.int)),
  .instanceMethod y_Md_field,
  .code y_Md_empty b_Md_empty 2 none,
  .instanceMethod y_Md_empty,
  .code y_Md_give b_Md_give 3 (some (.boolean)),
  .instanceMethod y_Md_give,
  .code y_Md_put b_Md_put 3 (some (.boolean)),
  .instanceMethod y_Md_put,
  .code y_Md_reset b_Md_reset 2 none,
  .instanceMethod y_Md_reset,
  .code y_Md_digest b_Md_digest 4 (some (.int)),
  .instanceMethod y_Md_digest,
  .code y_Md_write b_Md_write 2 none,
  .instanceMethod y_Md_write,
  .code y_Md_writeWord b_Md_writeWord 3 none,
  .instanceMethod y_Md_writeWord,
  .code y_Md_writeVarint b_Md_writeVarint 5 none,
  .instanceMethod y_Md_writeVarint,
  .code y_Md_writeTagged b_Md_writeTagged 4 none,
  .instanceMethod y_Md_writeTagged,
  .code y_Md_writeDraft b_Md_writeDraft 4 none,
  .instanceMethod y_Md_writeDraft,
  .code y_Md_fragment b_Md_fragment 4 none,
  .instanceMethod y_Md_fragment]
def Wa3 : List Cond := [.code y_Md_send b_Md_send 3 none,
  .instanceMethod y_Md_send,
  .code y_Md_isMessage b_Md_isMessage 2 (some (.boolean)),
  .instanceMethod y_Md_isMessage,
  .code y_Md_load b_Md_load 3 none,
  .instanceMethod y_Md_load,
  .code y_Md_lose b_Md_lose 4 (some (.boolean)),
  .instanceMethod y_Md_lose,
  .code y_Md_copy b_Md_copy 2 (some (.boolean)),
  .instanceMethod y_Md_copy,
  .code y_Md_gather b_Md_gather 6 (some (.boolean)),
  .instanceMethod y_Md_gather,
  .code y_Md_word b_Md_word 2 (some (.int)),
  .instanceMethod y_Md_word,
  .code y_Md_readVarint b_Md_readVarint 3 (some (.boolean)),
  .instanceMethod y_Md_readVarint,
  .code y_Md_fieldOf b_Md_fieldOf 4 (some (.int)),
  .instanceMethod y_Md_fieldOf,
  .code y_Md_meant b_Md_meant 4 (some (.int)),
  .instanceMethod y_Md_meant,
  .code y_Md_readTagged b_Md_readTagged 6 (some (.boolean)),
  .instanceMethod y_Md_readTagged,
  .code y_Md_readTaggedBody b_Md_readTaggedBody 1 (some (.boolean)),
  .instanceMethod y_Md_readTaggedBody,
  .code y_Md_readWords b_Md_readWords 6 (some (.boolean)),
  .instanceMethod y_Md_readWords,
  .code y_Md_readBody b_Md_readBody 2 (some (.boolean)),
  .instanceMethod y_Md_readBody,
  .code y_Md_sendReply b_Md_sendReply 4 none,
  .instanceMethod y_Md_sendReply,
  .code y_Md_run b_Md_run 4 (some (.int)),
  .instanceMethod y_Md_run,
  .code y_Md_remember b_Md_remember 5 none,
  .instanceMethod y_Md_remember,
  .code y_Md_serve b_Md_serve 5 (some (.int)),
  .instanceMethod y_Md_serve,
  .code y_Md_accept b_Md_accept 4 (some (.int)),
  .instanceMethod y_Md_accept,
  .code y_Md_slotOf b_Md_slotOf 3 (some (.int)),
  .instanceMethod y_Md_slotOf,
  .code y_Md_call b_Md_call 4 (some (.int)),
  .instanceMethod y_Md_call,
  .code y_Md_tick b_Md_tick 3 (some (.int)),
  .instanceMethod y_Md_tick,
  .code y_Md_sendKept b_Md_sendKept 4 none,
  .instanceMethod y_Md_sendKept,
  .code y_Md_deliver b_Md_deliver 3 (some (.int)),
  .instanceMethod y_Md_deliver,
  .code y_Md_add b_Md_add 2 (some (.boolean)),
  .instanceMethod y_Md_add,
  .code y_Md_hand b_Md_hand 3 (some (.int)),
  .instanceMethod y_Md_hand,
  .code y_Md_total b_Md_total 1 (some (.int)),
  .instanceMethod y_Md_total,
  .code y_Md_runs b_Md_runs 1 (some (.int)),
  .instanceMethod y_Md_runs,
  .code y_Md_status b_Md_status 2 (some (.int)),
  .instanceMethod y_Md_status,
  .code y_Md_result b_Md_result 2 (some (.int)),
  .instanceMethod y_Md_result,
  .code y_Md_flight b_Md_flight 1 (some (.int)),
  .instanceMethod y_Md_flight,
  .code y_Md_size b_Md_size 2 (some (.int)),
  .instanceMethod y_Md_size]
def Wa4 : List Cond := [.code y_Md_byteAt b_Md_byteAt 3 (some (.int)),
  .instanceMethod y_Md_byteAt,
  .code y_Lw_cell b_Lw_cell 2 (some (.int)),
  .static y_Lw_cell,
  .initialized R_OW,
  .initialized R_Bytes,
  .initialized R_Client,
  .initialized R_Fragments,
  .initialized R_Network,
  .initialized R_Reader,
  .initialized R_Schema,
  .initialized R_Server,
  .initialized R_TaggedFormat,
  .initialized R_Value,
  .initialized R_WordFormat,
  .initialized R_Format,
  .initialized R_Md,
  .initialized R_Lw,
  .instantiable R_OW 6,
  .instantiable R_Bytes 2,
  .instantiable R_Client 10,
  .instantiable R_Network 3,
  .instantiable R_Reader 3,
  .instantiable R_Schema 5,
  .instantiable R_Server 11,
  .instantiable R_TaggedFormat 1,
  .instantiable R_Value 3,
  .instantiable R_WordFormat 1,
  .instantiable R_Md 32,
  .instanceMethod Lib.objectInit,
  .code Lib.objectInit ⟨#[0xb1]⟩ 1 none,
  .methodLink R_OW 1 Lib.objectInit,
  .classLink R_OW 7 R_Schema,
  .fieldLink R_OW 10 R_OW "schema" "LOnceWire$Schema;",
  .classLink R_OW 16 R_Value,
  .methodLink R_OW 18 y_Value_init,
  .fieldLink R_OW 21 R_OW "draftValue" "LOnceWire$Value;",
  .classLink R_OW 25 R_Bytes,
  .methodLink R_OW 27 y_Bytes_init,
  .fieldLink R_OW 30 R_OW "draftBytes" "LOnceWire$Bytes;",
  .classLink R_OW 34 R_Network,
  .methodLink R_OW 36 y_Network_init,
  .fieldLink R_OW 37 R_OW "network" "LOnceWire$Network;",
  .classLink R_OW 41 R_WordFormat,
  .methodLink R_OW 43 y_WordFormat_init,
  .classLink R_OW 44 R_TaggedFormat,
  .methodLink R_OW 46 y_TaggedFormat_init,
  .classLink R_OW 47 R_Server,
  .methodLink R_OW 49 y_Server_init,
  .fieldLink R_OW 52 R_OW "server" "LOnceWire$Server;",
  .classLink R_OW 56 R_Client,
  .methodLink R_OW 58 y_Client_init,
  .fieldLink R_OW 61 R_OW "client" "LOnceWire$Client;",
  .methodLink R_OW 65 y_Schema_declare,
  .selects R_Schema y_Schema_declare y_Schema_declare,
  .methodLink R_OW 69 y_Schema_has,
  .selects R_Schema y_Schema_has y_Schema_has,
  .methodLink R_OW 73 y_Schema_allows,
  .selects R_Schema y_Schema_allows y_Schema_allows,
  .methodLink R_OW 77 y_Value_store,
  .selects R_Value y_Value_store y_Value_store,
  .methodLink R_OW 80 y_Value_clear,
  .selects R_Value y_Value_clear y_Value_clear,
  .methodLink R_OW 83 y_Client_place]
def Wa5 : List Cond := [.selects R_Client y_Client_place y_Client_place,
  .methodLink R_OW 87 y_Client_growOlder,
  .selects R_Client y_Client_growOlder y_Client_growOlder,
  .methodLink R_OW 91 y_Network_has,
  .selects R_Network y_Network_has y_Network_has,
  .methodLink R_OW 92 y_Network_isForServer,
  .selects R_Network y_Network_isForServer y_Network_isForServer,
  .methodLink R_OW 95 y_Network_take,
  .selects R_Network y_Network_take y_Network_take,
  .methodLink R_OW 99 y_Server_receive,
  .selects R_Server y_Server_receive y_Server_receive,
  .methodLink R_OW 103 y_Client_receive,
  .selects R_Client y_Client_receive y_Client_receive,
  .methodLink R_OW 104 y_Network_isFull,
  .selects R_Network y_Network_isFull y_Network_isFull,
  .methodLink R_OW 108 y_Network_message,
  .selects R_Network y_Network_message y_Network_message,
  .methodLink R_OW 111 y_Network_send,
  .selects R_Network y_Network_send y_Network_send,
  .methodLink R_OW 115 y_Bytes_append,
  .selects R_Bytes y_Bytes_append y_Bytes_append,
  .methodLink R_OW 118 y_Bytes_clear,
  .selects R_Bytes y_Bytes_clear y_Bytes_clear,
  .methodLink R_OW 126 y_Client_statusOf,
  .selects R_Client y_Client_statusOf y_Client_statusOf,
  .methodLink R_OW 130 y_Client_resultOf,
  .selects R_Client y_Client_resultOf y_Client_resultOf,
  .methodLink R_OW 139 y_Bytes_at,
  .selects R_Bytes y_Bytes_at y_Bytes_at,
  .methodLink R_Bytes 3 Lib.objectInit,
  .arrayClass .int,
  .fieldLink R_Bytes 9 R_Bytes "cells" "[I",
  .fieldLink R_Bytes 15 R_Bytes "length" "I",
  .methodLink R_Bytes 19 y_Bytes_append,
  .methodLink R_Bytes 23 Lib.Math.min.name,
  .static Lib.Math.min.name,
  .initialized "java/lang/Math",
  .code Lib.Math.min.name Lib.Math.min.code 2 (some .int),
  .methodLink R_Bytes 29 Lib.Math.max.name,
  .static Lib.Math.max.name,
  .code Lib.Math.max.name Lib.Math.max.code 2 (some .int),
  .methodLink R_Bytes 32 arraycopyName,
  .native arraycopyName,
  .static arraycopyName,
  .initialized "java/lang/System",
  .constant R_Bytes 38 (65280),
  .methodLink R_Client 3 Lib.objectInit,
  .classLink R_Client 9 R_Bytes,
  .methodLink R_Client 11 y_Bytes_init,
  .fieldLink R_Client 14 R_Client "record" "LOnceWire$Bytes;",
  .fieldLink R_Client 20 R_Client "statuses" "[I",
  .fieldLink R_Client 24 R_Client "results" "[I",
  .fieldLink R_Client 27 R_Client "made" "I",
  .fieldLink R_Client 31 R_Client "xids" "[I",
  .fieldLink R_Client 34 R_Client "ages" "[I",
  .fieldLink R_Client 37 R_Client "messages" "[LOnceWire$Bytes;",
  .fieldLink R_Client 41 R_Client "pending" "I",
  .fieldLink R_Client 44 R_Client "network" "LOnceWire$Network;",
  .fieldLink R_Client 48 R_Client "format" "LOnceWire$Format;",
  .methodLink R_Client 52 y_Bytes_clear,
  .methodLink R_Client 55 y_Bytes_appendWord,
  .selects R_Bytes y_Bytes_appendWord y_Bytes_appendWord,
  .methodLink R_Client 58 ⟨R_Format, "write", "(LOnceWire$Value;LOnceWire$Bytes;)V"⟩,
  .sameMethod R_Format R_Format "write" "(LOnceWire$Value;LOnceWire$Bytes;)V"]
def Wa6 : List Cond := [.selects R_TaggedFormat ⟨R_Format, "write", "(LOnceWire$Value;LOnceWire$Bytes;)V"⟩ y_TaggedFormat_write,
  .selects R_WordFormat ⟨R_Format, "write", "(LOnceWire$Value;LOnceWire$Bytes;)V"⟩ y_WordFormat_write,
  .methodLink R_Client 64 y_Fragments_wrap,
  .methodLink R_Client 70 y_Network_send,
  .methodLink R_Client 76 y_Fragments_unwrap,
  .methodLink R_Client 83 y_Bytes_wordAt,
  .selects R_Bytes y_Bytes_wordAt y_Bytes_wordAt,
  .methodLink R_Client 87 y_Client_pendingPlaceOf,
  .selects R_Client y_Client_pendingPlaceOf y_Client_pendingPlaceOf,
  .methodLink R_Client 90 y_Client_settle,
  .selects R_Client y_Client_settle y_Client_settle,
  .methodLink R_Client 94 y_Bytes_moveToEnd,
  .methodLink R_Fragments 7 y_Bytes_clear,
  .methodLink R_Fragments 18 Lib.Math.min.name,
  .constant R_Fragments 24 (-2147483648),
  .methodLink R_Fragments 25 y_Bytes_appendWord,
  .methodLink R_Fragments 29 y_Bytes_appendPart,
  .selects R_Bytes y_Bytes_appendPart y_Bytes_appendPart,
  .methodLink R_Fragments 33 y_Bytes_wordAt,
  .constant R_Fragments 39 (2147483647),
  .methodLink R_Network 3 Lib.objectInit,
  .classLink R_Network 11 R_Bytes,
  .fieldLink R_Network 13 R_Network "rows" "[LOnceWire$Bytes;",
  .arrayClass .boolean,
  .fieldLink R_Network 17 R_Network "forServer" "[Z",
  .fieldLink R_Network 21 R_Network "count" "I",
  .methodLink R_Network 25 y_Bytes_init,
  .methodLink R_Network 28 y_Network_has,
  .methodLink R_Network 32 y_Network_isFull,
  .methodLink R_Network 36 y_Bytes_become,
  .selects R_Bytes y_Bytes_become y_Bytes_become,
  .methodLink R_Network 40 y_Bytes_moveToEnd,
  .methodLink R_Reader 1 Lib.objectInit,
  .fieldLink R_Reader 7 R_Reader "source" "LOnceWire$Bytes;",
  .fieldLink R_Reader 13 R_Reader "at" "I",
  .fieldLink R_Reader 17 R_Reader "faulty" "Z",
  .methodLink R_Reader 21 Lib.Math.max.name,
  .methodLink R_Schema 3 Lib.objectInit,
  .fieldLink R_Schema 11 R_Schema "numbers" "[I",
  .fieldLink R_Schema 15 R_Schema "kinds" "[I",
  .fieldLink R_Schema 18 R_Schema "keys" "[I",
  .fieldLink R_Schema 21 R_Schema "repeats" "[Z",
  .fieldLink R_Schema 25 R_Schema "count" "I",
  .methodLink R_Schema 29 y_Schema_indexOf,
  .selects R_Schema y_Schema_indexOf y_Schema_indexOf,
  .methodLink R_Schema 33 y_Schema_has,
  .methodLink R_Schema 37 y_Schema_kindOf,
  .selects R_Schema y_Schema_kindOf y_Schema_kindOf,
  .methodLink R_Server 3 Lib.objectInit,
  .classLink R_Server 9 R_Bytes,
  .methodLink R_Server 11 y_Bytes_init,
  .fieldLink R_Server 14 R_Server "record" "LOnceWire$Bytes;",
  .classLink R_Server 20 R_Reader,
  .methodLink R_Server 22 y_Reader_init,
  .fieldLink R_Server 25 R_Server "reader" "LOnceWire$Reader;",
  .fieldLink R_Server 29 R_Server "xids" "[I",
  .fieldLink R_Server 33 R_Server "replies" "[LOnceWire$Bytes;",
  .fieldLink R_Server 37 R_Server "remembered" "I",
  .fieldLink R_Server 41 R_Server "oldest" "I",
  .fieldLink R_Server 44 R_Server "total" "I",
  .fieldLink R_Server 47 R_Server "runs" "I",
  .fieldLink R_Server 50 R_Server "network" "LOnceWire$Network;",
  .fieldLink R_Server 54 R_Server "format" "LOnceWire$Format;",
  .fieldLink R_Server 58 R_Server "value" "LOnceWire$Value;"]
def Wa7 : List Cond := [.methodLink R_Server 62 y_Fragments_unwrap,
  .methodLink R_Server 71 y_Bytes_wordAt,
  .methodLink R_Server 75 y_Network_send,
  .methodLink R_Server 81 y_Server_answer,
  .selects R_Server y_Server_answer y_Server_answer,
  .methodLink R_Server 85 y_Server_reply,
  .selects R_Server y_Server_reply y_Server_reply,
  .methodLink R_Server 89 y_Reader_startAt,
  .selects R_Reader y_Reader_startAt y_Reader_startAt,
  .methodLink R_Server 92 ⟨R_Format, "read", "(LOnceWire$Reader;LOnceWire$Value;)Z"⟩,
  .sameMethod R_Format R_Format "read" "(LOnceWire$Reader;LOnceWire$Value;)Z",
  .selects R_TaggedFormat ⟨R_Format, "read", "(LOnceWire$Reader;LOnceWire$Value;)Z"⟩ y_TaggedFormat_read,
  .selects R_WordFormat ⟨R_Format, "read", "(LOnceWire$Reader;LOnceWire$Value;)Z"⟩ y_WordFormat_read,
  .methodLink R_Server 98 y_Value_digest,
  .selects R_Value y_Value_digest y_Value_digest,
  .methodLink R_Server 104 y_Server_run,
  .selects R_Server y_Server_run y_Server_run,
  .methodLink R_Server 107 y_Bytes_clear,
  .methodLink R_Server 110 y_Bytes_appendWord,
  .methodLink R_Server 113 y_Server_slotForNew,
  .selects R_Server y_Server_slotForNew y_Server_slotForNew,
  .methodLink R_Server 116 y_Fragments_wrap,
  .methodLink R_TaggedFormat 3 y_Format_init,
  .fieldLink R_TaggedFormat 9 R_TaggedFormat "schema" "LOnceWire$Schema;",
  .sameField R_TaggedFormat R_Format "schema" "LOnceWire$Schema;",
  .methodLink R_TaggedFormat 21 y_Value_countOf,
  .selects R_Value y_Value_countOf y_Value_countOf,
  .methodLink R_TaggedFormat 27 y_Value_intOf,
  .selects R_Value y_Value_intOf y_Value_intOf,
  .methodLink R_TaggedFormat 31 y_Schema_isRepeated,
  .selects R_Schema y_Schema_isRepeated y_Schema_isRepeated,
  .methodLink R_TaggedFormat 35 y_Schema_keyOf,
  .selects R_Schema y_Schema_keyOf y_Schema_keyOf,
  .methodLink R_TaggedFormat 38 y_TaggedFormat_writeVarint,
  .methodLink R_TaggedFormat 42 y_Schema_kindOf,
  .methodLink R_TaggedFormat 45 y_TaggedFormat_writeInt,
  .methodLink R_TaggedFormat 49 y_Bytes_swapped,
  .methodLink R_TaggedFormat 54 y_Bytes_appendWord,
  .constantLong R_TaggedFormat 58 (2),
  .constantLong R_TaggedFormat 60 (-2),
  .constantLong R_TaggedFormat 62 (4294967295),
  .constantLong R_TaggedFormat 66 (127),
  .methodLink R_TaggedFormat 68 y_Bytes_append,
  .methodLink R_TaggedFormat 71 y_Value_clear,
  .methodLink R_TaggedFormat 75 y_Reader_left,
  .selects R_Reader y_Reader_left y_Reader_left,
  .methodLink R_TaggedFormat 79 y_TaggedFormat_readEntry,
  .selects R_TaggedFormat y_TaggedFormat_readEntry y_TaggedFormat_readEntry,
  .methodLink R_TaggedFormat 83 y_Reader_takeVarint,
  .selects R_Reader y_Reader_takeVarint y_Reader_takeVarint,
  .constantLong R_TaggedFormat 91 (8),
  .constantLong R_TaggedFormat 93 (7),
  .methodLink R_TaggedFormat 95 y_TaggedFormat_takePayload,
  .methodLink R_TaggedFormat 99 y_Schema_indexOf,
  .methodLink R_TaggedFormat 102 y_TaggedFormat_intOfPayload,
  .methodLink R_TaggedFormat 106 y_Value_store,
  .methodLink R_TaggedFormat 110 y_Reader_takeWord,
  .selects R_Reader y_Reader_takeWord y_Reader_takeWord,
  .methodLink R_TaggedFormat 113 y_Reader_skip,
  .selects R_Reader y_Reader_skip y_Reader_skip,
  .methodLink R_Value 1 Lib.objectInit,
  .fieldLink R_Value 11 R_Value "ints" "[I",
  .fieldLink R_Value 15 R_Value "listed" "[I",
  .fieldLink R_Value 18 R_Value "schema" "LOnceWire$Schema;"]
def Wa8 : List Cond := [.methodLink R_Value 22 y_Schema_has,
  .methodLink R_Value 30 y_Value_countOf,
  .methodLink R_Value 38 y_Schema_isRepeated,
  .methodLink R_Value 41 y_Value_intOf,
  .methodLink R_WordFormat 1 y_Format_init,
  .fieldLink R_WordFormat 7 R_WordFormat "schema" "LOnceWire$Schema;",
  .sameField R_WordFormat R_Format "schema" "LOnceWire$Schema;",
  .methodLink R_WordFormat 19 y_Value_countOf,
  .methodLink R_WordFormat 25 y_Schema_isRepeated,
  .methodLink R_WordFormat 29 y_Bytes_appendWord,
  .methodLink R_WordFormat 35 y_Value_intOf,
  .methodLink R_WordFormat 39 y_Value_clear,
  .methodLink R_WordFormat 43 y_Reader_takeWord,
  .methodLink R_WordFormat 53 y_Schema_allows,
  .methodLink R_WordFormat 57 y_Value_store,
  .methodLink R_WordFormat 60 y_Reader_left,
  .methodLink R_Format 1 Lib.objectInit,
  .fieldLink R_Format 7 R_Format "schema" "LOnceWire$Schema;",
  .methodLink R_Md 1 Lib.objectInit,
  .fieldLink R_Md 7 R_Md "numbers" "[I",
  .fieldLink R_Md 13 R_Md "kinds" "[I",
  .fieldLink R_Md 16 R_Md "repeated" "[Z",
  .fieldLink R_Md 20 R_Md "many" "[I",
  .fieldLink R_Md 23 R_Md "ints" "[I",
  .fieldLink R_Md 26 R_Md "sheet" "[I",
  .fieldLink R_Md 29 R_Md "message" "[I",
  .fieldLink R_Md 32 R_Md "net" "[I",
  .fieldLink R_Md 35 R_Md "lengths" "[I",
  .fieldLink R_Md 38 R_Md "replies" "[Z",
  .fieldLink R_Md 41 R_Md "draft" "[I",
  .fieldLink R_Md 44 R_Md "knownXid" "[I",
  .fieldLink R_Md 47 R_Md "knownStatus" "[I",
  .fieldLink R_Md 50 R_Md "knownResult" "[I",
  .fieldLink R_Md 53 R_Md "state" "[I",
  .fieldLink R_Md 56 R_Md "results" "[I",
  .fieldLink R_Md 59 R_Md "ages" "[I",
  .fieldLink R_Md 62 R_Md "kept" "[I",
  .fieldLink R_Md 65 R_Md "keptLength" "[I",
  .fieldLink R_Md 68 R_Md "owner" "[I",
  .fieldLink R_Md 71 R_Md "words" "Z",
  .fieldLink R_Md 75 R_Md "fields" "I",
  .methodLink R_Md 79 y_Md_empty,
  .selects R_Md y_Md_empty y_Md_empty,
  .methodLink R_Md 83 y_Md_give,
  .selects R_Md y_Md_give y_Md_give,
  .fieldLink R_Md 87 R_Md "recordLength" "I",
  .methodLink R_Md 90 y_Md_write,
  .selects R_Md y_Md_write y_Md_write,
  .constantLong R_Md 93 (128),
  .constantLong R_Md 95 (8),
  .constantLong R_Md 97 (5),
  .methodLink R_Md 99 y_Md_writeVarint,
  .selects R_Md y_Md_writeVarint y_Md_writeVarint,
  .constantLong R_Md 103 (4294967296),
  .constantLong R_Md 105 (-2),
  .constantLong R_Md 107 (2),
  .methodLink R_Md 109 y_Md_writeWord,
  .selects R_Md y_Md_writeWord y_Md_writeWord,
  .methodLink R_Md 112 y_Md_writeTagged,
  .selects R_Md y_Md_writeTagged y_Md_writeTagged,
  .fieldLink R_Md 116 R_Md "messageLength" "I",
  .fieldLink R_Md 119 R_Md "line" "I",
  .methodLink R_Md 122 y_Md_isMessage,
  .selects R_Md y_Md_isMessage y_Md_isMessage]
def Wa9 : List Cond := [.methodLink R_Md 126 y_Md_load,
  .selects R_Md y_Md_load y_Md_load,
  .methodLink R_Md 129 y_Md_send,
  .selects R_Md y_Md_send y_Md_send,
  .constant R_Md 133 (65536),
  .fieldLink R_Md 134 R_Md "at" "I",
  .fieldLink R_Md 137 R_Md "number" "J",
  .constantLong R_Md 141 (4294967295),
  .methodLink R_Md 143 y_Md_readVarint,
  .selects R_Md y_Md_readVarint y_Md_readVarint,
  .methodLink R_Md 147 y_Md_fieldOf,
  .selects R_Md y_Md_fieldOf y_Md_fieldOf,
  .methodLink R_Md 151 y_Md_meant,
  .selects R_Md y_Md_meant y_Md_meant,
  .constantLong R_Md 155 (4),
  .methodLink R_Md 157 y_Md_readTagged,
  .selects R_Md y_Md_readTagged y_Md_readTagged,
  .methodLink R_Md 160 y_Md_word,
  .selects R_Md y_Md_word y_Md_word,
  .methodLink R_Md 163 y_Md_readWords,
  .selects R_Md y_Md_readWords y_Md_readWords,
  .methodLink R_Md 166 y_Md_readTaggedBody,
  .selects R_Md y_Md_readTaggedBody y_Md_readTaggedBody,
  .methodLink R_Md 169 y_Md_fragment,
  .selects R_Md y_Md_fragment y_Md_fragment,
  .fieldLink R_Md 172 R_Md "total" "I",
  .methodLink R_Md 175 y_Md_digest,
  .selects R_Md y_Md_digest y_Md_digest,
  .fieldLink R_Md 179 R_Md "runs" "I",
  .fieldLink R_Md 182 R_Md "known" "I",
  .methodLink R_Md 185 y_Md_gather,
  .selects R_Md y_Md_gather y_Md_gather,
  .methodLink R_Md 188 y_Md_sendReply,
  .selects R_Md y_Md_sendReply y_Md_sendReply,
  .methodLink R_Md 192 y_Md_readBody,
  .selects R_Md y_Md_readBody y_Md_readBody,
  .methodLink R_Md 195 y_Md_run,
  .selects R_Md y_Md_run y_Md_run,
  .methodLink R_Md 198 y_Md_remember,
  .selects R_Md y_Md_remember y_Md_remember,
  .fieldLink R_Md 201 R_Md "calls" "I",
  .methodLink R_Md 204 y_Md_slotOf,
  .selects R_Md y_Md_slotOf y_Md_slotOf,
  .methodLink R_Md 207 y_Md_writeDraft,
  .selects R_Md y_Md_writeDraft y_Md_writeDraft,
  .methodLink R_Md 210 y_Md_sendKept,
  .selects R_Md y_Md_sendKept y_Md_sendKept,
  .methodLink R_Md 213 y_Md_lose,
  .selects R_Md y_Md_lose y_Md_lose,
  .methodLink R_Md 216 y_Md_accept,
  .selects R_Md y_Md_accept y_Md_accept,
  .methodLink R_Md 219 y_Md_serve,
  .selects R_Md y_Md_serve y_Md_serve,
  .fieldLink R_Md 222 R_Md "drafted" "I",
  .classLink R_Lw 7 R_OW,
  .methodLink R_Lw 9 y_Lw_cell,
  .methodLink R_Lw 15 y_OW_init,
  .classLink R_Lw 18 R_Md,
  .methodLink R_Lw 20 y_Md_init,
  .methodLink R_Lw 21 y_OW_field,
  .selects R_OW y_OW_field y_OW_field,
  .methodLink R_Lw 25 y_Md_field,
  .selects R_Md y_Md_field y_Md_field,
  .methodLink R_Lw 26 y_OW_put]
def Wa10 : List Cond := [.selects R_OW y_OW_put y_OW_put,
  .methodLink R_Lw 30 y_Md_put,
  .selects R_Md y_Md_put y_Md_put,
  .methodLink R_Lw 31 y_OW_reset,
  .selects R_OW y_OW_reset y_OW_reset,
  .methodLink R_Lw 34 y_Md_reset,
  .selects R_Md y_Md_reset y_Md_reset,
  .methodLink R_Lw 35 y_OW_call,
  .selects R_OW y_OW_call y_OW_call,
  .methodLink R_Lw 39 y_Md_call,
  .selects R_Md y_Md_call y_Md_call,
  .methodLink R_Lw 40 y_OW_tick,
  .selects R_OW y_OW_tick y_OW_tick,
  .methodLink R_Lw 44 y_Md_tick,
  .selects R_Md y_Md_tick y_Md_tick,
  .methodLink R_Lw 45 y_OW_deliver,
  .selects R_OW y_OW_deliver y_OW_deliver,
  .methodLink R_Lw 48 y_Md_deliver,
  .selects R_Md y_Md_deliver y_Md_deliver,
  .methodLink R_Lw 49 y_OW_lose,
  .selects R_OW y_OW_lose y_OW_lose,
  .methodLink R_Lw 53 y_Md_lose,
  .methodLink R_Lw 54 y_OW_copy,
  .selects R_OW y_OW_copy y_OW_copy,
  .methodLink R_Lw 57 y_Md_copy,
  .selects R_Md y_Md_copy y_Md_copy,
  .methodLink R_Lw 58 y_OW_add,
  .selects R_OW y_OW_add y_OW_add,
  .methodLink R_Lw 61 y_Md_add,
  .selects R_Md y_Md_add y_Md_add,
  .methodLink R_Lw 62 y_OW_hand,
  .selects R_OW y_OW_hand y_OW_hand,
  .methodLink R_Lw 66 y_Md_hand,
  .selects R_Md y_Md_hand y_Md_hand,
  .methodLink R_Lw 67 y_OW_total,
  .selects R_OW y_OW_total y_OW_total,
  .methodLink R_Lw 70 y_Md_total,
  .selects R_Md y_Md_total y_Md_total,
  .methodLink R_Lw 71 y_OW_runs,
  .selects R_OW y_OW_runs y_OW_runs,
  .methodLink R_Lw 74 y_Md_runs,
  .selects R_Md y_Md_runs y_Md_runs,
  .methodLink R_Lw 75 y_OW_status,
  .selects R_OW y_OW_status y_OW_status,
  .methodLink R_Lw 78 y_Md_status,
  .selects R_Md y_Md_status y_Md_status,
  .methodLink R_Lw 79 y_OW_result,
  .selects R_OW y_OW_result y_OW_result,
  .methodLink R_Lw 82 y_Md_result,
  .selects R_Md y_Md_result y_Md_result,
  .methodLink R_Lw 83 y_OW_flight,
  .selects R_OW y_OW_flight y_OW_flight,
  .methodLink R_Lw 86 y_Md_flight,
  .selects R_Md y_Md_flight y_Md_flight,
  .methodLink R_Lw 87 y_OW_size,
  .selects R_OW y_OW_size y_OW_size,
  .methodLink R_Lw 90 y_Md_size,
  .selects R_Md y_Md_size y_Md_size,
  .methodLink R_Lw 91 y_OW_byteAt,
  .selects R_OW y_OW_byteAt y_OW_byteAt,
  .methodLink R_Lw 95 y_Md_byteAt,
  .selects R_Md y_Md_byteAt y_Md_byteAt]
def Wl_OW : List Cond := u_ws R_OW F_OW 6
def Wl_Bytes : List Cond := u_ws R_Bytes F_Bytes 2
def Wl_Client : List Cond := u_ws R_Client F_Client 10
def Wl_Network : List Cond := u_ws R_Network F_Network 3
def Wl_Reader : List Cond := u_ws R_Reader F_Reader 3
def Wl_Schema : List Cond := u_ws R_Schema F_Schema 5
def Wl_Server : List Cond := u_ws R_Server F_Server 11
def Wl_TaggedFormat : List Cond := u_ws R_TaggedFormat F_TaggedFormat 1
def Wl_Value : List Cond := u_ws R_Value F_Value 3
def Wl_WordFormat : List Cond := u_ws R_WordFormat F_WordFormat 1
def Wl_Md : List Cond := u_ws R_Md F_Md 32
def Wss : List (List Cond) := [Wa0, Wa1, Wa2, Wa3, Wa4, Wa5, Wa6, Wa7, Wa8, Wa9, Wa10, Wl_OW, Wl_Bytes, Wl_Client, Wl_Network, Wl_Reader, Wl_Schema, Wl_Server, Wl_TaggedFormat, Wl_Value, Wl_WordFormat, Wl_Md]
def Ws : List Cond := Wss.flatten
def nws : List Cond := [.methodLinkNest R_OW 9 y_Schema_init R_OW,
  .fieldLinkNest R_OW 119 R_Server "total" "I" R_OW,
  .fieldLinkNest R_OW 123 R_Server "runs" "I" R_OW,
  .fieldLinkNest R_OW 133 R_Network "count" "I" R_OW,
  .fieldLinkNest R_OW 136 R_Bytes "length" "I" R_OW,
  .arrayOver (.object "OnceWire$Bytes"),
  .declares ⟨R_Format, "write", "(LOnceWire$Value;LOnceWire$Bytes;)V"⟩,
  .fieldLinkNest R_Client 80 R_Bytes "length" "I" R_OW,
  .fieldLinkNest R_Fragments 12 R_Bytes "length" "I" R_OW,
  .fieldLinkNest R_Reader 27 R_Bytes "length" "I" R_OW,
  .fieldLinkNest R_Reader 32 R_Bytes "cells" "[I" R_OW,
  .fieldLinkNest R_Server 68 R_Bytes "length" "I" R_OW,
  .declares ⟨R_Format, "read", "(LOnceWire$Reader;LOnceWire$Value;)Z"⟩,
  .fieldLinkNest R_TaggedFormat 15 R_Schema "count" "I" R_OW,
  .fieldLinkNest R_TaggedFormat 87 R_Reader "faulty" "Z" R_OW,
  .fieldLinkNest R_Value 26 R_Schema "repeats" "[Z" R_OW,
  .fieldLinkNest R_Value 34 R_Schema "count" "I" R_OW,
  .fieldLinkNest R_WordFormat 13 R_Schema "count" "I" R_OW,
  .fieldLinkNest R_WordFormat 49 R_Reader "faulty" "Z" R_OW]
theorem Ws_in {i : Nat} {l : List Cond} {x : Cond} (hi : Wss[i]? = some l) (hx : x ∈ l) : x ∈ Ws := List.mem_flatten.mpr ⟨l, List.mem_of_getElem? hi, hx⟩
theorem Ws_at {i k : Nat} {l : List Cond} {x : Cond} (hi : Wss[i]? = some l) (hx : l[k]? = some x) : x ∈ Ws := Ws_in hi (List.mem_of_getElem? hx)
theorem Wl_OW_in : ∀ x ∈ u_ws R_OW F_OW 6, x ∈ Ws := fun x h => Ws_in (i := 11) (l := Wl_OW) rfl h
theorem Wl_Bytes_in : ∀ x ∈ u_ws R_Bytes F_Bytes 2, x ∈ Ws := fun x h => Ws_in (i := 12) (l := Wl_Bytes) rfl h
theorem Wl_Client_in : ∀ x ∈ u_ws R_Client F_Client 10, x ∈ Ws := fun x h => Ws_in (i := 13) (l := Wl_Client) rfl h
theorem Wl_Network_in : ∀ x ∈ u_ws R_Network F_Network 3, x ∈ Ws := fun x h => Ws_in (i := 14) (l := Wl_Network) rfl h
theorem Wl_Reader_in : ∀ x ∈ u_ws R_Reader F_Reader 3, x ∈ Ws := fun x h => Ws_in (i := 15) (l := Wl_Reader) rfl h
theorem Wl_Schema_in : ∀ x ∈ u_ws R_Schema F_Schema 5, x ∈ Ws := fun x h => Ws_in (i := 16) (l := Wl_Schema) rfl h
theorem Wl_Server_in : ∀ x ∈ u_ws R_Server F_Server 11, x ∈ Ws := fun x h => Ws_in (i := 17) (l := Wl_Server) rfl h
theorem Wl_TaggedFormat_in : ∀ x ∈ u_ws R_TaggedFormat F_TaggedFormat 1, x ∈ Ws := fun x h => Ws_in (i := 18) (l := Wl_TaggedFormat) rfl h
theorem Wl_Value_in : ∀ x ∈ u_ws R_Value F_Value 3, x ∈ Ws := fun x h => Ws_in (i := 19) (l := Wl_Value) rfl h
theorem Wl_WordFormat_in : ∀ x ∈ u_ws R_WordFormat F_WordFormat 1, x ∈ Ws := fun x h => Ws_in (i := 20) (l := Wl_WordFormat) rfl h
theorem Wl_Md_in : ∀ x ∈ u_ws R_Md F_Md 32, x ∈ Ws := fun x h => Ws_in (i := 21) (l := Wl_Md) rfl h
end
section
/-! The abstract layer: a world whose addresses are numbers 1, 2, 3 .. in the order of making (0: the script), one judgement of a method's walk (Tri) and one of a whole call (Con) that hide the machine. -/
-- a cell: an array (type of its elements, length, ints or references), or an object (its class's number, its fields)
abbrev aC : Type := (FieldType × Nat × ((Nat → Int32) ⊕ (Nat → Option Nat))) ⊕ (Nat × List Value)
abbrev aH : Type := Nat → Option aC
-- a method: its name, its code, its locals, what it answers
abbrev aM : Type := MethodName × ByteArray × Nat × Option FieldType
abbrev aQ : Type := Option Value → aH → Prop
def a_ad (b bs : Nat) : Nat → Nat
  | 0 => bs
  | k + 1 => b + k
def a_v (b bs : Nat) : Value → Value
  | .ref k => .ref (a_ad b bs k)
  | v => v
theorem a_cat (b bs : Nat) (v : Value) : (a_v b bs v).category = v.category := by cases v <;> rfl
def a_e (κ : FieldType → ClassId) (b bs : Nat) : aC → va_E
  | .inl (ty, n, .inl f) => .inl (κ ty, n, .inl f)
  | .inl (ty, n, .inr f) => .inl (κ ty, n, .inr (.inr (.inr (.inr (fun j => (f j).map (a_ad b bs))))))
  | .inr (ci, fs) => .inr (ci, fs.map (a_v b bs))
def a_ws (κ : FieldType → ClassId) (b bs n : Nat) (h : aH) : va_W := (List.range n).map (fun k => (b + k, a_e κ b bs ((h (k + 1)).getD (.inr (0, [])))))
theorem a_ws_at {κ : FieldType → ClassId} {b bs n k : Nat} {h : aH} {c : aC} (hk : k < n) (hc : h (k + 1) = some c) : (a_ws κ b bs n h)[k]? = some (b + k, a_e κ b bs c) := by
  simp [a_ws, List.getElem?_map, List.getElem?_range hk, hc]
theorem a_ws_len {κ : FieldType → ClassId} {b bs n : Nat} {h : aH} : (a_ws κ b bs n h).length = n := by simp [a_ws]
theorem a_ws_in {κ : FieldType → ClassId} {b bs n k : Nat} {h : aH} {q : Nat × va_E} (hk : (a_ws κ b bs n h)[k]? = some q) : k < n ∧ q = (b + k, a_e κ b bs ((h (k + 1)).getD (.inr (0, [])))) := by
  have hl : k < n := by
    have := (List.getElem?_eq_some_iff.mp hk).1
    rw [a_ws_len] at this
    exact this
  refine ⟨hl, ?_⟩
  simp only [a_ws, List.getElem?_map, List.getElem?_range hl, Option.map_some, Option.some.injEq] at hk
  exact hk.symm
theorem a_ws_set {κ : FieldType → ClassId} {b bs n k : Nat} {h : aH} {c : aC} (hk : k < n) : (a_ws κ b bs n h).set k (b + k, a_e κ b bs c) = a_ws κ b bs n (va_up h (k + 1) (some c)) := by
  apply List.ext_getElem?
  intro j
  by_cases hj : j = k
  · subst hj
    rw [List.getElem?_set_self (by rw [a_ws_len]; exact hk), a_ws_at hk (va_up_self h (j + 1) (some c))]
  · rw [List.getElem?_set_ne (Ne.symm hj)]
    simp only [a_ws, List.getElem?_map]
    by_cases hl : j < n
    · rw [List.getElem?_range hl]
      simp only [Option.map_some]
      rw [va_up_ne h (some c) (show j + 1 ≠ k + 1 by omega)]
    · rw [List.getElem?_eq_none (by simp; omega)]
      rfl
theorem a_ws_push {κ : FieldType → ClassId} {b bs n : Nat} {h : aH} {c : aC} : a_ws κ b bs n h ++ [(b + n, a_e κ b bs c)] = a_ws κ b bs (n + 1) (va_up h (n + 1) (some c)) := by
  simp only [a_ws, List.range_succ, List.map_append, List.map_cons, List.map_nil, va_up_self, Option.getD_some]
  congr 1
  apply List.map_congr_left
  intro k hk
  have hk : k < n := List.mem_range.mp hk
  rw [va_up_ne h (some c) (show k + 1 ≠ n + 1 by omega)]
theorem a_D {κ : FieldType → ClassId} {b bs n : Nat} {h : aH} : va_D (fun q => b ≤ q) (a_ws κ b bs n h) := by
  refine ⟨fun i j x y hi hj hxy => ?_, fun k q hk => ?_⟩
  · rw [(a_ws_in hi).2, (a_ws_in hj).2] at hxy
    have hxy : b + i = b + j := hxy
    omega
  · rw [(a_ws_in hk).2]
    exact Nat.le_add_right b k
-- the three kinds of arrays
abbrev a_tB : FieldType := .object "OnceWire$Bytes"
abbrev a_ty (κ : FieldType → ClassId) : List (ClassId × FieldType) := [(κ .int, .int), (κ .boolean, .boolean), (κ a_tB, a_tB)]
/-- the heap holds the world h of n cells -/
def a_R (κ : FieldType → ClassId) (D : va_G) (b bs n : Nat) (h : aH) (H : Heap) : Prop := (∀ k : Nat, (h (k + 1)).isSome = true ↔ k < n) ∧ va_P D classes (a_ws κ b bs n h) H
/-- the script, where there is one -/
def a_X (bs : Nat) (X0 : Option aC) (U : State) : Prop := X0 = none ∨ ∃ (L : Nat) (xs : Nat → Int32), X0 = some (.inl (.int, L, .inl xs)) ∧ va_X bs L xs U U.heap
def a_B (κ : FieldType → ClassId) (D : va_G) (b bs n : Nat) (h : aH) (U : State) : Prop := U.heap.size = b + n ∧ a_R κ D b bs n h U.heap ∧ va_K D classes (a_ty κ) U ∧ bs < b ∧ a_X bs (h 0) U ∧ ∀ w ∈ nws, va_Nw w U
def a_Q (κ : FieldType → ClassId) (D : va_G) (b bs mc : Nat) (X0 : Option aC) (Q : aQ) : Array Value → State → Outcome → State → Prop := fun _ st oc t => (∃ (r : Option Value) (n : Nat) (h : aH), Q r h ∧ h 0 = X0 ∧ st.heap.size + mc = b + n ∧ oc = .returned (r.map (a_v b bs)) ∧ a_R κ D b bs n h t.heap) ∧ va_F (fun q => b ≤ q) st t
def a_rm (d mc ms : Nat) : Room := { frames := d, cells := mc, slots := ms, locals := 30 * d }
abbrev a_w (μ : aM) : List Cond := Cond.code μ.1 μ.2.1 μ.2.2.1 μ.2.2.2 :: Ws
/-- a call of μ with these arguments in the world h of n cells ends, and its answer and the world behind it are as Q says; d: frames that it nests; mc, ms: cells and slots that it makes -/
def Con (μ : aM) (d mc ms n : Nat) (as : List Value) (h : aH) (Q : aQ) : Prop := ∀ (l : Launch) (κ : FieldType → ClassId) (D : va_G) (b bs : Nat), Met l μ.1 (a_w μ) (a_rm d mc ms) (va_Pc (as.map (a_v b bs)) (a_B κ D b bs n h)) (a_Q κ D b bs mc (h 0) Q) mc ms (fun q => b ≤ q)
def a_Cx (μ : aM) (p : Program) (s : State) (m : MethodId) (args : Array Value) (meth : Method) (c : Code) (κ : FieldType → ClassId) (D : va_G) (b bs : Nat) (X0 : Option aC) : Prop :=
  p.tables.exec = Jvm.exec ∧ c.code = μ.2.1 ∧ c.maxLocals = μ.2.2.1 ∧ meth.sig.returnType = μ.2.2.2 ∧ meth.locks = false ∧ (∀ w ∈ Ws, w.before args s = true) ∧ s.vm.findClass μ.1.cls = some m.cls ∧ (μ.1.name = "<init>" → meth.name = "<init>") ∧ va_K D classes (a_ty κ) s ∧ (∀ w ∈ nws, va_Nw w s) ∧ bs < b ∧ b ≤ s.heap.size ∧ a_X bs X0 s
def a_St (κ : FieldType → ClassId) (D : va_G) (b bs : Nat) (X0 : Option aC) (s : State) (n : Nat) (h : aH) (cells : Nat) (H : Heap) (locs : List Loc) : Prop := h 0 = X0 ∧ s.heap.size + cells = b + n ∧ a_R κ D b bs n h H ∧ va_S (fun q => b ≤ q) s.heap H locs
def a_L (b bs : Nat) (L : List (Nat × Value)) : List (Nat × Value) := L.map (fun q => (q.1, a_v b bs q.2))
abbrev aZ : Type := List Frame → Array Value → State → (FieldType → ClassId) → va_G → Nat → Nat → Option aC → State → Prop
/-- a method's end -/
def a_Z (mc ms : Nat) (Q : aQ) : aZ := fun below args s κ D b bs X0 => MQ below (a_Q κ D b bs mc X0 Q) args s mc ms (fun q => b ≤ q)
/-- a method's walk: from pc, with locals L and operands S (top first), in the world h of n cells, cells and slots made so far: it comes to an end as Z says -/
def Tri (μ : aM) (R : Room) (Z : aZ) (pc : Nat) (L : List (Nat × Value)) (S : List Value) (n : Nat) (h : aH) (cells slots : Nat) : Prop :=
  ∀ (p : Program) (l : Launch) (e : Env) (s : State) (m : MethodId) (args : Array Value) (below : List Frame) (meth : Method) (c : Code) (κ : FieldType → ClassId) (D : va_G) (b bs : Nat) (X0 : Option aC) (H : Heap) (locs : List Loc) (ls : Array Slot),
    a_Cx μ p s m args meth c κ D b bs X0 → a_St κ D b bs X0 s n h cells H locs → lv_has ls μ.2.2.1 (a_L b bs L) →
    W p l e R s m args below meth c H locs cells slots (Z below args s κ D b bs X0) (F0 m pc ls (S.map (a_v b bs)))
-- entry
theorem a_args (b bs : Nat) : ∀ (as : List Value) (i : Nat), lv_args i (as.map (a_v b bs)) = a_L b bs (lv_args i as)
  | [], _ => rfl
  | v :: t, i => by
    simp only [List.map_cons, lv_args, a_L, a_cat]
    rw [a_args b bs t]
    rfl
theorem a_sl (b bs : Nat) : ∀ as : List Value, (lg_sl (as.map (a_v b bs))).length = (lg_sl as).length
  | [] => rfl
  | v :: t => by
    have ih := a_sl b bs t
    simp only [lg_sl, List.map_cons, List.flatMap_cons, List.length_append, a_cat] at ih ⊢
    rw [ih]
    by_cases hc : v.category = 2 <;> simp [hc]
theorem Con.of {μ : aM} {d mc ms n : Nat} {as : List Value} {h : aH} {Q : aQ} (hy : plainName μ.1.cls = true) (hn : (lg_sl as).length ≤ μ.2.2.1) (k : Tri μ (a_rm d mc ms) (a_Z mc ms Q) 0 (lv_args 0 as) [] n h 0 0) : Con μ d mc ms n as h Q := by
  intro l κ D b bs
  refine Met.ofW (cc := μ.2.1) (maxL := μ.2.2.1) (ret := μ.2.2.2) hy rfl ?_
  intro p e s m args below meth c s₁ B hml hv
  obtain ⟨rfl, hz, hR, hK, hbs, hX, hN⟩ := hv
  have hts := atoms_spec (ws := a_w μ) B.pre
  rw [lg_entry_eq]
  refine k p l e s m _ below meth c κ D b bs (h 0) s.heap [] _ ⟨B.exec, B.bytes, hml, B.returns, B.notSynchronized, fun w hw => hts w (List.mem_cons_of_mem _ hw), findClass_of_methodNamed B.named, fun q => (name_of_methodNamed B.named B.method).1.trans q, hK, hN, hbs, by rw [hz]; exact Nat.le_add_right b n, hX⟩ ⟨rfl, hz, hR, va_S.rf⟩ ?_
  rw [← a_args]
  exact lv_entry (as.map (a_v b bs)) (n := μ.2.2.1) (by rw [a_sl]; exact hn)
-- locals
def a_lk (i : Nat) : List (Nat × Value) → Option Value
  | [] => none
  | q :: t => match Nat.beq i q.1 with
    | true => some q.2
    | false => a_lk i t
theorem a_lk_mem {i : Nat} {v : Value} : ∀ {L : List (Nat × Value)}, a_lk i L = some v → (i, v) ∈ L
  | [], h => by cases h
  | q :: t, h => by
    unfold a_lk at h
    split at h
    · rename_i hb
      have e : i = q.1 := Nat.eq_of_beq_eq_true hb
      cases h
      rw [e]
      exact List.mem_cons_self
    · exact List.mem_cons_of_mem _ (a_lk_mem h)
theorem a_at {b bs nL i : Nat} {ls : Array Slot} {L : List (Nat × Value)} {v : Value} (V : lv_has ls nL (a_L b bs L)) (hl : a_lk i L = some v) : ls[i]? = some (.val (a_v b bs v)) :=
  V.2.2 (i, a_v b bs v) (List.mem_map.mpr ⟨(i, v), a_lk_mem hl, rfl⟩)
def a_s1 (i : Nat) (v : Value) (L : List (Nat × Value)) : List (Nat × Value) := (i, v) :: L.filter (fun q => !(q.1 == i) && !(q.1 + 1 == i && q.2.category == 2))
def a_s2 (i : Nat) (v : Value) (L : List (Nat × Value)) : List (Nat × Value) := (i, v) :: L.filter (fun q => !(q.1 == i) && (!(q.1 == i + 1) && !(q.1 + 1 == i && q.2.category == 2)))
theorem a_s1_L (b bs i : Nat) (v : Value) (L : List (Nat × Value)) : (i, a_v b bs v) :: (a_L b bs L).filter (fun q => !(q.1 == i) && !(q.1 + 1 == i && q.2.category == 2)) = a_L b bs (a_s1 i v L) := by
  simp only [a_L, a_s1, List.map_cons, List.filter_map, Function.comp_def, a_cat]
theorem a_s2_L (b bs i : Nat) (v : Value) (L : List (Nat × Value)) : (i, a_v b bs v) :: (a_L b bs L).filter (fun q => !(q.1 == i) && (!(q.1 == i + 1) && !(q.1 + 1 == i && q.2.category == 2))) = a_L b bs (a_s2 i v L) := by
  simp only [a_L, a_s2, List.map_cons, List.filter_map, Function.comp_def, a_cat]
theorem a_sum (b bs : Nat) (S : List Value) : ((S.map (a_v b bs)).map fun v => v.category).sum = (S.map fun v => v.category).sum := by
  rw [List.map_map]
  congr 1
  apply List.map_congr_left
  intro v _
  exact a_cat b bs v
-- the world, cell by cell
theorem a_pos {κ : FieldType → ClassId} {D : va_G} {b bs n a cells : Nat} {X0 : Option aC} {s : State} {h : aH} {H : Heap} {locs : List Loc} {c : aC} (hX : a_X bs X0 s) (T : a_St κ D b bs X0 s n h cells H locs) (ha : h a = some c) (hc : ∀ (L : Nat) (xs : Nat → Int32), c ≠ .inl (.int, L, .inl xs)) : ∃ k, a = k + 1 ∧ k < n ∧ (a_ws κ b bs n h)[k]? = some (b + k, a_e κ b bs c) := by
  cases a with
  | zero =>
    rw [T.1] at ha
    rcases hX with hX | ⟨L, xs, hX, -⟩
    · rw [hX] at ha
      cases ha
    · rw [hX] at ha
      exact absurd (Option.some.inj ha).symm (hc L xs)
  | succ k =>
    have hk : k < n := (T.2.2.1.1 k).mp (by rw [ha]; rfl)
    exact ⟨k, rfl, hk, a_ws_at hk ha⟩
theorem a_pos' {κ : FieldType → ClassId} {D : va_G} {b bs n a cells : Nat} {X0 : Option aC} {s : State} {h : aH} {H : Heap} {locs : List Loc} {c : aC} (T : a_St κ D b bs X0 s n h cells H locs) (ha : h a = some c) (h0 : a ≠ 0) : ∃ k, a = k + 1 ∧ k < n ∧ (a_ws κ b bs n h)[k]? = some (b + k, a_e κ b bs c) := by
  cases a with
  | zero => exact absurd rfl h0
  | succ k =>
    have hk : k < n := (T.2.2.1.1 k).mp (by rw [ha]; rfl)
    exact ⟨k, rfl, hk, a_ws_at hk ha⟩
/-- a cell of the world is written -/
theorem a_St.put {κ : FieldType → ClassId} {D : va_G} {b bs n k cells : Nat} {X0 : Option aC} {s : State} {h : aH} {H H1 : Heap} {locs locs1 : List Loc} {c : aC} {E : va_E} (T : a_St κ D b bs X0 s n h cells H locs) (hk : k < n) (he : E = a_e κ b bs c) (hP : va_P D classes ((a_ws κ b bs n h).set k (b + k, E)) H1) (hS : va_S (fun q => b ≤ q) s.heap H1 locs1) : a_St κ D b bs X0 s n (va_up h (k + 1) (some c)) cells H1 locs1 := by
  obtain ⟨t1, t2, ⟨t3, t4⟩, t5⟩ := T
  subst he
  rw [a_ws_set hk] at hP
  refine ⟨?_, t2, ⟨fun j => ?_, hP⟩, hS⟩
  · rw [va_up_ne h (some c) (show 0 ≠ k + 1 by omega)]
    exact t1
  · by_cases hj : j = k
    · subst hj
      rw [va_up_self]
      exact ⟨fun _ => hk, fun _ => rfl⟩
    · rw [va_up_ne h (some c) (show j + 1 ≠ k + 1 by omega)]
      exact t3 j
/-- a cell is made -/
theorem a_St.push {κ : FieldType → ClassId} {D : va_G} {b bs n cells : Nat} {X0 : Option aC} {s : State} {h : aH} {H H1 : Heap} {locs : List Loc} {c : aC} (T : a_St κ D b bs X0 s n h cells H locs) (hz : H.size = b + n) (hc : va_at D classes (b + n, a_e κ b bs c) H1) (z1 : H1.size = H.size + 1) (o1 : ∀ q : Nat, q < H.size → H1[q]? = H[q]?) : a_St κ D b bs X0 s (n + 1) (va_up h (n + 1) (some c)) (cells + 1) H1 locs := by
  obtain ⟨t1, t2, ⟨t3, t4⟩, t5⟩ := T
  refine ⟨?_, by omega, ⟨fun j => ?_, ?_⟩, ⟨by have := t5.1; omega, fun q h1 h2 => (o1 q (Nat.lt_of_lt_of_le h1 t5.1)).trans (t5.2.1 q h1 h2), t5.2.2⟩⟩
  · rw [va_up_ne h (some c) (show 0 ≠ n + 1 by omega)]
    exact t1
  · by_cases hj : j = n
    · subst hj
      rw [va_up_self]
      exact ⟨fun _ => Nat.lt_succ_self j, fun _ => rfl⟩
    · rw [va_up_ne h (some c) (show j + 1 ≠ n + 1 by omega), t3 j]
      omega
  · rw [← a_ws_push]
    refine va_P.app (t4.kept fun k x hx => o1 x.1 ((t4 k x hx).lt)) (fun k x hx => ?_)
    have hk : k < 1 := (List.getElem?_eq_some_iff.mp hx).1
    rw [show k = 0 by omega] at hx
    cases hx
    exact hc
theorem a_low {κ : FieldType → ClassId} {D : va_G} {b bs n cells : Nat} {X0 : Option aC} {s : State} {h : aH} {H : Heap} {locs : List Loc} (hb : b ≤ s.heap.size) (T : a_St κ D b bs X0 s n h cells H locs) : b + n ≤ H.size := by
  obtain ⟨t1, t2, ⟨t3, t4⟩, t5⟩ := T
  cases n with
  | zero => have := t5.1; omega
  | succ n =>
    cases hc : h (n + 1) with
    | none =>
      have := (t3 n).mpr (Nat.lt_succ_self n)
      rw [hc] at this
      cases this
    | some c =>
      have hl := (t4 n _ (a_ws_at (Nat.lt_succ_self n) hc)).lt
      have hl : b + n < H.size := hl
      omega
section Ab
variable {p : Program} {l : Launch} {e : Env} {R : Room} {s : State} {m : MethodId} {args : Array Value} {below : List Frame} {meth : Method} {c : Code} {H : Heap} {locs : List Loc} {cells slots : Nat} {Qw : State → Prop}
variable {κ : FieldType → ClassId} {D : va_G} {b bs n : Nat} {X0 : Option aC} {h : aH} {μ : aM}
/-- the heap's size is what was made -/
theorem a_size {g : JFrame} (hb : b ≤ s.heap.size) (T : a_St κ D b bs X0 s n h cells H locs) (kk : H.size = b + n → W p l e R s m args below meth c H locs cells slots Qw g) : W p l e R s m args below meth c H locs cells slots Qw g := by
  intro T1 hT X
  have h1 := X.heapSize
  have h2 := a_low hb T
  have h3 := T.2.1
  rw [hT] at h1
  exact kk (by omega) T1 hT X
end Ab
-- words that a nest mate's members need: they are warmed one by one
def a_nk : Cond → Bool
  | .fieldLinkNest _ _ _ _ _ _ => true
  | .methodLinkNest _ _ _ _ => true
  | .declares _ => true
  | .arrayOver (.object _) => true
  | _ => false
theorem a_nk_warm {w : Cond} {s U : State} (hk : a_nk w = true) (hW : s.WarmedH U.vm) (hZ : va_Nw w s) : va_Nw w U := by
  cases w with
  | fieldLinkNest => exact va_Nw.warmF hW hZ
  | methodLinkNest => exact va_Nw.warmM hW hZ
  | declares => exact va_Nw.warmD hW hZ
  | arrayOver ty =>
    cases ty with
    | object C => exact va_AO.moved hW.alike hZ
    | _ => cases hk
  | _ => cases hk
theorem a_nk_same {w : Cond} {u U : State} (hk : a_nk w = true) (h : u.vm = U.vm) (hZ : va_Nw w u) : va_Nw w U := by
  cases w with
  | fieldLinkNest => exact va_Nw.same rfl h hZ
  | methodLinkNest => exact va_Nw.same rfl h hZ
  | declares => exact va_Nw.same rfl h hZ
  | arrayOver ty =>
    cases ty with
    | object C => exact va_AO.moved (by rw [h]; exact Vm.Alike.refl _) hZ
    | _ => cases hk
  | _ => cases hk
theorem a_nws : ∀ w ∈ nws, a_nk w = true := List.all_eq_true.mp (by decide +kernel)
theorem a_good : ∀ w ∈ Ws, goodWord w = true := List.all_eq_true.mp (by decide +kernel)
theorem a_goodIn {μ' : aM} (hc : Cond.code μ'.1 μ'.2.1 μ'.2.2.1 μ'.2.2.2 ∈ Ws) : GoodIn Ws (a_w μ') := by
  intro w hw
  have h1 : w ∈ Ws := by
    rcases List.mem_cons.mp hw with e | h
    · rw [e]; exact hc
    · exact h
  exact ⟨h1, good_of_word (a_good w h1)⟩
theorem a_blind {κ : FieldType → ClassId} {D : va_G} {b bs n : Nat} {h : aH} {av : List Value} : FrameBlind (va_Pc av (a_B κ D b bs n h)) := by
  intro a U g mk q
  obtain ⟨q0, q1, q2, q3, q4, q5, q6⟩ := q
  refine ⟨q0, q1, q2, va_K.moved (u := U) (U := U.calling g mk a) (Vm.Alike.refl U.vm) q3, q4, ?_, fun w hw => a_nk_same (u := U) (a_nws w hw) rfl (q6 w hw)⟩
  rcases q5 with q | ⟨L, xs, q, r⟩
  · exact Or.inl q
  · exact Or.inr ⟨L, xs, q, va_X.moved (u := U) (U := U.calling g mk a) (Vm.Alike.refl U.vm) r⟩
theorem a_pre {μ : aM} {p : Program} {s : State} {m : MethodId} {args : Array Value} {meth : Method} {c : Code} {κ : FieldType → ClassId} {D : va_G} {b bs n cells : Nat} {X0 : Option aC} {h : aH} {H : Heap} {locs : List Loc} (C : a_Cx μ p s m args meth c κ D b bs X0) (T : a_St κ D b bs X0 s n h cells H locs) (hz : H.size = b + n) {U : State} (hU : U.heap = H) (hW : s.WarmedH U.vm) : a_B κ D b bs n h U := by
  obtain ⟨-, -, -, -, -, -, -, -, hK, hN, hbs, hb, hX⟩ := C
  obtain ⟨t1, t2, t3, t5⟩ := T
  refine ⟨by rw [hU]; exact hz, by rw [hU]; exact t3, va_K.moved hW.alike hK, hbs, ?_, fun w hw => a_nk_warm (a_nws w hw) hW (hN w hw)⟩
  rw [t1]
  rcases hX with q | ⟨L, xs, q, r⟩
  · exact Or.inl q
  · refine Or.inr ⟨L, xs, q, (va_X.moved hW.alike r).kept ?_⟩
    rw [hU]
    exact t5.2.1 bs (Nat.lt_of_lt_of_le hbs hb) (Nat.not_le.mpr hbs)
end
section
/-! One row an instruction, over the abstract layer (written by wip/whole/gen/mk_rows.py). -/
section Rw
variable {μ : aM} {R : Room} {Z : aZ} {pc : Nat} {L : List (Nat × Value)} {S : List Value} {n : Nat} {h : aH} {cells slots : Nat}
theorem T_iconst {a : Int} {v : Int32} (hd : decode μ.2.1 pc = .ok (.iconst a, 1)) (hv : Int32.ofInt a = v) (k : Tri μ R Z (pc + 1) L (.int v :: S) n h cells slots) : Tri μ R Z pc L S n h cells slots :=
  fun p l e s m args below meth c κ D b bs X0 H locs ls C T V => lv_iconst C.1 C.2.1 hd hv (k p l e s m args below meth c κ D b bs X0 H locs ls C T V)
theorem T_bipush {a : Int} {v : Int32} (hd : decode μ.2.1 pc = .ok (.bipush a, 2)) (hv : (Int8.ofInt a).toInt32 = v) (k : Tri μ R Z (pc + 2) L (.int v :: S) n h cells slots) : Tri μ R Z pc L S n h cells slots :=
  fun p l e s m args below meth c κ D b bs X0 H locs ls C T V => lv_bipush C.1 C.2.1 hd hv (k p l e s m args below meth c κ D b bs X0 H locs ls C T V)
theorem T_sipush {a : Int} {v : Int32} (hd : decode μ.2.1 pc = .ok (.sipush a, 3)) (hv : (Int16.ofInt a).toInt32 = v) (k : Tri μ R Z (pc + 3) L (.int v :: S) n h cells slots) : Tri μ R Z pc L S n h cells slots :=
  fun p l e s m args below meth c κ D b bs X0 H locs ls C T V => lv_sipush C.1 C.2.1 hd hv (k p l e s m args below meth c κ D b bs X0 H locs ls C T V)
theorem T_lconst {a : Fin 2} {v : Int64} (hd : decode μ.2.1 pc = .ok (.lconst a, 1)) (hv : Int64.ofNat (a : Nat) = v) (k : Tri μ R Z (pc + 1) L (.long v :: S) n h cells slots) : Tri μ R Z pc L S n h cells slots :=
  fun p l e s m args below meth c κ D b bs X0 H locs ls C T V => lv_lconst C.1 C.2.1 hd hv (k p l e s m args below meth c κ D b bs X0 H locs ls C T V)
theorem T_ldc {i : Nat} {v : Int32} (hd : decode μ.2.1 pc = .ok (.ldc i, 2)) (hv : Cond.constant μ.1.cls i v ∈ Ws) (k : Tri μ R Z (pc + 2) L (.int v :: S) n h cells slots) : Tri μ R Z pc L S n h cells slots :=
  fun p l e s m args below meth c κ D b bs X0 H locs ls C T V => lv_ldc C.1 C.2.1 C.2.2.2.2.2.2.1 (C.2.2.2.2.2.1 _ hv) hd (k p l e s m args below meth c κ D b bs X0 H locs ls C T V)
theorem T_ldc2 {i : Nat} {v : Int64} (hd : decode μ.2.1 pc = .ok (.ldc2_w i, 3)) (hv : Cond.constantLong μ.1.cls i v ∈ Ws) (k : Tri μ R Z (pc + 3) L (.long v :: S) n h cells slots) : Tri μ R Z pc L S n h cells slots :=
  fun p l e s m args below meth c κ D b bs X0 H locs ls C T V => lv_ldc2 C.1 C.2.1 C.2.2.2.2.2.2.1 (C.2.2.2.2.2.1 _ hv) hd (k p l e s m args below meth c κ D b bs X0 H locs ls C T V)
theorem T_iload_n {k : Fin 4} {x : Int32} (hd : decode μ.2.1 pc = .ok (.iload_n k, 1)) (hl : a_lk (k : Nat) L = some (.int x)) (k : Tri μ R Z (pc + 1) L (.int x :: S) n h cells slots) : Tri μ R Z pc L S n h cells slots :=
  fun p l e s m args below meth c κ D b bs X0 H locs ls C T V => lv_iload_n C.1 C.2.1 hd rfl (a_at V hl) (k p l e s m args below meth c κ D b bs X0 H locs ls C T V)
theorem T_iload {i : Nat} {x : Int32} (hd : decode μ.2.1 pc = .ok (.iload i, 2)) (hl : a_lk i L = some (.int x)) (k : Tri μ R Z (pc + 2) L (.int x :: S) n h cells slots) : Tri μ R Z pc L S n h cells slots :=
  fun p l e s m args below meth c κ D b bs X0 H locs ls C T V => lv_iload C.1 C.2.1 hd (a_at V hl) (k p l e s m args below meth c κ D b bs X0 H locs ls C T V)
theorem T_lload_n {k : Fin 4} {x : Int64} (hd : decode μ.2.1 pc = .ok (.lload_n k, 1)) (hl : a_lk (k : Nat) L = some (.long x)) (k : Tri μ R Z (pc + 1) L (.long x :: S) n h cells slots) : Tri μ R Z pc L S n h cells slots :=
  fun p l e s m args below meth c κ D b bs X0 H locs ls C T V => lv_lload_n C.1 C.2.1 hd rfl (a_at V hl) (k p l e s m args below meth c κ D b bs X0 H locs ls C T V)
theorem T_lload {i : Nat} {x : Int64} (hd : decode μ.2.1 pc = .ok (.lload i, 2)) (hl : a_lk i L = some (.long x)) (k : Tri μ R Z (pc + 2) L (.long x :: S) n h cells slots) : Tri μ R Z pc L S n h cells slots :=
  fun p l e s m args below meth c κ D b bs X0 H locs ls C T V => lv_lload C.1 C.2.1 hd (a_at V hl) (k p l e s m args below meth c κ D b bs X0 H locs ls C T V)
theorem T_aload_n {k : Fin 4} {x : Nat} (hd : decode μ.2.1 pc = .ok (.aload_n k, 1)) (hl : a_lk (k : Nat) L = some (.ref x)) (k : Tri μ R Z (pc + 1) L (.ref x :: S) n h cells slots) : Tri μ R Z pc L S n h cells slots :=
  fun p l e s m args below meth c κ D b bs X0 H locs ls C T V => lv_aload_n C.1 C.2.1 hd rfl (a_at V hl) (k p l e s m args below meth c κ D b bs X0 H locs ls C T V)
theorem T_aload {i : Nat} {x : Nat} (hd : decode μ.2.1 pc = .ok (.aload i, 2)) (hl : a_lk i L = some (.ref x)) (k : Tri μ R Z (pc + 2) L (.ref x :: S) n h cells slots) : Tri μ R Z pc L S n h cells slots :=
  fun p l e s m args below meth c κ D b bs X0 H locs ls C T V => lv_aload C.1 C.2.1 hd (a_at V hl) (k p l e s m args below meth c κ D b bs X0 H locs ls C T V)
theorem T_istore_n {k : Fin 4} {i : Nat} {x : Int32} {L' : List (Nat × Value)} (hd : decode μ.2.1 pc = .ok (.istore_n k, 1)) (hi : (k : Nat) = i) (hn : i < μ.2.2.1) (hL : a_s1 i (.int x) L = L') (k : Tri μ R Z (pc + 1) L' S n h cells slots) : Tri μ R Z pc L (.int x :: S) n h cells slots := by
  subst hL
  intro p l e s m args below meth c κ D b bs X0 H locs ls C T V
  exact lv_istore_n C.1 C.2.1 hd hi V hn (a_s1_L b bs i (.int x) L) (fun ls' V' => k p l e s m args below meth c κ D b bs X0 H locs ls' C T V')
theorem T_istore {i : Nat} {x : Int32} {L' : List (Nat × Value)} (hd : decode μ.2.1 pc = .ok (.istore i, 2)) (hn : i < μ.2.2.1) (hL : a_s1 i (.int x) L = L') (k : Tri μ R Z (pc + 2) L' S n h cells slots) : Tri μ R Z pc L (.int x :: S) n h cells slots := by
  subst hL
  intro p l e s m args below meth c κ D b bs X0 H locs ls C T V
  exact lv_istore C.1 C.2.1 hd V hn (a_s1_L b bs i (.int x) L) (fun ls' V' => k p l e s m args below meth c κ D b bs X0 H locs ls' C T V')
theorem T_lstore_n {k : Fin 4} {i : Nat} {x : Int64} {L' : List (Nat × Value)} (hd : decode μ.2.1 pc = .ok (.lstore_n k, 1)) (hi : (k : Nat) = i) (hn : i + 1 < μ.2.2.1) (hL : a_s2 i (.long x) L = L') (k : Tri μ R Z (pc + 1) L' S n h cells slots) : Tri μ R Z pc L (.long x :: S) n h cells slots := by
  subst hL
  intro p l e s m args below meth c κ D b bs X0 H locs ls C T V
  exact lv_lstore_n C.1 C.2.1 hd hi V hn (a_s2_L b bs i (.long x) L) (fun ls' V' => k p l e s m args below meth c κ D b bs X0 H locs ls' C T V')
theorem T_lstore {i : Nat} {x : Int64} {L' : List (Nat × Value)} (hd : decode μ.2.1 pc = .ok (.lstore i, 2)) (hn : i + 1 < μ.2.2.1) (hL : a_s2 i (.long x) L = L') (k : Tri μ R Z (pc + 2) L' S n h cells slots) : Tri μ R Z pc L (.long x :: S) n h cells slots := by
  subst hL
  intro p l e s m args below meth c κ D b bs X0 H locs ls C T V
  exact lv_lstore C.1 C.2.1 hd V hn (a_s2_L b bs i (.long x) L) (fun ls' V' => k p l e s m args below meth c κ D b bs X0 H locs ls' C T V')
theorem T_astore_n {k : Fin 4} {i : Nat} {x : Nat} {L' : List (Nat × Value)} (hd : decode μ.2.1 pc = .ok (.astore_n k, 1)) (hi : (k : Nat) = i) (hn : i < μ.2.2.1) (hL : a_s1 i (.ref x) L = L') (k : Tri μ R Z (pc + 1) L' S n h cells slots) : Tri μ R Z pc L (.ref x :: S) n h cells slots := by
  subst hL
  intro p l e s m args below meth c κ D b bs X0 H locs ls C T V
  exact lv_astore_n C.1 C.2.1 hd hi V hn (a_s1_L b bs i (.ref x) L) (fun ls' V' => k p l e s m args below meth c κ D b bs X0 H locs ls' C T V')
theorem T_astore {i : Nat} {x : Nat} {L' : List (Nat × Value)} (hd : decode μ.2.1 pc = .ok (.astore i, 2)) (hn : i < μ.2.2.1) (hL : a_s1 i (.ref x) L = L') (k : Tri μ R Z (pc + 2) L' S n h cells slots) : Tri μ R Z pc L (.ref x :: S) n h cells slots := by
  subst hL
  intro p l e s m args below meth c κ D b bs X0 H locs ls C T V
  exact lv_astore C.1 C.2.1 hd V hn (a_s1_L b bs i (.ref x) L) (fun ls' V' => k p l e s m args below meth c κ D b bs X0 H locs ls' C T V')
theorem T_iinc {i : Nat} {a : Int} {x v : Int32} {L' : List (Nat × Value)} (hd : decode μ.2.1 pc = .ok (.iinc i a, 3)) (hl : a_lk i L = some (.int x)) (hv : x + Int32.ofInt a = v) (hn : i < μ.2.2.1) (hL : a_s1 i (.int v) L = L') (k : Tri μ R Z (pc + 3) L' S n h cells slots) : Tri μ R Z pc L S n h cells slots := by
  subst hL
  intro p l e s m args below meth c κ D b bs X0 H locs ls C T V
  obtain ⟨q, hq⟩ := List.getElem?_of_mem (a_lk_mem hl)
  refine lv_iinc (k := q) C.1 C.2.1 hd V ?_ hv hn (a_s1_L b bs i (.int v) L) (fun ls' V' => k p l e s m args below meth c κ D b bs X0 H locs ls' C T V')
  simp only [a_L, List.getElem?_map, hq, Option.map_some]
  rfl
theorem T_iadd {x y : Int32} (hd : decode μ.2.1 pc = .ok (.iadd, 1)) (k : Tri μ R Z (pc + 1) L (.int (x + y) :: S) n h cells slots) : Tri μ R Z pc L (.int y :: .int x :: S) n h cells slots :=
  fun p l e s m args below meth c κ D b bs X0 H locs ls C T V => lv_iadd C.1 C.2.1 hd (k p l e s m args below meth c κ D b bs X0 H locs ls C T V)
theorem T_isub {x y : Int32} (hd : decode μ.2.1 pc = .ok (.isub, 1)) (k : Tri μ R Z (pc + 1) L (.int (x - y) :: S) n h cells slots) : Tri μ R Z pc L (.int y :: .int x :: S) n h cells slots :=
  fun p l e s m args below meth c κ D b bs X0 H locs ls C T V => lv_isub C.1 C.2.1 hd (k p l e s m args below meth c κ D b bs X0 H locs ls C T V)
theorem T_imul {x y : Int32} (hd : decode μ.2.1 pc = .ok (.imul, 1)) (k : Tri μ R Z (pc + 1) L (.int (x * y) :: S) n h cells slots) : Tri μ R Z pc L (.int y :: .int x :: S) n h cells slots :=
  fun p l e s m args below meth c κ D b bs X0 H locs ls C T V => lv_imul C.1 C.2.1 hd (k p l e s m args below meth c κ D b bs X0 H locs ls C T V)
theorem T_iand {x y : Int32} (hd : decode μ.2.1 pc = .ok (.iand, 1)) (k : Tri μ R Z (pc + 1) L (.int (x &&& y) :: S) n h cells slots) : Tri μ R Z pc L (.int y :: .int x :: S) n h cells slots :=
  fun p l e s m args below meth c κ D b bs X0 H locs ls C T V => lv_iand C.1 C.2.1 hd (k p l e s m args below meth c κ D b bs X0 H locs ls C T V)
theorem T_ior {x y : Int32} (hd : decode μ.2.1 pc = .ok (.ior, 1)) (k : Tri μ R Z (pc + 1) L (.int (x ||| y) :: S) n h cells slots) : Tri μ R Z pc L (.int y :: .int x :: S) n h cells slots :=
  fun p l e s m args below meth c κ D b bs X0 H locs ls C T V => lv_ior C.1 C.2.1 hd (k p l e s m args below meth c κ D b bs X0 H locs ls C T V)
theorem T_ixor {x y : Int32} (hd : decode μ.2.1 pc = .ok (.ixor, 1)) (k : Tri μ R Z (pc + 1) L (.int (x ^^^ y) :: S) n h cells slots) : Tri μ R Z pc L (.int y :: .int x :: S) n h cells slots :=
  fun p l e s m args below meth c κ D b bs X0 H locs ls C T V => lv_ixor C.1 C.2.1 hd (k p l e s m args below meth c κ D b bs X0 H locs ls C T V)
theorem T_ishl {x y : Int32} (hd : decode μ.2.1 pc = .ok (.ishl, 1)) (k : Tri μ R Z (pc + 1) L (.int (x <<< (y &&& 31)) :: S) n h cells slots) : Tri μ R Z pc L (.int y :: .int x :: S) n h cells slots :=
  fun p l e s m args below meth c κ D b bs X0 H locs ls C T V => lv_ishl C.1 C.2.1 hd (k p l e s m args below meth c κ D b bs X0 H locs ls C T V)
theorem T_ishr {x y : Int32} (hd : decode μ.2.1 pc = .ok (.ishr, 1)) (k : Tri μ R Z (pc + 1) L (.int (x >>> (y &&& 31)) :: S) n h cells slots) : Tri μ R Z pc L (.int y :: .int x :: S) n h cells slots :=
  fun p l e s m args below meth c κ D b bs X0 H locs ls C T V => lv_ishr C.1 C.2.1 hd (k p l e s m args below meth c κ D b bs X0 H locs ls C T V)
theorem T_ladd {x y : Int64} (hd : decode μ.2.1 pc = .ok (.ladd, 1)) (k : Tri μ R Z (pc + 1) L (.long (x + y) :: S) n h cells slots) : Tri μ R Z pc L (.long y :: .long x :: S) n h cells slots :=
  fun p l e s m args below meth c κ D b bs X0 H locs ls C T V => lv_ladd C.1 C.2.1 hd (k p l e s m args below meth c κ D b bs X0 H locs ls C T V)
theorem T_lsub {x y : Int64} (hd : decode μ.2.1 pc = .ok (.lsub, 1)) (k : Tri μ R Z (pc + 1) L (.long (x - y) :: S) n h cells slots) : Tri μ R Z pc L (.long y :: .long x :: S) n h cells slots :=
  fun p l e s m args below meth c κ D b bs X0 H locs ls C T V => lv_lsub C.1 C.2.1 hd (k p l e s m args below meth c κ D b bs X0 H locs ls C T V)
theorem T_lmul {x y : Int64} (hd : decode μ.2.1 pc = .ok (.lmul, 1)) (k : Tri μ R Z (pc + 1) L (.long (x * y) :: S) n h cells slots) : Tri μ R Z pc L (.long y :: .long x :: S) n h cells slots :=
  fun p l e s m args below meth c κ D b bs X0 H locs ls C T V => lv_lmul C.1 C.2.1 hd (k p l e s m args below meth c κ D b bs X0 H locs ls C T V)
theorem T_land {x y : Int64} (hd : decode μ.2.1 pc = .ok (.land, 1)) (k : Tri μ R Z (pc + 1) L (.long (x &&& y) :: S) n h cells slots) : Tri μ R Z pc L (.long y :: .long x :: S) n h cells slots :=
  fun p l e s m args below meth c κ D b bs X0 H locs ls C T V => lv_land C.1 C.2.1 hd (k p l e s m args below meth c κ D b bs X0 H locs ls C T V)
theorem T_lor {x y : Int64} (hd : decode μ.2.1 pc = .ok (.lor, 1)) (k : Tri μ R Z (pc + 1) L (.long (x ||| y) :: S) n h cells slots) : Tri μ R Z pc L (.long y :: .long x :: S) n h cells slots :=
  fun p l e s m args below meth c κ D b bs X0 H locs ls C T V => lv_lor C.1 C.2.1 hd (k p l e s m args below meth c κ D b bs X0 H locs ls C T V)
theorem T_lxor {x y : Int64} (hd : decode μ.2.1 pc = .ok (.lxor, 1)) (k : Tri μ R Z (pc + 1) L (.long (x ^^^ y) :: S) n h cells slots) : Tri μ R Z pc L (.long y :: .long x :: S) n h cells slots :=
  fun p l e s m args below meth c κ D b bs X0 H locs ls C T V => lv_lxor C.1 C.2.1 hd (k p l e s m args below meth c κ D b bs X0 H locs ls C T V)
theorem T_idiv {x y : Int32} (hd : decode μ.2.1 pc = .ok (.idiv, 1)) (hy : ¬ y = 0) (k : Tri μ R Z (pc + 1) L (.int (x / y) :: S) n h cells slots) : Tri μ R Z pc L (.int y :: .int x :: S) n h cells slots :=
  fun p l e s m args below meth c κ D b bs X0 H locs ls C T V => lv_idiv C.1 C.2.1 hd hy (k p l e s m args below meth c κ D b bs X0 H locs ls C T V)
theorem T_irem {x y : Int32} (hd : decode μ.2.1 pc = .ok (.irem, 1)) (hy : ¬ y = 0) (k : Tri μ R Z (pc + 1) L (.int (x - x / y * y) :: S) n h cells slots) : Tri μ R Z pc L (.int y :: .int x :: S) n h cells slots :=
  fun p l e s m args below meth c κ D b bs X0 H locs ls C T V => lv_irem C.1 C.2.1 hd hy (k p l e s m args below meth c κ D b bs X0 H locs ls C T V)
theorem T_ldiv {x y : Int64} (hd : decode μ.2.1 pc = .ok (.ldiv, 1)) (hy : ¬ y = 0) (k : Tri μ R Z (pc + 1) L (.long (x / y) :: S) n h cells slots) : Tri μ R Z pc L (.long y :: .long x :: S) n h cells slots :=
  fun p l e s m args below meth c κ D b bs X0 H locs ls C T V => lv_ldiv C.1 C.2.1 hd hy (k p l e s m args below meth c κ D b bs X0 H locs ls C T V)
theorem T_lrem {x y : Int64} (hd : decode μ.2.1 pc = .ok (.lrem, 1)) (hy : ¬ y = 0) (k : Tri μ R Z (pc + 1) L (.long (x - x / y * y) :: S) n h cells slots) : Tri μ R Z pc L (.long y :: .long x :: S) n h cells slots :=
  fun p l e s m args below meth c κ D b bs X0 H locs ls C T V => lv_lrem C.1 C.2.1 hd hy (k p l e s m args below meth c κ D b bs X0 H locs ls C T V)
theorem T_ineg {x : Int32} (hd : decode μ.2.1 pc = .ok (.ineg, 1)) (k : Tri μ R Z (pc + 1) L (.int (-x) :: S) n h cells slots) : Tri μ R Z pc L (.int x :: S) n h cells slots :=
  fun p l e s m args below meth c κ D b bs X0 H locs ls C T V => lv_ineg C.1 C.2.1 hd (k p l e s m args below meth c κ D b bs X0 H locs ls C T V)
theorem T_lneg {x : Int64} (hd : decode μ.2.1 pc = .ok (.lneg, 1)) (k : Tri μ R Z (pc + 1) L (.long (-x) :: S) n h cells slots) : Tri μ R Z pc L (.long x :: S) n h cells slots :=
  fun p l e s m args below meth c κ D b bs X0 H locs ls C T V => lv_lneg C.1 C.2.1 hd (k p l e s m args below meth c κ D b bs X0 H locs ls C T V)
theorem T_iushr {x y : Int32} (hd : decode μ.2.1 pc = .ok (.iushr, 1)) (k : Tri μ R Z (pc + 1) L (.int (x.toUInt32 >>> (y.toUInt32 &&& Int32.toUInt32 31)).toInt32 :: S) n h cells slots) : Tri μ R Z pc L (.int y :: .int x :: S) n h cells slots :=
  fun p l e s m args below meth c κ D b bs X0 H locs ls C T V => lv_iushr C.1 C.2.1 hd rfl (k p l e s m args below meth c κ D b bs X0 H locs ls C T V)
theorem T_lushr {x : Int64} {y : Int32} (hd : decode μ.2.1 pc = .ok (.lushr, 1)) (k : Tri μ R Z (pc + 1) L (.long (x.toUInt64 >>> (y.toInt64.toUInt64 &&& Int64.toUInt64 63)).toInt64 :: S) n h cells slots) : Tri μ R Z pc L (.int y :: .long x :: S) n h cells slots :=
  fun p l e s m args below meth c κ D b bs X0 H locs ls C T V => lv_lushr C.1 C.2.1 hd rfl (k p l e s m args below meth c κ D b bs X0 H locs ls C T V)
theorem T_lshl {x : Int64} {y : Int32} (hd : decode μ.2.1 pc = .ok (.lshl, 1)) (k : Tri μ R Z (pc + 1) L (.long (x <<< (y.toInt64 &&& 63)) :: S) n h cells slots) : Tri μ R Z pc L (.int y :: .long x :: S) n h cells slots :=
  fun p l e s m args below meth c κ D b bs X0 H locs ls C T V => lv_lshl C.1 C.2.1 hd rfl (k p l e s m args below meth c κ D b bs X0 H locs ls C T V)
theorem T_i2l {x : Int32} (hd : decode μ.2.1 pc = .ok (.i2l, 1)) (k : Tri μ R Z (pc + 1) L (.long x.toInt64 :: S) n h cells slots) : Tri μ R Z pc L (.int x :: S) n h cells slots :=
  fun p l e s m args below meth c κ D b bs X0 H locs ls C T V => lv_i2l C.1 C.2.1 hd rfl (k p l e s m args below meth c κ D b bs X0 H locs ls C T V)
theorem T_l2i {x : Int64} (hd : decode μ.2.1 pc = .ok (.l2i, 1)) (k : Tri μ R Z (pc + 1) L (.int x.toInt32 :: S) n h cells slots) : Tri μ R Z pc L (.long x :: S) n h cells slots :=
  fun p l e s m args below meth c κ D b bs X0 H locs ls C T V => lv_l2i C.1 C.2.1 hd rfl (k p l e s m args below meth c κ D b bs X0 H locs ls C T V)
theorem T_lcmp {x y : Int64} (hd : decode μ.2.1 pc = .ok (.lcmp, 1)) (k : Tri μ R Z (pc + 1) L (.int (lg_cmp x y) :: S) n h cells slots) : Tri μ R Z pc L (.long y :: .long x :: S) n h cells slots :=
  fun p l e s m args below meth c κ D b bs X0 H locs ls C T V => W.lcmp C.1 C.2.1 hd (k p l e s m args below meth c κ D b bs X0 H locs ls C T V)
theorem T_dup {v : Value} (hd : decode μ.2.1 pc = .ok (.dup, 1)) (hv : v.category = 1) (k : Tri μ R Z (pc + 1) L (v :: v :: S) n h cells slots) : Tri μ R Z pc L (v :: S) n h cells slots :=
  fun p l e s m args below meth c κ D b bs X0 H locs ls C T V => lv_dup C.1 C.2.1 hd ((a_cat b bs v).trans hv) (k p l e s m args below meth c κ D b bs X0 H locs ls C T V)
theorem T_pop {v : Value} (hd : decode μ.2.1 pc = .ok (.pop, 1)) (hv : v.category = 1) (k : Tri μ R Z (pc + 1) L S n h cells slots) : Tri μ R Z pc L (v :: S) n h cells slots :=
  fun p l e s m args below meth c κ D b bs X0 H locs ls C T V => lv_pop C.1 C.2.1 hd ((a_cat b bs v).trans hv) (k p l e s m args below meth c κ D b bs X0 H locs ls C T V)
theorem T_dup_x1 {v u : Value} (hd : decode μ.2.1 pc = .ok (.dup_x1, 1)) (hv : v.category = 1) (hu : u.category = 1) (k : Tri μ R Z (pc + 1) L (v :: u :: v :: S) n h cells slots) : Tri μ R Z pc L (v :: u :: S) n h cells slots :=
  fun p l e s m args below meth c κ D b bs X0 H locs ls C T V => lv_dup_x1 C.1 C.2.1 hd ((a_cat b bs v).trans hv) ((a_cat b bs u).trans hu) (k p l e s m args below meth c κ D b bs X0 H locs ls C T V)
theorem T_dup2 {v u : Value} (hd : decode μ.2.1 pc = .ok (.dup2, 1)) (hv : v.category = 1) (hu : u.category = 1) (k : Tri μ R Z (pc + 1) L (v :: u :: v :: u :: S) n h cells slots) : Tri μ R Z pc L (v :: u :: S) n h cells slots :=
  fun p l e s m args below meth c κ D b bs X0 H locs ls C T V => lv_dup2_11 C.1 C.2.1 hd ((a_cat b bs v).trans hv) ((a_cat b bs u).trans hu) (k p l e s m args below meth c κ D b bs X0 H locs ls C T V)
theorem T_if_eq {x : Int32} {off : Int} {tgt : Nat} (hd : decode μ.2.1 pc = .ok (.ifCond .eq off, 3)) (ht : (pc : Int) + off = (tgt : Int)) (kt : x = 0 → Tri μ R Z tgt L S n h cells slots) (kf : ¬ x = 0 → Tri μ R Z (pc + 3) L S n h cells slots) : Tri μ R Z pc L (.int x :: S) n h cells slots :=
  fun p l e s m args below meth c κ D b bs X0 H locs ls C T V => lv_if_eq C.1 C.2.1 hd ht (fun q => kt q p l e s m args below meth c κ D b bs X0 H locs ls C T V) (fun q => kf q p l e s m args below meth c κ D b bs X0 H locs ls C T V)
theorem T_icmp_eq {x y : Int32} {off : Int} {tgt : Nat} (hd : decode μ.2.1 pc = .ok (.if_icmp .eq off, 3)) (ht : (pc : Int) + off = (tgt : Int)) (kt : x = y → Tri μ R Z tgt L S n h cells slots) (kf : ¬ x = y → Tri μ R Z (pc + 3) L S n h cells slots) : Tri μ R Z pc L (.int y :: .int x :: S) n h cells slots :=
  fun p l e s m args below meth c κ D b bs X0 H locs ls C T V => lv_icmp_eq C.1 C.2.1 hd ht (fun q => kt q p l e s m args below meth c κ D b bs X0 H locs ls C T V) (fun q => kf q p l e s m args below meth c κ D b bs X0 H locs ls C T V)
theorem T_if_ne {x : Int32} {off : Int} {tgt : Nat} (hd : decode μ.2.1 pc = .ok (.ifCond .ne off, 3)) (ht : (pc : Int) + off = (tgt : Int)) (kt : ¬ x = 0 → Tri μ R Z tgt L S n h cells slots) (kf : x = 0 → Tri μ R Z (pc + 3) L S n h cells slots) : Tri μ R Z pc L (.int x :: S) n h cells slots :=
  fun p l e s m args below meth c κ D b bs X0 H locs ls C T V => lv_if_ne C.1 C.2.1 hd ht (fun q => kt q p l e s m args below meth c κ D b bs X0 H locs ls C T V) (fun q => kf q p l e s m args below meth c κ D b bs X0 H locs ls C T V)
theorem T_icmp_ne {x y : Int32} {off : Int} {tgt : Nat} (hd : decode μ.2.1 pc = .ok (.if_icmp .ne off, 3)) (ht : (pc : Int) + off = (tgt : Int)) (kt : ¬ x = y → Tri μ R Z tgt L S n h cells slots) (kf : x = y → Tri μ R Z (pc + 3) L S n h cells slots) : Tri μ R Z pc L (.int y :: .int x :: S) n h cells slots :=
  fun p l e s m args below meth c κ D b bs X0 H locs ls C T V => lv_icmp_ne C.1 C.2.1 hd ht (fun q => kt q p l e s m args below meth c κ D b bs X0 H locs ls C T V) (fun q => kf q p l e s m args below meth c κ D b bs X0 H locs ls C T V)
theorem T_if_lt {x : Int32} {off : Int} {tgt : Nat} (hd : decode μ.2.1 pc = .ok (.ifCond .lt off, 3)) (ht : (pc : Int) + off = (tgt : Int)) (kt : x < 0 → Tri μ R Z tgt L S n h cells slots) (kf : ¬ x < 0 → Tri μ R Z (pc + 3) L S n h cells slots) : Tri μ R Z pc L (.int x :: S) n h cells slots :=
  fun p l e s m args below meth c κ D b bs X0 H locs ls C T V => lv_if_lt C.1 C.2.1 hd ht (fun q => kt q p l e s m args below meth c κ D b bs X0 H locs ls C T V) (fun q => kf q p l e s m args below meth c κ D b bs X0 H locs ls C T V)
theorem T_icmp_lt {x y : Int32} {off : Int} {tgt : Nat} (hd : decode μ.2.1 pc = .ok (.if_icmp .lt off, 3)) (ht : (pc : Int) + off = (tgt : Int)) (kt : x < y → Tri μ R Z tgt L S n h cells slots) (kf : ¬ x < y → Tri μ R Z (pc + 3) L S n h cells slots) : Tri μ R Z pc L (.int y :: .int x :: S) n h cells slots :=
  fun p l e s m args below meth c κ D b bs X0 H locs ls C T V => lv_icmp_lt C.1 C.2.1 hd ht (fun q => kt q p l e s m args below meth c κ D b bs X0 H locs ls C T V) (fun q => kf q p l e s m args below meth c κ D b bs X0 H locs ls C T V)
theorem T_if_ge {x : Int32} {off : Int} {tgt : Nat} (hd : decode μ.2.1 pc = .ok (.ifCond .ge off, 3)) (ht : (pc : Int) + off = (tgt : Int)) (kt : 0 ≤ x → Tri μ R Z tgt L S n h cells slots) (kf : ¬ 0 ≤ x → Tri μ R Z (pc + 3) L S n h cells slots) : Tri μ R Z pc L (.int x :: S) n h cells slots :=
  fun p l e s m args below meth c κ D b bs X0 H locs ls C T V => lv_if_ge C.1 C.2.1 hd ht (fun q => kt q p l e s m args below meth c κ D b bs X0 H locs ls C T V) (fun q => kf q p l e s m args below meth c κ D b bs X0 H locs ls C T V)
theorem T_icmp_ge {x y : Int32} {off : Int} {tgt : Nat} (hd : decode μ.2.1 pc = .ok (.if_icmp .ge off, 3)) (ht : (pc : Int) + off = (tgt : Int)) (kt : y ≤ x → Tri μ R Z tgt L S n h cells slots) (kf : ¬ y ≤ x → Tri μ R Z (pc + 3) L S n h cells slots) : Tri μ R Z pc L (.int y :: .int x :: S) n h cells slots :=
  fun p l e s m args below meth c κ D b bs X0 H locs ls C T V => lv_icmp_ge C.1 C.2.1 hd ht (fun q => kt q p l e s m args below meth c κ D b bs X0 H locs ls C T V) (fun q => kf q p l e s m args below meth c κ D b bs X0 H locs ls C T V)
theorem T_if_gt {x : Int32} {off : Int} {tgt : Nat} (hd : decode μ.2.1 pc = .ok (.ifCond .gt off, 3)) (ht : (pc : Int) + off = (tgt : Int)) (kt : 0 < x → Tri μ R Z tgt L S n h cells slots) (kf : ¬ 0 < x → Tri μ R Z (pc + 3) L S n h cells slots) : Tri μ R Z pc L (.int x :: S) n h cells slots :=
  fun p l e s m args below meth c κ D b bs X0 H locs ls C T V => lv_if_gt C.1 C.2.1 hd ht (fun q => kt q p l e s m args below meth c κ D b bs X0 H locs ls C T V) (fun q => kf q p l e s m args below meth c κ D b bs X0 H locs ls C T V)
theorem T_icmp_gt {x y : Int32} {off : Int} {tgt : Nat} (hd : decode μ.2.1 pc = .ok (.if_icmp .gt off, 3)) (ht : (pc : Int) + off = (tgt : Int)) (kt : y < x → Tri μ R Z tgt L S n h cells slots) (kf : ¬ y < x → Tri μ R Z (pc + 3) L S n h cells slots) : Tri μ R Z pc L (.int y :: .int x :: S) n h cells slots :=
  fun p l e s m args below meth c κ D b bs X0 H locs ls C T V => lv_icmp_gt C.1 C.2.1 hd ht (fun q => kt q p l e s m args below meth c κ D b bs X0 H locs ls C T V) (fun q => kf q p l e s m args below meth c κ D b bs X0 H locs ls C T V)
theorem T_if_le {x : Int32} {off : Int} {tgt : Nat} (hd : decode μ.2.1 pc = .ok (.ifCond .le off, 3)) (ht : (pc : Int) + off = (tgt : Int)) (kt : x ≤ 0 → Tri μ R Z tgt L S n h cells slots) (kf : ¬ x ≤ 0 → Tri μ R Z (pc + 3) L S n h cells slots) : Tri μ R Z pc L (.int x :: S) n h cells slots :=
  fun p l e s m args below meth c κ D b bs X0 H locs ls C T V => lv_if_le C.1 C.2.1 hd ht (fun q => kt q p l e s m args below meth c κ D b bs X0 H locs ls C T V) (fun q => kf q p l e s m args below meth c κ D b bs X0 H locs ls C T V)
theorem T_icmp_le {x y : Int32} {off : Int} {tgt : Nat} (hd : decode μ.2.1 pc = .ok (.if_icmp .le off, 3)) (ht : (pc : Int) + off = (tgt : Int)) (kt : x ≤ y → Tri μ R Z tgt L S n h cells slots) (kf : ¬ x ≤ y → Tri μ R Z (pc + 3) L S n h cells slots) : Tri μ R Z pc L (.int y :: .int x :: S) n h cells slots :=
  fun p l e s m args below meth c κ D b bs X0 H locs ls C T V => lv_icmp_le C.1 C.2.1 hd ht (fun q => kt q p l e s m args below meth c κ D b bs X0 H locs ls C T V) (fun q => kf q p l e s m args below meth c κ D b bs X0 H locs ls C T V)
theorem T_goto {off : Int} {tgt : Nat} (hd : decode μ.2.1 pc = .ok (.goto off, 3)) (ht : (pc : Int) + off = (tgt : Int)) (k : Tri μ R Z tgt L S n h cells slots) : Tri μ R Z pc L S n h cells slots :=
  fun p l e s m args below meth c κ D b bs X0 H locs ls C T V => lv_goto C.1 C.2.1 hd ht (k p l e s m args below meth c κ D b bs X0 H locs ls C T V)
theorem T_tableOut {dflt lo hi : Int} {offs : Array Int} {len : Nat} {x : Int32} {tgt : Nat} (hd : decode μ.2.1 pc = .ok (.tableswitch dflt lo hi offs, len)) (hx : x.toInt < lo ∨ hi < x.toInt) (ht : (pc : Int) + dflt = (tgt : Int)) (k : Tri μ R Z tgt L S n h cells slots) : Tri μ R Z pc L (.int x :: S) n h cells slots :=
  fun p l e s m args below meth c κ D b bs X0 H locs ls C T V => lv_tableOut C.1 C.2.1 hd hx ht (k p l e s m args below meth c κ D b bs X0 H locs ls C T V)
theorem T_tableIn {dflt lo hi : Int} {offs : Array Int} {len : Nat} {x : Int32} {off : Int} {tgt : Nat} (hd : decode μ.2.1 pc = .ok (.tableswitch dflt lo hi offs, len)) (h1 : ¬ x.toInt < lo) (h2 : ¬ hi < x.toInt) (ho : offs[(x.toInt - lo).toNat]? = some off) (ht : (pc : Int) + off = (tgt : Int)) (k : Tri μ R Z tgt L S n h cells slots) : Tri μ R Z pc L (.int x :: S) n h cells slots :=
  fun p l e s m args below meth c κ D b bs X0 H locs ls C T V => lv_tableIn C.1 C.2.1 hd h1 h2 ho ht (k p l e s m args below meth c κ D b bs X0 H locs ls C T V)
theorem T_lookup {dflt : Int} {ps : Array (Int × Int)} {len : Nat} {x : Int32} {off : Int} {tgt : Nat} (hd : decode μ.2.1 pc = .ok (.lookupswitch dflt ps, len)) (hp : (ps.toList.zip (ps.toList.drop 1)).all (fun (a, next) => a.1 < next.1) = true) (ho : Op.lookupswitch.offset ps.toList dflt x.toInt = off) (ht : (pc : Int) + off = (tgt : Int)) (k : Tri μ R Z tgt L S n h cells slots) : Tri μ R Z pc L (.int x :: S) n h cells slots :=
  fun p l e s m args below meth c κ D b bs X0 H locs ls C T V => lv_lookup C.1 C.2.1 hd hp ho ht (k p l e s m args below meth c κ D b bs X0 H locs ls C T V)
theorem T_eq {S' : List Value} {L' : List (Nat × Value)} {pc' : Nat} (hp : pc = pc') (hL : L = L') (hS : S = S') (k : Tri μ R Z pc' L' S' n h cells slots) : Tri μ R Z pc L S n h cells slots := by
  subst hp; subst hL; subst hS; exact k
end Rw
end
section
/-! Rows of the abstract layer that read and write the world, make cells, end a method. -/
/-- own's pool entry idx is field k of class number ci, of type ty, final or not -/
def a_F (own : String) (idx ci k : Nat) (fin : Bool) (ty : FieldType) : Prop :=
  ∃ (C : String) (T : u_T) (N : Nat) (ref : String) (t0 : Nat → FieldType), classes[ci]? = some (C, T, N) ∧ (∀ w ∈ u_ws C T N, w ∈ Ws) ∧ k < N ∧ (∀ j, j < N → parseFieldDescriptor (T j).2.2.1 = some (t0 j)) ∧ (∀ a, a < N → ∀ b, b < N → a ≠ b → (T a).2.1 ≠ (T b).2.1) ∧ t0 k = ty ∧ (T k).2.2.2 = fin ∧
    (ref = (T k).1 ∨ Cond.sameField ref (T k).1 (T k).2.1 (T k).2.2.1 ∈ Ws) ∧ (Cond.fieldLink own idx ref (T k).2.1 (T k).2.2.1 ∈ Ws ∨ ∃ host, Cond.fieldLinkNest own idx ref (T k).2.1 (T k).2.2.1 host ∈ nws)
/-- the same, in a class's own constructor, of a final field that it declares -/
def a_FF (own : String) (idx ci k : Nat) (ty : FieldType) : Prop :=
  ∃ (C : String) (T : u_T) (N : Nat) (t0 : Nat → FieldType), classes[ci]? = some (C, T, N) ∧ (∀ w ∈ u_ws C T N, w ∈ Ws) ∧ k < N ∧ (∀ j, j < N → parseFieldDescriptor (T j).2.2.1 = some (t0 j)) ∧ (∀ a, a < N → ∀ b, b < N → a ≠ b → (T a).2.1 ≠ (T b).2.1) ∧ t0 k = ty ∧ (T k).2.2.2 = true ∧ (T k).1 = own ∧ Cond.fieldLink own idx own (T k).2.1 (T k).2.2.1 ∈ Ws
def a_fit (ty : FieldType) (v : Value) : Prop := ∀ b bs : Nat, narrow ty (a_v b bs v) = a_v b bs v ∧ fits ty (a_v b bs v) = true
theorem a_fit_i (x : Int32) : a_fit .int (.int x) := fun _ _ => ⟨rfl, rfl⟩
theorem a_fit_l (x : Int64) : a_fit .long (.long x) := fun _ _ => ⟨rfl, rfl⟩
theorem a_fit_o (C : String) (k : Nat) : a_fit (.object C) (.ref k) := fun _ _ => ⟨rfl, rfl⟩
theorem a_fit_a (t : FieldType) (k : Nat) : a_fit (.array t) (.ref k) := fun _ _ => ⟨rfl, rfl⟩
theorem a_fit_z {x : Int32} (h : x = 0 ∨ x = 1) : a_fit .boolean (.int x) := fun _ _ => by rcases h with rfl | rfl <;> exact ⟨rfl, rfl⟩
section Hp
variable {μ : aM} {R : Room} {Z : aZ} {pc : Nat} {L : List (Nat × Value)} {S : List Value} {n : Nat} {h : aH} {cells slots : Nat}
theorem a_same {s : State} {args : Array Value} {ref own name desc : String} (hts : ∀ w ∈ Ws, w.before args s = true) (hr : ref = own ∨ Cond.sameField ref own name desc ∈ Ws) (x : ClassId × Class × Nat × Field) (hx : s.fieldFound? own name desc = some x) : s.fieldFound? ref name desc = some x := by
  rcases hr with hr | hr
  · rw [hr]; exact hx
  · exact u_same (hts _ hr) x hx
theorem T_get {idx ci k a : Nat} {fin : Bool} {ty : FieldType} {fs : List Value} {v : Value} (hd : decode μ.2.1 pc = .ok (.getfield idx, 3)) (hf : a_F μ.1.cls idx ci k fin ty) (ha : h a = some (.inr (ci, fs))) (hv : fs[k]? = some v) (kk : Tri μ R Z (pc + 3) L (v :: S) n h cells slots) : Tri μ R Z pc L (.ref a :: S) n h cells slots := by
  intro p l e s m args below meth c κ D b bs X0 H locs ls C T V
  have kk := kk p l e s m args below meth c κ D b bs X0 H locs ls C T V
  obtain ⟨C1, C2, C3, C4, C5, C6, C7, C8, C9, C10, C11, C12, C13⟩ := C
  obtain ⟨j, rfl, hj, he⟩ := a_pos C13 T ha (fun _ _ q => by cases q)
  obtain ⟨Cn, Tt, N, ref, t0, f1, f2, f3, f4, f5, f6, f7, f8, f9⟩ := hf
  have hv' : (fs.map (a_v b bs))[k]? = some (a_v b bs v) := by rw [List.getElem?_map, hv]; rfl
  have hts := C6
  rcases f9 with f9 | ⟨host, f9⟩
  · exact va_get C1 C2 hts f2 C7 C9 T.2.2.1.2 j he f1 k f3 (hts _ f9) (a_same hts f8) hv' hd kk
  · exact va_getN C1 C2 hts f2 C7 C9 T.2.2.1.2 j he f1 k f3 (va_Nw.use rfl (C10 _ f9)) (a_same hts f8) hv' hd kk
theorem T_put {idx ci k a : Nat} {ty : FieldType} {fs : List Value} {v : Value} (hd : decode μ.2.1 pc = .ok (.putfield idx, 3)) (hf : a_F μ.1.cls idx ci k false ty) (ha : h a = some (.inr (ci, fs))) (hl : k < fs.length) (hv : a_fit ty v) (kk : Tri μ R Z (pc + 3) L S n (va_up h a (some (.inr (ci, fs.set k v)))) cells slots) : Tri μ R Z pc L (v :: .ref a :: S) n h cells slots := by
  intro p l e s m args below meth c κ D b bs X0 H locs ls C T V
  have kk := fun H1 locs1 T1 => kk p l e s m args below meth c κ D b bs X0 H1 locs1 ls C T1 V
  obtain ⟨C1, C2, C3, C4, C5, C6, C7, C8, C9, C10, C11, C12, C13⟩ := C
  obtain ⟨j, rfl, hj, he⟩ := a_pos C13 T ha (fun _ _ q => by cases q)
  obtain ⟨Cn, Tt, N, ref, t0, f1, f2, f3, f4, f5, f6, f7, f8, f9⟩ := hf
  have hts := C6
  have hty : parseFieldDescriptor (Tt k).2.2.1 = some ty := by rw [f4 k f3, f6]
  have hE : (Sum.inr (ci, (fs.map (a_v b bs)).set k (a_v b bs v)) : va_E) = a_e κ b bs (.inr (ci, fs.set k v)) := by simp only [a_e, List.map_set]
  rcases f9 with f9 | ⟨host, f9⟩
  · exact va_put C1 C2 hts f2 t0 f4 f5 C7 C9 T.2.2.1.2 a_D T.2.2.2 j he f1 k f3 (hts _ f9) (a_same hts f8) f7 hty (hv b bs).1 (hv b bs).2 (by rw [List.length_map]; exact hl) hd (fun H1 locs1 hP _ hS => kk H1 locs1 (T.put hj hE hP hS))
  · exact va_putN C1 C2 hts f2 t0 f4 f5 C7 C9 T.2.2.1.2 a_D T.2.2.2 j he f1 k f3 (va_Nw.use rfl (C10 _ f9)) (a_same hts f8) f7 hty (hv b bs).1 (hv b bs).2 (by rw [List.length_map]; exact hl) hd (fun H1 locs1 hP _ hS => kk H1 locs1 (T.put hj hE hP hS))
/-- a final field, in the constructor of the class that declares it -/
theorem T_putF {idx ci k a : Nat} {ty : FieldType} {fs : List Value} {v : Value} (hd : decode μ.2.1 pc = .ok (.putfield idx, 3)) (hf : a_FF μ.1.cls idx ci k ty) (hm : μ.1.name = "<init>") (ha : h a = some (.inr (ci, fs))) (hl : k < fs.length) (hv : a_fit ty v) (kk : Tri μ R Z (pc + 3) L S n (va_up h a (some (.inr (ci, fs.set k v)))) cells slots) : Tri μ R Z pc L (v :: .ref a :: S) n h cells slots := by
  intro p l e s m args below meth c κ D b bs X0 H locs ls C T V
  have kk := fun H1 locs1 T1 => kk p l e s m args below meth c κ D b bs X0 H1 locs1 ls C T1 V
  obtain ⟨C1, C2, C3, C4, C5, C6, C7, C8, C9, C10, C11, C12, C13⟩ := C
  obtain ⟨j, rfl, hj, he⟩ := a_pos C13 T ha (fun _ _ q => by cases q)
  obtain ⟨Cn, Tt, N, t0, f1, f2, f3, f4, f5, f6, f7, f8, f9⟩ := hf
  have hts := C6
  have hty : parseFieldDescriptor (Tt k).2.2.1 = some ty := by rw [f4 k f3, f6]
  have hE : (Sum.inr (ci, (fs.map (a_v b bs)).set k (a_v b bs v)) : va_E) = a_e κ b bs (.inr (ci, fs.set k v)) := by simp only [a_e, List.map_set]
  exact va_putF C1 C2 hts f2 t0 f4 f5 C7 C9 T.2.2.1.2 a_D T.2.2.2 j he f1 k f3 (hts _ f9) (fun x hx => by rw [← f8]; exact hx) f7 (C8 hm) f8 hty (hv b bs).1 (hv b bs).2 (by rw [List.length_map]; exact hl) hd (fun H1 locs1 hP _ hS => kk H1 locs1 (T.put hj hE hP hS))
theorem T_iald {a N : Nat} {f : Nat → Int32} {i : Int32} (hd : decode μ.2.1 pc = .ok (.iaload, 1)) (ha : h a = some (.inl (.int, N, .inl f))) (hin : vp_in i N) (kk : Tri μ R Z (pc + 1) L (.int (f i.toNatClampNeg) :: S) n h cells slots) : Tri μ R Z pc L (.int i :: .ref a :: S) n h cells slots := by
  intro p l e s m args below meth c κ D b bs X0 H locs ls C T V
  have kk := kk p l e s m args below meth c κ D b bs X0 H locs ls C T V
  obtain ⟨C1, C2, C3, C4, C5, C6, C7, C8, C9, C10, C11, C12, C13⟩ := C
  by_cases h0 : a = 0
  · subst h0
    rw [T.1] at ha
    rcases C13 with hX | ⟨L1, xs, hX, hX1⟩
    · rw [hX] at ha
      cases ha
    · rw [hX] at ha
      cases ha
      exact va_sld (A := fun q => b ≤ q) C1 C2 hX1 (Nat.lt_of_lt_of_le C11 C12) (Nat.not_le.mpr C11) T.2.2.2 hin hd kk
  · obtain ⟨j, rfl, hj, he⟩ := a_pos' T ha h0
    exact va_iald C1 C2 C9 T.2.2.1.2 j 0 he rfl hin hd kk
theorem T_zald {a N : Nat} {f : Nat → Int32} {i : Int32} (hd : decode μ.2.1 pc = .ok (.baload, 1)) (ha : h a = some (.inl (.boolean, N, .inl f))) (hin : vp_in i N) (kk : Tri μ R Z (pc + 1) L (.int (f i.toNatClampNeg) :: S) n h cells slots) : Tri μ R Z pc L (.int i :: .ref a :: S) n h cells slots := by
  intro p l e s m args below meth c κ D b bs X0 H locs ls C T V
  have kk := kk p l e s m args below meth c κ D b bs X0 H locs ls C T V
  obtain ⟨C1, C2, C3, C4, C5, C6, C7, C8, C9, C10, C11, C12, C13⟩ := C
  obtain ⟨j, rfl, hj, he⟩ := a_pos C13 T ha (fun _ _ q => by cases q)
  exact va_zald C1 C2 C9 T.2.2.1.2 j 1 he rfl hin hd kk
theorem T_aald {a N r : Nat} {f : Nat → Option Nat} {i : Int32} (hd : decode μ.2.1 pc = .ok (.aaload, 1)) (ha : h a = some (.inl (a_tB, N, .inr f))) (hin : vp_in i N) (hr : f i.toNatClampNeg = some r) (kk : Tri μ R Z (pc + 1) L (.ref r :: S) n h cells slots) : Tri μ R Z pc L (.int i :: .ref a :: S) n h cells slots := by
  intro p l e s m args below meth c κ D b bs X0 H locs ls C T V
  have kk := kk p l e s m args below meth c κ D b bs X0 H locs ls C T V
  obtain ⟨C1, C2, C3, C4, C5, C6, C7, C8, C9, C10, C11, C12, C13⟩ := C
  obtain ⟨j, rfl, hj, he⟩ := a_pos C13 T ha (fun _ _ q => by cases q)
  refine va_aldq C1 C2 C9 T.2.2.1.2 j 2 he rfl hin hd ?_
  simp only [hr, Option.map_some]
  exact kk
theorem T_alen {a N : Nat} {ty : FieldType} {g : (Nat → Int32) ⊕ (Nat → Option Nat)} (hd : decode μ.2.1 pc = .ok (.arraylength, 1)) (ha : h a = some (.inl (ty, N, g))) (ht : ty = .int ∨ ty = .boolean ∨ ty = a_tB) (kk : Tri μ R Z (pc + 1) L (.int (nI N) :: S) n h cells slots) : Tri μ R Z pc L (.ref a :: S) n h cells slots := by
  intro p l e s m args below meth c κ D b bs X0 H locs ls C T V
  have kk := kk p l e s m args below meth c κ D b bs X0 H locs ls C T V
  obtain ⟨C1, C2, C3, C4, C5, C6, C7, C8, C9, C10, C11, C12, C13⟩ := C
  by_cases h0 : a = 0
  · subst h0
    rw [T.1] at ha
    rcases C13 with hX | ⟨L1, xs, hX, hX1⟩
    · rw [hX] at ha
      cases ha
    · rw [hX] at ha
      cases ha
      exact va_slen (A := fun q => b ≤ q) C1 C2 hX1 (Nat.lt_of_lt_of_le C11 C12) (Nat.not_le.mpr C11) T.2.2.2 hd kk
  · obtain ⟨j, rfl, hj, he⟩ := a_pos' T ha h0
    have key : ∃ t0 : Nat, (a_ty κ)[t0]? = some (κ ty, ty) := by
      rcases ht with rfl | rfl | rfl
      · exact ⟨0, rfl⟩
      · exact ⟨1, rfl⟩
      · exact ⟨2, rfl⟩
    obtain ⟨t0, ht0⟩ := key
    rcases g with g | g
    · exact va_alen C1 C2 C9 T.2.2.1.2 j t0 he ht0 rfl hd kk
    · exact va_alen C1 C2 C9 T.2.2.1.2 j t0 he ht0 rfl hd kk
theorem T_iast {a N : Nat} {f : Nat → Int32} {i x : Int32} (hd : decode μ.2.1 pc = .ok (.iastore, 1)) (h0 : a ≠ 0) (ha : h a = some (.inl (.int, N, .inl f))) (hin : vp_in i N) (kk : Tri μ R Z (pc + 1) L S n (va_up h a (some (.inl (.int, N, .inl (upd f i.toNatClampNeg x))))) cells slots) : Tri μ R Z pc L (.int x :: .int i :: .ref a :: S) n h cells slots := by
  intro p l e s m args below meth c κ D b bs X0 H locs ls C T V
  have kk := fun H1 locs1 T1 => kk p l e s m args below meth c κ D b bs X0 H1 locs1 ls C T1 V
  obtain ⟨C1, C2, C3, C4, C5, C6, C7, C8, C9, C10, C11, C12, C13⟩ := C
  obtain ⟨j, rfl, hj, he⟩ := a_pos' T ha h0
  exact va_iast C1 C2 C9 T.2.2.1.2 a_D T.2.2.2 j 0 he rfl hin hd (fun H1 locs1 hP _ hS => kk H1 locs1 (T.put hj rfl hP hS))
theorem T_zast {a N : Nat} {f : Nat → Int32} {i x : Int32} (hd : decode μ.2.1 pc = .ok (.bastore, 1)) (ha : h a = some (.inl (.boolean, N, .inl f))) (hin : vp_in i N) (kk : Tri μ R Z (pc + 1) L S n (va_up h a (some (.inl (.boolean, N, .inl (upd f i.toNatClampNeg (vp_nar .boolean x)))))) cells slots) : Tri μ R Z pc L (.int x :: .int i :: .ref a :: S) n h cells slots := by
  intro p l e s m args below meth c κ D b bs X0 H locs ls C T V
  have kk := fun H1 locs1 T1 => kk p l e s m args below meth c κ D b bs X0 H1 locs1 ls C T1 V
  obtain ⟨C1, C2, C3, C4, C5, C6, C7, C8, C9, C10, C11, C12, C13⟩ := C
  obtain ⟨j, rfl, hj, he⟩ := a_pos C13 T ha (fun _ _ q => by cases q)
  exact va_zast C1 C2 C9 T.2.2.1.2 a_D T.2.2.2 j 1 he rfl hin hd (fun H1 locs1 hP _ hS => kk H1 locs1 (T.put hj rfl hP hS))
theorem a_upm (b bs : Nat) (f : Nat → Option Nat) (i r : Nat) : (fun j => ((va_up f i (some r)) j).map (a_ad b bs)) = va_up (fun j => (f j).map (a_ad b bs)) i (some (a_ad b bs r)) := by
  funext j
  by_cases hj : j = i
  · subst hj; simp [va_up]
  · simp [va_up, hj]
theorem T_aast {a N r ci : Nat} {f : Nat → Option Nat} {i : Int32} {fs : List Value} {q : vw_C} (hd : decode μ.2.1 pc = .ok (.aastore, 1)) (ha : h a = some (.inl (a_tB, N, .inr f))) (hr : h r = some (.inr (ci, fs))) (hq : classes[ci]? = some q) (hq1 : q.1 = "OnceWire$Bytes") (hin : vp_in i N) (kk : Tri μ R Z (pc + 1) L S n (va_up h a (some (.inl (a_tB, N, .inr (va_up f i.toNatClampNeg (some r)))))) cells slots) : Tri μ R Z pc L (.ref r :: .int i :: .ref a :: S) n h cells slots := by
  intro p l e s m args below meth c κ D b bs X0 H locs ls C T V
  have kk := fun H1 locs1 T1 => kk p l e s m args below meth c κ D b bs X0 H1 locs1 ls C T1 V
  obtain ⟨C1, C2, C3, C4, C5, C6, C7, C8, C9, C10, C11, C12, C13⟩ := C
  obtain ⟨j, rfl, hj, he⟩ := a_pos C13 T ha (fun _ _ q => by cases q)
  obtain ⟨j2, rfl, hj2, he2⟩ := a_pos C13 T hr (fun _ _ q => by cases q)
  refine va_astq (r := q) C1 C2 C9 T.2.2.1.2 a_D T.2.2.2 j 2 j2 ci he (by rw [hq1]; rfl) he2 hq hin hd (fun H1 locs1 hP _ hS => kk H1 locs1 (T.put hj ?_ hP hS))
  simp only [a_e, a_upm]
  rfl
/-- a written world, by what it says -/
theorem T_up {a : Nat} {c : aC} (kk : ∀ h' : aH, h' a = some c → (∀ q, q ≠ a → h' q = h q) → Tri μ R Z pc L S n h' cells slots) : Tri μ R Z pc L S n (va_up h a (some c)) cells slots := kk _ (va_up_self h a (some c)) (fun q hq => va_up_ne h (some c) hq)
-- making
/-- own's pool entry idx is class number ci, of N fields that begin as fs -/
def a_N (own : String) (idx ci N : Nat) (fs : List Value) : Prop :=
  ∃ (C : String) (T : u_T) (t0 : Nat → FieldType), classes[ci]? = some (C, T, N) ∧ (∀ w ∈ u_ws C T N, w ∈ Ws) ∧ (∀ j, j < N → parseFieldDescriptor (T j).2.2.1 = some (t0 j)) ∧ Cond.classLink own idx C ∈ Ws ∧ Cond.instantiable C N ∈ Ws ∧ Cond.initialized C ∈ Ws ∧ (∀ j, j < N → defaultValue (t0 j) = vp_V fs j) ∧ ∀ b bs : Nat, fs.map (a_v b bs) = fs
theorem T_new {idx ci N : Nat} {fs : List Value} (hd : decode μ.2.1 pc = .ok (.new idx, 3)) (hf : a_N μ.1.cls idx ci N fs) (hc : cells + 1 ≤ R.cells) (hs : slots + N ≤ R.slots) (kk : Tri μ R Z (pc + 3) L (.ref (n + 1) :: S) (n + 1) (va_up h (n + 1) (some (.inr (ci, fs)))) (cells + 1) (slots + N)) : Tri μ R Z pc L S n h cells slots := by
  intro p l e s m args below meth c κ D b bs X0 H locs ls C T V
  have kk := fun H1 locs1 T1 => kk p l e s m args below meth c κ D b bs X0 H1 locs1 ls C T1 V
  obtain ⟨C1, C2, C3, C4, C5, C6, C7, C8, C9, C10, C11, C12, C13⟩ := C
  obtain ⟨Cn, Tt, t0, f1, f2, f3, f4, f5, f6, f7, f8⟩ := hf
  have hts := C6
  refine a_size C12 T (fun hz => ?_)
  have hKn := C9.1 ci _ f1
  refine W.newcK C1 C2 C7 (hts _ f4) (hts _ f5) (hts _ f6) rfl hd hc hs hKn.2.1 hz fun H1 kC hkC e1 z1 o1 => ?_
  refine kk H1 locs (T.push hz ?_ (by rw [z1, hz]) (fun q hq => o1 q (by rw [← hz]; exact hq)))
  show ∃ r : vw_C, classes[ci]? = some r ∧ t_OB (b + n) (D.1 ci) r.2.2 (D.2 ci) H1 (vp_V (fs.map (a_v b bs)))
  refine ⟨_, f1, (u_born t0 hts f2 hKn hkC e1 f3).to ?_⟩
  intro j hj
  rw [f8]
  exact f7 j hj
theorem a_kA {s : State} {D : va_G} {κ : FieldType → ClassId} {cA : ClassId} (hK : va_K D classes (a_ty κ) s) : (s.vm.findClass ("[" ++ FieldType.int.toString) = some cA → cA = κ .int) ∧ (s.vm.findClass ("[" ++ FieldType.boolean.toString) = some cA → cA = κ .boolean) ∧ (s.vm.findClass ("[" ++ a_tB.toString) = some cA → cA = κ a_tB) := by
  refine ⟨fun q => ?_, fun q => ?_, fun q => ?_⟩
  · have h1 : s.vm.findClass ("[" ++ FieldType.int.toString) = some (κ .int) := (hK.2 0 _ rfl).2
    exact Option.some.inj (q.symm.trans h1)
  · have h1 : s.vm.findClass ("[" ++ FieldType.boolean.toString) = some (κ .boolean) := (hK.2 1 _ rfl).2
    exact Option.some.inj (q.symm.trans h1)
  · obtain ⟨_, _, _, _, _, h1⟩ := (hK.2 2 _ rfl).2
    exact Option.some.inj (q.symm.trans h1)
theorem T_newi {i : Int32} {N : Nat} (hd : decode μ.2.1 pc = .ok (.newarray .int, 2)) (hw : Cond.arrayClass .int ∈ Ws) (hi : ¬ i < 0) (hN : i.toNatClampNeg = N) (hb : N ≤ 100000) (hc : cells + 1 ≤ R.cells) (hs : slots + N ≤ R.slots) (kk : Tri μ R Z (pc + 2) L (.ref (n + 1) :: S) (n + 1) (va_up h (n + 1) (some (.inl (.int, N, .inl (fun _ => 0))))) (cells + 1) (slots + N)) : Tri μ R Z pc L (.int i :: S) n h cells slots := by
  intro p l e s m args below meth c κ D b bs X0 H locs ls C T V
  have kk := fun H1 locs1 T1 => kk p l e s m args below meth c κ D b bs X0 H1 locs1 ls C T1 V
  obtain ⟨C1, C2, C3, C4, C5, C6, C7, C8, C9, C10, C11, C12, C13⟩ := C
  have hts := C6
  refine a_size C12 T (fun hz => ?_)
  refine va_newaK C1 C2 (atype := .int) (hts _ hw) rfl hd rfl hi hN (by show N * 4 ≤ _; omega) hc hs hz fun H1 cA e1 z1 o1 hAr hNm => ?_
  have hcA : cA = κ .int := (a_kA C9).1 hNm
  subst hcA
  exact kk H1 locs (T.push hz e1 (by rw [z1, hz]) (fun q hq => o1 q (by rw [← hz]; exact hq)))
theorem T_newz {i : Int32} {N : Nat} (hd : decode μ.2.1 pc = .ok (.newarray .boolean, 2)) (hw : Cond.arrayClass .boolean ∈ Ws) (hi : ¬ i < 0) (hN : i.toNatClampNeg = N) (hb : N ≤ 100000) (hc : cells + 1 ≤ R.cells) (hs : slots + N ≤ R.slots) (kk : Tri μ R Z (pc + 2) L (.ref (n + 1) :: S) (n + 1) (va_up h (n + 1) (some (.inl (.boolean, N, .inl (fun _ => 0))))) (cells + 1) (slots + N)) : Tri μ R Z pc L (.int i :: S) n h cells slots := by
  intro p l e s m args below meth c κ D b bs X0 H locs ls C T V
  have kk := fun H1 locs1 T1 => kk p l e s m args below meth c κ D b bs X0 H1 locs1 ls C T1 V
  obtain ⟨C1, C2, C3, C4, C5, C6, C7, C8, C9, C10, C11, C12, C13⟩ := C
  have hts := C6
  refine a_size C12 T (fun hz => ?_)
  refine va_newaK C1 C2 (atype := .boolean) (hts _ hw) rfl hd rfl hi hN (by show N * 1 ≤ _; omega) hc hs hz fun H1 cA e1 z1 o1 hAr hNm => ?_
  have hcA : cA = κ .boolean := (a_kA C9).2.1 hNm
  subst hcA
  exact kk H1 locs (T.push hz e1 (by rw [z1, hz]) (fun q hq => o1 q (by rw [← hz]; exact hq)))
theorem T_newq {idx : Nat} {i : Int32} {N : Nat} (hd : decode μ.2.1 pc = .ok (.anewarray idx, 3)) (hw : Cond.classLink μ.1.cls idx "OnceWire$Bytes" ∈ Ws) (hw2 : Cond.arrayOver a_tB ∈ nws) (hi : ¬ i < 0) (hN : i.toNatClampNeg = N) (hb : N ≤ 100000) (hc : cells + 1 ≤ R.cells) (hs : slots + N ≤ R.slots) (kk : Tri μ R Z (pc + 3) L (.ref (n + 1) :: S) (n + 1) (va_up h (n + 1) (some (.inl (a_tB, N, .inr (fun _ => none))))) (cells + 1) (slots + N)) : Tri μ R Z pc L (.int i :: S) n h cells slots := by
  intro p l e s m args below meth c κ D b bs X0 H locs ls C T V
  have kk := fun H1 locs1 T1 => kk p l e s m args below meth c κ D b bs X0 H1 locs1 ls C T1 V
  obtain ⟨C1, C2, C3, C4, C5, C6, C7, C8, C9, C10, C11, C12, C13⟩ := C
  have hts := C6
  subst hN
  refine a_size C12 T (fun hz => ?_)
  refine W.anew C1 C2 C7 (hts _ hw) (va_AO.use (C10 _ hw2)) rfl hd rfl hi (by omega) hc hs fun cA kA comp f1 f2 f3 f4 => ?_
  have hcA : cA = κ a_tB := (a_kA C9).2.2 f1
  subst hcA
  have e1 : ∀ Z : Cell, (H.push Z)[b + n]? = some Z := fun Z => by rw [← hz, Array.getElem?_push_size]
  refine W.eq (g2 := F0 m (pc + 3) ls (.ref (b + n) :: S.map (a_v b bs))) (by rw [hz]) (kk _ locs (T.push hz ?_ (by rw [Array.size_push]) (fun q hq => by rw [Array.getElem?_push, if_neg (Nat.ne_of_lt hq)])))
  show (H.push _)[b + n]? = some (vp_cell _ _)
  rw [e1, vp_cell_q]
  exact congrArg some (arrV_new _ _ _)
end Hp
-- ends
section En
variable {μ : aM} {d mc ms : Nat} {Q : aQ} {pc : Nat} {L : List (Nat × Value)} {S : List Value} {n : Nat} {h : aH} {cells slots : Nat}
theorem T_iret {v : Int32} (hd : decode μ.2.1 pc = .ok (.ireturn, 1)) (hr : μ.2.2.2 = some .int) (hc : cells = mc) (hs : slots ≤ ms) (hq : Q (some (.int v)) h) : Tri μ (a_rm d mc ms) (a_Z mc ms Q) pc L [.int v] n h cells slots := by
  intro p l e s m args below meth c κ D b bs X0 H locs ls C T V
  obtain ⟨C1, C2, C3, C4, C5, C6, C7, C8, C9, C10, C11, C12, C13⟩ := C
  subst hc
  obtain ⟨t1, t2, t3, t4⟩ := T
  refine W.widen (k := cells) (n := ms) (Nat.le_refl _) hs ?_
  exact W.iret C1 C2 (C4.trans hr) (fun t ht _ => ⟨⟨some (.int v), n, h, hq, t1, t2, rfl, by rw [ht]; exact t3⟩, t4.F ht⟩) t4.2.2 hd C5
theorem T_zret {v : Int32} (hd : decode μ.2.1 pc = .ok (.ireturn, 1)) (hr : μ.2.2.2 = some .boolean) (hv : v = 0 ∨ v = 1) (hc : cells = mc) (hs : slots ≤ ms) (hq : Q (some (.int v)) h) : Tri μ (a_rm d mc ms) (a_Z mc ms Q) pc L [.int v] n h cells slots := by
  intro p l e s m args below meth c κ D b bs X0 H locs ls C T V
  obtain ⟨C1, C2, C3, C4, C5, C6, C7, C8, C9, C10, C11, C12, C13⟩ := C
  subst hc
  obtain ⟨t1, t2, t3, t4⟩ := T
  refine W.widen (k := cells) (n := ms) (Nat.le_refl _) hs ?_
  exact W.zret C1 C2 (C4.trans hr) (by rcases hv with rfl | rfl <;> rfl) (fun t ht _ => ⟨⟨some (.int v), n, h, hq, t1, t2, rfl, by rw [ht]; exact t3⟩, t4.F ht⟩) t4.2.2 hd C5
theorem T_lret {v : Int64} (hd : decode μ.2.1 pc = .ok (.lreturn, 1)) (hr : μ.2.2.2 = some .long) (hc : cells = mc) (hs : slots ≤ ms) (hq : Q (some (.long v)) h) : Tri μ (a_rm d mc ms) (a_Z mc ms Q) pc L [.long v] n h cells slots := by
  intro p l e s m args below meth c κ D b bs X0 H locs ls C T V
  obtain ⟨C1, C2, C3, C4, C5, C6, C7, C8, C9, C10, C11, C12, C13⟩ := C
  subst hc
  obtain ⟨t1, t2, t3, t4⟩ := T
  refine W.widen (k := cells) (n := ms) (Nat.le_refl _) hs ?_
  exact W.lret C1 C2 (C4.trans hr) (fun t ht _ => ⟨⟨some (.long v), n, h, hq, t1, t2, rfl, by rw [ht]; exact t3⟩, t4.F ht⟩) t4.2.2 hd C5
theorem T_aret {v : Nat} {C0 : String} (hd : decode μ.2.1 pc = .ok (.areturn, 1)) (hr : μ.2.2.2 = some (.object C0)) (hc : cells = mc) (hs : slots ≤ ms) (hq : Q (some (.ref v)) h) : Tri μ (a_rm d mc ms) (a_Z mc ms Q) pc L [.ref v] n h cells slots := by
  intro p l e s m args below meth c κ D b bs X0 H locs ls C T V
  obtain ⟨C1, C2, C3, C4, C5, C6, C7, C8, C9, C10, C11, C12, C13⟩ := C
  subst hc
  obtain ⟨t1, t2, t3, t4⟩ := T
  refine W.widen (k := cells) (n := ms) (Nat.le_refl _) hs ?_
  exact W.aret (v := .ref (a_ad b bs v)) C1 C2 (C4.trans hr) (Or.inl ⟨_, rfl⟩) (Or.inr ⟨_, rfl⟩) (fun t ht _ => ⟨⟨some (.ref v), n, h, hq, t1, t2, rfl, by rw [ht]; exact t3⟩, t4.F ht⟩) t4.2.2 hd C5
theorem T_vret (hd : decode μ.2.1 pc = .ok (.return_, 1)) (hr : μ.2.2.2 = none) (hc : cells = mc) (hs : slots ≤ ms) (hq : Q none h) : Tri μ (a_rm d mc ms) (a_Z mc ms Q) pc L [] n h cells slots := by
  intro p l e s m args below meth c κ D b bs X0 H locs ls C T V
  obtain ⟨C1, C2, C3, C4, C5, C6, C7, C8, C9, C10, C11, C12, C13⟩ := C
  subst hc
  obtain ⟨t1, t2, t3, t4⟩ := T
  refine W.widen (k := cells) (n := ms) (Nat.le_refl _) hs ?_
  exact W.vret C1 C2 (C4.trans hr) (fun t ht _ => ⟨⟨none, n, h, hq, t1, t2, rfl, by rw [ht]; exact t3⟩, t4.F ht⟩) t4.2.2 hd C5
end En
end
section
/-! Rows of the abstract layer: calls. -/
/-- behind a call -/
theorem a_call {p : Program} {l : Launch} {e : Env} {R : Room} {s : State} {m : MethodId} {args : Array Value} {below : List Frame} {meth : Method} {c : Code} {H : Heap} {locs : List Loc} {cells slots : Nat} {Qw : State → Prop} {κ : FieldType → ClassId} {D : va_G} {b bs n mc' ms' pc : Nat} {X0 : Option aC} {h : aH} {ls : Array Slot} {st0 rest : List Value} {a : Array Value} {Q' : aQ}
    (hr : va_Run p l e R s m args below meth c H locs cells slots mc' ms' (F0 m pc ls st0) rest (a_Q κ D b bs mc' X0 Q' a) (fun q => b ≤ q)) (T : a_St κ D b bs X0 s n h cells H locs) (hz : H.size = b + n)
    (kk : ∀ (r : Option Value) (h' : aH) (H1 : Heap) (locs1 : List Loc), Q' r h' → a_St κ D b bs X0 s (n + mc') h' (cells + mc') H1 locs1 → W p l e R s m args below meth c H1 locs1 (cells + mc') (slots + ms') Qw (F0 m (pc + 3) ls ((r.map (a_v b bs)).toList ++ rest))) : W p l e R s m args below meth c H locs cells slots Qw (F0 m pc ls st0) := by
  intro T1 hT X
  obtain ⟨v, st₀, t, T', Lc, h0, X', hL, e1, e2, ⟨⟨r, n', h', hq, hx, hn, hv, hR⟩, hzz, hk⟩, st⟩ := hr T1 hT X
  cases hv
  rw [h0] at hzz hk hn
  obtain ⟨t1, t2, t3, t4⟩ := T
  have hn' : n' = n + mc' := by omega
  subst hn'
  obtain ⟨t5, a1, b1⟩ := kk r h' T'.heap (locs ++ Lc) hq ⟨hx, by omega, by rw [e1]; exact hR, ⟨Nat.le_trans t4.1 (by rw [e1]; exact hzz), fun q h1 h2 => by rw [e1, hk q (Nat.lt_of_lt_of_le h1 t4.1) h2]; exact t4.2.1 q h1 h2, fun q hq => by
      rcases List.mem_append.mp hq with h | h
      · exact t4.2.2 q h
      · exact hL q h⟩⟩ T' rfl X'
  exact ⟨t5, st t5 a1, b1⟩
theorem a_app (b bs : Nat) (r : Option Value) (S : List Value) : (r.toList ++ S).map (a_v b bs) = (r.map (a_v b bs)).toList ++ S.map (a_v b bs) := by cases r <;> rfl
def a_d (μ' : aM) (np : Nat) : Prop := (μ'.1.cls ≠ "java/lang/invoke/MethodHandle" ∧ μ'.1.cls ≠ "java/lang/invoke/VarHandle") ∧ (parseMethodDescriptor μ'.1.desc).map (fun d => d.parameters.length) = some np ∧ μ'.2.2.1 ≤ 11 ∧ Cond.initialized μ'.1.cls ∈ Ws ∧ Cond.code μ'.1 μ'.2.1 μ'.2.2.1 μ'.2.2.2 ∈ Ws
def a_IS (own : String) (idx : Nat) (μ' : aM) (np : Nat) : Prop := a_d μ' np ∧ Cond.methodLink own idx μ'.1 ∈ Ws ∧ Cond.static μ'.1 ∈ Ws
def a_II (own : String) (idx : Nat) (μ' : aM) (np : Nat) : Prop := a_d μ' np ∧ Cond.methodLink own idx μ'.1 ∈ Ws ∧ Cond.instanceMethod μ'.1 ∈ Ws ∧ μ'.1.name = "<init>" ∧ μ'.2.2.2 = none
def a_IIN (own : String) (idx : Nat) (μ' : aM) (np : Nat) : Prop := a_d μ' np ∧ (∃ host, Cond.methodLinkNest own idx μ'.1 host ∈ nws) ∧ Cond.instanceMethod μ'.1 ∈ Ws ∧ μ'.1.name = "<init>" ∧ μ'.2.2.2 = none
def a_IV (own : String) (idx : Nat) (μ' : aM) (np ci : Nat) : Prop := a_d μ' np ∧ Cond.methodLink own idx μ'.1 ∈ Ws ∧ Cond.instanceMethod μ'.1 ∈ Ws ∧ ∃ r : vw_C, classes[ci]? = some r ∧ Cond.selects r.1 μ'.1 μ'.1 ∈ Ws
/-- the method that is named is abstract: x, of the class owner -/
def a_IA (own : String) (idx : Nat) (x : MethodName) (μ' : aM) (np ci : Nat) : Prop := a_d μ' np ∧ Cond.methodLink own idx x ∈ Ws ∧ Cond.instanceMethod μ'.1 ∈ Ws ∧ Cond.sameMethod x.cls x.cls x.name x.desc ∈ Ws ∧ Cond.declares x ∈ nws ∧ x.desc = μ'.1.desc ∧ (x.cls ≠ "java/lang/invoke/MethodHandle" ∧ x.cls ≠ "java/lang/invoke/VarHandle") ∧ ∃ r : vw_C, classes[ci]? = some r ∧ Cond.selects r.1 x μ'.1 ∈ Ws
section Cl
variable {μ : aM} {R : Room} {Z : aZ} {pc : Nat} {L : List (Nat × Value)} {S S0 : List Value} {n : Nat} {h : aH} {cells slots : Nat}
theorem a_callB {μ' : aM} {s : State} {args : Array Value} {own : String} {idx np d' mc' ms' : Nat} (hts : ∀ w ∈ Ws, w.before args s = true) (hs : a_d μ' np) (hl : Cond.methodLink own idx μ'.1 ∈ Ws) (hd' : d' + 1 ≤ R.frames ∧ 30 * (d' + 1) ≤ R.locals) : CallB R s args own idx μ'.1 μ'.2.1 μ'.2.2.1 μ'.2.2.2 (a_w μ') (a_rm d' mc' ms') mc' ms' np := by
  obtain ⟨s1, s2, s3, s4, s5⟩ := hs
  refine ⟨rfl, rfl, hd'.1, ?_, pay_in hts (a_goodIn s5), List.mem_cons_self, hts _ s5, hts _ s4, s1, fun sig hsig => ?_, hts _ hl⟩
  · show 8 + (μ'.2.2.1 + 11) + 30 * d' ≤ R.locals
    omega
  · rw [hsig] at s2
    exact (Option.some.inj s2).symm
theorem T_ivS {μ' : aM} {d' mc' ms' idx np : Nat} {as : List Value} {Q' : aQ} (hd : decode μ.2.1 pc = .ok (.invokestatic idx, 3)) (hs : a_IS μ.1.cls idx μ' np) (hc : Con μ' d' mc' ms' n as h Q') (hS : S0 = as.reverse ++ S) (hn : as.length = np) (hd' : d' + 1 ≤ R.frames ∧ 30 * (d' + 1) ≤ R.locals) (hm : cells + mc' ≤ R.cells ∧ slots + ms' ≤ R.slots) (hW : (S.map fun v => v.category).sum ≤ 8)
    (k : ∀ (r : Option Value) (h' : aH), Q' r h' → Tri μ R Z (pc + 3) L (r.toList ++ S) (n + mc') h' (cells + mc') (slots + ms')) : Tri μ R Z pc L S0 n h cells slots := by
  subst hS
  subst hn
  intro p l e s m args below meth c κ D b bs X0 H locs ls C T V
  have hC := C
  obtain ⟨C1, C2, C3, C4, C5, C6, C7, C8, C9, C10, C11, C12, C13⟩ := C
  refine a_size C12 T (fun hz => ?_)
  have hM := hc l κ D b bs
  rw [T.1] at hM
  refine a_call (va_runS (As := as.map (a_v b bs)) (rest := S.map (a_v b bs)) ⟨C1, C2, C3, C7, C6⟩ hM ⟨a_callB C6 hs.1 hs.2.1 hd', C6 _ hs.2.2⟩ ⟨a_blind, fun U hU hW => ⟨rfl, a_pre hC T hz hU hW⟩⟩ rfl (by rw [List.length_map]) V.1 (by rw [List.map_append, List.map_reverse]) (lv_room (by rw [a_sum]; exact hW)) hd hm) T hz (fun r h' H1 locs1 hq T' => ?_)
  rw [← a_app]
  exact k r h' hq p l e s m args below meth c κ D b bs X0 H1 locs1 ls hC T' V
theorem T_ivI {μ' : aM} {d' mc' ms' idx a np : Nat} {as : List Value} {Q' : aQ} (hd : decode μ.2.1 pc = .ok (.invokespecial idx, 3)) (hs : a_II μ.1.cls idx μ' np) (hc : Con μ' d' mc' ms' n (.ref a :: as) h Q') (hS : S0 = as.reverse ++ .ref a :: S) (hn : as.length = np) (hd' : d' + 1 ≤ R.frames ∧ 30 * (d' + 1) ≤ R.locals) (hm : cells + mc' ≤ R.cells ∧ slots + ms' ≤ R.slots) (hW : (S.map fun v => v.category).sum ≤ 8)
    (k : ∀ (r : Option Value) (h' : aH), Q' r h' → Tri μ R Z (pc + 3) L (r.toList ++ S) (n + mc') h' (cells + mc') (slots + ms')) : Tri μ R Z pc L S0 n h cells slots := by
  subst hS
  subst hn
  intro p l e s m args below meth c κ D b bs X0 H locs ls C T V
  have hC := C
  obtain ⟨C1, C2, C3, C4, C5, C6, C7, C8, C9, C10, C11, C12, C13⟩ := C
  refine a_size C12 T (fun hz => ?_)
  have hM := hc l κ D b bs
  rw [T.1] at hM
  obtain ⟨s1, s2, s3, s4, s5⟩ := hs
  have hB := a_callB (R := R) (mc' := mc') (ms' := ms') C6 s1 s2 hd'
  rw [s5] at hB
  refine a_call (va_runI (b := a_ad b bs a) (As := as.map (a_v b bs)) (rest := S.map (a_v b bs)) ⟨C1, C2, C3, C7, C6⟩ hM ⟨hB, s4, C6 _ s3⟩ ⟨a_blind, fun U hU hW => ⟨rfl, a_pre hC T hz hU hW⟩⟩ rfl (by rw [List.length_map]) V.1 (by rw [List.map_append, List.map_reverse]; rfl) (lv_room (by rw [a_sum]; exact hW)) hd hm) T hz (fun r h' H1 locs1 hq T' => ?_)
  rw [← a_app]
  exact k r h' hq p l e s m args below meth c κ D b bs X0 H1 locs1 ls hC T' V
/-- a nest mate's private constructor -/
theorem T_ivIN {μ' : aM} {d' mc' ms' idx a np : Nat} {as : List Value} {Q' : aQ} (hd : decode μ.2.1 pc = .ok (.invokespecial idx, 3)) (hs : a_IIN μ.1.cls idx μ' np) (hc : Con μ' d' mc' ms' n (.ref a :: as) h Q') (hS : S0 = as.reverse ++ .ref a :: S) (hn : as.length = np) (hd' : d' + 1 ≤ R.frames ∧ 30 * (d' + 1) ≤ R.locals) (hm : cells + mc' ≤ R.cells ∧ slots + ms' ≤ R.slots) (hW : (S.map fun v => v.category).sum ≤ 8)
    (k : ∀ (r : Option Value) (h' : aH), Q' r h' → Tri μ R Z (pc + 3) L (r.toList ++ S) (n + mc') h' (cells + mc') (slots + ms')) : Tri μ R Z pc L S0 n h cells slots := by
  subst hS
  subst hn
  intro p l e s m args below meth c κ D b bs X0 H locs ls C T V
  have hC := C
  obtain ⟨C1, C2, C3, C4, C5, C6, C7, C8, C9, C10, C11, C12, C13⟩ := C
  refine a_size C12 T (fun hz => ?_)
  have hM := hc l κ D b bs
  rw [T.1] at hM
  obtain ⟨⟨q1, q2, q3, q4, q5⟩, ⟨host, s2⟩, s3, s4, s5⟩ := hs
  have hw := C6
  have hCN : va_CN R s args μ.1.cls idx μ'.1 host μ'.2.1 μ'.2.2.1 none (a_w μ') (a_rm d' mc' ms') mc' ms' as.length := by
    rw [← s5]
    refine ⟨⟨rfl, rfl, hd'.1, ?_, pay_in C6 (a_goodIn q5), List.mem_cons_self⟩, hw _ q5, hw _ q4, q1, fun sig hsig => ?_, va_Nw.use rfl (C10 _ s2)⟩
    · show 8 + (μ'.2.2.1 + 11) + 30 * d' ≤ R.locals
      omega
    · rw [hsig] at q2
      exact (Option.some.inj q2).symm
  refine a_call (va_runIN (host := host) (b := a_ad b bs a) (As := as.map (a_v b bs)) (rest := S.map (a_v b bs)) ⟨C1, C2, C3, C7, C6⟩ hM ⟨hCN, s4, hw _ s3⟩ ⟨a_blind, fun U hU hW => ⟨rfl, a_pre hC T hz hU hW⟩⟩ rfl (by rw [List.length_map]) V.1 (by rw [List.map_append, List.map_reverse]; rfl) (lv_room (by rw [a_sum]; exact hW)) hd hm) T hz (fun r h' H1 locs1 hq T' => ?_)
  rw [← a_app]
  exact k r h' hq p l e s m args below meth c κ D b bs X0 H1 locs1 ls hC T' V
theorem T_ivV {μ' : aM} {d' mc' ms' idx a ci np : Nat} {as fs : List Value} {Q' : aQ} (hd : decode μ.2.1 pc = .ok (.invokevirtual idx, 3)) (hs : a_IV μ.1.cls idx μ' np ci) (hc : Con μ' d' mc' ms' n (.ref a :: as) h Q') (ha : h a = some (.inr (ci, fs))) (hS : S0 = as.reverse ++ .ref a :: S) (hn : as.length = np) (hd' : d' + 1 ≤ R.frames ∧ 30 * (d' + 1) ≤ R.locals) (hm : cells + mc' ≤ R.cells ∧ slots + ms' ≤ R.slots) (hW : (S.map fun v => v.category).sum ≤ 8)
    (k : ∀ (r : Option Value) (h' : aH), Q' r h' → Tri μ R Z (pc + 3) L (r.toList ++ S) (n + mc') h' (cells + mc') (slots + ms')) : Tri μ R Z pc L S0 n h cells slots := by
  subst hS
  subst hn
  intro p l e s m args below meth c κ D b bs X0 H locs ls C T V
  have hC := C
  obtain ⟨C1, C2, C3, C4, C5, C6, C7, C8, C9, C10, C11, C12, C13⟩ := C
  refine a_size C12 T (fun hz => ?_)
  have hM := hc l κ D b bs
  rw [T.1] at hM
  obtain ⟨s1, s2, s3, r0, s4, s5⟩ := hs
  obtain ⟨j, rfl, hj, he⟩ := a_pos C13 T ha (fun _ _ q => by cases q)
  refine a_call (va_runV (C := r0.1) (b := b + j) (As := as.map (a_v b bs)) (rest := S.map (a_v b bs)) ⟨C1, C2, C3, C7, C6⟩ hM ⟨a_callB C6 s1 s2 hd', C6 _ s3, C6 _ s5⟩ ⟨a_blind, va_recv C9 T.2.2.1.2 s4 he, fun U hU hW => ⟨rfl, a_pre hC T hz hU hW⟩⟩ rfl (by rw [List.length_map]) V.1 (by rw [List.map_append, List.map_reverse]; rfl) (lv_room (by rw [a_sum]; exact hW)) hd hm) T hz (fun r h' H1 locs1 hq T' => ?_)
  rw [← a_app]
  exact k r h' hq p l e s m args below meth c κ D b bs X0 H1 locs1 ls hC T' V
theorem T_ivA {μ' : aM} {x : MethodName} {d' mc' ms' idx a ci np : Nat} {as fs : List Value} {Q' : aQ} (hd : decode μ.2.1 pc = .ok (.invokevirtual idx, 3)) (hs : a_IA μ.1.cls idx x μ' np ci) (hc : Con μ' d' mc' ms' n (.ref a :: as) h Q') (ha : h a = some (.inr (ci, fs))) (hS : S0 = as.reverse ++ .ref a :: S) (hn : as.length = np) (hd' : d' + 1 ≤ R.frames ∧ 30 * (d' + 1) ≤ R.locals) (hm : cells + mc' ≤ R.cells ∧ slots + ms' ≤ R.slots) (hW : (S.map fun v => v.category).sum ≤ 8)
    (k : ∀ (r : Option Value) (h' : aH), Q' r h' → Tri μ R Z (pc + 3) L (r.toList ++ S) (n + mc') h' (cells + mc') (slots + ms')) : Tri μ R Z pc L S0 n h cells slots := by
  subst hS
  subst hn
  intro p l e s m args below meth c κ D b bs X0 H locs ls C T V
  have hC := C
  obtain ⟨C1, C2, C3, C4, C5, C6, C7, C8, C9, C10, C11, C12, C13⟩ := C
  refine a_size C12 T (fun hz => ?_)
  have hM := hc l κ D b bs
  rw [T.1] at hM
  obtain ⟨⟨q1, q2, q3, q4, q5⟩, s2, s3, s4, s5, s6, s7, r0, s8, s9⟩ := hs
  obtain ⟨j, rfl, hj, he⟩ := a_pos C13 T ha (fun _ _ q => by cases q)
  have hw := C6
  have hCU : va_CU R s args μ.1.cls r0.1 x.cls idx x μ'.1 μ'.2.1 μ'.2.2.1 μ'.2.2.2 (a_w μ') (a_rm d' mc' ms') mc' ms' as.length := by
    refine ⟨⟨rfl, rfl, hd'.1, ?_, pay_in C6 (a_goodIn q5), List.mem_cons_self⟩, hw _ q5, hw _ q4, s7, fun sig hsig => ?_, hw _ s2, hw _ s4, va_Decl.abs (C10 _ s5), hw _ s9, hw _ s3⟩
    · show 8 + (μ'.2.2.1 + 11) + 30 * d' ≤ R.locals
      omega
    · rw [s6] at hsig
      rw [hsig] at q2
      exact (Option.some.inj q2).symm
  refine a_call (va_runU (C := r0.1) (owner := x.cls) (b := b + j) (As := as.map (a_v b bs)) (rest := S.map (a_v b bs)) ⟨C1, C2, C3, C7, C6⟩ hM hCU ⟨a_blind, va_recv C9 T.2.2.1.2 s8 he, fun U hU hW => ⟨rfl, a_pre hC T hz hU hW⟩⟩ rfl (by rw [List.length_map]) V.1 (by rw [List.map_append, List.map_reverse]; rfl) (lv_room (by rw [a_sum]; exact hW)) hd hm) T hz (fun r h' H1 locs1 hq T' => ?_)
  rw [← a_app]
  exact k r h' hq p l e s m args below meth c κ D b bs X0 H1 locs1 ls hC T' V
theorem T_objInit {idx a : Nat} (hd : decode μ.2.1 pc = .ok (.invokespecial idx, 3)) (hs : Cond.methodLink μ.1.cls idx Lib.objectInit ∈ Ws ∧ Cond.instanceMethod Lib.objectInit ∈ Ws ∧ Cond.code Lib.objectInit ⟨#[0xb1]⟩ 1 none ∈ Ws) (hd1 : 1 ≤ R.frames ∧ 30 ≤ R.locals) (hW : (S.map fun v => v.category).sum ≤ 8) (k : Tri μ R Z (pc + 3) L S n h cells slots) : Tri μ R Z pc L (.ref a :: S) n h cells slots := by
  intro p l e s m args below meth c κ D b bs X0 H locs ls C T V
  have k := k p l e s m args below meth c κ D b bs X0 H locs ls C T V
  obtain ⟨C1, C2, C3, C4, C5, C6, C7, C8, C9, C10, C11, C12, C13⟩ := C
  have hw := C6
  refine W.objInit C1 C2 C7 (hw _ hs.1) (hw _ hs.2.1) (hw _ hs.2.2) rfl (V.1.trans C3.symm) rfl hd hd1.1 ?_ k
  have e := a_sum b bs S
  show 2 * 0 + _ + 12 ≤ R.locals
  omega
theorem T_max {idx : Nat} {x y : Int32} (hd : decode μ.2.1 pc = .ok (.invokestatic idx, 3)) (hs : Cond.methodLink μ.1.cls idx Lib.Math.max.name ∈ Ws ∧ Cond.static Lib.Math.max.name ∈ Ws ∧ Cond.initialized "java/lang/Math" ∈ Ws ∧ Cond.code Lib.Math.max.name Lib.Math.max.code 2 (some .int) ∈ Ws) (hd1 : 1 ≤ R.frames ∧ 30 ≤ R.locals) (hm : cells ≤ R.cells ∧ slots ≤ R.slots) (hW : (S.map fun v => v.category).sum ≤ 8) (k : Tri μ R Z (pc + 3) L (.int (if x < y then y else x) :: S) n h cells slots) : Tri μ R Z pc L (.int y :: .int x :: S) n h cells slots := by
  intro p l e s m args below meth c κ D b bs X0 H locs ls C T V
  have k := k p l e s m args below meth c κ D b bs X0 H locs ls C T V
  obtain ⟨C1, C2, C3, C4, C5, C6, C7, C8, C9, C10, C11, C12, C13⟩ := C
  have hw := C6
  have e := a_sum b bs S
  exact va_mmax C1 C2 (C3.trans V.1.symm) C7 (hw _ hs.1) (hw _ hs.2.1) (hw _ hs.2.2.1) (hw _ hs.2.2.2) hd1.1 (by omega) hm.1 hm.2 hd k
theorem T_min {idx : Nat} {x y : Int32} (hd : decode μ.2.1 pc = .ok (.invokestatic idx, 3)) (hs : Cond.methodLink μ.1.cls idx Lib.Math.min.name ∈ Ws ∧ Cond.static Lib.Math.min.name ∈ Ws ∧ Cond.initialized "java/lang/Math" ∈ Ws ∧ Cond.code Lib.Math.min.name Lib.Math.min.code 2 (some .int) ∈ Ws) (hd1 : 1 ≤ R.frames ∧ 30 ≤ R.locals) (hm : cells ≤ R.cells ∧ slots ≤ R.slots) (hW : (S.map fun v => v.category).sum ≤ 8) (k : Tri μ R Z (pc + 3) L (.int (if y < x then y else x) :: S) n h cells slots) : Tri μ R Z pc L (.int y :: .int x :: S) n h cells slots := by
  intro p l e s m args below meth c κ D b bs X0 H locs ls C T V
  have k := k p l e s m args below meth c κ D b bs X0 H locs ls C T V
  obtain ⟨C1, C2, C3, C4, C5, C6, C7, C8, C9, C10, C11, C12, C13⟩ := C
  have hw := C6
  have e := a_sum b bs S
  exact va_mmin C1 C2 (C3.trans V.1.symm) C7 (hw _ hs.1) (hw _ hs.2.1) (hw _ hs.2.2.1) (hw _ hs.2.2.2) hd1.1 (by omega) hm.1 hm.2 hd k
theorem T_copy {idx a0 a N0 N1 : Nat} {f g : Nat → Int32} {sp dp i : Int32} (hd : decode μ.2.1 pc = .ok (.invokestatic idx, 3)) (hs : Cond.methodLink μ.1.cls idx arraycopyName ∈ Ws ∧ Cond.native arraycopyName ∈ Ws ∧ Cond.static arraycopyName ∈ Ws ∧ Cond.initialized "java/lang/System" ∈ Ws) (hz0 : a0 ≠ 0) (hz1 : a ≠ 0) (ha0 : h a0 = some (.inl (.int, N0, .inl f))) (ha : h a = some (.inl (.int, N1, .inl g))) (h1 : ¬ sp < 0) (h2 : ¬ dp < 0) (h3 : ¬ i < 0) (h4 : sp.toNatClampNeg + i.toNatClampNeg ≤ N0) (h5 : dp.toNatClampNeg + i.toNatClampNeg ≤ N1) (hd1 : 1 ≤ R.frames ∧ 30 ≤ R.locals) (hW : (S.map fun v => v.category).sum + (nativeFrameWords "java/lang/System" "arraycopy" 5 + 11) ≤ R.locals)
    (k : Tri μ R Z (pc + 3) L S n (va_up h a (some (.inl (.int, N1, .inl (va_cpy f g sp.toNatClampNeg dp.toNatClampNeg i.toNatClampNeg))))) cells slots) : Tri μ R Z pc L (.int i :: .int dp :: .ref a :: .int sp :: .ref a0 :: S) n h cells slots := by
  intro p l e s m args below meth c κ D b bs X0 H locs ls C T V
  have kk := fun H1 locs1 T1 => k p l e s m args below meth c κ D b bs X0 H1 locs1 ls C T1 V
  obtain ⟨C1, C2, C3, C4, C5, C6, C7, C8, C9, C10, C11, C12, C13⟩ := C
  have hw := C6
  obtain ⟨j0, rfl, hj0, he0⟩ := a_pos' T ha0 hz0
  obtain ⟨j, rfl, hj, he⟩ := a_pos' T ha hz1
  exact va_copyi C1 C2 (C3.trans V.1.symm) C7 (hw _ hs.1) (hw _ hs.2.1) (hw _ hs.2.2.1) (hw _ hs.2.2.2) C9 T.2.2.1.2 a_D T.2.2.2 j0 j 0 0 he0 he rfl rfl rfl h1 h2 h3 h4 h5 (fun _ _ => rfl) hd1.1 (by rw [a_sum]; exact hW) hd (fun H1 locs1 hP _ hS => kk H1 locs1 (T.put hj rfl hP hS))
end Cl
end
section
/-! Static facts: methods, and what the pool entries of each class say (written by wip/whole/gen/mk_static.py). -/
abbrev M_OW_init : aM := (y_OW_init, b_OW_init, 3, none)
abbrev M_OW_field : aM := (y_OW_field, b_OW_field, 4, (some (.int)))
abbrev M_OW_put : aM := (y_OW_put, b_OW_put, 3, (some (.boolean)))
abbrev M_OW_reset : aM := (y_OW_reset, b_OW_reset, 1, none)
abbrev M_OW_call : aM := (y_OW_call, b_OW_call, 2, (some (.int)))
abbrev M_OW_tick : aM := (y_OW_tick, b_OW_tick, 1, (some (.int)))
abbrev M_OW_deliver : aM := (y_OW_deliver, b_OW_deliver, 4, (some (.int)))
abbrev M_OW_lose : aM := (y_OW_lose, b_OW_lose, 2, (some (.boolean)))
abbrev M_OW_copy : aM := (y_OW_copy, b_OW_copy, 2, (some (.boolean)))
abbrev M_OW_add : aM := (y_OW_add, b_OW_add, 2, (some (.boolean)))
abbrev M_OW_hand : aM := (y_OW_hand, b_OW_hand, 3, (some (.int)))
abbrev M_OW_total : aM := (y_OW_total, b_OW_total, 1, (some (.int)))
abbrev M_OW_runs : aM := (y_OW_runs, b_OW_runs, 1, (some (.int)))
abbrev M_OW_status : aM := (y_OW_status, b_OW_status, 2, (some (.int)))
abbrev M_OW_result : aM := (y_OW_result, b_OW_result, 2, (some (.int)))
abbrev M_OW_flight : aM := (y_OW_flight, b_OW_flight, 1, (some (.int)))
abbrev M_OW_size : aM := (y_OW_size, b_OW_size, 2, (some (.int)))
abbrev M_OW_byteAt : aM := (y_OW_byteAt, b_OW_byteAt, 3, (some (.int)))
abbrev M_Bytes_init : aM := (y_Bytes_init, b_Bytes_init, 2, none)
abbrev M_Bytes_clear : aM := (y_Bytes_clear, b_Bytes_clear, 1, none)
abbrev M_Bytes_append : aM := (y_Bytes_append, b_Bytes_append, 2, (some (.boolean)))
abbrev M_Bytes_appendWord : aM := (y_Bytes_appendWord, b_Bytes_appendWord, 2, none)
abbrev M_Bytes_appendPart : aM := (y_Bytes_appendPart, b_Bytes_appendPart, 6, none)
abbrev M_Bytes_become : aM := (y_Bytes_become, b_Bytes_become, 2, none)
abbrev M_Bytes_at : aM := (y_Bytes_at, b_Bytes_at, 2, (some (.int)))
abbrev M_Bytes_wordAt : aM := (y_Bytes_wordAt, b_Bytes_wordAt, 2, (some (.int)))
abbrev M_Bytes_swapped : aM := (y_Bytes_swapped, b_Bytes_swapped, 1, (some (.int)))
abbrev M_Bytes_moveToEnd : aM := (y_Bytes_moveToEnd, b_Bytes_moveToEnd, 4, none)
abbrev M_Client_init : aM := (y_Client_init, b_Client_init, 4, none)
abbrev M_Client_place : aM := (y_Client_place, b_Client_place, 4, (some (.int)))
abbrev M_Client_growOlder : aM := (y_Client_growOlder, b_Client_growOlder, 3, (some (.int)))
abbrev M_Client_receive : aM := (y_Client_receive, b_Client_receive, 4, (some (.int)))
abbrev M_Client_pendingPlaceOf : aM := (y_Client_pendingPlaceOf, b_Client_pendingPlaceOf, 3, (some (.int)))
abbrev M_Client_settle : aM := (y_Client_settle, b_Client_settle, 6, none)
abbrev M_Client_statusOf : aM := (y_Client_statusOf, b_Client_statusOf, 2, (some (.int)))
abbrev M_Client_resultOf : aM := (y_Client_resultOf, b_Client_resultOf, 2, (some (.int)))
abbrev M_Fragments_wrap : aM := (y_Fragments_wrap, b_Fragments_wrap, 5, none)
abbrev M_Fragments_unwrap : aM := (y_Fragments_unwrap, b_Fragments_unwrap, 6, (some (.boolean)))
abbrev M_Network_init : aM := (y_Network_init, b_Network_init, 2, none)
abbrev M_Network_has : aM := (y_Network_has, b_Network_has, 2, (some (.boolean)))
abbrev M_Network_isFull : aM := (y_Network_isFull, b_Network_isFull, 1, (some (.boolean)))
abbrev M_Network_message : aM := (y_Network_message, b_Network_message, 2, (some (.object "OnceWire$Bytes")))
abbrev M_Network_isForServer : aM := (y_Network_isForServer, b_Network_isForServer, 2, (some (.boolean)))
abbrev M_Network_send : aM := (y_Network_send, b_Network_send, 3, none)
abbrev M_Network_take : aM := (y_Network_take, b_Network_take, 3, (some (.object "OnceWire$Bytes")))
abbrev M_Reader_init : aM := (y_Reader_init, b_Reader_init, 2, none)
abbrev M_Reader_startAt : aM := (y_Reader_startAt, b_Reader_startAt, 2, none)
abbrev M_Reader_left : aM := (y_Reader_left, b_Reader_left, 1, (some (.int)))
abbrev M_Reader_takeWord : aM := (y_Reader_takeWord, b_Reader_takeWord, 3, (some (.int)))
abbrev M_Reader_takeVarint : aM := (y_Reader_takeVarint, b_Reader_takeVarint, 5, (some (.long)))
abbrev M_Reader_skip : aM := (y_Reader_skip, b_Reader_skip, 3, none)
abbrev M_Schema_init : aM := (y_Schema_init, b_Schema_init, 1, none)
abbrev M_Schema_declare : aM := (y_Schema_declare, b_Schema_declare, 4, (some (.int)))
abbrev M_Schema_indexOf : aM := (y_Schema_indexOf, b_Schema_indexOf, 3, (some (.int)))
abbrev M_Schema_has : aM := (y_Schema_has, b_Schema_has, 2, (some (.boolean)))
abbrev M_Schema_kindOf : aM := (y_Schema_kindOf, b_Schema_kindOf, 2, (some (.int)))
abbrev M_Schema_isRepeated : aM := (y_Schema_isRepeated, b_Schema_isRepeated, 2, (some (.boolean)))
abbrev M_Schema_keyOf : aM := (y_Schema_keyOf, b_Schema_keyOf, 2, (some (.int)))
abbrev M_Schema_allows : aM := (y_Schema_allows, b_Schema_allows, 3, (some (.boolean)))
abbrev M_Server_init : aM := (y_Server_init, b_Server_init, 5, none)
abbrev M_Server_receive : aM := (y_Server_receive, b_Server_receive, 4, (some (.int)))
abbrev M_Server_answer : aM := (y_Server_answer, b_Server_answer, 3, (some (.int)))
abbrev M_Server_run : aM := (y_Server_run, b_Server_run, 4, (some (.int)))
abbrev M_Server_reply : aM := (y_Server_reply, b_Server_reply, 5, none)
abbrev M_Server_slotForNew : aM := (y_Server_slotForNew, b_Server_slotForNew, 2, (some (.int)))
abbrev M_TaggedFormat_init : aM := (y_TaggedFormat_init, b_TaggedFormat_init, 2, none)
abbrev M_TaggedFormat_write : aM := (y_TaggedFormat_write, b_TaggedFormat_write, 7, none)
abbrev M_TaggedFormat_writeInt : aM := (y_TaggedFormat_writeInt, b_TaggedFormat_writeInt, 3, none)
abbrev M_TaggedFormat_writeVarint : aM := (y_TaggedFormat_writeVarint, b_TaggedFormat_writeVarint, 6, none)
abbrev M_TaggedFormat_read : aM := (y_TaggedFormat_read, b_TaggedFormat_read, 5, (some (.boolean)))
abbrev M_TaggedFormat_readEntry : aM := (y_TaggedFormat_readEntry, b_TaggedFormat_readEntry, 8, (some (.boolean)))
abbrev M_TaggedFormat_takePayload : aM := (y_TaggedFormat_takePayload, b_TaggedFormat_takePayload, 2, (some (.long)))
abbrev M_TaggedFormat_intOfPayload : aM := (y_TaggedFormat_intOfPayload, b_TaggedFormat_intOfPayload, 5, (some (.int)))
abbrev M_Value_init : aM := (y_Value_init, b_Value_init, 2, none)
abbrev M_Value_clear : aM := (y_Value_clear, b_Value_clear, 2, none)
abbrev M_Value_store : aM := (y_Value_store, b_Value_store, 3, (some (.boolean)))
abbrev M_Value_countOf : aM := (y_Value_countOf, b_Value_countOf, 2, (some (.int)))
abbrev M_Value_intOf : aM := (y_Value_intOf, b_Value_intOf, 3, (some (.int)))
abbrev M_Value_digest : aM := (y_Value_digest, b_Value_digest, 5, (some (.int)))
abbrev M_WordFormat_init : aM := (y_WordFormat_init, b_WordFormat_init, 2, none)
abbrev M_WordFormat_write : aM := (y_WordFormat_write, b_WordFormat_write, 6, none)
abbrev M_WordFormat_read : aM := (y_WordFormat_read, b_WordFormat_read, 7, (some (.boolean)))
abbrev M_Format_init : aM := (y_Format_init, b_Format_init, 2, none)
abbrev M_Md_init : aM := (y_Md_init, b_Md_init, 2, none)
abbrev M_Md_field : aM := (y_Md_field, b_Md_field, 6, (some (.int)))
abbrev M_Md_empty : aM := (y_Md_empty, b_Md_empty, 2, none)
abbrev M_Md_give : aM := (y_Md_give, b_Md_give, 3, (some (.boolean)))
abbrev M_Md_put : aM := (y_Md_put, b_Md_put, 3, (some (.boolean)))
abbrev M_Md_reset : aM := (y_Md_reset, b_Md_reset, 2, none)
abbrev M_Md_digest : aM := (y_Md_digest, b_Md_digest, 4, (some (.int)))
abbrev M_Md_write : aM := (y_Md_write, b_Md_write, 2, none)
abbrev M_Md_writeWord : aM := (y_Md_writeWord, b_Md_writeWord, 3, none)
abbrev M_Md_writeVarint : aM := (y_Md_writeVarint, b_Md_writeVarint, 5, none)
abbrev M_Md_writeTagged : aM := (y_Md_writeTagged, b_Md_writeTagged, 4, none)
abbrev M_Md_writeDraft : aM := (y_Md_writeDraft, b_Md_writeDraft, 4, none)
abbrev M_Md_fragment : aM := (y_Md_fragment, b_Md_fragment, 4, none)
abbrev M_Md_send : aM := (y_Md_send, b_Md_send, 3, none)
abbrev M_Md_isMessage : aM := (y_Md_isMessage, b_Md_isMessage, 2, (some (.boolean)))
abbrev M_Md_load : aM := (y_Md_load, b_Md_load, 3, none)
abbrev M_Md_lose : aM := (y_Md_lose, b_Md_lose, 4, (some (.boolean)))
abbrev M_Md_copy : aM := (y_Md_copy, b_Md_copy, 2, (some (.boolean)))
abbrev M_Md_gather : aM := (y_Md_gather, b_Md_gather, 6, (some (.boolean)))
abbrev M_Md_word : aM := (y_Md_word, b_Md_word, 2, (some (.int)))
abbrev M_Md_readVarint : aM := (y_Md_readVarint, b_Md_readVarint, 3, (some (.boolean)))
abbrev M_Md_fieldOf : aM := (y_Md_fieldOf, b_Md_fieldOf, 4, (some (.int)))
abbrev M_Md_meant : aM := (y_Md_meant, b_Md_meant, 4, (some (.int)))
abbrev M_Md_readTagged : aM := (y_Md_readTagged, b_Md_readTagged, 6, (some (.boolean)))
abbrev M_Md_readTaggedBody : aM := (y_Md_readTaggedBody, b_Md_readTaggedBody, 1, (some (.boolean)))
abbrev M_Md_readWords : aM := (y_Md_readWords, b_Md_readWords, 6, (some (.boolean)))
abbrev M_Md_readBody : aM := (y_Md_readBody, b_Md_readBody, 2, (some (.boolean)))
abbrev M_Md_sendReply : aM := (y_Md_sendReply, b_Md_sendReply, 4, none)
abbrev M_Md_run : aM := (y_Md_run, b_Md_run, 4, (some (.int)))
abbrev M_Md_remember : aM := (y_Md_remember, b_Md_remember, 5, none)
abbrev M_Md_serve : aM := (y_Md_serve, b_Md_serve, 5, (some (.int)))
abbrev M_Md_accept : aM := (y_Md_accept, b_Md_accept, 4, (some (.int)))
abbrev M_Md_slotOf : aM := (y_Md_slotOf, b_Md_slotOf, 3, (some (.int)))
abbrev M_Md_call : aM := (y_Md_call, b_Md_call, 4, (some (.int)))
abbrev M_Md_tick : aM := (y_Md_tick, b_Md_tick, 3, (some (.int)))
abbrev M_Md_sendKept : aM := (y_Md_sendKept, b_Md_sendKept, 4, none)
abbrev M_Md_deliver : aM := (y_Md_deliver, b_Md_deliver, 3, (some (.int)))
abbrev M_Md_add : aM := (y_Md_add, b_Md_add, 2, (some (.boolean)))
abbrev M_Md_hand : aM := (y_Md_hand, b_Md_hand, 3, (some (.int)))
abbrev M_Md_total : aM := (y_Md_total, b_Md_total, 1, (some (.int)))
abbrev M_Md_runs : aM := (y_Md_runs, b_Md_runs, 1, (some (.int)))
abbrev M_Md_status : aM := (y_Md_status, b_Md_status, 2, (some (.int)))
abbrev M_Md_result : aM := (y_Md_result, b_Md_result, 2, (some (.int)))
abbrev M_Md_flight : aM := (y_Md_flight, b_Md_flight, 1, (some (.int)))
abbrev M_Md_size : aM := (y_Md_size, b_Md_size, 2, (some (.int)))
abbrev M_Md_byteAt : aM := (y_Md_byteAt, b_Md_byteAt, 3, (some (.int)))
abbrev M_Lw_cell : aM := (y_Lw_cell, b_Lw_cell, 2, (some (.int)))
abbrev M_Lw_law : aM := (y_Lw_law, b_Lw_law, 4, (some (.boolean)))
theorem sI_OW_1 : Cond.methodLink R_OW 1 Lib.objectInit ∈ Ws ∧ Cond.instanceMethod Lib.objectInit ∈ Ws ∧ Cond.code Lib.objectInit ⟨#[0xb1]⟩ 1 none ∈ Ws := ⟨(Ws_at (i := 4) (k := 31) rfl rfl), (Ws_at (i := 4) (k := 29) rfl rfl), (Ws_at (i := 4) (k := 30) rfl rfl)⟩
theorem sN_OW_7 : a_N R_OW 7 5 5 [.null, .null, .null, .null, .int 0] := ⟨R_Schema, F_Schema, t_Schema, rfl, Wl_Schema_in, t_Schema_ok, (Ws_at (i := 4) (k := 32) rfl rfl), (Ws_at (i := 4) (k := 23) rfl rfl), (Ws_at (i := 4) (k := 10) rfl rfl), by decide +kernel, fun _ _ => rfl⟩
theorem sI_OW_9 : a_IIN R_OW 9 M_Schema_init 0 := ⟨⟨⟨by decide, by decide⟩, by decide +kernel, by decide, (Ws_at (i := 4) (k := 10) rfl rfl), (Ws_at (i := 1) (k := 38) rfl rfl)⟩, ⟨R_OW, (List.mem_of_getElem? (i := 0) rfl)⟩, (Ws_at (i := 1) (k := 39) rfl rfl), rfl, rfl⟩
theorem sF_OW_10_OW : a_F R_OW 10 0 0 true (.object "OnceWire$Schema") := ⟨R_OW, F_OW, 6, R_OW, t_OW, rfl, Wl_OW_in, by decide, t_OW_ok, n_OW, rfl, rfl, Or.inl rfl, Or.inl (Ws_at (i := 4) (k := 33) rfl rfl)⟩
theorem sFF_OW_10_OW : a_FF R_OW 10 0 0 (.object "OnceWire$Schema") := ⟨R_OW, F_OW, 6, t_OW, rfl, Wl_OW_in, by decide, t_OW_ok, n_OW, rfl, rfl, rfl, (Ws_at (i := 4) (k := 33) rfl rfl)⟩
theorem sN_OW_16 : a_N R_OW 16 8 3 [.null, .null, .null] := ⟨R_Value, F_Value, t_Value, rfl, Wl_Value_in, t_Value_ok, (Ws_at (i := 4) (k := 34) rfl rfl), (Ws_at (i := 4) (k := 26) rfl rfl), (Ws_at (i := 4) (k := 13) rfl rfl), by decide +kernel, fun _ _ => rfl⟩
theorem sI_OW_18 : a_II R_OW 18 M_Value_init 1 := ⟨⟨⟨by decide, by decide⟩, by decide +kernel, by decide, (Ws_at (i := 4) (k := 13) rfl rfl), (Ws_at (i := 2) (k := 18) rfl rfl)⟩, (Ws_at (i := 4) (k := 35) rfl rfl), (Ws_at (i := 2) (k := 19) rfl rfl), rfl, rfl⟩
theorem sF_OW_21_OW : a_F R_OW 21 0 1 true (.object "OnceWire$Value") := ⟨R_OW, F_OW, 6, R_OW, t_OW, rfl, Wl_OW_in, by decide, t_OW_ok, n_OW, rfl, rfl, Or.inl rfl, Or.inl (Ws_at (i := 4) (k := 36) rfl rfl)⟩
theorem sFF_OW_21_OW : a_FF R_OW 21 0 1 (.object "OnceWire$Value") := ⟨R_OW, F_OW, 6, t_OW, rfl, Wl_OW_in, by decide, t_OW_ok, n_OW, rfl, rfl, rfl, (Ws_at (i := 4) (k := 36) rfl rfl)⟩
theorem sN_OW_25 : a_N R_OW 25 1 2 [.null, .int 0] := ⟨R_Bytes, F_Bytes, t_Bytes, rfl, Wl_Bytes_in, t_Bytes_ok, (Ws_at (i := 4) (k := 37) rfl rfl), (Ws_at (i := 4) (k := 19) rfl rfl), (Ws_at (i := 4) (k := 5) rfl rfl), by decide +kernel, fun _ _ => rfl⟩
theorem sI_OW_27 : a_II R_OW 27 M_Bytes_init 1 := ⟨⟨⟨by decide, by decide⟩, by decide +kernel, by decide, (Ws_at (i := 4) (k := 5) rfl rfl), (Ws_at (i := 0) (k := 36) rfl rfl)⟩, (Ws_at (i := 4) (k := 38) rfl rfl), (Ws_at (i := 0) (k := 37) rfl rfl), rfl, rfl⟩
theorem sF_OW_30_OW : a_F R_OW 30 0 2 true (.object "OnceWire$Bytes") := ⟨R_OW, F_OW, 6, R_OW, t_OW, rfl, Wl_OW_in, by decide, t_OW_ok, n_OW, rfl, rfl, Or.inl rfl, Or.inl (Ws_at (i := 4) (k := 39) rfl rfl)⟩
theorem sFF_OW_30_OW : a_FF R_OW 30 0 2 (.object "OnceWire$Bytes") := ⟨R_OW, F_OW, 6, t_OW, rfl, Wl_OW_in, by decide, t_OW_ok, n_OW, rfl, rfl, rfl, (Ws_at (i := 4) (k := 39) rfl rfl)⟩
theorem sN_OW_34 : a_N R_OW 34 3 3 [.null, .null, .int 0] := ⟨R_Network, F_Network, t_Network, rfl, Wl_Network_in, t_Network_ok, (Ws_at (i := 4) (k := 40) rfl rfl), (Ws_at (i := 4) (k := 21) rfl rfl), (Ws_at (i := 4) (k := 8) rfl rfl), by decide +kernel, fun _ _ => rfl⟩
theorem sI_OW_36 : a_II R_OW 36 M_Network_init 0 := ⟨⟨⟨by decide, by decide⟩, by decide +kernel, by decide, (Ws_at (i := 4) (k := 8) rfl rfl), (Ws_at (i := 1) (k := 12) rfl rfl)⟩, (Ws_at (i := 4) (k := 41) rfl rfl), (Ws_at (i := 1) (k := 13) rfl rfl), rfl, rfl⟩
theorem sF_OW_37_OW : a_F R_OW 37 0 3 true (.object "OnceWire$Network") := ⟨R_OW, F_OW, 6, R_OW, t_OW, rfl, Wl_OW_in, by decide, t_OW_ok, n_OW, rfl, rfl, Or.inl rfl, Or.inl (Ws_at (i := 4) (k := 42) rfl rfl)⟩
theorem sFF_OW_37_OW : a_FF R_OW 37 0 3 (.object "OnceWire$Network") := ⟨R_OW, F_OW, 6, t_OW, rfl, Wl_OW_in, by decide, t_OW_ok, n_OW, rfl, rfl, rfl, (Ws_at (i := 4) (k := 42) rfl rfl)⟩
theorem sN_OW_41 : a_N R_OW 41 9 1 [.null] := ⟨R_WordFormat, F_WordFormat, t_WordFormat, rfl, Wl_WordFormat_in, t_WordFormat_ok, (Ws_at (i := 4) (k := 43) rfl rfl), (Ws_at (i := 4) (k := 27) rfl rfl), (Ws_at (i := 4) (k := 14) rfl rfl), by decide +kernel, fun _ _ => rfl⟩
theorem sI_OW_43 : a_II R_OW 43 M_WordFormat_init 1 := ⟨⟨⟨by decide, by decide⟩, by decide +kernel, by decide, (Ws_at (i := 4) (k := 14) rfl rfl), (Ws_at (i := 2) (k := 30) rfl rfl)⟩, (Ws_at (i := 4) (k := 44) rfl rfl), (Ws_at (i := 2) (k := 31) rfl rfl), rfl, rfl⟩
theorem sN_OW_44 : a_N R_OW 44 7 1 [.null] := ⟨R_TaggedFormat, F_TaggedFormat, t_TaggedFormat, rfl, Wl_TaggedFormat_in, t_TaggedFormat_ok, (Ws_at (i := 4) (k := 45) rfl rfl), (Ws_at (i := 4) (k := 25) rfl rfl), (Ws_at (i := 4) (k := 12) rfl rfl), by decide +kernel, fun _ _ => rfl⟩
theorem sI_OW_46 : a_II R_OW 46 M_TaggedFormat_init 1 := ⟨⟨⟨by decide, by decide⟩, by decide +kernel, by decide, (Ws_at (i := 4) (k := 12) rfl rfl), (Ws_at (i := 2) (k := 2) rfl rfl)⟩, (Ws_at (i := 4) (k := 46) rfl rfl), (Ws_at (i := 2) (k := 3) rfl rfl), rfl, rfl⟩
theorem sN_OW_47 : a_N R_OW 47 6 11 [.null, .null, .null, .null, .null, .null, .null, .int 0, .int 0, .int 0, .int 0] := ⟨R_Server, F_Server, t_Server, rfl, Wl_Server_in, t_Server_ok, (Ws_at (i := 4) (k := 47) rfl rfl), (Ws_at (i := 4) (k := 24) rfl rfl), (Ws_at (i := 4) (k := 11) rfl rfl), by decide +kernel, fun _ _ => rfl⟩
theorem sI_OW_49 : a_II R_OW 49 M_Server_init 3 := ⟨⟨⟨by decide, by decide⟩, by decide +kernel, by decide, (Ws_at (i := 4) (k := 11) rfl rfl), (Ws_at (i := 1) (k := 54) rfl rfl)⟩, (Ws_at (i := 4) (k := 48) rfl rfl), (Ws_at (i := 1) (k := 55) rfl rfl), rfl, rfl⟩
theorem sF_OW_52_OW : a_F R_OW 52 0 4 true (.object "OnceWire$Server") := ⟨R_OW, F_OW, 6, R_OW, t_OW, rfl, Wl_OW_in, by decide, t_OW_ok, n_OW, rfl, rfl, Or.inl rfl, Or.inl (Ws_at (i := 4) (k := 49) rfl rfl)⟩
theorem sFF_OW_52_OW : a_FF R_OW 52 0 4 (.object "OnceWire$Server") := ⟨R_OW, F_OW, 6, t_OW, rfl, Wl_OW_in, by decide, t_OW_ok, n_OW, rfl, rfl, rfl, (Ws_at (i := 4) (k := 49) rfl rfl)⟩
theorem sN_OW_56 : a_N R_OW 56 2 10 [.null, .null, .null, .null, .null, .int 0, .null, .null, .null, .int 0] := ⟨R_Client, F_Client, t_Client, rfl, Wl_Client_in, t_Client_ok, (Ws_at (i := 4) (k := 50) rfl rfl), (Ws_at (i := 4) (k := 20) rfl rfl), (Ws_at (i := 4) (k := 6) rfl rfl), by decide +kernel, fun _ _ => rfl⟩
theorem sI_OW_58 : a_II R_OW 58 M_Client_init 2 := ⟨⟨⟨by decide, by decide⟩, by decide +kernel, by decide, (Ws_at (i := 4) (k := 6) rfl rfl), (Ws_at (i := 0) (k := 56) rfl rfl)⟩, (Ws_at (i := 4) (k := 51) rfl rfl), (Ws_at (i := 0) (k := 57) rfl rfl), rfl, rfl⟩
theorem sF_OW_61_OW : a_F R_OW 61 0 5 true (.object "OnceWire$Client") := ⟨R_OW, F_OW, 6, R_OW, t_OW, rfl, Wl_OW_in, by decide, t_OW_ok, n_OW, rfl, rfl, Or.inl rfl, Or.inl (Ws_at (i := 4) (k := 52) rfl rfl)⟩
theorem sFF_OW_61_OW : a_FF R_OW 61 0 5 (.object "OnceWire$Client") := ⟨R_OW, F_OW, 6, t_OW, rfl, Wl_OW_in, by decide, t_OW_ok, n_OW, rfl, rfl, rfl, (Ws_at (i := 4) (k := 52) rfl rfl)⟩
theorem sI_OW_65 : a_IV R_OW 65 M_Schema_declare 3 5 := ⟨⟨⟨by decide, by decide⟩, by decide +kernel, by decide, (Ws_at (i := 4) (k := 10) rfl rfl), (Ws_at (i := 1) (k := 40) rfl rfl)⟩, (Ws_at (i := 4) (k := 53) rfl rfl), (Ws_at (i := 1) (k := 41) rfl rfl), _, rfl, (Ws_at (i := 4) (k := 54) rfl rfl)⟩
theorem sI_OW_69 : a_IV R_OW 69 M_Schema_has 1 5 := ⟨⟨⟨by decide, by decide⟩, by decide +kernel, by decide, (Ws_at (i := 4) (k := 10) rfl rfl), (Ws_at (i := 1) (k := 44) rfl rfl)⟩, (Ws_at (i := 4) (k := 55) rfl rfl), (Ws_at (i := 1) (k := 45) rfl rfl), _, rfl, (Ws_at (i := 4) (k := 56) rfl rfl)⟩
theorem sI_OW_73 : a_IV R_OW 73 M_Schema_allows 2 5 := ⟨⟨⟨by decide, by decide⟩, by decide +kernel, by decide, (Ws_at (i := 4) (k := 10) rfl rfl), (Ws_at (i := 1) (k := 52) rfl rfl)⟩, (Ws_at (i := 4) (k := 57) rfl rfl), (Ws_at (i := 1) (k := 53) rfl rfl), _, rfl, (Ws_at (i := 4) (k := 58) rfl rfl)⟩
theorem sI_OW_77 : a_IV R_OW 77 M_Value_store 2 8 := ⟨⟨⟨by decide, by decide⟩, by decide +kernel, by decide, (Ws_at (i := 4) (k := 13) rfl rfl), (Ws_at (i := 2) (k := 22) rfl rfl)⟩, (Ws_at (i := 4) (k := 59) rfl rfl), (Ws_at (i := 2) (k := 23) rfl rfl), _, rfl, (Ws_at (i := 4) (k := 60) rfl rfl)⟩
theorem sI_OW_80 : a_IV R_OW 80 M_Value_clear 0 8 := ⟨⟨⟨by decide, by decide⟩, by decide +kernel, by decide, (Ws_at (i := 4) (k := 13) rfl rfl), (Ws_at (i := 2) (k := 20) rfl rfl)⟩, (Ws_at (i := 4) (k := 61) rfl rfl), (Ws_at (i := 2) (k := 21) rfl rfl), _, rfl, (Ws_at (i := 4) (k := 62) rfl rfl)⟩
theorem sI_OW_83 : a_IV R_OW 83 M_Client_place 2 2 := ⟨⟨⟨by decide, by decide⟩, by decide +kernel, by decide, (Ws_at (i := 4) (k := 6) rfl rfl), (Ws_at (i := 0) (k := 58) rfl rfl)⟩, (Ws_at (i := 4) (k := 63) rfl rfl), (Ws_at (i := 0) (k := 59) rfl rfl), _, rfl, (Ws_at (i := 5) (k := 0) rfl rfl)⟩
theorem sI_OW_87 : a_IV R_OW 87 M_Client_growOlder 0 2 := ⟨⟨⟨by decide, by decide⟩, by decide +kernel, by decide, (Ws_at (i := 4) (k := 6) rfl rfl), (Ws_at (i := 0) (k := 60) rfl rfl)⟩, (Ws_at (i := 5) (k := 1) rfl rfl), (Ws_at (i := 0) (k := 61) rfl rfl), _, rfl, (Ws_at (i := 5) (k := 2) rfl rfl)⟩
theorem sI_OW_91 : a_IV R_OW 91 M_Network_has 1 3 := ⟨⟨⟨by decide, by decide⟩, by decide +kernel, by decide, (Ws_at (i := 4) (k := 8) rfl rfl), (Ws_at (i := 1) (k := 14) rfl rfl)⟩, (Ws_at (i := 5) (k := 3) rfl rfl), (Ws_at (i := 1) (k := 15) rfl rfl), _, rfl, (Ws_at (i := 5) (k := 4) rfl rfl)⟩
theorem sI_OW_92 : a_IV R_OW 92 M_Network_isForServer 1 3 := ⟨⟨⟨by decide, by decide⟩, by decide +kernel, by decide, (Ws_at (i := 4) (k := 8) rfl rfl), (Ws_at (i := 1) (k := 20) rfl rfl)⟩, (Ws_at (i := 5) (k := 5) rfl rfl), (Ws_at (i := 1) (k := 21) rfl rfl), _, rfl, (Ws_at (i := 5) (k := 6) rfl rfl)⟩
theorem sI_OW_95 : a_IV R_OW 95 M_Network_take 1 3 := ⟨⟨⟨by decide, by decide⟩, by decide +kernel, by decide, (Ws_at (i := 4) (k := 8) rfl rfl), (Ws_at (i := 1) (k := 24) rfl rfl)⟩, (Ws_at (i := 5) (k := 7) rfl rfl), (Ws_at (i := 1) (k := 25) rfl rfl), _, rfl, (Ws_at (i := 5) (k := 8) rfl rfl)⟩
theorem sI_OW_99 : a_IV R_OW 99 M_Server_receive 1 6 := ⟨⟨⟨by decide, by decide⟩, by decide +kernel, by decide, (Ws_at (i := 4) (k := 11) rfl rfl), (Ws_at (i := 1) (k := 56) rfl rfl)⟩, (Ws_at (i := 5) (k := 9) rfl rfl), (Ws_at (i := 1) (k := 57) rfl rfl), _, rfl, (Ws_at (i := 5) (k := 10) rfl rfl)⟩
theorem sI_OW_103 : a_IV R_OW 103 M_Client_receive 1 2 := ⟨⟨⟨by decide, by decide⟩, by decide +kernel, by decide, (Ws_at (i := 4) (k := 6) rfl rfl), (Ws_at (i := 0) (k := 62) rfl rfl)⟩, (Ws_at (i := 5) (k := 11) rfl rfl), (Ws_at (i := 0) (k := 63) rfl rfl), _, rfl, (Ws_at (i := 5) (k := 12) rfl rfl)⟩
theorem sI_OW_104 : a_IV R_OW 104 M_Network_isFull 0 3 := ⟨⟨⟨by decide, by decide⟩, by decide +kernel, by decide, (Ws_at (i := 4) (k := 8) rfl rfl), (Ws_at (i := 1) (k := 16) rfl rfl)⟩, (Ws_at (i := 5) (k := 13) rfl rfl), (Ws_at (i := 1) (k := 17) rfl rfl), _, rfl, (Ws_at (i := 5) (k := 14) rfl rfl)⟩
theorem sI_OW_108 : a_IV R_OW 108 M_Network_message 1 3 := ⟨⟨⟨by decide, by decide⟩, by decide +kernel, by decide, (Ws_at (i := 4) (k := 8) rfl rfl), (Ws_at (i := 1) (k := 18) rfl rfl)⟩, (Ws_at (i := 5) (k := 15) rfl rfl), (Ws_at (i := 1) (k := 19) rfl rfl), _, rfl, (Ws_at (i := 5) (k := 16) rfl rfl)⟩
theorem sI_OW_111 : a_IV R_OW 111 M_Network_send 2 3 := ⟨⟨⟨by decide, by decide⟩, by decide +kernel, by decide, (Ws_at (i := 4) (k := 8) rfl rfl), (Ws_at (i := 1) (k := 22) rfl rfl)⟩, (Ws_at (i := 5) (k := 17) rfl rfl), (Ws_at (i := 1) (k := 23) rfl rfl), _, rfl, (Ws_at (i := 5) (k := 18) rfl rfl)⟩
theorem sI_OW_115 : a_IV R_OW 115 M_Bytes_append 1 1 := ⟨⟨⟨by decide, by decide⟩, by decide +kernel, by decide, (Ws_at (i := 4) (k := 5) rfl rfl), (Ws_at (i := 0) (k := 40) rfl rfl)⟩, (Ws_at (i := 5) (k := 19) rfl rfl), (Ws_at (i := 0) (k := 41) rfl rfl), _, rfl, (Ws_at (i := 5) (k := 20) rfl rfl)⟩
theorem sI_OW_118 : a_IV R_OW 118 M_Bytes_clear 0 1 := ⟨⟨⟨by decide, by decide⟩, by decide +kernel, by decide, (Ws_at (i := 4) (k := 5) rfl rfl), (Ws_at (i := 0) (k := 38) rfl rfl)⟩, (Ws_at (i := 5) (k := 21) rfl rfl), (Ws_at (i := 0) (k := 39) rfl rfl), _, rfl, (Ws_at (i := 5) (k := 22) rfl rfl)⟩
theorem sF_OW_119_Server : a_F R_OW 119 6 9 false (.int) := ⟨R_Server, F_Server, 11, R_Server, t_Server, rfl, Wl_Server_in, by decide, t_Server_ok, n_Server, rfl, rfl, Or.inl rfl, Or.inr ⟨R_OW, (List.mem_of_getElem? (i := 1) rfl)⟩⟩
theorem sF_OW_123_Server : a_F R_OW 123 6 10 false (.int) := ⟨R_Server, F_Server, 11, R_Server, t_Server, rfl, Wl_Server_in, by decide, t_Server_ok, n_Server, rfl, rfl, Or.inl rfl, Or.inr ⟨R_OW, (List.mem_of_getElem? (i := 2) rfl)⟩⟩
theorem sI_OW_126 : a_IV R_OW 126 M_Client_statusOf 1 2 := ⟨⟨⟨by decide, by decide⟩, by decide +kernel, by decide, (Ws_at (i := 4) (k := 6) rfl rfl), (Ws_at (i := 1) (k := 4) rfl rfl)⟩, (Ws_at (i := 5) (k := 23) rfl rfl), (Ws_at (i := 1) (k := 5) rfl rfl), _, rfl, (Ws_at (i := 5) (k := 24) rfl rfl)⟩
theorem sI_OW_130 : a_IV R_OW 130 M_Client_resultOf 1 2 := ⟨⟨⟨by decide, by decide⟩, by decide +kernel, by decide, (Ws_at (i := 4) (k := 6) rfl rfl), (Ws_at (i := 1) (k := 6) rfl rfl)⟩, (Ws_at (i := 5) (k := 25) rfl rfl), (Ws_at (i := 1) (k := 7) rfl rfl), _, rfl, (Ws_at (i := 5) (k := 26) rfl rfl)⟩
theorem sF_OW_133_Network : a_F R_OW 133 3 2 false (.int) := ⟨R_Network, F_Network, 3, R_Network, t_Network, rfl, Wl_Network_in, by decide, t_Network_ok, n_Network, rfl, rfl, Or.inl rfl, Or.inr ⟨R_OW, (List.mem_of_getElem? (i := 3) rfl)⟩⟩
theorem sF_OW_136_Bytes : a_F R_OW 136 1 1 false (.int) := ⟨R_Bytes, F_Bytes, 2, R_Bytes, t_Bytes, rfl, Wl_Bytes_in, by decide, t_Bytes_ok, n_Bytes, rfl, rfl, Or.inl rfl, Or.inr ⟨R_OW, (List.mem_of_getElem? (i := 4) rfl)⟩⟩
theorem sI_OW_139 : a_IV R_OW 139 M_Bytes_at 1 1 := ⟨⟨⟨by decide, by decide⟩, by decide +kernel, by decide, (Ws_at (i := 4) (k := 5) rfl rfl), (Ws_at (i := 0) (k := 48) rfl rfl)⟩, (Ws_at (i := 5) (k := 27) rfl rfl), (Ws_at (i := 0) (k := 49) rfl rfl), _, rfl, (Ws_at (i := 5) (k := 28) rfl rfl)⟩
theorem sI_Bytes_3 : Cond.methodLink R_Bytes 3 Lib.objectInit ∈ Ws ∧ Cond.instanceMethod Lib.objectInit ∈ Ws ∧ Cond.code Lib.objectInit ⟨#[0xb1]⟩ 1 none ∈ Ws := ⟨(Ws_at (i := 5) (k := 29) rfl rfl), (Ws_at (i := 4) (k := 29) rfl rfl), (Ws_at (i := 4) (k := 30) rfl rfl)⟩
theorem sF_Bytes_9_Bytes : a_F R_Bytes 9 1 0 true (.array (.int)) := ⟨R_Bytes, F_Bytes, 2, R_Bytes, t_Bytes, rfl, Wl_Bytes_in, by decide, t_Bytes_ok, n_Bytes, rfl, rfl, Or.inl rfl, Or.inl (Ws_at (i := 5) (k := 31) rfl rfl)⟩
theorem sFF_Bytes_9_Bytes : a_FF R_Bytes 9 1 0 (.array (.int)) := ⟨R_Bytes, F_Bytes, 2, t_Bytes, rfl, Wl_Bytes_in, by decide, t_Bytes_ok, n_Bytes, rfl, rfl, rfl, (Ws_at (i := 5) (k := 31) rfl rfl)⟩
theorem sF_Bytes_15_Bytes : a_F R_Bytes 15 1 1 false (.int) := ⟨R_Bytes, F_Bytes, 2, R_Bytes, t_Bytes, rfl, Wl_Bytes_in, by decide, t_Bytes_ok, n_Bytes, rfl, rfl, Or.inl rfl, Or.inl (Ws_at (i := 5) (k := 32) rfl rfl)⟩
theorem sI_Bytes_19 : a_IV R_Bytes 19 M_Bytes_append 1 1 := ⟨⟨⟨by decide, by decide⟩, by decide +kernel, by decide, (Ws_at (i := 4) (k := 5) rfl rfl), (Ws_at (i := 0) (k := 40) rfl rfl)⟩, (Ws_at (i := 5) (k := 33) rfl rfl), (Ws_at (i := 0) (k := 41) rfl rfl), _, rfl, (Ws_at (i := 5) (k := 20) rfl rfl)⟩
theorem sI_Bytes_23 : Cond.methodLink R_Bytes 23 Lib.Math.min.name ∈ Ws ∧ Cond.static Lib.Math.min.name ∈ Ws ∧ Cond.initialized "java/lang/Math" ∈ Ws ∧ Cond.code Lib.Math.min.name Lib.Math.min.code 2 (some .int) ∈ Ws := ⟨(Ws_at (i := 5) (k := 34) rfl rfl), (Ws_at (i := 5) (k := 35) rfl rfl), (Ws_at (i := 5) (k := 36) rfl rfl), (Ws_at (i := 5) (k := 37) rfl rfl)⟩
theorem sI_Bytes_29 : Cond.methodLink R_Bytes 29 Lib.Math.max.name ∈ Ws ∧ Cond.static Lib.Math.max.name ∈ Ws ∧ Cond.initialized "java/lang/Math" ∈ Ws ∧ Cond.code Lib.Math.max.name Lib.Math.max.code 2 (some .int) ∈ Ws := ⟨(Ws_at (i := 5) (k := 38) rfl rfl), (Ws_at (i := 5) (k := 39) rfl rfl), (Ws_at (i := 5) (k := 36) rfl rfl), (Ws_at (i := 5) (k := 40) rfl rfl)⟩
theorem sI_Bytes_32 : Cond.methodLink R_Bytes 32 arraycopyName ∈ Ws ∧ Cond.native arraycopyName ∈ Ws ∧ Cond.static arraycopyName ∈ Ws ∧ Cond.initialized "java/lang/System" ∈ Ws := ⟨(Ws_at (i := 5) (k := 41) rfl rfl), (Ws_at (i := 5) (k := 42) rfl rfl), (Ws_at (i := 5) (k := 43) rfl rfl), (Ws_at (i := 5) (k := 44) rfl rfl)⟩
theorem sI_Client_3 : Cond.methodLink R_Client 3 Lib.objectInit ∈ Ws ∧ Cond.instanceMethod Lib.objectInit ∈ Ws ∧ Cond.code Lib.objectInit ⟨#[0xb1]⟩ 1 none ∈ Ws := ⟨(Ws_at (i := 5) (k := 46) rfl rfl), (Ws_at (i := 4) (k := 29) rfl rfl), (Ws_at (i := 4) (k := 30) rfl rfl)⟩
theorem sN_Client_9 : a_N R_Client 9 1 2 [.null, .int 0] := ⟨R_Bytes, F_Bytes, t_Bytes, rfl, Wl_Bytes_in, t_Bytes_ok, (Ws_at (i := 5) (k := 47) rfl rfl), (Ws_at (i := 4) (k := 19) rfl rfl), (Ws_at (i := 4) (k := 5) rfl rfl), by decide +kernel, fun _ _ => rfl⟩
theorem sI_Client_11 : a_II R_Client 11 M_Bytes_init 1 := ⟨⟨⟨by decide, by decide⟩, by decide +kernel, by decide, (Ws_at (i := 4) (k := 5) rfl rfl), (Ws_at (i := 0) (k := 36) rfl rfl)⟩, (Ws_at (i := 5) (k := 48) rfl rfl), (Ws_at (i := 0) (k := 37) rfl rfl), rfl, rfl⟩
theorem sF_Client_14_Client : a_F R_Client 14 2 2 true (.object "OnceWire$Bytes") := ⟨R_Client, F_Client, 10, R_Client, t_Client, rfl, Wl_Client_in, by decide, t_Client_ok, n_Client, rfl, rfl, Or.inl rfl, Or.inl (Ws_at (i := 5) (k := 49) rfl rfl)⟩
theorem sFF_Client_14_Client : a_FF R_Client 14 2 2 (.object "OnceWire$Bytes") := ⟨R_Client, F_Client, 10, t_Client, rfl, Wl_Client_in, by decide, t_Client_ok, n_Client, rfl, rfl, rfl, (Ws_at (i := 5) (k := 49) rfl rfl)⟩
theorem sF_Client_20_Client : a_F R_Client 20 2 3 true (.array (.int)) := ⟨R_Client, F_Client, 10, R_Client, t_Client, rfl, Wl_Client_in, by decide, t_Client_ok, n_Client, rfl, rfl, Or.inl rfl, Or.inl (Ws_at (i := 5) (k := 50) rfl rfl)⟩
theorem sFF_Client_20_Client : a_FF R_Client 20 2 3 (.array (.int)) := ⟨R_Client, F_Client, 10, t_Client, rfl, Wl_Client_in, by decide, t_Client_ok, n_Client, rfl, rfl, rfl, (Ws_at (i := 5) (k := 50) rfl rfl)⟩
theorem sF_Client_24_Client : a_F R_Client 24 2 4 true (.array (.int)) := ⟨R_Client, F_Client, 10, R_Client, t_Client, rfl, Wl_Client_in, by decide, t_Client_ok, n_Client, rfl, rfl, Or.inl rfl, Or.inl (Ws_at (i := 5) (k := 51) rfl rfl)⟩
theorem sFF_Client_24_Client : a_FF R_Client 24 2 4 (.array (.int)) := ⟨R_Client, F_Client, 10, t_Client, rfl, Wl_Client_in, by decide, t_Client_ok, n_Client, rfl, rfl, rfl, (Ws_at (i := 5) (k := 51) rfl rfl)⟩
theorem sF_Client_27_Client : a_F R_Client 27 2 5 false (.int) := ⟨R_Client, F_Client, 10, R_Client, t_Client, rfl, Wl_Client_in, by decide, t_Client_ok, n_Client, rfl, rfl, Or.inl rfl, Or.inl (Ws_at (i := 5) (k := 52) rfl rfl)⟩
theorem sF_Client_31_Client : a_F R_Client 31 2 6 true (.array (.int)) := ⟨R_Client, F_Client, 10, R_Client, t_Client, rfl, Wl_Client_in, by decide, t_Client_ok, n_Client, rfl, rfl, Or.inl rfl, Or.inl (Ws_at (i := 5) (k := 53) rfl rfl)⟩
theorem sFF_Client_31_Client : a_FF R_Client 31 2 6 (.array (.int)) := ⟨R_Client, F_Client, 10, t_Client, rfl, Wl_Client_in, by decide, t_Client_ok, n_Client, rfl, rfl, rfl, (Ws_at (i := 5) (k := 53) rfl rfl)⟩
theorem sF_Client_34_Client : a_F R_Client 34 2 7 true (.array (.int)) := ⟨R_Client, F_Client, 10, R_Client, t_Client, rfl, Wl_Client_in, by decide, t_Client_ok, n_Client, rfl, rfl, Or.inl rfl, Or.inl (Ws_at (i := 5) (k := 54) rfl rfl)⟩
theorem sFF_Client_34_Client : a_FF R_Client 34 2 7 (.array (.int)) := ⟨R_Client, F_Client, 10, t_Client, rfl, Wl_Client_in, by decide, t_Client_ok, n_Client, rfl, rfl, rfl, (Ws_at (i := 5) (k := 54) rfl rfl)⟩
theorem sF_Client_37_Client : a_F R_Client 37 2 8 true (.array (.object "OnceWire$Bytes")) := ⟨R_Client, F_Client, 10, R_Client, t_Client, rfl, Wl_Client_in, by decide, t_Client_ok, n_Client, rfl, rfl, Or.inl rfl, Or.inl (Ws_at (i := 5) (k := 55) rfl rfl)⟩
theorem sFF_Client_37_Client : a_FF R_Client 37 2 8 (.array (.object "OnceWire$Bytes")) := ⟨R_Client, F_Client, 10, t_Client, rfl, Wl_Client_in, by decide, t_Client_ok, n_Client, rfl, rfl, rfl, (Ws_at (i := 5) (k := 55) rfl rfl)⟩
theorem sF_Client_41_Client : a_F R_Client 41 2 9 false (.int) := ⟨R_Client, F_Client, 10, R_Client, t_Client, rfl, Wl_Client_in, by decide, t_Client_ok, n_Client, rfl, rfl, Or.inl rfl, Or.inl (Ws_at (i := 5) (k := 56) rfl rfl)⟩
theorem sF_Client_44_Client : a_F R_Client 44 2 0 true (.object "OnceWire$Network") := ⟨R_Client, F_Client, 10, R_Client, t_Client, rfl, Wl_Client_in, by decide, t_Client_ok, n_Client, rfl, rfl, Or.inl rfl, Or.inl (Ws_at (i := 5) (k := 57) rfl rfl)⟩
theorem sFF_Client_44_Client : a_FF R_Client 44 2 0 (.object "OnceWire$Network") := ⟨R_Client, F_Client, 10, t_Client, rfl, Wl_Client_in, by decide, t_Client_ok, n_Client, rfl, rfl, rfl, (Ws_at (i := 5) (k := 57) rfl rfl)⟩
theorem sF_Client_48_Client : a_F R_Client 48 2 1 true (.object "OnceWire$Format") := ⟨R_Client, F_Client, 10, R_Client, t_Client, rfl, Wl_Client_in, by decide, t_Client_ok, n_Client, rfl, rfl, Or.inl rfl, Or.inl (Ws_at (i := 5) (k := 58) rfl rfl)⟩
theorem sFF_Client_48_Client : a_FF R_Client 48 2 1 (.object "OnceWire$Format") := ⟨R_Client, F_Client, 10, t_Client, rfl, Wl_Client_in, by decide, t_Client_ok, n_Client, rfl, rfl, rfl, (Ws_at (i := 5) (k := 58) rfl rfl)⟩
theorem sI_Client_52 : a_IV R_Client 52 M_Bytes_clear 0 1 := ⟨⟨⟨by decide, by decide⟩, by decide +kernel, by decide, (Ws_at (i := 4) (k := 5) rfl rfl), (Ws_at (i := 0) (k := 38) rfl rfl)⟩, (Ws_at (i := 5) (k := 59) rfl rfl), (Ws_at (i := 0) (k := 39) rfl rfl), _, rfl, (Ws_at (i := 5) (k := 22) rfl rfl)⟩
theorem sI_Client_55 : a_IV R_Client 55 M_Bytes_appendWord 1 1 := ⟨⟨⟨by decide, by decide⟩, by decide +kernel, by decide, (Ws_at (i := 4) (k := 5) rfl rfl), (Ws_at (i := 0) (k := 42) rfl rfl)⟩, (Ws_at (i := 5) (k := 60) rfl rfl), (Ws_at (i := 0) (k := 43) rfl rfl), _, rfl, (Ws_at (i := 5) (k := 61) rfl rfl)⟩
theorem sI_Client_58_TaggedFormat : a_IA R_Client 58 ⟨R_Format, "write", "(LOnceWire$Value;LOnceWire$Bytes;)V"⟩ M_TaggedFormat_write 2 7 := ⟨⟨⟨by decide, by decide⟩, by decide +kernel, by decide, (Ws_at (i := 4) (k := 12) rfl rfl), (Ws_at (i := 2) (k := 4) rfl rfl)⟩, (Ws_at (i := 5) (k := 62) rfl rfl), (Ws_at (i := 2) (k := 5) rfl rfl), (Ws_at (i := 5) (k := 63) rfl rfl), (List.mem_of_getElem? (i := 6) rfl), rfl, ⟨by decide, by decide⟩, _, rfl, (Ws_at (i := 6) (k := 0) rfl rfl)⟩
theorem sI_Client_58_WordFormat : a_IA R_Client 58 ⟨R_Format, "write", "(LOnceWire$Value;LOnceWire$Bytes;)V"⟩ M_WordFormat_write 2 9 := ⟨⟨⟨by decide, by decide⟩, by decide +kernel, by decide, (Ws_at (i := 4) (k := 14) rfl rfl), (Ws_at (i := 2) (k := 32) rfl rfl)⟩, (Ws_at (i := 5) (k := 62) rfl rfl), (Ws_at (i := 2) (k := 33) rfl rfl), (Ws_at (i := 5) (k := 63) rfl rfl), (List.mem_of_getElem? (i := 6) rfl), rfl, ⟨by decide, by decide⟩, _, rfl, (Ws_at (i := 6) (k := 1) rfl rfl)⟩
theorem sI_Client_64 : a_IS R_Client 64 M_Fragments_wrap 2 := ⟨⟨⟨by decide, by decide⟩, by decide +kernel, by decide, (Ws_at (i := 4) (k := 7) rfl rfl), (Ws_at (i := 1) (k := 8) rfl rfl)⟩, (Ws_at (i := 6) (k := 2) rfl rfl), (Ws_at (i := 1) (k := 9) rfl rfl)⟩
theorem sI_Client_70 : a_IV R_Client 70 M_Network_send 2 3 := ⟨⟨⟨by decide, by decide⟩, by decide +kernel, by decide, (Ws_at (i := 4) (k := 8) rfl rfl), (Ws_at (i := 1) (k := 22) rfl rfl)⟩, (Ws_at (i := 6) (k := 3) rfl rfl), (Ws_at (i := 1) (k := 23) rfl rfl), _, rfl, (Ws_at (i := 5) (k := 18) rfl rfl)⟩
theorem sI_Client_76 : a_IS R_Client 76 M_Fragments_unwrap 2 := ⟨⟨⟨by decide, by decide⟩, by decide +kernel, by decide, (Ws_at (i := 4) (k := 7) rfl rfl), (Ws_at (i := 1) (k := 10) rfl rfl)⟩, (Ws_at (i := 6) (k := 4) rfl rfl), (Ws_at (i := 1) (k := 11) rfl rfl)⟩
theorem sF_Client_80_Bytes : a_F R_Client 80 1 1 false (.int) := ⟨R_Bytes, F_Bytes, 2, R_Bytes, t_Bytes, rfl, Wl_Bytes_in, by decide, t_Bytes_ok, n_Bytes, rfl, rfl, Or.inl rfl, Or.inr ⟨R_OW, (List.mem_of_getElem? (i := 7) rfl)⟩⟩
theorem sI_Client_83 : a_IV R_Client 83 M_Bytes_wordAt 1 1 := ⟨⟨⟨by decide, by decide⟩, by decide +kernel, by decide, (Ws_at (i := 4) (k := 5) rfl rfl), (Ws_at (i := 0) (k := 50) rfl rfl)⟩, (Ws_at (i := 6) (k := 5) rfl rfl), (Ws_at (i := 0) (k := 51) rfl rfl), _, rfl, (Ws_at (i := 6) (k := 6) rfl rfl)⟩
theorem sI_Client_87 : a_IV R_Client 87 M_Client_pendingPlaceOf 1 2 := ⟨⟨⟨by decide, by decide⟩, by decide +kernel, by decide, (Ws_at (i := 4) (k := 6) rfl rfl), (Ws_at (i := 1) (k := 0) rfl rfl)⟩, (Ws_at (i := 6) (k := 7) rfl rfl), (Ws_at (i := 1) (k := 1) rfl rfl), _, rfl, (Ws_at (i := 6) (k := 8) rfl rfl)⟩
theorem sI_Client_90 : a_IV R_Client 90 M_Client_settle 3 2 := ⟨⟨⟨by decide, by decide⟩, by decide +kernel, by decide, (Ws_at (i := 4) (k := 6) rfl rfl), (Ws_at (i := 1) (k := 2) rfl rfl)⟩, (Ws_at (i := 6) (k := 9) rfl rfl), (Ws_at (i := 1) (k := 3) rfl rfl), _, rfl, (Ws_at (i := 6) (k := 10) rfl rfl)⟩
theorem sI_Client_94 : a_IS R_Client 94 M_Bytes_moveToEnd 2 := ⟨⟨⟨by decide, by decide⟩, by decide +kernel, by decide, (Ws_at (i := 4) (k := 5) rfl rfl), (Ws_at (i := 0) (k := 54) rfl rfl)⟩, (Ws_at (i := 6) (k := 11) rfl rfl), (Ws_at (i := 0) (k := 55) rfl rfl)⟩
theorem sI_Fragments_7 : a_IV R_Fragments 7 M_Bytes_clear 0 1 := ⟨⟨⟨by decide, by decide⟩, by decide +kernel, by decide, (Ws_at (i := 4) (k := 5) rfl rfl), (Ws_at (i := 0) (k := 38) rfl rfl)⟩, (Ws_at (i := 6) (k := 12) rfl rfl), (Ws_at (i := 0) (k := 39) rfl rfl), _, rfl, (Ws_at (i := 5) (k := 22) rfl rfl)⟩
theorem sF_Fragments_12_Bytes : a_F R_Fragments 12 1 1 false (.int) := ⟨R_Bytes, F_Bytes, 2, R_Bytes, t_Bytes, rfl, Wl_Bytes_in, by decide, t_Bytes_ok, n_Bytes, rfl, rfl, Or.inl rfl, Or.inr ⟨R_OW, (List.mem_of_getElem? (i := 8) rfl)⟩⟩
theorem sI_Fragments_18 : Cond.methodLink R_Fragments 18 Lib.Math.min.name ∈ Ws ∧ Cond.static Lib.Math.min.name ∈ Ws ∧ Cond.initialized "java/lang/Math" ∈ Ws ∧ Cond.code Lib.Math.min.name Lib.Math.min.code 2 (some .int) ∈ Ws := ⟨(Ws_at (i := 6) (k := 13) rfl rfl), (Ws_at (i := 5) (k := 35) rfl rfl), (Ws_at (i := 5) (k := 36) rfl rfl), (Ws_at (i := 5) (k := 37) rfl rfl)⟩
theorem sI_Fragments_25 : a_IV R_Fragments 25 M_Bytes_appendWord 1 1 := ⟨⟨⟨by decide, by decide⟩, by decide +kernel, by decide, (Ws_at (i := 4) (k := 5) rfl rfl), (Ws_at (i := 0) (k := 42) rfl rfl)⟩, (Ws_at (i := 6) (k := 15) rfl rfl), (Ws_at (i := 0) (k := 43) rfl rfl), _, rfl, (Ws_at (i := 5) (k := 61) rfl rfl)⟩
theorem sI_Fragments_29 : a_IV R_Fragments 29 M_Bytes_appendPart 3 1 := ⟨⟨⟨by decide, by decide⟩, by decide +kernel, by decide, (Ws_at (i := 4) (k := 5) rfl rfl), (Ws_at (i := 0) (k := 44) rfl rfl)⟩, (Ws_at (i := 6) (k := 16) rfl rfl), (Ws_at (i := 0) (k := 45) rfl rfl), _, rfl, (Ws_at (i := 6) (k := 17) rfl rfl)⟩
theorem sI_Fragments_33 : a_IV R_Fragments 33 M_Bytes_wordAt 1 1 := ⟨⟨⟨by decide, by decide⟩, by decide +kernel, by decide, (Ws_at (i := 4) (k := 5) rfl rfl), (Ws_at (i := 0) (k := 50) rfl rfl)⟩, (Ws_at (i := 6) (k := 18) rfl rfl), (Ws_at (i := 0) (k := 51) rfl rfl), _, rfl, (Ws_at (i := 6) (k := 6) rfl rfl)⟩
theorem sI_Network_3 : Cond.methodLink R_Network 3 Lib.objectInit ∈ Ws ∧ Cond.instanceMethod Lib.objectInit ∈ Ws ∧ Cond.code Lib.objectInit ⟨#[0xb1]⟩ 1 none ∈ Ws := ⟨(Ws_at (i := 6) (k := 20) rfl rfl), (Ws_at (i := 4) (k := 29) rfl rfl), (Ws_at (i := 4) (k := 30) rfl rfl)⟩
theorem sF_Network_13_Network : a_F R_Network 13 3 0 true (.array (.object "OnceWire$Bytes")) := ⟨R_Network, F_Network, 3, R_Network, t_Network, rfl, Wl_Network_in, by decide, t_Network_ok, n_Network, rfl, rfl, Or.inl rfl, Or.inl (Ws_at (i := 6) (k := 22) rfl rfl)⟩
theorem sFF_Network_13_Network : a_FF R_Network 13 3 0 (.array (.object "OnceWire$Bytes")) := ⟨R_Network, F_Network, 3, t_Network, rfl, Wl_Network_in, by decide, t_Network_ok, n_Network, rfl, rfl, rfl, (Ws_at (i := 6) (k := 22) rfl rfl)⟩
theorem sF_Network_17_Network : a_F R_Network 17 3 1 true (.array (.boolean)) := ⟨R_Network, F_Network, 3, R_Network, t_Network, rfl, Wl_Network_in, by decide, t_Network_ok, n_Network, rfl, rfl, Or.inl rfl, Or.inl (Ws_at (i := 6) (k := 24) rfl rfl)⟩
theorem sFF_Network_17_Network : a_FF R_Network 17 3 1 (.array (.boolean)) := ⟨R_Network, F_Network, 3, t_Network, rfl, Wl_Network_in, by decide, t_Network_ok, n_Network, rfl, rfl, rfl, (Ws_at (i := 6) (k := 24) rfl rfl)⟩
theorem sF_Network_21_Network : a_F R_Network 21 3 2 false (.int) := ⟨R_Network, F_Network, 3, R_Network, t_Network, rfl, Wl_Network_in, by decide, t_Network_ok, n_Network, rfl, rfl, Or.inl rfl, Or.inl (Ws_at (i := 6) (k := 25) rfl rfl)⟩
theorem sN_Network_11 : a_N R_Network 11 1 2 [.null, .int 0] := ⟨R_Bytes, F_Bytes, t_Bytes, rfl, Wl_Bytes_in, t_Bytes_ok, (Ws_at (i := 6) (k := 21) rfl rfl), (Ws_at (i := 4) (k := 19) rfl rfl), (Ws_at (i := 4) (k := 5) rfl rfl), by decide +kernel, fun _ _ => rfl⟩
theorem sI_Network_25 : a_II R_Network 25 M_Bytes_init 1 := ⟨⟨⟨by decide, by decide⟩, by decide +kernel, by decide, (Ws_at (i := 4) (k := 5) rfl rfl), (Ws_at (i := 0) (k := 36) rfl rfl)⟩, (Ws_at (i := 6) (k := 26) rfl rfl), (Ws_at (i := 0) (k := 37) rfl rfl), rfl, rfl⟩
theorem sI_Network_28 : a_IV R_Network 28 M_Network_has 1 3 := ⟨⟨⟨by decide, by decide⟩, by decide +kernel, by decide, (Ws_at (i := 4) (k := 8) rfl rfl), (Ws_at (i := 1) (k := 14) rfl rfl)⟩, (Ws_at (i := 6) (k := 27) rfl rfl), (Ws_at (i := 1) (k := 15) rfl rfl), _, rfl, (Ws_at (i := 5) (k := 4) rfl rfl)⟩
theorem sI_Network_32 : a_IV R_Network 32 M_Network_isFull 0 3 := ⟨⟨⟨by decide, by decide⟩, by decide +kernel, by decide, (Ws_at (i := 4) (k := 8) rfl rfl), (Ws_at (i := 1) (k := 16) rfl rfl)⟩, (Ws_at (i := 6) (k := 28) rfl rfl), (Ws_at (i := 1) (k := 17) rfl rfl), _, rfl, (Ws_at (i := 5) (k := 14) rfl rfl)⟩
theorem sI_Network_36 : a_IV R_Network 36 M_Bytes_become 1 1 := ⟨⟨⟨by decide, by decide⟩, by decide +kernel, by decide, (Ws_at (i := 4) (k := 5) rfl rfl), (Ws_at (i := 0) (k := 46) rfl rfl)⟩, (Ws_at (i := 6) (k := 29) rfl rfl), (Ws_at (i := 0) (k := 47) rfl rfl), _, rfl, (Ws_at (i := 6) (k := 30) rfl rfl)⟩
theorem sI_Network_40 : a_IS R_Network 40 M_Bytes_moveToEnd 2 := ⟨⟨⟨by decide, by decide⟩, by decide +kernel, by decide, (Ws_at (i := 4) (k := 5) rfl rfl), (Ws_at (i := 0) (k := 54) rfl rfl)⟩, (Ws_at (i := 6) (k := 31) rfl rfl), (Ws_at (i := 0) (k := 55) rfl rfl)⟩
theorem sI_Reader_1 : Cond.methodLink R_Reader 1 Lib.objectInit ∈ Ws ∧ Cond.instanceMethod Lib.objectInit ∈ Ws ∧ Cond.code Lib.objectInit ⟨#[0xb1]⟩ 1 none ∈ Ws := ⟨(Ws_at (i := 6) (k := 32) rfl rfl), (Ws_at (i := 4) (k := 29) rfl rfl), (Ws_at (i := 4) (k := 30) rfl rfl)⟩
theorem sF_Reader_7_Reader : a_F R_Reader 7 4 0 true (.object "OnceWire$Bytes") := ⟨R_Reader, F_Reader, 3, R_Reader, t_Reader, rfl, Wl_Reader_in, by decide, t_Reader_ok, n_Reader, rfl, rfl, Or.inl rfl, Or.inl (Ws_at (i := 6) (k := 33) rfl rfl)⟩
theorem sFF_Reader_7_Reader : a_FF R_Reader 7 4 0 (.object "OnceWire$Bytes") := ⟨R_Reader, F_Reader, 3, t_Reader, rfl, Wl_Reader_in, by decide, t_Reader_ok, n_Reader, rfl, rfl, rfl, (Ws_at (i := 6) (k := 33) rfl rfl)⟩
theorem sF_Reader_13_Reader : a_F R_Reader 13 4 1 false (.int) := ⟨R_Reader, F_Reader, 3, R_Reader, t_Reader, rfl, Wl_Reader_in, by decide, t_Reader_ok, n_Reader, rfl, rfl, Or.inl rfl, Or.inl (Ws_at (i := 6) (k := 34) rfl rfl)⟩
theorem sF_Reader_17_Reader : a_F R_Reader 17 4 2 false (.boolean) := ⟨R_Reader, F_Reader, 3, R_Reader, t_Reader, rfl, Wl_Reader_in, by decide, t_Reader_ok, n_Reader, rfl, rfl, Or.inl rfl, Or.inl (Ws_at (i := 6) (k := 35) rfl rfl)⟩
theorem sI_Reader_21 : Cond.methodLink R_Reader 21 Lib.Math.max.name ∈ Ws ∧ Cond.static Lib.Math.max.name ∈ Ws ∧ Cond.initialized "java/lang/Math" ∈ Ws ∧ Cond.code Lib.Math.max.name Lib.Math.max.code 2 (some .int) ∈ Ws := ⟨(Ws_at (i := 6) (k := 36) rfl rfl), (Ws_at (i := 5) (k := 39) rfl rfl), (Ws_at (i := 5) (k := 36) rfl rfl), (Ws_at (i := 5) (k := 40) rfl rfl)⟩
theorem sF_Reader_27_Bytes : a_F R_Reader 27 1 1 false (.int) := ⟨R_Bytes, F_Bytes, 2, R_Bytes, t_Bytes, rfl, Wl_Bytes_in, by decide, t_Bytes_ok, n_Bytes, rfl, rfl, Or.inl rfl, Or.inr ⟨R_OW, (List.mem_of_getElem? (i := 9) rfl)⟩⟩
theorem sF_Reader_32_Bytes : a_F R_Reader 32 1 0 true (.array (.int)) := ⟨R_Bytes, F_Bytes, 2, R_Bytes, t_Bytes, rfl, Wl_Bytes_in, by decide, t_Bytes_ok, n_Bytes, rfl, rfl, Or.inl rfl, Or.inr ⟨R_OW, (List.mem_of_getElem? (i := 10) rfl)⟩⟩
theorem sI_Schema_3 : Cond.methodLink R_Schema 3 Lib.objectInit ∈ Ws ∧ Cond.instanceMethod Lib.objectInit ∈ Ws ∧ Cond.code Lib.objectInit ⟨#[0xb1]⟩ 1 none ∈ Ws := ⟨(Ws_at (i := 6) (k := 37) rfl rfl), (Ws_at (i := 4) (k := 29) rfl rfl), (Ws_at (i := 4) (k := 30) rfl rfl)⟩
theorem sF_Schema_11_Schema : a_F R_Schema 11 5 0 true (.array (.int)) := ⟨R_Schema, F_Schema, 5, R_Schema, t_Schema, rfl, Wl_Schema_in, by decide, t_Schema_ok, n_Schema, rfl, rfl, Or.inl rfl, Or.inl (Ws_at (i := 6) (k := 38) rfl rfl)⟩
theorem sFF_Schema_11_Schema : a_FF R_Schema 11 5 0 (.array (.int)) := ⟨R_Schema, F_Schema, 5, t_Schema, rfl, Wl_Schema_in, by decide, t_Schema_ok, n_Schema, rfl, rfl, rfl, (Ws_at (i := 6) (k := 38) rfl rfl)⟩
theorem sF_Schema_15_Schema : a_F R_Schema 15 5 1 true (.array (.int)) := ⟨R_Schema, F_Schema, 5, R_Schema, t_Schema, rfl, Wl_Schema_in, by decide, t_Schema_ok, n_Schema, rfl, rfl, Or.inl rfl, Or.inl (Ws_at (i := 6) (k := 39) rfl rfl)⟩
theorem sFF_Schema_15_Schema : a_FF R_Schema 15 5 1 (.array (.int)) := ⟨R_Schema, F_Schema, 5, t_Schema, rfl, Wl_Schema_in, by decide, t_Schema_ok, n_Schema, rfl, rfl, rfl, (Ws_at (i := 6) (k := 39) rfl rfl)⟩
theorem sF_Schema_18_Schema : a_F R_Schema 18 5 2 true (.array (.int)) := ⟨R_Schema, F_Schema, 5, R_Schema, t_Schema, rfl, Wl_Schema_in, by decide, t_Schema_ok, n_Schema, rfl, rfl, Or.inl rfl, Or.inl (Ws_at (i := 6) (k := 40) rfl rfl)⟩
theorem sFF_Schema_18_Schema : a_FF R_Schema 18 5 2 (.array (.int)) := ⟨R_Schema, F_Schema, 5, t_Schema, rfl, Wl_Schema_in, by decide, t_Schema_ok, n_Schema, rfl, rfl, rfl, (Ws_at (i := 6) (k := 40) rfl rfl)⟩
theorem sF_Schema_21_Schema : a_F R_Schema 21 5 3 true (.array (.boolean)) := ⟨R_Schema, F_Schema, 5, R_Schema, t_Schema, rfl, Wl_Schema_in, by decide, t_Schema_ok, n_Schema, rfl, rfl, Or.inl rfl, Or.inl (Ws_at (i := 6) (k := 41) rfl rfl)⟩
theorem sFF_Schema_21_Schema : a_FF R_Schema 21 5 3 (.array (.boolean)) := ⟨R_Schema, F_Schema, 5, t_Schema, rfl, Wl_Schema_in, by decide, t_Schema_ok, n_Schema, rfl, rfl, rfl, (Ws_at (i := 6) (k := 41) rfl rfl)⟩
theorem sF_Schema_25_Schema : a_F R_Schema 25 5 4 false (.int) := ⟨R_Schema, F_Schema, 5, R_Schema, t_Schema, rfl, Wl_Schema_in, by decide, t_Schema_ok, n_Schema, rfl, rfl, Or.inl rfl, Or.inl (Ws_at (i := 6) (k := 42) rfl rfl)⟩
theorem sI_Schema_29 : a_IV R_Schema 29 M_Schema_indexOf 1 5 := ⟨⟨⟨by decide, by decide⟩, by decide +kernel, by decide, (Ws_at (i := 4) (k := 10) rfl rfl), (Ws_at (i := 1) (k := 42) rfl rfl)⟩, (Ws_at (i := 6) (k := 43) rfl rfl), (Ws_at (i := 1) (k := 43) rfl rfl), _, rfl, (Ws_at (i := 6) (k := 44) rfl rfl)⟩
theorem sI_Schema_33 : a_IV R_Schema 33 M_Schema_has 1 5 := ⟨⟨⟨by decide, by decide⟩, by decide +kernel, by decide, (Ws_at (i := 4) (k := 10) rfl rfl), (Ws_at (i := 1) (k := 44) rfl rfl)⟩, (Ws_at (i := 6) (k := 45) rfl rfl), (Ws_at (i := 1) (k := 45) rfl rfl), _, rfl, (Ws_at (i := 4) (k := 56) rfl rfl)⟩
theorem sI_Schema_37 : a_IV R_Schema 37 M_Schema_kindOf 1 5 := ⟨⟨⟨by decide, by decide⟩, by decide +kernel, by decide, (Ws_at (i := 4) (k := 10) rfl rfl), (Ws_at (i := 1) (k := 46) rfl rfl)⟩, (Ws_at (i := 6) (k := 46) rfl rfl), (Ws_at (i := 1) (k := 47) rfl rfl), _, rfl, (Ws_at (i := 6) (k := 47) rfl rfl)⟩
theorem sI_Server_3 : Cond.methodLink R_Server 3 Lib.objectInit ∈ Ws ∧ Cond.instanceMethod Lib.objectInit ∈ Ws ∧ Cond.code Lib.objectInit ⟨#[0xb1]⟩ 1 none ∈ Ws := ⟨(Ws_at (i := 6) (k := 48) rfl rfl), (Ws_at (i := 4) (k := 29) rfl rfl), (Ws_at (i := 4) (k := 30) rfl rfl)⟩
theorem sN_Server_9 : a_N R_Server 9 1 2 [.null, .int 0] := ⟨R_Bytes, F_Bytes, t_Bytes, rfl, Wl_Bytes_in, t_Bytes_ok, (Ws_at (i := 6) (k := 49) rfl rfl), (Ws_at (i := 4) (k := 19) rfl rfl), (Ws_at (i := 4) (k := 5) rfl rfl), by decide +kernel, fun _ _ => rfl⟩
theorem sI_Server_11 : a_II R_Server 11 M_Bytes_init 1 := ⟨⟨⟨by decide, by decide⟩, by decide +kernel, by decide, (Ws_at (i := 4) (k := 5) rfl rfl), (Ws_at (i := 0) (k := 36) rfl rfl)⟩, (Ws_at (i := 6) (k := 50) rfl rfl), (Ws_at (i := 0) (k := 37) rfl rfl), rfl, rfl⟩
theorem sF_Server_14_Server : a_F R_Server 14 6 3 true (.object "OnceWire$Bytes") := ⟨R_Server, F_Server, 11, R_Server, t_Server, rfl, Wl_Server_in, by decide, t_Server_ok, n_Server, rfl, rfl, Or.inl rfl, Or.inl (Ws_at (i := 6) (k := 51) rfl rfl)⟩
theorem sFF_Server_14_Server : a_FF R_Server 14 6 3 (.object "OnceWire$Bytes") := ⟨R_Server, F_Server, 11, t_Server, rfl, Wl_Server_in, by decide, t_Server_ok, n_Server, rfl, rfl, rfl, (Ws_at (i := 6) (k := 51) rfl rfl)⟩
theorem sN_Server_20 : a_N R_Server 20 4 3 [.null, .int 0, .int 0] := ⟨R_Reader, F_Reader, t_Reader, rfl, Wl_Reader_in, t_Reader_ok, (Ws_at (i := 6) (k := 52) rfl rfl), (Ws_at (i := 4) (k := 22) rfl rfl), (Ws_at (i := 4) (k := 9) rfl rfl), by decide +kernel, fun _ _ => rfl⟩
theorem sI_Server_22 : a_II R_Server 22 M_Reader_init 1 := ⟨⟨⟨by decide, by decide⟩, by decide +kernel, by decide, (Ws_at (i := 4) (k := 9) rfl rfl), (Ws_at (i := 1) (k := 26) rfl rfl)⟩, (Ws_at (i := 6) (k := 53) rfl rfl), (Ws_at (i := 1) (k := 27) rfl rfl), rfl, rfl⟩
theorem sF_Server_25_Server : a_F R_Server 25 6 4 true (.object "OnceWire$Reader") := ⟨R_Server, F_Server, 11, R_Server, t_Server, rfl, Wl_Server_in, by decide, t_Server_ok, n_Server, rfl, rfl, Or.inl rfl, Or.inl (Ws_at (i := 6) (k := 54) rfl rfl)⟩
theorem sFF_Server_25_Server : a_FF R_Server 25 6 4 (.object "OnceWire$Reader") := ⟨R_Server, F_Server, 11, t_Server, rfl, Wl_Server_in, by decide, t_Server_ok, n_Server, rfl, rfl, rfl, (Ws_at (i := 6) (k := 54) rfl rfl)⟩
theorem sF_Server_29_Server : a_F R_Server 29 6 5 true (.array (.int)) := ⟨R_Server, F_Server, 11, R_Server, t_Server, rfl, Wl_Server_in, by decide, t_Server_ok, n_Server, rfl, rfl, Or.inl rfl, Or.inl (Ws_at (i := 6) (k := 55) rfl rfl)⟩
theorem sFF_Server_29_Server : a_FF R_Server 29 6 5 (.array (.int)) := ⟨R_Server, F_Server, 11, t_Server, rfl, Wl_Server_in, by decide, t_Server_ok, n_Server, rfl, rfl, rfl, (Ws_at (i := 6) (k := 55) rfl rfl)⟩
theorem sF_Server_33_Server : a_F R_Server 33 6 6 true (.array (.object "OnceWire$Bytes")) := ⟨R_Server, F_Server, 11, R_Server, t_Server, rfl, Wl_Server_in, by decide, t_Server_ok, n_Server, rfl, rfl, Or.inl rfl, Or.inl (Ws_at (i := 6) (k := 56) rfl rfl)⟩
theorem sFF_Server_33_Server : a_FF R_Server 33 6 6 (.array (.object "OnceWire$Bytes")) := ⟨R_Server, F_Server, 11, t_Server, rfl, Wl_Server_in, by decide, t_Server_ok, n_Server, rfl, rfl, rfl, (Ws_at (i := 6) (k := 56) rfl rfl)⟩
theorem sF_Server_37_Server : a_F R_Server 37 6 7 false (.int) := ⟨R_Server, F_Server, 11, R_Server, t_Server, rfl, Wl_Server_in, by decide, t_Server_ok, n_Server, rfl, rfl, Or.inl rfl, Or.inl (Ws_at (i := 6) (k := 57) rfl rfl)⟩
theorem sF_Server_41_Server : a_F R_Server 41 6 8 false (.int) := ⟨R_Server, F_Server, 11, R_Server, t_Server, rfl, Wl_Server_in, by decide, t_Server_ok, n_Server, rfl, rfl, Or.inl rfl, Or.inl (Ws_at (i := 6) (k := 58) rfl rfl)⟩
theorem sF_Server_44_Server : a_F R_Server 44 6 9 false (.int) := ⟨R_Server, F_Server, 11, R_Server, t_Server, rfl, Wl_Server_in, by decide, t_Server_ok, n_Server, rfl, rfl, Or.inl rfl, Or.inl (Ws_at (i := 6) (k := 59) rfl rfl)⟩
theorem sF_Server_47_Server : a_F R_Server 47 6 10 false (.int) := ⟨R_Server, F_Server, 11, R_Server, t_Server, rfl, Wl_Server_in, by decide, t_Server_ok, n_Server, rfl, rfl, Or.inl rfl, Or.inl (Ws_at (i := 6) (k := 60) rfl rfl)⟩
theorem sF_Server_50_Server : a_F R_Server 50 6 0 true (.object "OnceWire$Network") := ⟨R_Server, F_Server, 11, R_Server, t_Server, rfl, Wl_Server_in, by decide, t_Server_ok, n_Server, rfl, rfl, Or.inl rfl, Or.inl (Ws_at (i := 6) (k := 61) rfl rfl)⟩
theorem sFF_Server_50_Server : a_FF R_Server 50 6 0 (.object "OnceWire$Network") := ⟨R_Server, F_Server, 11, t_Server, rfl, Wl_Server_in, by decide, t_Server_ok, n_Server, rfl, rfl, rfl, (Ws_at (i := 6) (k := 61) rfl rfl)⟩
theorem sF_Server_54_Server : a_F R_Server 54 6 1 true (.object "OnceWire$Format") := ⟨R_Server, F_Server, 11, R_Server, t_Server, rfl, Wl_Server_in, by decide, t_Server_ok, n_Server, rfl, rfl, Or.inl rfl, Or.inl (Ws_at (i := 6) (k := 62) rfl rfl)⟩
theorem sFF_Server_54_Server : a_FF R_Server 54 6 1 (.object "OnceWire$Format") := ⟨R_Server, F_Server, 11, t_Server, rfl, Wl_Server_in, by decide, t_Server_ok, n_Server, rfl, rfl, rfl, (Ws_at (i := 6) (k := 62) rfl rfl)⟩
theorem sF_Server_58_Server : a_F R_Server 58 6 2 true (.object "OnceWire$Value") := ⟨R_Server, F_Server, 11, R_Server, t_Server, rfl, Wl_Server_in, by decide, t_Server_ok, n_Server, rfl, rfl, Or.inl rfl, Or.inl (Ws_at (i := 6) (k := 63) rfl rfl)⟩
theorem sFF_Server_58_Server : a_FF R_Server 58 6 2 (.object "OnceWire$Value") := ⟨R_Server, F_Server, 11, t_Server, rfl, Wl_Server_in, by decide, t_Server_ok, n_Server, rfl, rfl, rfl, (Ws_at (i := 6) (k := 63) rfl rfl)⟩
theorem sI_Server_62 : a_IS R_Server 62 M_Fragments_unwrap 2 := ⟨⟨⟨by decide, by decide⟩, by decide +kernel, by decide, (Ws_at (i := 4) (k := 7) rfl rfl), (Ws_at (i := 1) (k := 10) rfl rfl)⟩, (Ws_at (i := 7) (k := 0) rfl rfl), (Ws_at (i := 1) (k := 11) rfl rfl)⟩
theorem sF_Server_68_Bytes : a_F R_Server 68 1 1 false (.int) := ⟨R_Bytes, F_Bytes, 2, R_Bytes, t_Bytes, rfl, Wl_Bytes_in, by decide, t_Bytes_ok, n_Bytes, rfl, rfl, Or.inl rfl, Or.inr ⟨R_OW, (List.mem_of_getElem? (i := 11) rfl)⟩⟩
theorem sI_Server_71 : a_IV R_Server 71 M_Bytes_wordAt 1 1 := ⟨⟨⟨by decide, by decide⟩, by decide +kernel, by decide, (Ws_at (i := 4) (k := 5) rfl rfl), (Ws_at (i := 0) (k := 50) rfl rfl)⟩, (Ws_at (i := 7) (k := 1) rfl rfl), (Ws_at (i := 0) (k := 51) rfl rfl), _, rfl, (Ws_at (i := 6) (k := 6) rfl rfl)⟩
theorem sI_Server_75 : a_IV R_Server 75 M_Network_send 2 3 := ⟨⟨⟨by decide, by decide⟩, by decide +kernel, by decide, (Ws_at (i := 4) (k := 8) rfl rfl), (Ws_at (i := 1) (k := 22) rfl rfl)⟩, (Ws_at (i := 7) (k := 2) rfl rfl), (Ws_at (i := 1) (k := 23) rfl rfl), _, rfl, (Ws_at (i := 5) (k := 18) rfl rfl)⟩
theorem sI_Server_81 : a_IV R_Server 81 M_Server_answer 2 6 := ⟨⟨⟨by decide, by decide⟩, by decide +kernel, by decide, (Ws_at (i := 4) (k := 11) rfl rfl), (Ws_at (i := 1) (k := 58) rfl rfl)⟩, (Ws_at (i := 7) (k := 3) rfl rfl), (Ws_at (i := 1) (k := 59) rfl rfl), _, rfl, (Ws_at (i := 7) (k := 4) rfl rfl)⟩
theorem sI_Server_85 : a_IV R_Server 85 M_Server_reply 3 6 := ⟨⟨⟨by decide, by decide⟩, by decide +kernel, by decide, (Ws_at (i := 4) (k := 11) rfl rfl), (Ws_at (i := 1) (k := 62) rfl rfl)⟩, (Ws_at (i := 7) (k := 5) rfl rfl), (Ws_at (i := 1) (k := 63) rfl rfl), _, rfl, (Ws_at (i := 7) (k := 6) rfl rfl)⟩
theorem sI_Server_89 : a_IV R_Server 89 M_Reader_startAt 1 4 := ⟨⟨⟨by decide, by decide⟩, by decide +kernel, by decide, (Ws_at (i := 4) (k := 9) rfl rfl), (Ws_at (i := 1) (k := 28) rfl rfl)⟩, (Ws_at (i := 7) (k := 7) rfl rfl), (Ws_at (i := 1) (k := 29) rfl rfl), _, rfl, (Ws_at (i := 7) (k := 8) rfl rfl)⟩
theorem sI_Server_92_TaggedFormat : a_IA R_Server 92 ⟨R_Format, "read", "(LOnceWire$Reader;LOnceWire$Value;)Z"⟩ M_TaggedFormat_read 2 7 := ⟨⟨⟨by decide, by decide⟩, by decide +kernel, by decide, (Ws_at (i := 4) (k := 12) rfl rfl), (Ws_at (i := 2) (k := 10) rfl rfl)⟩, (Ws_at (i := 7) (k := 9) rfl rfl), (Ws_at (i := 2) (k := 11) rfl rfl), (Ws_at (i := 7) (k := 10) rfl rfl), (List.mem_of_getElem? (i := 12) rfl), rfl, ⟨by decide, by decide⟩, _, rfl, (Ws_at (i := 7) (k := 11) rfl rfl)⟩
theorem sI_Server_92_WordFormat : a_IA R_Server 92 ⟨R_Format, "read", "(LOnceWire$Reader;LOnceWire$Value;)Z"⟩ M_WordFormat_read 2 9 := ⟨⟨⟨by decide, by decide⟩, by decide +kernel, by decide, (Ws_at (i := 4) (k := 14) rfl rfl), (Ws_at (i := 2) (k := 34) rfl rfl)⟩, (Ws_at (i := 7) (k := 9) rfl rfl), (Ws_at (i := 2) (k := 35) rfl rfl), (Ws_at (i := 7) (k := 10) rfl rfl), (List.mem_of_getElem? (i := 12) rfl), rfl, ⟨by decide, by decide⟩, _, rfl, (Ws_at (i := 7) (k := 12) rfl rfl)⟩
theorem sI_Server_98 : a_IV R_Server 98 M_Value_digest 0 8 := ⟨⟨⟨by decide, by decide⟩, by decide +kernel, by decide, (Ws_at (i := 4) (k := 13) rfl rfl), (Ws_at (i := 2) (k := 28) rfl rfl)⟩, (Ws_at (i := 7) (k := 13) rfl rfl), (Ws_at (i := 2) (k := 29) rfl rfl), _, rfl, (Ws_at (i := 7) (k := 14) rfl rfl)⟩
theorem sI_Server_104 : a_IV R_Server 104 M_Server_run 2 6 := ⟨⟨⟨by decide, by decide⟩, by decide +kernel, by decide, (Ws_at (i := 4) (k := 11) rfl rfl), (Ws_at (i := 1) (k := 60) rfl rfl)⟩, (Ws_at (i := 7) (k := 15) rfl rfl), (Ws_at (i := 1) (k := 61) rfl rfl), _, rfl, (Ws_at (i := 7) (k := 16) rfl rfl)⟩
theorem sI_Server_107 : a_IV R_Server 107 M_Bytes_clear 0 1 := ⟨⟨⟨by decide, by decide⟩, by decide +kernel, by decide, (Ws_at (i := 4) (k := 5) rfl rfl), (Ws_at (i := 0) (k := 38) rfl rfl)⟩, (Ws_at (i := 7) (k := 17) rfl rfl), (Ws_at (i := 0) (k := 39) rfl rfl), _, rfl, (Ws_at (i := 5) (k := 22) rfl rfl)⟩
theorem sI_Server_110 : a_IV R_Server 110 M_Bytes_appendWord 1 1 := ⟨⟨⟨by decide, by decide⟩, by decide +kernel, by decide, (Ws_at (i := 4) (k := 5) rfl rfl), (Ws_at (i := 0) (k := 42) rfl rfl)⟩, (Ws_at (i := 7) (k := 18) rfl rfl), (Ws_at (i := 0) (k := 43) rfl rfl), _, rfl, (Ws_at (i := 5) (k := 61) rfl rfl)⟩
theorem sI_Server_113 : a_IV R_Server 113 M_Server_slotForNew 0 6 := ⟨⟨⟨by decide, by decide⟩, by decide +kernel, by decide, (Ws_at (i := 4) (k := 11) rfl rfl), (Ws_at (i := 2) (k := 0) rfl rfl)⟩, (Ws_at (i := 7) (k := 19) rfl rfl), (Ws_at (i := 2) (k := 1) rfl rfl), _, rfl, (Ws_at (i := 7) (k := 20) rfl rfl)⟩
theorem sI_Server_116 : a_IS R_Server 116 M_Fragments_wrap 2 := ⟨⟨⟨by decide, by decide⟩, by decide +kernel, by decide, (Ws_at (i := 4) (k := 7) rfl rfl), (Ws_at (i := 1) (k := 8) rfl rfl)⟩, (Ws_at (i := 7) (k := 21) rfl rfl), (Ws_at (i := 1) (k := 9) rfl rfl)⟩
theorem sI_TaggedFormat_3 : a_II R_TaggedFormat 3 M_Format_init 1 := ⟨⟨⟨by decide, by decide⟩, by decide +kernel, by decide, (Ws_at (i := 4) (k := 15) rfl rfl), (Ws_at (i := 2) (k := 36) rfl rfl)⟩, (Ws_at (i := 7) (k := 22) rfl rfl), (Ws_at (i := 2) (k := 37) rfl rfl), rfl, rfl⟩
theorem sF_TaggedFormat_9_TaggedFormat : a_F R_TaggedFormat 9 7 0 true (.object "OnceWire$Schema") := ⟨R_TaggedFormat, F_TaggedFormat, 1, R_TaggedFormat, t_TaggedFormat, rfl, Wl_TaggedFormat_in, by decide, t_TaggedFormat_ok, n_TaggedFormat, rfl, rfl, Or.inr (Ws_at (i := 7) (k := 24) rfl rfl), Or.inl (Ws_at (i := 7) (k := 23) rfl rfl)⟩
theorem sF_TaggedFormat_15_Schema : a_F R_TaggedFormat 15 5 4 false (.int) := ⟨R_Schema, F_Schema, 5, R_Schema, t_Schema, rfl, Wl_Schema_in, by decide, t_Schema_ok, n_Schema, rfl, rfl, Or.inl rfl, Or.inr ⟨R_OW, (List.mem_of_getElem? (i := 13) rfl)⟩⟩
theorem sI_TaggedFormat_21 : a_IV R_TaggedFormat 21 M_Value_countOf 1 8 := ⟨⟨⟨by decide, by decide⟩, by decide +kernel, by decide, (Ws_at (i := 4) (k := 13) rfl rfl), (Ws_at (i := 2) (k := 24) rfl rfl)⟩, (Ws_at (i := 7) (k := 25) rfl rfl), (Ws_at (i := 2) (k := 25) rfl rfl), _, rfl, (Ws_at (i := 7) (k := 26) rfl rfl)⟩
theorem sI_TaggedFormat_27 : a_IV R_TaggedFormat 27 M_Value_intOf 2 8 := ⟨⟨⟨by decide, by decide⟩, by decide +kernel, by decide, (Ws_at (i := 4) (k := 13) rfl rfl), (Ws_at (i := 2) (k := 26) rfl rfl)⟩, (Ws_at (i := 7) (k := 27) rfl rfl), (Ws_at (i := 2) (k := 27) rfl rfl), _, rfl, (Ws_at (i := 7) (k := 28) rfl rfl)⟩
theorem sI_TaggedFormat_31 : a_IV R_TaggedFormat 31 M_Schema_isRepeated 1 5 := ⟨⟨⟨by decide, by decide⟩, by decide +kernel, by decide, (Ws_at (i := 4) (k := 10) rfl rfl), (Ws_at (i := 1) (k := 48) rfl rfl)⟩, (Ws_at (i := 7) (k := 29) rfl rfl), (Ws_at (i := 1) (k := 49) rfl rfl), _, rfl, (Ws_at (i := 7) (k := 30) rfl rfl)⟩
theorem sI_TaggedFormat_35 : a_IV R_TaggedFormat 35 M_Schema_keyOf 1 5 := ⟨⟨⟨by decide, by decide⟩, by decide +kernel, by decide, (Ws_at (i := 4) (k := 10) rfl rfl), (Ws_at (i := 1) (k := 50) rfl rfl)⟩, (Ws_at (i := 7) (k := 31) rfl rfl), (Ws_at (i := 1) (k := 51) rfl rfl), _, rfl, (Ws_at (i := 7) (k := 32) rfl rfl)⟩
theorem sI_TaggedFormat_38 : a_IS R_TaggedFormat 38 M_TaggedFormat_writeVarint 2 := ⟨⟨⟨by decide, by decide⟩, by decide +kernel, by decide, (Ws_at (i := 4) (k := 12) rfl rfl), (Ws_at (i := 2) (k := 8) rfl rfl)⟩, (Ws_at (i := 7) (k := 33) rfl rfl), (Ws_at (i := 2) (k := 9) rfl rfl)⟩
theorem sI_TaggedFormat_42 : a_IV R_TaggedFormat 42 M_Schema_kindOf 1 5 := ⟨⟨⟨by decide, by decide⟩, by decide +kernel, by decide, (Ws_at (i := 4) (k := 10) rfl rfl), (Ws_at (i := 1) (k := 46) rfl rfl)⟩, (Ws_at (i := 7) (k := 34) rfl rfl), (Ws_at (i := 1) (k := 47) rfl rfl), _, rfl, (Ws_at (i := 6) (k := 47) rfl rfl)⟩
theorem sI_TaggedFormat_45 : a_IS R_TaggedFormat 45 M_TaggedFormat_writeInt 3 := ⟨⟨⟨by decide, by decide⟩, by decide +kernel, by decide, (Ws_at (i := 4) (k := 12) rfl rfl), (Ws_at (i := 2) (k := 6) rfl rfl)⟩, (Ws_at (i := 7) (k := 35) rfl rfl), (Ws_at (i := 2) (k := 7) rfl rfl)⟩
theorem sI_TaggedFormat_49 : a_IS R_TaggedFormat 49 M_Bytes_swapped 1 := ⟨⟨⟨by decide, by decide⟩, by decide +kernel, by decide, (Ws_at (i := 4) (k := 5) rfl rfl), (Ws_at (i := 0) (k := 52) rfl rfl)⟩, (Ws_at (i := 7) (k := 36) rfl rfl), (Ws_at (i := 0) (k := 53) rfl rfl)⟩
theorem sI_TaggedFormat_54 : a_IV R_TaggedFormat 54 M_Bytes_appendWord 1 1 := ⟨⟨⟨by decide, by decide⟩, by decide +kernel, by decide, (Ws_at (i := 4) (k := 5) rfl rfl), (Ws_at (i := 0) (k := 42) rfl rfl)⟩, (Ws_at (i := 7) (k := 37) rfl rfl), (Ws_at (i := 0) (k := 43) rfl rfl), _, rfl, (Ws_at (i := 5) (k := 61) rfl rfl)⟩
theorem sI_TaggedFormat_68 : a_IV R_TaggedFormat 68 M_Bytes_append 1 1 := ⟨⟨⟨by decide, by decide⟩, by decide +kernel, by decide, (Ws_at (i := 4) (k := 5) rfl rfl), (Ws_at (i := 0) (k := 40) rfl rfl)⟩, (Ws_at (i := 7) (k := 42) rfl rfl), (Ws_at (i := 0) (k := 41) rfl rfl), _, rfl, (Ws_at (i := 5) (k := 20) rfl rfl)⟩
theorem sI_TaggedFormat_71 : a_IV R_TaggedFormat 71 M_Value_clear 0 8 := ⟨⟨⟨by decide, by decide⟩, by decide +kernel, by decide, (Ws_at (i := 4) (k := 13) rfl rfl), (Ws_at (i := 2) (k := 20) rfl rfl)⟩, (Ws_at (i := 7) (k := 43) rfl rfl), (Ws_at (i := 2) (k := 21) rfl rfl), _, rfl, (Ws_at (i := 4) (k := 62) rfl rfl)⟩
theorem sI_TaggedFormat_75 : a_IV R_TaggedFormat 75 M_Reader_left 0 4 := ⟨⟨⟨by decide, by decide⟩, by decide +kernel, by decide, (Ws_at (i := 4) (k := 9) rfl rfl), (Ws_at (i := 1) (k := 30) rfl rfl)⟩, (Ws_at (i := 7) (k := 44) rfl rfl), (Ws_at (i := 1) (k := 31) rfl rfl), _, rfl, (Ws_at (i := 7) (k := 45) rfl rfl)⟩
theorem sI_TaggedFormat_79 : a_IV R_TaggedFormat 79 M_TaggedFormat_readEntry 2 7 := ⟨⟨⟨by decide, by decide⟩, by decide +kernel, by decide, (Ws_at (i := 4) (k := 12) rfl rfl), (Ws_at (i := 2) (k := 12) rfl rfl)⟩, (Ws_at (i := 7) (k := 46) rfl rfl), (Ws_at (i := 2) (k := 13) rfl rfl), _, rfl, (Ws_at (i := 7) (k := 47) rfl rfl)⟩
theorem sI_TaggedFormat_83 : a_IV R_TaggedFormat 83 M_Reader_takeVarint 0 4 := ⟨⟨⟨by decide, by decide⟩, by decide +kernel, by decide, (Ws_at (i := 4) (k := 9) rfl rfl), (Ws_at (i := 1) (k := 34) rfl rfl)⟩, (Ws_at (i := 7) (k := 48) rfl rfl), (Ws_at (i := 1) (k := 35) rfl rfl), _, rfl, (Ws_at (i := 7) (k := 49) rfl rfl)⟩
theorem sF_TaggedFormat_87_Reader : a_F R_TaggedFormat 87 4 2 false (.boolean) := ⟨R_Reader, F_Reader, 3, R_Reader, t_Reader, rfl, Wl_Reader_in, by decide, t_Reader_ok, n_Reader, rfl, rfl, Or.inl rfl, Or.inr ⟨R_OW, (List.mem_of_getElem? (i := 14) rfl)⟩⟩
theorem sI_TaggedFormat_95 : a_IS R_TaggedFormat 95 M_TaggedFormat_takePayload 2 := ⟨⟨⟨by decide, by decide⟩, by decide +kernel, by decide, (Ws_at (i := 4) (k := 12) rfl rfl), (Ws_at (i := 2) (k := 14) rfl rfl)⟩, (Ws_at (i := 7) (k := 52) rfl rfl), (Ws_at (i := 2) (k := 15) rfl rfl)⟩
theorem sI_TaggedFormat_99 : a_IV R_TaggedFormat 99 M_Schema_indexOf 1 5 := ⟨⟨⟨by decide, by decide⟩, by decide +kernel, by decide, (Ws_at (i := 4) (k := 10) rfl rfl), (Ws_at (i := 1) (k := 42) rfl rfl)⟩, (Ws_at (i := 7) (k := 53) rfl rfl), (Ws_at (i := 1) (k := 43) rfl rfl), _, rfl, (Ws_at (i := 6) (k := 44) rfl rfl)⟩
theorem sI_TaggedFormat_102 : a_IS R_TaggedFormat 102 M_TaggedFormat_intOfPayload 2 := ⟨⟨⟨by decide, by decide⟩, by decide +kernel, by decide, (Ws_at (i := 4) (k := 12) rfl rfl), (Ws_at (i := 2) (k := 16) rfl rfl)⟩, (Ws_at (i := 7) (k := 54) rfl rfl), (Ws_at (i := 2) (k := 17) rfl rfl)⟩
theorem sI_TaggedFormat_106 : a_IV R_TaggedFormat 106 M_Value_store 2 8 := ⟨⟨⟨by decide, by decide⟩, by decide +kernel, by decide, (Ws_at (i := 4) (k := 13) rfl rfl), (Ws_at (i := 2) (k := 22) rfl rfl)⟩, (Ws_at (i := 7) (k := 55) rfl rfl), (Ws_at (i := 2) (k := 23) rfl rfl), _, rfl, (Ws_at (i := 4) (k := 60) rfl rfl)⟩
theorem sI_TaggedFormat_110 : a_IV R_TaggedFormat 110 M_Reader_takeWord 0 4 := ⟨⟨⟨by decide, by decide⟩, by decide +kernel, by decide, (Ws_at (i := 4) (k := 9) rfl rfl), (Ws_at (i := 1) (k := 32) rfl rfl)⟩, (Ws_at (i := 7) (k := 56) rfl rfl), (Ws_at (i := 1) (k := 33) rfl rfl), _, rfl, (Ws_at (i := 7) (k := 57) rfl rfl)⟩
theorem sI_TaggedFormat_113 : a_IV R_TaggedFormat 113 M_Reader_skip 1 4 := ⟨⟨⟨by decide, by decide⟩, by decide +kernel, by decide, (Ws_at (i := 4) (k := 9) rfl rfl), (Ws_at (i := 1) (k := 36) rfl rfl)⟩, (Ws_at (i := 7) (k := 58) rfl rfl), (Ws_at (i := 1) (k := 37) rfl rfl), _, rfl, (Ws_at (i := 7) (k := 59) rfl rfl)⟩
theorem sI_Value_1 : Cond.methodLink R_Value 1 Lib.objectInit ∈ Ws ∧ Cond.instanceMethod Lib.objectInit ∈ Ws ∧ Cond.code Lib.objectInit ⟨#[0xb1]⟩ 1 none ∈ Ws := ⟨(Ws_at (i := 7) (k := 60) rfl rfl), (Ws_at (i := 4) (k := 29) rfl rfl), (Ws_at (i := 4) (k := 30) rfl rfl)⟩
theorem sF_Value_11_Value : a_F R_Value 11 8 1 true (.array (.int)) := ⟨R_Value, F_Value, 3, R_Value, t_Value, rfl, Wl_Value_in, by decide, t_Value_ok, n_Value, rfl, rfl, Or.inl rfl, Or.inl (Ws_at (i := 7) (k := 61) rfl rfl)⟩
theorem sFF_Value_11_Value : a_FF R_Value 11 8 1 (.array (.int)) := ⟨R_Value, F_Value, 3, t_Value, rfl, Wl_Value_in, by decide, t_Value_ok, n_Value, rfl, rfl, rfl, (Ws_at (i := 7) (k := 61) rfl rfl)⟩
theorem sF_Value_15_Value : a_F R_Value 15 8 2 true (.array (.int)) := ⟨R_Value, F_Value, 3, R_Value, t_Value, rfl, Wl_Value_in, by decide, t_Value_ok, n_Value, rfl, rfl, Or.inl rfl, Or.inl (Ws_at (i := 7) (k := 62) rfl rfl)⟩
theorem sFF_Value_15_Value : a_FF R_Value 15 8 2 (.array (.int)) := ⟨R_Value, F_Value, 3, t_Value, rfl, Wl_Value_in, by decide, t_Value_ok, n_Value, rfl, rfl, rfl, (Ws_at (i := 7) (k := 62) rfl rfl)⟩
theorem sF_Value_18_Value : a_F R_Value 18 8 0 true (.object "OnceWire$Schema") := ⟨R_Value, F_Value, 3, R_Value, t_Value, rfl, Wl_Value_in, by decide, t_Value_ok, n_Value, rfl, rfl, Or.inl rfl, Or.inl (Ws_at (i := 7) (k := 63) rfl rfl)⟩
theorem sFF_Value_18_Value : a_FF R_Value 18 8 0 (.object "OnceWire$Schema") := ⟨R_Value, F_Value, 3, t_Value, rfl, Wl_Value_in, by decide, t_Value_ok, n_Value, rfl, rfl, rfl, (Ws_at (i := 7) (k := 63) rfl rfl)⟩
theorem sI_Value_22 : a_IV R_Value 22 M_Schema_has 1 5 := ⟨⟨⟨by decide, by decide⟩, by decide +kernel, by decide, (Ws_at (i := 4) (k := 10) rfl rfl), (Ws_at (i := 1) (k := 44) rfl rfl)⟩, (Ws_at (i := 8) (k := 0) rfl rfl), (Ws_at (i := 1) (k := 45) rfl rfl), _, rfl, (Ws_at (i := 4) (k := 56) rfl rfl)⟩
theorem sF_Value_26_Schema : a_F R_Value 26 5 3 true (.array (.boolean)) := ⟨R_Schema, F_Schema, 5, R_Schema, t_Schema, rfl, Wl_Schema_in, by decide, t_Schema_ok, n_Schema, rfl, rfl, Or.inl rfl, Or.inr ⟨R_OW, (List.mem_of_getElem? (i := 15) rfl)⟩⟩
theorem sI_Value_30 : a_IV R_Value 30 M_Value_countOf 1 8 := ⟨⟨⟨by decide, by decide⟩, by decide +kernel, by decide, (Ws_at (i := 4) (k := 13) rfl rfl), (Ws_at (i := 2) (k := 24) rfl rfl)⟩, (Ws_at (i := 8) (k := 1) rfl rfl), (Ws_at (i := 2) (k := 25) rfl rfl), _, rfl, (Ws_at (i := 7) (k := 26) rfl rfl)⟩
theorem sF_Value_34_Schema : a_F R_Value 34 5 4 false (.int) := ⟨R_Schema, F_Schema, 5, R_Schema, t_Schema, rfl, Wl_Schema_in, by decide, t_Schema_ok, n_Schema, rfl, rfl, Or.inl rfl, Or.inr ⟨R_OW, (List.mem_of_getElem? (i := 16) rfl)⟩⟩
theorem sI_Value_38 : a_IV R_Value 38 M_Schema_isRepeated 1 5 := ⟨⟨⟨by decide, by decide⟩, by decide +kernel, by decide, (Ws_at (i := 4) (k := 10) rfl rfl), (Ws_at (i := 1) (k := 48) rfl rfl)⟩, (Ws_at (i := 8) (k := 2) rfl rfl), (Ws_at (i := 1) (k := 49) rfl rfl), _, rfl, (Ws_at (i := 7) (k := 30) rfl rfl)⟩
theorem sI_Value_41 : a_IV R_Value 41 M_Value_intOf 2 8 := ⟨⟨⟨by decide, by decide⟩, by decide +kernel, by decide, (Ws_at (i := 4) (k := 13) rfl rfl), (Ws_at (i := 2) (k := 26) rfl rfl)⟩, (Ws_at (i := 8) (k := 3) rfl rfl), (Ws_at (i := 2) (k := 27) rfl rfl), _, rfl, (Ws_at (i := 7) (k := 28) rfl rfl)⟩
theorem sI_WordFormat_1 : a_II R_WordFormat 1 M_Format_init 1 := ⟨⟨⟨by decide, by decide⟩, by decide +kernel, by decide, (Ws_at (i := 4) (k := 15) rfl rfl), (Ws_at (i := 2) (k := 36) rfl rfl)⟩, (Ws_at (i := 8) (k := 4) rfl rfl), (Ws_at (i := 2) (k := 37) rfl rfl), rfl, rfl⟩
theorem sF_WordFormat_7_WordFormat : a_F R_WordFormat 7 9 0 true (.object "OnceWire$Schema") := ⟨R_WordFormat, F_WordFormat, 1, R_WordFormat, t_WordFormat, rfl, Wl_WordFormat_in, by decide, t_WordFormat_ok, n_WordFormat, rfl, rfl, Or.inr (Ws_at (i := 8) (k := 6) rfl rfl), Or.inl (Ws_at (i := 8) (k := 5) rfl rfl)⟩
theorem sF_WordFormat_13_Schema : a_F R_WordFormat 13 5 4 false (.int) := ⟨R_Schema, F_Schema, 5, R_Schema, t_Schema, rfl, Wl_Schema_in, by decide, t_Schema_ok, n_Schema, rfl, rfl, Or.inl rfl, Or.inr ⟨R_OW, (List.mem_of_getElem? (i := 17) rfl)⟩⟩
theorem sI_WordFormat_19 : a_IV R_WordFormat 19 M_Value_countOf 1 8 := ⟨⟨⟨by decide, by decide⟩, by decide +kernel, by decide, (Ws_at (i := 4) (k := 13) rfl rfl), (Ws_at (i := 2) (k := 24) rfl rfl)⟩, (Ws_at (i := 8) (k := 7) rfl rfl), (Ws_at (i := 2) (k := 25) rfl rfl), _, rfl, (Ws_at (i := 7) (k := 26) rfl rfl)⟩
theorem sI_WordFormat_25 : a_IV R_WordFormat 25 M_Schema_isRepeated 1 5 := ⟨⟨⟨by decide, by decide⟩, by decide +kernel, by decide, (Ws_at (i := 4) (k := 10) rfl rfl), (Ws_at (i := 1) (k := 48) rfl rfl)⟩, (Ws_at (i := 8) (k := 8) rfl rfl), (Ws_at (i := 1) (k := 49) rfl rfl), _, rfl, (Ws_at (i := 7) (k := 30) rfl rfl)⟩
theorem sI_WordFormat_29 : a_IV R_WordFormat 29 M_Bytes_appendWord 1 1 := ⟨⟨⟨by decide, by decide⟩, by decide +kernel, by decide, (Ws_at (i := 4) (k := 5) rfl rfl), (Ws_at (i := 0) (k := 42) rfl rfl)⟩, (Ws_at (i := 8) (k := 9) rfl rfl), (Ws_at (i := 0) (k := 43) rfl rfl), _, rfl, (Ws_at (i := 5) (k := 61) rfl rfl)⟩
theorem sI_WordFormat_35 : a_IV R_WordFormat 35 M_Value_intOf 2 8 := ⟨⟨⟨by decide, by decide⟩, by decide +kernel, by decide, (Ws_at (i := 4) (k := 13) rfl rfl), (Ws_at (i := 2) (k := 26) rfl rfl)⟩, (Ws_at (i := 8) (k := 10) rfl rfl), (Ws_at (i := 2) (k := 27) rfl rfl), _, rfl, (Ws_at (i := 7) (k := 28) rfl rfl)⟩
theorem sI_WordFormat_39 : a_IV R_WordFormat 39 M_Value_clear 0 8 := ⟨⟨⟨by decide, by decide⟩, by decide +kernel, by decide, (Ws_at (i := 4) (k := 13) rfl rfl), (Ws_at (i := 2) (k := 20) rfl rfl)⟩, (Ws_at (i := 8) (k := 11) rfl rfl), (Ws_at (i := 2) (k := 21) rfl rfl), _, rfl, (Ws_at (i := 4) (k := 62) rfl rfl)⟩
theorem sI_WordFormat_43 : a_IV R_WordFormat 43 M_Reader_takeWord 0 4 := ⟨⟨⟨by decide, by decide⟩, by decide +kernel, by decide, (Ws_at (i := 4) (k := 9) rfl rfl), (Ws_at (i := 1) (k := 32) rfl rfl)⟩, (Ws_at (i := 8) (k := 12) rfl rfl), (Ws_at (i := 1) (k := 33) rfl rfl), _, rfl, (Ws_at (i := 7) (k := 57) rfl rfl)⟩
theorem sF_WordFormat_49_Reader : a_F R_WordFormat 49 4 2 false (.boolean) := ⟨R_Reader, F_Reader, 3, R_Reader, t_Reader, rfl, Wl_Reader_in, by decide, t_Reader_ok, n_Reader, rfl, rfl, Or.inl rfl, Or.inr ⟨R_OW, (List.mem_of_getElem? (i := 18) rfl)⟩⟩
theorem sI_WordFormat_53 : a_IV R_WordFormat 53 M_Schema_allows 2 5 := ⟨⟨⟨by decide, by decide⟩, by decide +kernel, by decide, (Ws_at (i := 4) (k := 10) rfl rfl), (Ws_at (i := 1) (k := 52) rfl rfl)⟩, (Ws_at (i := 8) (k := 13) rfl rfl), (Ws_at (i := 1) (k := 53) rfl rfl), _, rfl, (Ws_at (i := 4) (k := 58) rfl rfl)⟩
theorem sI_WordFormat_57 : a_IV R_WordFormat 57 M_Value_store 2 8 := ⟨⟨⟨by decide, by decide⟩, by decide +kernel, by decide, (Ws_at (i := 4) (k := 13) rfl rfl), (Ws_at (i := 2) (k := 22) rfl rfl)⟩, (Ws_at (i := 8) (k := 14) rfl rfl), (Ws_at (i := 2) (k := 23) rfl rfl), _, rfl, (Ws_at (i := 4) (k := 60) rfl rfl)⟩
theorem sI_WordFormat_60 : a_IV R_WordFormat 60 M_Reader_left 0 4 := ⟨⟨⟨by decide, by decide⟩, by decide +kernel, by decide, (Ws_at (i := 4) (k := 9) rfl rfl), (Ws_at (i := 1) (k := 30) rfl rfl)⟩, (Ws_at (i := 8) (k := 15) rfl rfl), (Ws_at (i := 1) (k := 31) rfl rfl), _, rfl, (Ws_at (i := 7) (k := 45) rfl rfl)⟩
theorem sI_Format_1 : Cond.methodLink R_Format 1 Lib.objectInit ∈ Ws ∧ Cond.instanceMethod Lib.objectInit ∈ Ws ∧ Cond.code Lib.objectInit ⟨#[0xb1]⟩ 1 none ∈ Ws := ⟨(Ws_at (i := 8) (k := 16) rfl rfl), (Ws_at (i := 4) (k := 29) rfl rfl), (Ws_at (i := 4) (k := 30) rfl rfl)⟩
theorem sF_Format_7_TaggedFormat : a_F R_Format 7 7 0 true (.object "OnceWire$Schema") := ⟨R_TaggedFormat, F_TaggedFormat, 1, R_Format, t_TaggedFormat, rfl, Wl_TaggedFormat_in, by decide, t_TaggedFormat_ok, n_TaggedFormat, rfl, rfl, Or.inl rfl, Or.inl (Ws_at (i := 8) (k := 17) rfl rfl)⟩
theorem sFF_Format_7_TaggedFormat : a_FF R_Format 7 7 0 (.object "OnceWire$Schema") := ⟨R_TaggedFormat, F_TaggedFormat, 1, t_TaggedFormat, rfl, Wl_TaggedFormat_in, by decide, t_TaggedFormat_ok, n_TaggedFormat, rfl, rfl, rfl, (Ws_at (i := 8) (k := 17) rfl rfl)⟩
theorem sF_Format_7_WordFormat : a_F R_Format 7 9 0 true (.object "OnceWire$Schema") := ⟨R_WordFormat, F_WordFormat, 1, R_Format, t_WordFormat, rfl, Wl_WordFormat_in, by decide, t_WordFormat_ok, n_WordFormat, rfl, rfl, Or.inl rfl, Or.inl (Ws_at (i := 8) (k := 17) rfl rfl)⟩
theorem sFF_Format_7_WordFormat : a_FF R_Format 7 9 0 (.object "OnceWire$Schema") := ⟨R_WordFormat, F_WordFormat, 1, t_WordFormat, rfl, Wl_WordFormat_in, by decide, t_WordFormat_ok, n_WordFormat, rfl, rfl, rfl, (Ws_at (i := 8) (k := 17) rfl rfl)⟩
theorem sI_Md_1 : Cond.methodLink R_Md 1 Lib.objectInit ∈ Ws ∧ Cond.instanceMethod Lib.objectInit ∈ Ws ∧ Cond.code Lib.objectInit ⟨#[0xb1]⟩ 1 none ∈ Ws := ⟨(Ws_at (i := 8) (k := 18) rfl rfl), (Ws_at (i := 4) (k := 29) rfl rfl), (Ws_at (i := 4) (k := 30) rfl rfl)⟩
theorem sF_Md_7_Md : a_F R_Md 7 10 2 false (.array (.int)) := ⟨R_Md, F_Md, 32, R_Md, t_Md, rfl, Wl_Md_in, by decide, t_Md_ok, n_Md, rfl, rfl, Or.inl rfl, Or.inl (Ws_at (i := 8) (k := 19) rfl rfl)⟩
theorem sF_Md_13_Md : a_F R_Md 13 10 3 false (.array (.int)) := ⟨R_Md, F_Md, 32, R_Md, t_Md, rfl, Wl_Md_in, by decide, t_Md_ok, n_Md, rfl, rfl, Or.inl rfl, Or.inl (Ws_at (i := 8) (k := 20) rfl rfl)⟩
theorem sF_Md_16_Md : a_F R_Md 16 10 4 false (.array (.boolean)) := ⟨R_Md, F_Md, 32, R_Md, t_Md, rfl, Wl_Md_in, by decide, t_Md_ok, n_Md, rfl, rfl, Or.inl rfl, Or.inl (Ws_at (i := 8) (k := 21) rfl rfl)⟩
theorem sF_Md_20_Md : a_F R_Md 20 10 5 false (.array (.int)) := ⟨R_Md, F_Md, 32, R_Md, t_Md, rfl, Wl_Md_in, by decide, t_Md_ok, n_Md, rfl, rfl, Or.inl rfl, Or.inl (Ws_at (i := 8) (k := 22) rfl rfl)⟩
theorem sF_Md_23_Md : a_F R_Md 23 10 6 false (.array (.int)) := ⟨R_Md, F_Md, 32, R_Md, t_Md, rfl, Wl_Md_in, by decide, t_Md_ok, n_Md, rfl, rfl, Or.inl rfl, Or.inl (Ws_at (i := 8) (k := 23) rfl rfl)⟩
theorem sF_Md_26_Md : a_F R_Md 26 10 7 false (.array (.int)) := ⟨R_Md, F_Md, 32, R_Md, t_Md, rfl, Wl_Md_in, by decide, t_Md_ok, n_Md, rfl, rfl, Or.inl rfl, Or.inl (Ws_at (i := 8) (k := 24) rfl rfl)⟩
theorem sF_Md_29_Md : a_F R_Md 29 10 9 false (.array (.int)) := ⟨R_Md, F_Md, 32, R_Md, t_Md, rfl, Wl_Md_in, by decide, t_Md_ok, n_Md, rfl, rfl, Or.inl rfl, Or.inl (Ws_at (i := 8) (k := 25) rfl rfl)⟩
theorem sF_Md_32_Md : a_F R_Md 32 10 14 false (.array (.int)) := ⟨R_Md, F_Md, 32, R_Md, t_Md, rfl, Wl_Md_in, by decide, t_Md_ok, n_Md, rfl, rfl, Or.inl rfl, Or.inl (Ws_at (i := 8) (k := 26) rfl rfl)⟩
theorem sF_Md_35_Md : a_F R_Md 35 10 15 false (.array (.int)) := ⟨R_Md, F_Md, 32, R_Md, t_Md, rfl, Wl_Md_in, by decide, t_Md_ok, n_Md, rfl, rfl, Or.inl rfl, Or.inl (Ws_at (i := 8) (k := 27) rfl rfl)⟩
theorem sF_Md_38_Md : a_F R_Md 38 10 16 false (.array (.boolean)) := ⟨R_Md, F_Md, 32, R_Md, t_Md, rfl, Wl_Md_in, by decide, t_Md_ok, n_Md, rfl, rfl, Or.inl rfl, Or.inl (Ws_at (i := 8) (k := 28) rfl rfl)⟩
theorem sF_Md_41_Md : a_F R_Md 41 10 17 false (.array (.int)) := ⟨R_Md, F_Md, 32, R_Md, t_Md, rfl, Wl_Md_in, by decide, t_Md_ok, n_Md, rfl, rfl, Or.inl rfl, Or.inl (Ws_at (i := 8) (k := 29) rfl rfl)⟩
theorem sF_Md_44_Md : a_F R_Md 44 10 22 false (.array (.int)) := ⟨R_Md, F_Md, 32, R_Md, t_Md, rfl, Wl_Md_in, by decide, t_Md_ok, n_Md, rfl, rfl, Or.inl rfl, Or.inl (Ws_at (i := 8) (k := 30) rfl rfl)⟩
theorem sF_Md_47_Md : a_F R_Md 47 10 23 false (.array (.int)) := ⟨R_Md, F_Md, 32, R_Md, t_Md, rfl, Wl_Md_in, by decide, t_Md_ok, n_Md, rfl, rfl, Or.inl rfl, Or.inl (Ws_at (i := 8) (k := 31) rfl rfl)⟩
theorem sF_Md_50_Md : a_F R_Md 50 10 24 false (.array (.int)) := ⟨R_Md, F_Md, 32, R_Md, t_Md, rfl, Wl_Md_in, by decide, t_Md_ok, n_Md, rfl, rfl, Or.inl rfl, Or.inl (Ws_at (i := 8) (k := 32) rfl rfl)⟩
theorem sF_Md_53_Md : a_F R_Md 53 10 26 false (.array (.int)) := ⟨R_Md, F_Md, 32, R_Md, t_Md, rfl, Wl_Md_in, by decide, t_Md_ok, n_Md, rfl, rfl, Or.inl rfl, Or.inl (Ws_at (i := 8) (k := 33) rfl rfl)⟩
theorem sF_Md_56_Md : a_F R_Md 56 10 27 false (.array (.int)) := ⟨R_Md, F_Md, 32, R_Md, t_Md, rfl, Wl_Md_in, by decide, t_Md_ok, n_Md, rfl, rfl, Or.inl rfl, Or.inl (Ws_at (i := 8) (k := 34) rfl rfl)⟩
theorem sF_Md_59_Md : a_F R_Md 59 10 28 false (.array (.int)) := ⟨R_Md, F_Md, 32, R_Md, t_Md, rfl, Wl_Md_in, by decide, t_Md_ok, n_Md, rfl, rfl, Or.inl rfl, Or.inl (Ws_at (i := 8) (k := 35) rfl rfl)⟩
theorem sF_Md_62_Md : a_F R_Md 62 10 29 false (.array (.int)) := ⟨R_Md, F_Md, 32, R_Md, t_Md, rfl, Wl_Md_in, by decide, t_Md_ok, n_Md, rfl, rfl, Or.inl rfl, Or.inl (Ws_at (i := 8) (k := 36) rfl rfl)⟩
theorem sF_Md_65_Md : a_F R_Md 65 10 30 false (.array (.int)) := ⟨R_Md, F_Md, 32, R_Md, t_Md, rfl, Wl_Md_in, by decide, t_Md_ok, n_Md, rfl, rfl, Or.inl rfl, Or.inl (Ws_at (i := 8) (k := 37) rfl rfl)⟩
theorem sF_Md_68_Md : a_F R_Md 68 10 31 false (.array (.int)) := ⟨R_Md, F_Md, 32, R_Md, t_Md, rfl, Wl_Md_in, by decide, t_Md_ok, n_Md, rfl, rfl, Or.inl rfl, Or.inl (Ws_at (i := 8) (k := 38) rfl rfl)⟩
theorem sF_Md_71_Md : a_F R_Md 71 10 0 false (.boolean) := ⟨R_Md, F_Md, 32, R_Md, t_Md, rfl, Wl_Md_in, by decide, t_Md_ok, n_Md, rfl, rfl, Or.inl rfl, Or.inl (Ws_at (i := 8) (k := 39) rfl rfl)⟩
theorem sF_Md_75_Md : a_F R_Md 75 10 1 false (.int) := ⟨R_Md, F_Md, 32, R_Md, t_Md, rfl, Wl_Md_in, by decide, t_Md_ok, n_Md, rfl, rfl, Or.inl rfl, Or.inl (Ws_at (i := 8) (k := 40) rfl rfl)⟩
theorem sI_Md_79 : a_IV R_Md 79 M_Md_empty 1 10 := ⟨⟨⟨by decide, by decide⟩, by decide +kernel, by decide, (Ws_at (i := 4) (k := 16) rfl rfl), (Ws_at (i := 2) (k := 42) rfl rfl)⟩, (Ws_at (i := 8) (k := 41) rfl rfl), (Ws_at (i := 2) (k := 43) rfl rfl), _, rfl, (Ws_at (i := 8) (k := 42) rfl rfl)⟩
theorem sI_Md_83 : a_IV R_Md 83 M_Md_give 2 10 := ⟨⟨⟨by decide, by decide⟩, by decide +kernel, by decide, (Ws_at (i := 4) (k := 16) rfl rfl), (Ws_at (i := 2) (k := 44) rfl rfl)⟩, (Ws_at (i := 8) (k := 43) rfl rfl), (Ws_at (i := 2) (k := 45) rfl rfl), _, rfl, (Ws_at (i := 8) (k := 44) rfl rfl)⟩
theorem sF_Md_87_Md : a_F R_Md 87 10 8 false (.int) := ⟨R_Md, F_Md, 32, R_Md, t_Md, rfl, Wl_Md_in, by decide, t_Md_ok, n_Md, rfl, rfl, Or.inl rfl, Or.inl (Ws_at (i := 8) (k := 45) rfl rfl)⟩
theorem sI_Md_90 : a_IV R_Md 90 M_Md_write 1 10 := ⟨⟨⟨by decide, by decide⟩, by decide +kernel, by decide, (Ws_at (i := 4) (k := 16) rfl rfl), (Ws_at (i := 2) (k := 52) rfl rfl)⟩, (Ws_at (i := 8) (k := 46) rfl rfl), (Ws_at (i := 2) (k := 53) rfl rfl), _, rfl, (Ws_at (i := 8) (k := 47) rfl rfl)⟩
theorem sI_Md_99 : a_IV R_Md 99 M_Md_writeVarint 1 10 := ⟨⟨⟨by decide, by decide⟩, by decide +kernel, by decide, (Ws_at (i := 4) (k := 16) rfl rfl), (Ws_at (i := 2) (k := 56) rfl rfl)⟩, (Ws_at (i := 8) (k := 51) rfl rfl), (Ws_at (i := 2) (k := 57) rfl rfl), _, rfl, (Ws_at (i := 8) (k := 52) rfl rfl)⟩
theorem sI_Md_109 : a_IV R_Md 109 M_Md_writeWord 1 10 := ⟨⟨⟨by decide, by decide⟩, by decide +kernel, by decide, (Ws_at (i := 4) (k := 16) rfl rfl), (Ws_at (i := 2) (k := 54) rfl rfl)⟩, (Ws_at (i := 8) (k := 56) rfl rfl), (Ws_at (i := 2) (k := 55) rfl rfl), _, rfl, (Ws_at (i := 8) (k := 57) rfl rfl)⟩
theorem sI_Md_112 : a_IV R_Md 112 M_Md_writeTagged 2 10 := ⟨⟨⟨by decide, by decide⟩, by decide +kernel, by decide, (Ws_at (i := 4) (k := 16) rfl rfl), (Ws_at (i := 2) (k := 58) rfl rfl)⟩, (Ws_at (i := 8) (k := 58) rfl rfl), (Ws_at (i := 2) (k := 59) rfl rfl), _, rfl, (Ws_at (i := 8) (k := 59) rfl rfl)⟩
theorem sF_Md_116_Md : a_F R_Md 116 10 10 false (.int) := ⟨R_Md, F_Md, 32, R_Md, t_Md, rfl, Wl_Md_in, by decide, t_Md_ok, n_Md, rfl, rfl, Or.inl rfl, Or.inl (Ws_at (i := 8) (k := 60) rfl rfl)⟩
theorem sF_Md_119_Md : a_F R_Md 119 10 13 false (.int) := ⟨R_Md, F_Md, 32, R_Md, t_Md, rfl, Wl_Md_in, by decide, t_Md_ok, n_Md, rfl, rfl, Or.inl rfl, Or.inl (Ws_at (i := 8) (k := 61) rfl rfl)⟩
theorem sI_Md_122 : a_IV R_Md 122 M_Md_isMessage 1 10 := ⟨⟨⟨by decide, by decide⟩, by decide +kernel, by decide, (Ws_at (i := 4) (k := 16) rfl rfl), (Ws_at (i := 3) (k := 2) rfl rfl)⟩, (Ws_at (i := 8) (k := 62) rfl rfl), (Ws_at (i := 3) (k := 3) rfl rfl), _, rfl, (Ws_at (i := 8) (k := 63) rfl rfl)⟩
theorem sI_Md_126 : a_IV R_Md 126 M_Md_load 1 10 := ⟨⟨⟨by decide, by decide⟩, by decide +kernel, by decide, (Ws_at (i := 4) (k := 16) rfl rfl), (Ws_at (i := 3) (k := 4) rfl rfl)⟩, (Ws_at (i := 9) (k := 0) rfl rfl), (Ws_at (i := 3) (k := 5) rfl rfl), _, rfl, (Ws_at (i := 9) (k := 1) rfl rfl)⟩
theorem sI_Md_129 : a_IV R_Md 129 M_Md_send 1 10 := ⟨⟨⟨by decide, by decide⟩, by decide +kernel, by decide, (Ws_at (i := 4) (k := 16) rfl rfl), (Ws_at (i := 3) (k := 0) rfl rfl)⟩, (Ws_at (i := 9) (k := 2) rfl rfl), (Ws_at (i := 3) (k := 1) rfl rfl), _, rfl, (Ws_at (i := 9) (k := 3) rfl rfl)⟩
theorem sF_Md_134_Md : a_F R_Md 134 10 11 false (.int) := ⟨R_Md, F_Md, 32, R_Md, t_Md, rfl, Wl_Md_in, by decide, t_Md_ok, n_Md, rfl, rfl, Or.inl rfl, Or.inl (Ws_at (i := 9) (k := 5) rfl rfl)⟩
theorem sF_Md_137_Md : a_F R_Md 137 10 12 false (.long) := ⟨R_Md, F_Md, 32, R_Md, t_Md, rfl, Wl_Md_in, by decide, t_Md_ok, n_Md, rfl, rfl, Or.inl rfl, Or.inl (Ws_at (i := 9) (k := 6) rfl rfl)⟩
theorem sI_Md_143 : a_IV R_Md 143 M_Md_readVarint 0 10 := ⟨⟨⟨by decide, by decide⟩, by decide +kernel, by decide, (Ws_at (i := 4) (k := 16) rfl rfl), (Ws_at (i := 3) (k := 14) rfl rfl)⟩, (Ws_at (i := 9) (k := 8) rfl rfl), (Ws_at (i := 3) (k := 15) rfl rfl), _, rfl, (Ws_at (i := 9) (k := 9) rfl rfl)⟩
theorem sI_Md_147 : a_IV R_Md 147 M_Md_fieldOf 2 10 := ⟨⟨⟨by decide, by decide⟩, by decide +kernel, by decide, (Ws_at (i := 4) (k := 16) rfl rfl), (Ws_at (i := 3) (k := 16) rfl rfl)⟩, (Ws_at (i := 9) (k := 10) rfl rfl), (Ws_at (i := 3) (k := 17) rfl rfl), _, rfl, (Ws_at (i := 9) (k := 11) rfl rfl)⟩
theorem sI_Md_151 : a_IV R_Md 151 M_Md_meant 1 10 := ⟨⟨⟨by decide, by decide⟩, by decide +kernel, by decide, (Ws_at (i := 4) (k := 16) rfl rfl), (Ws_at (i := 3) (k := 18) rfl rfl)⟩, (Ws_at (i := 9) (k := 12) rfl rfl), (Ws_at (i := 3) (k := 19) rfl rfl), _, rfl, (Ws_at (i := 9) (k := 13) rfl rfl)⟩
theorem sI_Md_157 : a_IV R_Md 157 M_Md_readTagged 0 10 := ⟨⟨⟨by decide, by decide⟩, by decide +kernel, by decide, (Ws_at (i := 4) (k := 16) rfl rfl), (Ws_at (i := 3) (k := 20) rfl rfl)⟩, (Ws_at (i := 9) (k := 15) rfl rfl), (Ws_at (i := 3) (k := 21) rfl rfl), _, rfl, (Ws_at (i := 9) (k := 16) rfl rfl)⟩
theorem sI_Md_160 : a_IV R_Md 160 M_Md_word 1 10 := ⟨⟨⟨by decide, by decide⟩, by decide +kernel, by decide, (Ws_at (i := 4) (k := 16) rfl rfl), (Ws_at (i := 3) (k := 12) rfl rfl)⟩, (Ws_at (i := 9) (k := 17) rfl rfl), (Ws_at (i := 3) (k := 13) rfl rfl), _, rfl, (Ws_at (i := 9) (k := 18) rfl rfl)⟩
theorem sI_Md_163 : a_IV R_Md 163 M_Md_readWords 0 10 := ⟨⟨⟨by decide, by decide⟩, by decide +kernel, by decide, (Ws_at (i := 4) (k := 16) rfl rfl), (Ws_at (i := 3) (k := 24) rfl rfl)⟩, (Ws_at (i := 9) (k := 19) rfl rfl), (Ws_at (i := 3) (k := 25) rfl rfl), _, rfl, (Ws_at (i := 9) (k := 20) rfl rfl)⟩
theorem sI_Md_166 : a_IV R_Md 166 M_Md_readTaggedBody 0 10 := ⟨⟨⟨by decide, by decide⟩, by decide +kernel, by decide, (Ws_at (i := 4) (k := 16) rfl rfl), (Ws_at (i := 3) (k := 22) rfl rfl)⟩, (Ws_at (i := 9) (k := 21) rfl rfl), (Ws_at (i := 3) (k := 23) rfl rfl), _, rfl, (Ws_at (i := 9) (k := 22) rfl rfl)⟩
theorem sI_Md_169 : a_IV R_Md 169 M_Md_fragment 0 10 := ⟨⟨⟨by decide, by decide⟩, by decide +kernel, by decide, (Ws_at (i := 4) (k := 16) rfl rfl), (Ws_at (i := 2) (k := 62) rfl rfl)⟩, (Ws_at (i := 9) (k := 23) rfl rfl), (Ws_at (i := 2) (k := 63) rfl rfl), _, rfl, (Ws_at (i := 9) (k := 24) rfl rfl)⟩
theorem sF_Md_172_Md : a_F R_Md 172 10 19 false (.int) := ⟨R_Md, F_Md, 32, R_Md, t_Md, rfl, Wl_Md_in, by decide, t_Md_ok, n_Md, rfl, rfl, Or.inl rfl, Or.inl (Ws_at (i := 9) (k := 25) rfl rfl)⟩
theorem sI_Md_175 : a_IV R_Md 175 M_Md_digest 0 10 := ⟨⟨⟨by decide, by decide⟩, by decide +kernel, by decide, (Ws_at (i := 4) (k := 16) rfl rfl), (Ws_at (i := 2) (k := 50) rfl rfl)⟩, (Ws_at (i := 9) (k := 26) rfl rfl), (Ws_at (i := 2) (k := 51) rfl rfl), _, rfl, (Ws_at (i := 9) (k := 27) rfl rfl)⟩
theorem sF_Md_179_Md : a_F R_Md 179 10 20 false (.int) := ⟨R_Md, F_Md, 32, R_Md, t_Md, rfl, Wl_Md_in, by decide, t_Md_ok, n_Md, rfl, rfl, Or.inl rfl, Or.inl (Ws_at (i := 9) (k := 28) rfl rfl)⟩
theorem sF_Md_182_Md : a_F R_Md 182 10 21 false (.int) := ⟨R_Md, F_Md, 32, R_Md, t_Md, rfl, Wl_Md_in, by decide, t_Md_ok, n_Md, rfl, rfl, Or.inl rfl, Or.inl (Ws_at (i := 9) (k := 29) rfl rfl)⟩
theorem sI_Md_185 : a_IV R_Md 185 M_Md_gather 0 10 := ⟨⟨⟨by decide, by decide⟩, by decide +kernel, by decide, (Ws_at (i := 4) (k := 16) rfl rfl), (Ws_at (i := 3) (k := 10) rfl rfl)⟩, (Ws_at (i := 9) (k := 30) rfl rfl), (Ws_at (i := 3) (k := 11) rfl rfl), _, rfl, (Ws_at (i := 9) (k := 31) rfl rfl)⟩
theorem sI_Md_188 : a_IV R_Md 188 M_Md_sendReply 3 10 := ⟨⟨⟨by decide, by decide⟩, by decide +kernel, by decide, (Ws_at (i := 4) (k := 16) rfl rfl), (Ws_at (i := 3) (k := 28) rfl rfl)⟩, (Ws_at (i := 9) (k := 32) rfl rfl), (Ws_at (i := 3) (k := 29) rfl rfl), _, rfl, (Ws_at (i := 9) (k := 33) rfl rfl)⟩
theorem sI_Md_192 : a_IV R_Md 192 M_Md_readBody 0 10 := ⟨⟨⟨by decide, by decide⟩, by decide +kernel, by decide, (Ws_at (i := 4) (k := 16) rfl rfl), (Ws_at (i := 3) (k := 26) rfl rfl)⟩, (Ws_at (i := 9) (k := 34) rfl rfl), (Ws_at (i := 3) (k := 27) rfl rfl), _, rfl, (Ws_at (i := 9) (k := 35) rfl rfl)⟩
theorem sI_Md_195 : a_IV R_Md 195 M_Md_run 1 10 := ⟨⟨⟨by decide, by decide⟩, by decide +kernel, by decide, (Ws_at (i := 4) (k := 16) rfl rfl), (Ws_at (i := 3) (k := 30) rfl rfl)⟩, (Ws_at (i := 9) (k := 36) rfl rfl), (Ws_at (i := 3) (k := 31) rfl rfl), _, rfl, (Ws_at (i := 9) (k := 37) rfl rfl)⟩
theorem sI_Md_198 : a_IV R_Md 198 M_Md_remember 3 10 := ⟨⟨⟨by decide, by decide⟩, by decide +kernel, by decide, (Ws_at (i := 4) (k := 16) rfl rfl), (Ws_at (i := 3) (k := 32) rfl rfl)⟩, (Ws_at (i := 9) (k := 38) rfl rfl), (Ws_at (i := 3) (k := 33) rfl rfl), _, rfl, (Ws_at (i := 9) (k := 39) rfl rfl)⟩
theorem sF_Md_201_Md : a_F R_Md 201 10 25 false (.int) := ⟨R_Md, F_Md, 32, R_Md, t_Md, rfl, Wl_Md_in, by decide, t_Md_ok, n_Md, rfl, rfl, Or.inl rfl, Or.inl (Ws_at (i := 9) (k := 40) rfl rfl)⟩
theorem sI_Md_204 : a_IV R_Md 204 M_Md_slotOf 1 10 := ⟨⟨⟨by decide, by decide⟩, by decide +kernel, by decide, (Ws_at (i := 4) (k := 16) rfl rfl), (Ws_at (i := 3) (k := 38) rfl rfl)⟩, (Ws_at (i := 9) (k := 41) rfl rfl), (Ws_at (i := 3) (k := 39) rfl rfl), _, rfl, (Ws_at (i := 9) (k := 42) rfl rfl)⟩
theorem sI_Md_207 : a_IV R_Md 207 M_Md_writeDraft 0 10 := ⟨⟨⟨by decide, by decide⟩, by decide +kernel, by decide, (Ws_at (i := 4) (k := 16) rfl rfl), (Ws_at (i := 2) (k := 60) rfl rfl)⟩, (Ws_at (i := 9) (k := 43) rfl rfl), (Ws_at (i := 2) (k := 61) rfl rfl), _, rfl, (Ws_at (i := 9) (k := 44) rfl rfl)⟩
theorem sI_Md_210 : a_IV R_Md 210 M_Md_sendKept 1 10 := ⟨⟨⟨by decide, by decide⟩, by decide +kernel, by decide, (Ws_at (i := 4) (k := 16) rfl rfl), (Ws_at (i := 3) (k := 44) rfl rfl)⟩, (Ws_at (i := 9) (k := 45) rfl rfl), (Ws_at (i := 3) (k := 45) rfl rfl), _, rfl, (Ws_at (i := 9) (k := 46) rfl rfl)⟩
theorem sI_Md_213 : a_IV R_Md 213 M_Md_lose 1 10 := ⟨⟨⟨by decide, by decide⟩, by decide +kernel, by decide, (Ws_at (i := 4) (k := 16) rfl rfl), (Ws_at (i := 3) (k := 6) rfl rfl)⟩, (Ws_at (i := 9) (k := 47) rfl rfl), (Ws_at (i := 3) (k := 7) rfl rfl), _, rfl, (Ws_at (i := 9) (k := 48) rfl rfl)⟩
theorem sI_Md_216 : a_IV R_Md 216 M_Md_accept 0 10 := ⟨⟨⟨by decide, by decide⟩, by decide +kernel, by decide, (Ws_at (i := 4) (k := 16) rfl rfl), (Ws_at (i := 3) (k := 36) rfl rfl)⟩, (Ws_at (i := 9) (k := 49) rfl rfl), (Ws_at (i := 3) (k := 37) rfl rfl), _, rfl, (Ws_at (i := 9) (k := 50) rfl rfl)⟩
theorem sI_Md_219 : a_IV R_Md 219 M_Md_serve 0 10 := ⟨⟨⟨by decide, by decide⟩, by decide +kernel, by decide, (Ws_at (i := 4) (k := 16) rfl rfl), (Ws_at (i := 3) (k := 34) rfl rfl)⟩, (Ws_at (i := 9) (k := 51) rfl rfl), (Ws_at (i := 3) (k := 35) rfl rfl), _, rfl, (Ws_at (i := 9) (k := 52) rfl rfl)⟩
theorem sF_Md_222_Md : a_F R_Md 222 10 18 false (.int) := ⟨R_Md, F_Md, 32, R_Md, t_Md, rfl, Wl_Md_in, by decide, t_Md_ok, n_Md, rfl, rfl, Or.inl rfl, Or.inl (Ws_at (i := 9) (k := 53) rfl rfl)⟩
theorem sN_Lw_7 : a_N R_Lw 7 0 6 [.null, .null, .null, .null, .null, .null] := ⟨R_OW, F_OW, t_OW, rfl, Wl_OW_in, t_OW_ok, (Ws_at (i := 9) (k := 54) rfl rfl), (Ws_at (i := 4) (k := 18) rfl rfl), (Ws_at (i := 4) (k := 4) rfl rfl), by decide +kernel, fun _ _ => rfl⟩
theorem sI_Lw_9 : a_IS R_Lw 9 M_Lw_cell 2 := ⟨⟨⟨by decide, by decide⟩, by decide +kernel, by decide, (Ws_at (i := 4) (k := 17) rfl rfl), (Ws_at (i := 4) (k := 2) rfl rfl)⟩, (Ws_at (i := 9) (k := 55) rfl rfl), (Ws_at (i := 4) (k := 3) rfl rfl)⟩
theorem sI_Lw_15 : a_II R_Lw 15 M_OW_init 1 := ⟨⟨⟨by decide, by decide⟩, by decide +kernel, by decide, (Ws_at (i := 4) (k := 4) rfl rfl), (Ws_at (i := 0) (k := 0) rfl rfl)⟩, (Ws_at (i := 9) (k := 56) rfl rfl), (Ws_at (i := 0) (k := 1) rfl rfl), rfl, rfl⟩
theorem sN_Lw_18 : a_N R_Lw 18 10 32 [.int 0, .int 0, .null, .null, .null, .null, .null, .null, .int 0, .null, .int 0, .int 0, .long 0, .int 0, .null, .null, .null, .null, .int 0, .int 0, .int 0, .int 0, .null, .null, .null, .int 0, .null, .null, .null, .null, .null, .null] := ⟨R_Md, F_Md, t_Md, rfl, Wl_Md_in, t_Md_ok, (Ws_at (i := 9) (k := 57) rfl rfl), (Ws_at (i := 4) (k := 28) rfl rfl), (Ws_at (i := 4) (k := 16) rfl rfl), by decide +kernel, fun _ _ => rfl⟩
theorem sI_Lw_20 : a_II R_Lw 20 M_Md_init 1 := ⟨⟨⟨by decide, by decide⟩, by decide +kernel, by decide, (Ws_at (i := 4) (k := 16) rfl rfl), (Ws_at (i := 2) (k := 38) rfl rfl)⟩, (Ws_at (i := 9) (k := 58) rfl rfl), (Ws_at (i := 2) (k := 39) rfl rfl), rfl, rfl⟩
theorem sI_Lw_21 : a_IV R_Lw 21 M_OW_field 3 0 := ⟨⟨⟨by decide, by decide⟩, by decide +kernel, by decide, (Ws_at (i := 4) (k := 4) rfl rfl), (Ws_at (i := 0) (k := 2) rfl rfl)⟩, (Ws_at (i := 9) (k := 59) rfl rfl), (Ws_at (i := 0) (k := 3) rfl rfl), _, rfl, (Ws_at (i := 9) (k := 60) rfl rfl)⟩
theorem sI_Lw_25 : a_IV R_Lw 25 M_Md_field 3 10 := ⟨⟨⟨by decide, by decide⟩, by decide +kernel, by decide, (Ws_at (i := 4) (k := 16) rfl rfl), (Ws_at (i := 2) (k := 40) rfl rfl)⟩, (Ws_at (i := 9) (k := 61) rfl rfl), (Ws_at (i := 2) (k := 41) rfl rfl), _, rfl, (Ws_at (i := 9) (k := 62) rfl rfl)⟩
theorem sI_Lw_26 : a_IV R_Lw 26 M_OW_put 2 0 := ⟨⟨⟨by decide, by decide⟩, by decide +kernel, by decide, (Ws_at (i := 4) (k := 4) rfl rfl), (Ws_at (i := 0) (k := 4) rfl rfl)⟩, (Ws_at (i := 9) (k := 63) rfl rfl), (Ws_at (i := 0) (k := 5) rfl rfl), _, rfl, (Ws_at (i := 10) (k := 0) rfl rfl)⟩
theorem sI_Lw_30 : a_IV R_Lw 30 M_Md_put 2 10 := ⟨⟨⟨by decide, by decide⟩, by decide +kernel, by decide, (Ws_at (i := 4) (k := 16) rfl rfl), (Ws_at (i := 2) (k := 46) rfl rfl)⟩, (Ws_at (i := 10) (k := 1) rfl rfl), (Ws_at (i := 2) (k := 47) rfl rfl), _, rfl, (Ws_at (i := 10) (k := 2) rfl rfl)⟩
theorem sI_Lw_31 : a_IV R_Lw 31 M_OW_reset 0 0 := ⟨⟨⟨by decide, by decide⟩, by decide +kernel, by decide, (Ws_at (i := 4) (k := 4) rfl rfl), (Ws_at (i := 0) (k := 6) rfl rfl)⟩, (Ws_at (i := 10) (k := 3) rfl rfl), (Ws_at (i := 0) (k := 7) rfl rfl), _, rfl, (Ws_at (i := 10) (k := 4) rfl rfl)⟩
theorem sI_Lw_34 : a_IV R_Lw 34 M_Md_reset 0 10 := ⟨⟨⟨by decide, by decide⟩, by decide +kernel, by decide, (Ws_at (i := 4) (k := 16) rfl rfl), (Ws_at (i := 2) (k := 48) rfl rfl)⟩, (Ws_at (i := 10) (k := 5) rfl rfl), (Ws_at (i := 2) (k := 49) rfl rfl), _, rfl, (Ws_at (i := 10) (k := 6) rfl rfl)⟩
theorem sI_Lw_35 : a_IV R_Lw 35 M_OW_call 1 0 := ⟨⟨⟨by decide, by decide⟩, by decide +kernel, by decide, (Ws_at (i := 4) (k := 4) rfl rfl), (Ws_at (i := 0) (k := 8) rfl rfl)⟩, (Ws_at (i := 10) (k := 7) rfl rfl), (Ws_at (i := 0) (k := 9) rfl rfl), _, rfl, (Ws_at (i := 10) (k := 8) rfl rfl)⟩
theorem sI_Lw_39 : a_IV R_Lw 39 M_Md_call 1 10 := ⟨⟨⟨by decide, by decide⟩, by decide +kernel, by decide, (Ws_at (i := 4) (k := 16) rfl rfl), (Ws_at (i := 3) (k := 40) rfl rfl)⟩, (Ws_at (i := 10) (k := 9) rfl rfl), (Ws_at (i := 3) (k := 41) rfl rfl), _, rfl, (Ws_at (i := 10) (k := 10) rfl rfl)⟩
theorem sI_Lw_40 : a_IV R_Lw 40 M_OW_tick 0 0 := ⟨⟨⟨by decide, by decide⟩, by decide +kernel, by decide, (Ws_at (i := 4) (k := 4) rfl rfl), (Ws_at (i := 0) (k := 10) rfl rfl)⟩, (Ws_at (i := 10) (k := 11) rfl rfl), (Ws_at (i := 0) (k := 11) rfl rfl), _, rfl, (Ws_at (i := 10) (k := 12) rfl rfl)⟩
theorem sI_Lw_44 : a_IV R_Lw 44 M_Md_tick 0 10 := ⟨⟨⟨by decide, by decide⟩, by decide +kernel, by decide, (Ws_at (i := 4) (k := 16) rfl rfl), (Ws_at (i := 3) (k := 42) rfl rfl)⟩, (Ws_at (i := 10) (k := 13) rfl rfl), (Ws_at (i := 3) (k := 43) rfl rfl), _, rfl, (Ws_at (i := 10) (k := 14) rfl rfl)⟩
theorem sI_Lw_45 : a_IV R_Lw 45 M_OW_deliver 1 0 := ⟨⟨⟨by decide, by decide⟩, by decide +kernel, by decide, (Ws_at (i := 4) (k := 4) rfl rfl), (Ws_at (i := 0) (k := 12) rfl rfl)⟩, (Ws_at (i := 10) (k := 15) rfl rfl), (Ws_at (i := 0) (k := 13) rfl rfl), _, rfl, (Ws_at (i := 10) (k := 16) rfl rfl)⟩
theorem sI_Lw_48 : a_IV R_Lw 48 M_Md_deliver 1 10 := ⟨⟨⟨by decide, by decide⟩, by decide +kernel, by decide, (Ws_at (i := 4) (k := 16) rfl rfl), (Ws_at (i := 3) (k := 46) rfl rfl)⟩, (Ws_at (i := 10) (k := 17) rfl rfl), (Ws_at (i := 3) (k := 47) rfl rfl), _, rfl, (Ws_at (i := 10) (k := 18) rfl rfl)⟩
theorem sI_Lw_49 : a_IV R_Lw 49 M_OW_lose 1 0 := ⟨⟨⟨by decide, by decide⟩, by decide +kernel, by decide, (Ws_at (i := 4) (k := 4) rfl rfl), (Ws_at (i := 0) (k := 14) rfl rfl)⟩, (Ws_at (i := 10) (k := 19) rfl rfl), (Ws_at (i := 0) (k := 15) rfl rfl), _, rfl, (Ws_at (i := 10) (k := 20) rfl rfl)⟩
theorem sI_Lw_53 : a_IV R_Lw 53 M_Md_lose 1 10 := ⟨⟨⟨by decide, by decide⟩, by decide +kernel, by decide, (Ws_at (i := 4) (k := 16) rfl rfl), (Ws_at (i := 3) (k := 6) rfl rfl)⟩, (Ws_at (i := 10) (k := 21) rfl rfl), (Ws_at (i := 3) (k := 7) rfl rfl), _, rfl, (Ws_at (i := 9) (k := 48) rfl rfl)⟩
theorem sI_Lw_54 : a_IV R_Lw 54 M_OW_copy 1 0 := ⟨⟨⟨by decide, by decide⟩, by decide +kernel, by decide, (Ws_at (i := 4) (k := 4) rfl rfl), (Ws_at (i := 0) (k := 16) rfl rfl)⟩, (Ws_at (i := 10) (k := 22) rfl rfl), (Ws_at (i := 0) (k := 17) rfl rfl), _, rfl, (Ws_at (i := 10) (k := 23) rfl rfl)⟩
theorem sI_Lw_57 : a_IV R_Lw 57 M_Md_copy 1 10 := ⟨⟨⟨by decide, by decide⟩, by decide +kernel, by decide, (Ws_at (i := 4) (k := 16) rfl rfl), (Ws_at (i := 3) (k := 8) rfl rfl)⟩, (Ws_at (i := 10) (k := 24) rfl rfl), (Ws_at (i := 3) (k := 9) rfl rfl), _, rfl, (Ws_at (i := 10) (k := 25) rfl rfl)⟩
theorem sI_Lw_58 : a_IV R_Lw 58 M_OW_add 1 0 := ⟨⟨⟨by decide, by decide⟩, by decide +kernel, by decide, (Ws_at (i := 4) (k := 4) rfl rfl), (Ws_at (i := 0) (k := 18) rfl rfl)⟩, (Ws_at (i := 10) (k := 26) rfl rfl), (Ws_at (i := 0) (k := 19) rfl rfl), _, rfl, (Ws_at (i := 10) (k := 27) rfl rfl)⟩
theorem sI_Lw_61 : a_IV R_Lw 61 M_Md_add 1 10 := ⟨⟨⟨by decide, by decide⟩, by decide +kernel, by decide, (Ws_at (i := 4) (k := 16) rfl rfl), (Ws_at (i := 3) (k := 48) rfl rfl)⟩, (Ws_at (i := 10) (k := 28) rfl rfl), (Ws_at (i := 3) (k := 49) rfl rfl), _, rfl, (Ws_at (i := 10) (k := 29) rfl rfl)⟩
theorem sI_Lw_62 : a_IV R_Lw 62 M_OW_hand 1 0 := ⟨⟨⟨by decide, by decide⟩, by decide +kernel, by decide, (Ws_at (i := 4) (k := 4) rfl rfl), (Ws_at (i := 0) (k := 20) rfl rfl)⟩, (Ws_at (i := 10) (k := 30) rfl rfl), (Ws_at (i := 0) (k := 21) rfl rfl), _, rfl, (Ws_at (i := 10) (k := 31) rfl rfl)⟩
theorem sI_Lw_66 : a_IV R_Lw 66 M_Md_hand 1 10 := ⟨⟨⟨by decide, by decide⟩, by decide +kernel, by decide, (Ws_at (i := 4) (k := 16) rfl rfl), (Ws_at (i := 3) (k := 50) rfl rfl)⟩, (Ws_at (i := 10) (k := 32) rfl rfl), (Ws_at (i := 3) (k := 51) rfl rfl), _, rfl, (Ws_at (i := 10) (k := 33) rfl rfl)⟩
theorem sI_Lw_67 : a_IV R_Lw 67 M_OW_total 0 0 := ⟨⟨⟨by decide, by decide⟩, by decide +kernel, by decide, (Ws_at (i := 4) (k := 4) rfl rfl), (Ws_at (i := 0) (k := 22) rfl rfl)⟩, (Ws_at (i := 10) (k := 34) rfl rfl), (Ws_at (i := 0) (k := 23) rfl rfl), _, rfl, (Ws_at (i := 10) (k := 35) rfl rfl)⟩
theorem sI_Lw_70 : a_IV R_Lw 70 M_Md_total 0 10 := ⟨⟨⟨by decide, by decide⟩, by decide +kernel, by decide, (Ws_at (i := 4) (k := 16) rfl rfl), (Ws_at (i := 3) (k := 52) rfl rfl)⟩, (Ws_at (i := 10) (k := 36) rfl rfl), (Ws_at (i := 3) (k := 53) rfl rfl), _, rfl, (Ws_at (i := 10) (k := 37) rfl rfl)⟩
theorem sI_Lw_71 : a_IV R_Lw 71 M_OW_runs 0 0 := ⟨⟨⟨by decide, by decide⟩, by decide +kernel, by decide, (Ws_at (i := 4) (k := 4) rfl rfl), (Ws_at (i := 0) (k := 24) rfl rfl)⟩, (Ws_at (i := 10) (k := 38) rfl rfl), (Ws_at (i := 0) (k := 25) rfl rfl), _, rfl, (Ws_at (i := 10) (k := 39) rfl rfl)⟩
theorem sI_Lw_74 : a_IV R_Lw 74 M_Md_runs 0 10 := ⟨⟨⟨by decide, by decide⟩, by decide +kernel, by decide, (Ws_at (i := 4) (k := 16) rfl rfl), (Ws_at (i := 3) (k := 54) rfl rfl)⟩, (Ws_at (i := 10) (k := 40) rfl rfl), (Ws_at (i := 3) (k := 55) rfl rfl), _, rfl, (Ws_at (i := 10) (k := 41) rfl rfl)⟩
theorem sI_Lw_75 : a_IV R_Lw 75 M_OW_status 1 0 := ⟨⟨⟨by decide, by decide⟩, by decide +kernel, by decide, (Ws_at (i := 4) (k := 4) rfl rfl), (Ws_at (i := 0) (k := 26) rfl rfl)⟩, (Ws_at (i := 10) (k := 42) rfl rfl), (Ws_at (i := 0) (k := 27) rfl rfl), _, rfl, (Ws_at (i := 10) (k := 43) rfl rfl)⟩
theorem sI_Lw_78 : a_IV R_Lw 78 M_Md_status 1 10 := ⟨⟨⟨by decide, by decide⟩, by decide +kernel, by decide, (Ws_at (i := 4) (k := 16) rfl rfl), (Ws_at (i := 3) (k := 56) rfl rfl)⟩, (Ws_at (i := 10) (k := 44) rfl rfl), (Ws_at (i := 3) (k := 57) rfl rfl), _, rfl, (Ws_at (i := 10) (k := 45) rfl rfl)⟩
theorem sI_Lw_79 : a_IV R_Lw 79 M_OW_result 1 0 := ⟨⟨⟨by decide, by decide⟩, by decide +kernel, by decide, (Ws_at (i := 4) (k := 4) rfl rfl), (Ws_at (i := 0) (k := 28) rfl rfl)⟩, (Ws_at (i := 10) (k := 46) rfl rfl), (Ws_at (i := 0) (k := 29) rfl rfl), _, rfl, (Ws_at (i := 10) (k := 47) rfl rfl)⟩
theorem sI_Lw_82 : a_IV R_Lw 82 M_Md_result 1 10 := ⟨⟨⟨by decide, by decide⟩, by decide +kernel, by decide, (Ws_at (i := 4) (k := 16) rfl rfl), (Ws_at (i := 3) (k := 58) rfl rfl)⟩, (Ws_at (i := 10) (k := 48) rfl rfl), (Ws_at (i := 3) (k := 59) rfl rfl), _, rfl, (Ws_at (i := 10) (k := 49) rfl rfl)⟩
theorem sI_Lw_83 : a_IV R_Lw 83 M_OW_flight 0 0 := ⟨⟨⟨by decide, by decide⟩, by decide +kernel, by decide, (Ws_at (i := 4) (k := 4) rfl rfl), (Ws_at (i := 0) (k := 30) rfl rfl)⟩, (Ws_at (i := 10) (k := 50) rfl rfl), (Ws_at (i := 0) (k := 31) rfl rfl), _, rfl, (Ws_at (i := 10) (k := 51) rfl rfl)⟩
theorem sI_Lw_86 : a_IV R_Lw 86 M_Md_flight 0 10 := ⟨⟨⟨by decide, by decide⟩, by decide +kernel, by decide, (Ws_at (i := 4) (k := 16) rfl rfl), (Ws_at (i := 3) (k := 60) rfl rfl)⟩, (Ws_at (i := 10) (k := 52) rfl rfl), (Ws_at (i := 3) (k := 61) rfl rfl), _, rfl, (Ws_at (i := 10) (k := 53) rfl rfl)⟩
theorem sI_Lw_87 : a_IV R_Lw 87 M_OW_size 1 0 := ⟨⟨⟨by decide, by decide⟩, by decide +kernel, by decide, (Ws_at (i := 4) (k := 4) rfl rfl), (Ws_at (i := 0) (k := 32) rfl rfl)⟩, (Ws_at (i := 10) (k := 54) rfl rfl), (Ws_at (i := 0) (k := 33) rfl rfl), _, rfl, (Ws_at (i := 10) (k := 55) rfl rfl)⟩
theorem sI_Lw_90 : a_IV R_Lw 90 M_Md_size 1 10 := ⟨⟨⟨by decide, by decide⟩, by decide +kernel, by decide, (Ws_at (i := 4) (k := 16) rfl rfl), (Ws_at (i := 3) (k := 62) rfl rfl)⟩, (Ws_at (i := 10) (k := 56) rfl rfl), (Ws_at (i := 3) (k := 63) rfl rfl), _, rfl, (Ws_at (i := 10) (k := 57) rfl rfl)⟩
theorem sI_Lw_91 : a_IV R_Lw 91 M_OW_byteAt 2 0 := ⟨⟨⟨by decide, by decide⟩, by decide +kernel, by decide, (Ws_at (i := 4) (k := 4) rfl rfl), (Ws_at (i := 0) (k := 34) rfl rfl)⟩, (Ws_at (i := 10) (k := 58) rfl rfl), (Ws_at (i := 0) (k := 35) rfl rfl), _, rfl, (Ws_at (i := 10) (k := 59) rfl rfl)⟩
theorem sI_Lw_95 : a_IV R_Lw 95 M_Md_byteAt 2 10 := ⟨⟨⟨by decide, by decide⟩, by decide +kernel, by decide, (Ws_at (i := 4) (k := 16) rfl rfl), (Ws_at (i := 4) (k := 0) rfl rfl)⟩, (Ws_at (i := 10) (k := 60) rfl rfl), (Ws_at (i := 4) (k := 1) rfl rfl), _, rfl, (Ws_at (i := 10) (k := 61) rfl rfl)⟩
theorem cl_ok : ∀ q ∈ classes, (∀ x ∈ u_ws q.1 q.2.1 q.2.2, x ∈ Ws) ∧ Cond.instantiable q.1 q.2.2 ∈ Ws := List.forall_mem_cons.mpr ⟨⟨Wl_OW_in, (Ws_at (i := 4) (k := 18) rfl rfl)⟩, List.forall_mem_cons.mpr ⟨⟨Wl_Bytes_in, (Ws_at (i := 4) (k := 19) rfl rfl)⟩, List.forall_mem_cons.mpr ⟨⟨Wl_Client_in, (Ws_at (i := 4) (k := 20) rfl rfl)⟩, List.forall_mem_cons.mpr ⟨⟨Wl_Network_in, (Ws_at (i := 4) (k := 21) rfl rfl)⟩, List.forall_mem_cons.mpr ⟨⟨Wl_Reader_in, (Ws_at (i := 4) (k := 22) rfl rfl)⟩, List.forall_mem_cons.mpr ⟨⟨Wl_Schema_in, (Ws_at (i := 4) (k := 23) rfl rfl)⟩, List.forall_mem_cons.mpr ⟨⟨Wl_Server_in, (Ws_at (i := 4) (k := 24) rfl rfl)⟩, List.forall_mem_cons.mpr ⟨⟨Wl_TaggedFormat_in, (Ws_at (i := 4) (k := 25) rfl rfl)⟩, List.forall_mem_cons.mpr ⟨⟨Wl_Value_in, (Ws_at (i := 4) (k := 26) rfl rfl)⟩, List.forall_mem_cons.mpr ⟨⟨Wl_WordFormat_in, (Ws_at (i := 4) (k := 27) rfl rfl)⟩, List.forall_mem_cons.mpr ⟨⟨Wl_Md_in, (Ws_at (i := 4) (k := 28) rfl rfl)⟩, fun _ h => absurd h List.not_mem_nil⟩⟩⟩⟩⟩⟩⟩⟩⟩⟩⟩
end
section
theorem d_OW_init_0 : decode b_OW_init 0 = .ok (.aload_n 0, 1) := by decide +kernel
theorem d_OW_init_1 : decode b_OW_init 1 = .ok (.invokespecial 1, 3) := by decide +kernel
theorem d_OW_init_4 : decode b_OW_init 4 = .ok (.aload_n 0, 1) := by decide +kernel
theorem d_OW_init_5 : decode b_OW_init 5 = .ok (.new 7, 3) := by decide +kernel
theorem d_OW_init_8 : decode b_OW_init 8 = .ok (.dup, 1) := by decide +kernel
theorem d_OW_init_9 : decode b_OW_init 9 = .ok (.invokespecial 9, 3) := by decide +kernel
theorem d_OW_init_12 : decode b_OW_init 12 = .ok (.putfield 10, 3) := by decide +kernel
theorem d_OW_init_15 : decode b_OW_init 15 = .ok (.aload_n 0, 1) := by decide +kernel
theorem d_OW_init_16 : decode b_OW_init 16 = .ok (.new 16, 3) := by decide +kernel
theorem d_OW_init_19 : decode b_OW_init 19 = .ok (.dup, 1) := by decide +kernel
theorem d_OW_init_20 : decode b_OW_init 20 = .ok (.aload_n 0, 1) := by decide +kernel
theorem d_OW_init_21 : decode b_OW_init 21 = .ok (.getfield 10, 3) := by decide +kernel
theorem d_OW_init_24 : decode b_OW_init 24 = .ok (.invokespecial 18, 3) := by decide +kernel
theorem d_OW_init_27 : decode b_OW_init 27 = .ok (.putfield 21, 3) := by decide +kernel
theorem d_OW_init_30 : decode b_OW_init 30 = .ok (.aload_n 0, 1) := by decide +kernel
theorem d_OW_init_31 : decode b_OW_init 31 = .ok (.new 25, 3) := by decide +kernel
theorem d_OW_init_34 : decode b_OW_init 34 = .ok (.dup, 1) := by decide +kernel
theorem d_OW_init_35 : decode b_OW_init 35 = .ok (.sipush 200, 3) := by decide +kernel
theorem d_OW_init_38 : decode b_OW_init 38 = .ok (.invokespecial 27, 3) := by decide +kernel
theorem d_OW_init_41 : decode b_OW_init 41 = .ok (.putfield 30, 3) := by decide +kernel
theorem d_OW_init_44 : decode b_OW_init 44 = .ok (.aload_n 0, 1) := by decide +kernel
theorem d_OW_init_45 : decode b_OW_init 45 = .ok (.new 34, 3) := by decide +kernel
theorem d_OW_init_48 : decode b_OW_init 48 = .ok (.dup, 1) := by decide +kernel
theorem d_OW_init_49 : decode b_OW_init 49 = .ok (.invokespecial 36, 3) := by decide +kernel
theorem d_OW_init_52 : decode b_OW_init 52 = .ok (.putfield 37, 3) := by decide +kernel
theorem d_OW_init_55 : decode b_OW_init 55 = .ok (.iload_n 1, 1) := by decide +kernel
theorem d_OW_init_56 : decode b_OW_init 56 = .ok (.iconst 1, 1) := by decide +kernel
theorem d_OW_init_57 : decode b_OW_init 57 = .ok (.iand, 1) := by decide +kernel
theorem d_OW_init_58 : decode b_OW_init 58 = .ok (.iconst 1, 1) := by decide +kernel
theorem d_OW_init_59 : decode b_OW_init 59 = .ok (.if_icmp .ne (17), 3) := by decide +kernel
theorem d_OW_init_62 : decode b_OW_init 62 = .ok (.new 41, 3) := by decide +kernel
theorem d_OW_init_65 : decode b_OW_init 65 = .ok (.dup, 1) := by decide +kernel
theorem d_OW_init_66 : decode b_OW_init 66 = .ok (.aload_n 0, 1) := by decide +kernel
theorem d_OW_init_67 : decode b_OW_init 67 = .ok (.getfield 10, 3) := by decide +kernel
theorem d_OW_init_70 : decode b_OW_init 70 = .ok (.invokespecial 43, 3) := by decide +kernel
theorem d_OW_init_73 : decode b_OW_init 73 = .ok (.goto (14), 3) := by decide +kernel
theorem d_OW_init_76 : decode b_OW_init 76 = .ok (.new 44, 3) := by decide +kernel
theorem d_OW_init_79 : decode b_OW_init 79 = .ok (.dup, 1) := by decide +kernel
theorem d_OW_init_80 : decode b_OW_init 80 = .ok (.aload_n 0, 1) := by decide +kernel
theorem d_OW_init_81 : decode b_OW_init 81 = .ok (.getfield 10, 3) := by decide +kernel
theorem d_OW_init_84 : decode b_OW_init 84 = .ok (.invokespecial 46, 3) := by decide +kernel
theorem d_OW_init_87 : decode b_OW_init 87 = .ok (.astore_n 2, 1) := by decide +kernel
theorem d_OW_init_88 : decode b_OW_init 88 = .ok (.aload_n 0, 1) := by decide +kernel
theorem d_OW_init_89 : decode b_OW_init 89 = .ok (.new 47, 3) := by decide +kernel
theorem d_OW_init_92 : decode b_OW_init 92 = .ok (.dup, 1) := by decide +kernel
theorem d_OW_init_93 : decode b_OW_init 93 = .ok (.aload_n 0, 1) := by decide +kernel
theorem d_OW_init_94 : decode b_OW_init 94 = .ok (.getfield 37, 3) := by decide +kernel
theorem d_OW_init_97 : decode b_OW_init 97 = .ok (.aload_n 2, 1) := by decide +kernel
theorem d_OW_init_98 : decode b_OW_init 98 = .ok (.new 16, 3) := by decide +kernel
theorem d_OW_init_101 : decode b_OW_init 101 = .ok (.dup, 1) := by decide +kernel
theorem d_OW_init_102 : decode b_OW_init 102 = .ok (.aload_n 0, 1) := by decide +kernel
theorem d_OW_init_103 : decode b_OW_init 103 = .ok (.getfield 10, 3) := by decide +kernel
theorem d_OW_init_106 : decode b_OW_init 106 = .ok (.invokespecial 18, 3) := by decide +kernel
theorem d_OW_init_109 : decode b_OW_init 109 = .ok (.invokespecial 49, 3) := by decide +kernel
theorem d_OW_init_112 : decode b_OW_init 112 = .ok (.putfield 52, 3) := by decide +kernel
theorem d_OW_init_115 : decode b_OW_init 115 = .ok (.aload_n 0, 1) := by decide +kernel
theorem d_OW_init_116 : decode b_OW_init 116 = .ok (.new 56, 3) := by decide +kernel
theorem d_OW_init_119 : decode b_OW_init 119 = .ok (.dup, 1) := by decide +kernel
theorem d_OW_init_120 : decode b_OW_init 120 = .ok (.aload_n 0, 1) := by decide +kernel
theorem d_OW_init_121 : decode b_OW_init 121 = .ok (.getfield 37, 3) := by decide +kernel
theorem d_OW_init_124 : decode b_OW_init 124 = .ok (.aload_n 2, 1) := by decide +kernel
theorem d_OW_init_125 : decode b_OW_init 125 = .ok (.invokespecial 58, 3) := by decide +kernel
theorem d_OW_init_128 : decode b_OW_init 128 = .ok (.putfield 61, 3) := by decide +kernel
theorem d_OW_init_131 : decode b_OW_init 131 = .ok (.return_, 1) := by decide +kernel
theorem d_OW_field_0 : decode b_OW_field 0 = .ok (.aload_n 0, 1) := by decide +kernel
theorem d_OW_field_1 : decode b_OW_field 1 = .ok (.getfield 10, 3) := by decide +kernel
theorem d_OW_field_4 : decode b_OW_field 4 = .ok (.iload_n 1, 1) := by decide +kernel
theorem d_OW_field_5 : decode b_OW_field 5 = .ok (.iload_n 2, 1) := by decide +kernel
theorem d_OW_field_6 : decode b_OW_field 6 = .ok (.iload_n 3, 1) := by decide +kernel
theorem d_OW_field_7 : decode b_OW_field 7 = .ok (.invokevirtual 65, 3) := by decide +kernel
theorem d_OW_field_10 : decode b_OW_field 10 = .ok (.ireturn, 1) := by decide +kernel
theorem d_OW_put_0 : decode b_OW_put 0 = .ok (.aload_n 0, 1) := by decide +kernel
theorem d_OW_put_1 : decode b_OW_put 1 = .ok (.getfield 10, 3) := by decide +kernel
theorem d_OW_put_4 : decode b_OW_put 4 = .ok (.iload_n 1, 1) := by decide +kernel
theorem d_OW_put_5 : decode b_OW_put 5 = .ok (.invokevirtual 69, 3) := by decide +kernel
theorem d_OW_put_8 : decode b_OW_put 8 = .ok (.ifCond .eq (31), 3) := by decide +kernel
theorem d_OW_put_11 : decode b_OW_put 11 = .ok (.aload_n 0, 1) := by decide +kernel
theorem d_OW_put_12 : decode b_OW_put 12 = .ok (.getfield 10, 3) := by decide +kernel
theorem d_OW_put_15 : decode b_OW_put 15 = .ok (.iload_n 1, 1) := by decide +kernel
theorem d_OW_put_16 : decode b_OW_put 16 = .ok (.iload_n 2, 1) := by decide +kernel
theorem d_OW_put_17 : decode b_OW_put 17 = .ok (.invokevirtual 73, 3) := by decide +kernel
theorem d_OW_put_20 : decode b_OW_put 20 = .ok (.ifCond .eq (19), 3) := by decide +kernel
theorem d_OW_put_23 : decode b_OW_put 23 = .ok (.aload_n 0, 1) := by decide +kernel
theorem d_OW_put_24 : decode b_OW_put 24 = .ok (.getfield 21, 3) := by decide +kernel
theorem d_OW_put_27 : decode b_OW_put 27 = .ok (.iload_n 1, 1) := by decide +kernel
theorem d_OW_put_28 : decode b_OW_put 28 = .ok (.iload_n 2, 1) := by decide +kernel
theorem d_OW_put_29 : decode b_OW_put 29 = .ok (.invokevirtual 77, 3) := by decide +kernel
theorem d_OW_put_32 : decode b_OW_put 32 = .ok (.ifCond .eq (7), 3) := by decide +kernel
theorem d_OW_put_35 : decode b_OW_put 35 = .ok (.iconst 1, 1) := by decide +kernel
theorem d_OW_put_36 : decode b_OW_put 36 = .ok (.goto (4), 3) := by decide +kernel
theorem d_OW_put_39 : decode b_OW_put 39 = .ok (.iconst 0, 1) := by decide +kernel
theorem d_OW_put_40 : decode b_OW_put 40 = .ok (.ireturn, 1) := by decide +kernel
theorem d_OW_reset_0 : decode b_OW_reset 0 = .ok (.aload_n 0, 1) := by decide +kernel
theorem d_OW_reset_1 : decode b_OW_reset 1 = .ok (.getfield 21, 3) := by decide +kernel
theorem d_OW_reset_4 : decode b_OW_reset 4 = .ok (.invokevirtual 80, 3) := by decide +kernel
theorem d_OW_reset_7 : decode b_OW_reset 7 = .ok (.return_, 1) := by decide +kernel
theorem d_OW_call_0 : decode b_OW_call 0 = .ok (.aload_n 0, 1) := by decide +kernel
theorem d_OW_call_1 : decode b_OW_call 1 = .ok (.getfield 61, 3) := by decide +kernel
theorem d_OW_call_4 : decode b_OW_call 4 = .ok (.iload_n 1, 1) := by decide +kernel
theorem d_OW_call_5 : decode b_OW_call 5 = .ok (.aload_n 0, 1) := by decide +kernel
theorem d_OW_call_6 : decode b_OW_call 6 = .ok (.getfield 21, 3) := by decide +kernel
theorem d_OW_call_9 : decode b_OW_call 9 = .ok (.invokevirtual 83, 3) := by decide +kernel
theorem d_OW_call_12 : decode b_OW_call 12 = .ok (.ireturn, 1) := by decide +kernel
theorem d_OW_tick_0 : decode b_OW_tick 0 = .ok (.aload_n 0, 1) := by decide +kernel
theorem d_OW_tick_1 : decode b_OW_tick 1 = .ok (.getfield 61, 3) := by decide +kernel
theorem d_OW_tick_4 : decode b_OW_tick 4 = .ok (.invokevirtual 87, 3) := by decide +kernel
theorem d_OW_tick_7 : decode b_OW_tick 7 = .ok (.ireturn, 1) := by decide +kernel
theorem d_OW_deliver_0 : decode b_OW_deliver 0 = .ok (.aload_n 0, 1) := by decide +kernel
theorem d_OW_deliver_1 : decode b_OW_deliver 1 = .ok (.getfield 37, 3) := by decide +kernel
theorem d_OW_deliver_4 : decode b_OW_deliver 4 = .ok (.iload_n 1, 1) := by decide +kernel
theorem d_OW_deliver_5 : decode b_OW_deliver 5 = .ok (.invokevirtual 91, 3) := by decide +kernel
theorem d_OW_deliver_8 : decode b_OW_deliver 8 = .ok (.ifCond .ne (5), 3) := by decide +kernel
theorem d_OW_deliver_11 : decode b_OW_deliver 11 = .ok (.iconst (-1), 1) := by decide +kernel
theorem d_OW_deliver_12 : decode b_OW_deliver 12 = .ok (.ireturn, 1) := by decide +kernel
theorem d_OW_deliver_13 : decode b_OW_deliver 13 = .ok (.aload_n 0, 1) := by decide +kernel
theorem d_OW_deliver_14 : decode b_OW_deliver 14 = .ok (.getfield 37, 3) := by decide +kernel
theorem d_OW_deliver_17 : decode b_OW_deliver 17 = .ok (.iload_n 1, 1) := by decide +kernel
theorem d_OW_deliver_18 : decode b_OW_deliver 18 = .ok (.invokevirtual 92, 3) := by decide +kernel
theorem d_OW_deliver_21 : decode b_OW_deliver 21 = .ok (.istore_n 2, 1) := by decide +kernel
theorem d_OW_deliver_22 : decode b_OW_deliver 22 = .ok (.aload_n 0, 1) := by decide +kernel
theorem d_OW_deliver_23 : decode b_OW_deliver 23 = .ok (.getfield 37, 3) := by decide +kernel
theorem d_OW_deliver_26 : decode b_OW_deliver 26 = .ok (.iload_n 1, 1) := by decide +kernel
theorem d_OW_deliver_27 : decode b_OW_deliver 27 = .ok (.invokevirtual 95, 3) := by decide +kernel
theorem d_OW_deliver_30 : decode b_OW_deliver 30 = .ok (.astore_n 3, 1) := by decide +kernel
theorem d_OW_deliver_31 : decode b_OW_deliver 31 = .ok (.iload_n 2, 1) := by decide +kernel
theorem d_OW_deliver_32 : decode b_OW_deliver 32 = .ok (.ifCond .eq (14), 3) := by decide +kernel
theorem d_OW_deliver_35 : decode b_OW_deliver 35 = .ok (.aload_n 0, 1) := by decide +kernel
theorem d_OW_deliver_36 : decode b_OW_deliver 36 = .ok (.getfield 52, 3) := by decide +kernel
theorem d_OW_deliver_39 : decode b_OW_deliver 39 = .ok (.aload_n 3, 1) := by decide +kernel
theorem d_OW_deliver_40 : decode b_OW_deliver 40 = .ok (.invokevirtual 99, 3) := by decide +kernel
theorem d_OW_deliver_43 : decode b_OW_deliver 43 = .ok (.goto (11), 3) := by decide +kernel
theorem d_OW_deliver_46 : decode b_OW_deliver 46 = .ok (.aload_n 0, 1) := by decide +kernel
theorem d_OW_deliver_47 : decode b_OW_deliver 47 = .ok (.getfield 61, 3) := by decide +kernel
theorem d_OW_deliver_50 : decode b_OW_deliver 50 = .ok (.aload_n 3, 1) := by decide +kernel
theorem d_OW_deliver_51 : decode b_OW_deliver 51 = .ok (.invokevirtual 103, 3) := by decide +kernel
theorem d_OW_deliver_54 : decode b_OW_deliver 54 = .ok (.ireturn, 1) := by decide +kernel
theorem d_OW_lose_0 : decode b_OW_lose 0 = .ok (.aload_n 0, 1) := by decide +kernel
theorem d_OW_lose_1 : decode b_OW_lose 1 = .ok (.getfield 37, 3) := by decide +kernel
theorem d_OW_lose_4 : decode b_OW_lose 4 = .ok (.iload_n 1, 1) := by decide +kernel
theorem d_OW_lose_5 : decode b_OW_lose 5 = .ok (.invokevirtual 91, 3) := by decide +kernel
theorem d_OW_lose_8 : decode b_OW_lose 8 = .ok (.ifCond .ne (5), 3) := by decide +kernel
theorem d_OW_lose_11 : decode b_OW_lose 11 = .ok (.iconst 0, 1) := by decide +kernel
theorem d_OW_lose_12 : decode b_OW_lose 12 = .ok (.ireturn, 1) := by decide +kernel
theorem d_OW_lose_13 : decode b_OW_lose 13 = .ok (.aload_n 0, 1) := by decide +kernel
theorem d_OW_lose_14 : decode b_OW_lose 14 = .ok (.getfield 37, 3) := by decide +kernel
theorem d_OW_lose_17 : decode b_OW_lose 17 = .ok (.iload_n 1, 1) := by decide +kernel
theorem d_OW_lose_18 : decode b_OW_lose 18 = .ok (.invokevirtual 95, 3) := by decide +kernel
theorem d_OW_lose_21 : decode b_OW_lose 21 = .ok (.pop, 1) := by decide +kernel
theorem d_OW_lose_22 : decode b_OW_lose 22 = .ok (.iconst 1, 1) := by decide +kernel
theorem d_OW_lose_23 : decode b_OW_lose 23 = .ok (.ireturn, 1) := by decide +kernel
theorem d_OW_copy_0 : decode b_OW_copy 0 = .ok (.aload_n 0, 1) := by decide +kernel
theorem d_OW_copy_1 : decode b_OW_copy 1 = .ok (.getfield 37, 3) := by decide +kernel
theorem d_OW_copy_4 : decode b_OW_copy 4 = .ok (.iload_n 1, 1) := by decide +kernel
theorem d_OW_copy_5 : decode b_OW_copy 5 = .ok (.invokevirtual 91, 3) := by decide +kernel
theorem d_OW_copy_8 : decode b_OW_copy 8 = .ok (.ifCond .eq (13), 3) := by decide +kernel
theorem d_OW_copy_11 : decode b_OW_copy 11 = .ok (.aload_n 0, 1) := by decide +kernel
theorem d_OW_copy_12 : decode b_OW_copy 12 = .ok (.getfield 37, 3) := by decide +kernel
theorem d_OW_copy_15 : decode b_OW_copy 15 = .ok (.invokevirtual 104, 3) := by decide +kernel
theorem d_OW_copy_18 : decode b_OW_copy 18 = .ok (.ifCond .eq (5), 3) := by decide +kernel
theorem d_OW_copy_21 : decode b_OW_copy 21 = .ok (.iconst 0, 1) := by decide +kernel
theorem d_OW_copy_22 : decode b_OW_copy 22 = .ok (.ireturn, 1) := by decide +kernel
theorem d_OW_copy_23 : decode b_OW_copy 23 = .ok (.aload_n 0, 1) := by decide +kernel
theorem d_OW_copy_24 : decode b_OW_copy 24 = .ok (.getfield 37, 3) := by decide +kernel
theorem d_OW_copy_27 : decode b_OW_copy 27 = .ok (.aload_n 0, 1) := by decide +kernel
theorem d_OW_copy_28 : decode b_OW_copy 28 = .ok (.getfield 37, 3) := by decide +kernel
theorem d_OW_copy_31 : decode b_OW_copy 31 = .ok (.iload_n 1, 1) := by decide +kernel
theorem d_OW_copy_32 : decode b_OW_copy 32 = .ok (.invokevirtual 108, 3) := by decide +kernel
theorem d_OW_copy_35 : decode b_OW_copy 35 = .ok (.aload_n 0, 1) := by decide +kernel
theorem d_OW_copy_36 : decode b_OW_copy 36 = .ok (.getfield 37, 3) := by decide +kernel
theorem d_OW_copy_39 : decode b_OW_copy 39 = .ok (.iload_n 1, 1) := by decide +kernel
theorem d_OW_copy_40 : decode b_OW_copy 40 = .ok (.invokevirtual 92, 3) := by decide +kernel
theorem d_OW_copy_43 : decode b_OW_copy 43 = .ok (.invokevirtual 111, 3) := by decide +kernel
theorem d_OW_copy_46 : decode b_OW_copy 46 = .ok (.iconst 1, 1) := by decide +kernel
theorem d_OW_copy_47 : decode b_OW_copy 47 = .ok (.ireturn, 1) := by decide +kernel
theorem d_OW_add_0 : decode b_OW_add 0 = .ok (.iload_n 1, 1) := by decide +kernel
theorem d_OW_add_1 : decode b_OW_add 1 = .ok (.ifCond .lt (25), 3) := by decide +kernel
theorem d_OW_add_4 : decode b_OW_add 4 = .ok (.iload_n 1, 1) := by decide +kernel
theorem d_OW_add_5 : decode b_OW_add 5 = .ok (.sipush 255, 3) := by decide +kernel
theorem d_OW_add_8 : decode b_OW_add 8 = .ok (.if_icmp .gt (18), 3) := by decide +kernel
theorem d_OW_add_11 : decode b_OW_add 11 = .ok (.aload_n 0, 1) := by decide +kernel
theorem d_OW_add_12 : decode b_OW_add 12 = .ok (.getfield 30, 3) := by decide +kernel
theorem d_OW_add_15 : decode b_OW_add 15 = .ok (.iload_n 1, 1) := by decide +kernel
theorem d_OW_add_16 : decode b_OW_add 16 = .ok (.invokevirtual 115, 3) := by decide +kernel
theorem d_OW_add_19 : decode b_OW_add 19 = .ok (.ifCond .eq (7), 3) := by decide +kernel
theorem d_OW_add_22 : decode b_OW_add 22 = .ok (.iconst 1, 1) := by decide +kernel
theorem d_OW_add_23 : decode b_OW_add 23 = .ok (.goto (4), 3) := by decide +kernel
theorem d_OW_add_26 : decode b_OW_add 26 = .ok (.iconst 0, 1) := by decide +kernel
theorem d_OW_add_27 : decode b_OW_add 27 = .ok (.ireturn, 1) := by decide +kernel
theorem d_OW_hand_0 : decode b_OW_hand 0 = .ok (.iload_n 1, 1) := by decide +kernel
theorem d_OW_hand_1 : decode b_OW_hand 1 = .ok (.ifCond .eq (17), 3) := by decide +kernel
theorem d_OW_hand_4 : decode b_OW_hand 4 = .ok (.aload_n 0, 1) := by decide +kernel
theorem d_OW_hand_5 : decode b_OW_hand 5 = .ok (.getfield 52, 3) := by decide +kernel
theorem d_OW_hand_8 : decode b_OW_hand 8 = .ok (.aload_n 0, 1) := by decide +kernel
theorem d_OW_hand_9 : decode b_OW_hand 9 = .ok (.getfield 30, 3) := by decide +kernel
theorem d_OW_hand_12 : decode b_OW_hand 12 = .ok (.invokevirtual 99, 3) := by decide +kernel
theorem d_OW_hand_15 : decode b_OW_hand 15 = .ok (.goto (14), 3) := by decide +kernel
theorem d_OW_hand_18 : decode b_OW_hand 18 = .ok (.aload_n 0, 1) := by decide +kernel
theorem d_OW_hand_19 : decode b_OW_hand 19 = .ok (.getfield 61, 3) := by decide +kernel
theorem d_OW_hand_22 : decode b_OW_hand 22 = .ok (.aload_n 0, 1) := by decide +kernel
theorem d_OW_hand_23 : decode b_OW_hand 23 = .ok (.getfield 30, 3) := by decide +kernel
theorem d_OW_hand_26 : decode b_OW_hand 26 = .ok (.invokevirtual 103, 3) := by decide +kernel
theorem d_OW_hand_29 : decode b_OW_hand 29 = .ok (.istore_n 2, 1) := by decide +kernel
theorem d_OW_hand_30 : decode b_OW_hand 30 = .ok (.aload_n 0, 1) := by decide +kernel
theorem d_OW_hand_31 : decode b_OW_hand 31 = .ok (.getfield 30, 3) := by decide +kernel
theorem d_OW_hand_34 : decode b_OW_hand 34 = .ok (.invokevirtual 118, 3) := by decide +kernel
theorem d_OW_hand_37 : decode b_OW_hand 37 = .ok (.iload_n 2, 1) := by decide +kernel
theorem d_OW_hand_38 : decode b_OW_hand 38 = .ok (.ireturn, 1) := by decide +kernel
theorem d_OW_total_0 : decode b_OW_total 0 = .ok (.aload_n 0, 1) := by decide +kernel
theorem d_OW_total_1 : decode b_OW_total 1 = .ok (.getfield 52, 3) := by decide +kernel
theorem d_OW_total_4 : decode b_OW_total 4 = .ok (.getfield 119, 3) := by decide +kernel
theorem d_OW_total_7 : decode b_OW_total 7 = .ok (.ireturn, 1) := by decide +kernel
theorem d_OW_runs_0 : decode b_OW_runs 0 = .ok (.aload_n 0, 1) := by decide +kernel
theorem d_OW_runs_1 : decode b_OW_runs 1 = .ok (.getfield 52, 3) := by decide +kernel
theorem d_OW_runs_4 : decode b_OW_runs 4 = .ok (.getfield 123, 3) := by decide +kernel
theorem d_OW_runs_7 : decode b_OW_runs 7 = .ok (.ireturn, 1) := by decide +kernel
theorem d_OW_status_0 : decode b_OW_status 0 = .ok (.aload_n 0, 1) := by decide +kernel
theorem d_OW_status_1 : decode b_OW_status 1 = .ok (.getfield 61, 3) := by decide +kernel
theorem d_OW_status_4 : decode b_OW_status 4 = .ok (.iload_n 1, 1) := by decide +kernel
theorem d_OW_status_5 : decode b_OW_status 5 = .ok (.invokevirtual 126, 3) := by decide +kernel
theorem d_OW_status_8 : decode b_OW_status 8 = .ok (.ireturn, 1) := by decide +kernel
theorem d_OW_result_0 : decode b_OW_result 0 = .ok (.aload_n 0, 1) := by decide +kernel
theorem d_OW_result_1 : decode b_OW_result 1 = .ok (.getfield 61, 3) := by decide +kernel
theorem d_OW_result_4 : decode b_OW_result 4 = .ok (.iload_n 1, 1) := by decide +kernel
theorem d_OW_result_5 : decode b_OW_result 5 = .ok (.invokevirtual 130, 3) := by decide +kernel
theorem d_OW_result_8 : decode b_OW_result 8 = .ok (.ireturn, 1) := by decide +kernel
theorem d_OW_flight_0 : decode b_OW_flight 0 = .ok (.aload_n 0, 1) := by decide +kernel
theorem d_OW_flight_1 : decode b_OW_flight 1 = .ok (.getfield 37, 3) := by decide +kernel
theorem d_OW_flight_4 : decode b_OW_flight 4 = .ok (.getfield 133, 3) := by decide +kernel
theorem d_OW_flight_7 : decode b_OW_flight 7 = .ok (.ireturn, 1) := by decide +kernel
theorem d_OW_size_0 : decode b_OW_size 0 = .ok (.aload_n 0, 1) := by decide +kernel
theorem d_OW_size_1 : decode b_OW_size 1 = .ok (.getfield 37, 3) := by decide +kernel
theorem d_OW_size_4 : decode b_OW_size 4 = .ok (.iload_n 1, 1) := by decide +kernel
theorem d_OW_size_5 : decode b_OW_size 5 = .ok (.invokevirtual 91, 3) := by decide +kernel
theorem d_OW_size_8 : decode b_OW_size 8 = .ok (.ifCond .eq (17), 3) := by decide +kernel
theorem d_OW_size_11 : decode b_OW_size 11 = .ok (.aload_n 0, 1) := by decide +kernel
theorem d_OW_size_12 : decode b_OW_size 12 = .ok (.getfield 37, 3) := by decide +kernel
theorem d_OW_size_15 : decode b_OW_size 15 = .ok (.iload_n 1, 1) := by decide +kernel
theorem d_OW_size_16 : decode b_OW_size 16 = .ok (.invokevirtual 108, 3) := by decide +kernel
theorem d_OW_size_19 : decode b_OW_size 19 = .ok (.getfield 136, 3) := by decide +kernel
theorem d_OW_size_22 : decode b_OW_size 22 = .ok (.goto (4), 3) := by decide +kernel
theorem d_OW_size_25 : decode b_OW_size 25 = .ok (.iconst (-1), 1) := by decide +kernel
theorem d_OW_size_26 : decode b_OW_size 26 = .ok (.ireturn, 1) := by decide +kernel
theorem d_OW_byteAt_0 : decode b_OW_byteAt 0 = .ok (.aload_n 0, 1) := by decide +kernel
theorem d_OW_byteAt_1 : decode b_OW_byteAt 1 = .ok (.getfield 37, 3) := by decide +kernel
theorem d_OW_byteAt_4 : decode b_OW_byteAt 4 = .ok (.iload_n 1, 1) := by decide +kernel
theorem d_OW_byteAt_5 : decode b_OW_byteAt 5 = .ok (.invokevirtual 91, 3) := by decide +kernel
theorem d_OW_byteAt_8 : decode b_OW_byteAt 8 = .ok (.ifCond .eq (18), 3) := by decide +kernel
theorem d_OW_byteAt_11 : decode b_OW_byteAt 11 = .ok (.aload_n 0, 1) := by decide +kernel
theorem d_OW_byteAt_12 : decode b_OW_byteAt 12 = .ok (.getfield 37, 3) := by decide +kernel
theorem d_OW_byteAt_15 : decode b_OW_byteAt 15 = .ok (.iload_n 1, 1) := by decide +kernel
theorem d_OW_byteAt_16 : decode b_OW_byteAt 16 = .ok (.invokevirtual 108, 3) := by decide +kernel
theorem d_OW_byteAt_19 : decode b_OW_byteAt 19 = .ok (.iload_n 2, 1) := by decide +kernel
theorem d_OW_byteAt_20 : decode b_OW_byteAt 20 = .ok (.invokevirtual 139, 3) := by decide +kernel
theorem d_OW_byteAt_23 : decode b_OW_byteAt 23 = .ok (.goto (4), 3) := by decide +kernel
theorem d_OW_byteAt_26 : decode b_OW_byteAt 26 = .ok (.iconst (-1), 1) := by decide +kernel
theorem d_OW_byteAt_27 : decode b_OW_byteAt 27 = .ok (.ireturn, 1) := by decide +kernel
theorem d_Bytes_init_0 : decode b_Bytes_init 0 = .ok (.aload_n 0, 1) := by decide +kernel
theorem d_Bytes_init_1 : decode b_Bytes_init 1 = .ok (.invokespecial 3, 3) := by decide +kernel
theorem d_Bytes_init_4 : decode b_Bytes_init 4 = .ok (.aload_n 0, 1) := by decide +kernel
theorem d_Bytes_init_5 : decode b_Bytes_init 5 = .ok (.iload_n 1, 1) := by decide +kernel
theorem d_Bytes_init_6 : decode b_Bytes_init 6 = .ok (.newarray .int, 2) := by decide +kernel
theorem d_Bytes_init_8 : decode b_Bytes_init 8 = .ok (.putfield 9, 3) := by decide +kernel
theorem d_Bytes_init_11 : decode b_Bytes_init 11 = .ok (.aload_n 0, 1) := by decide +kernel
theorem d_Bytes_init_12 : decode b_Bytes_init 12 = .ok (.iconst 0, 1) := by decide +kernel
theorem d_Bytes_init_13 : decode b_Bytes_init 13 = .ok (.putfield 15, 3) := by decide +kernel
theorem d_Bytes_init_16 : decode b_Bytes_init 16 = .ok (.return_, 1) := by decide +kernel
theorem d_Bytes_clear_0 : decode b_Bytes_clear 0 = .ok (.aload_n 0, 1) := by decide +kernel
theorem d_Bytes_clear_1 : decode b_Bytes_clear 1 = .ok (.iconst 0, 1) := by decide +kernel
theorem d_Bytes_clear_2 : decode b_Bytes_clear 2 = .ok (.putfield 15, 3) := by decide +kernel
theorem d_Bytes_clear_5 : decode b_Bytes_clear 5 = .ok (.return_, 1) := by decide +kernel
theorem d_Bytes_append_0 : decode b_Bytes_append 0 = .ok (.aload_n 0, 1) := by decide +kernel
theorem d_Bytes_append_1 : decode b_Bytes_append 1 = .ok (.getfield 15, 3) := by decide +kernel
theorem d_Bytes_append_4 : decode b_Bytes_append 4 = .ok (.aload_n 0, 1) := by decide +kernel
theorem d_Bytes_append_5 : decode b_Bytes_append 5 = .ok (.getfield 9, 3) := by decide +kernel
theorem d_Bytes_append_8 : decode b_Bytes_append 8 = .ok (.arraylength, 1) := by decide +kernel
theorem d_Bytes_append_9 : decode b_Bytes_append 9 = .ok (.if_icmp .lt (5), 3) := by decide +kernel
theorem d_Bytes_append_12 : decode b_Bytes_append 12 = .ok (.iconst 0, 1) := by decide +kernel
theorem d_Bytes_append_13 : decode b_Bytes_append 13 = .ok (.ireturn, 1) := by decide +kernel
theorem d_Bytes_append_14 : decode b_Bytes_append 14 = .ok (.aload_n 0, 1) := by decide +kernel
theorem d_Bytes_append_15 : decode b_Bytes_append 15 = .ok (.getfield 9, 3) := by decide +kernel
theorem d_Bytes_append_18 : decode b_Bytes_append 18 = .ok (.aload_n 0, 1) := by decide +kernel
theorem d_Bytes_append_19 : decode b_Bytes_append 19 = .ok (.getfield 15, 3) := by decide +kernel
theorem d_Bytes_append_22 : decode b_Bytes_append 22 = .ok (.iload_n 1, 1) := by decide +kernel
theorem d_Bytes_append_23 : decode b_Bytes_append 23 = .ok (.iastore, 1) := by decide +kernel
theorem d_Bytes_append_24 : decode b_Bytes_append 24 = .ok (.aload_n 0, 1) := by decide +kernel
theorem d_Bytes_append_25 : decode b_Bytes_append 25 = .ok (.dup, 1) := by decide +kernel
theorem d_Bytes_append_26 : decode b_Bytes_append 26 = .ok (.getfield 15, 3) := by decide +kernel
theorem d_Bytes_append_29 : decode b_Bytes_append 29 = .ok (.iconst 1, 1) := by decide +kernel
theorem d_Bytes_append_30 : decode b_Bytes_append 30 = .ok (.iadd, 1) := by decide +kernel
theorem d_Bytes_append_31 : decode b_Bytes_append 31 = .ok (.putfield 15, 3) := by decide +kernel
theorem d_Bytes_append_34 : decode b_Bytes_append 34 = .ok (.iconst 1, 1) := by decide +kernel
theorem d_Bytes_append_35 : decode b_Bytes_append 35 = .ok (.ireturn, 1) := by decide +kernel
theorem d_Bytes_appendWord_0 : decode b_Bytes_appendWord 0 = .ok (.aload_n 0, 1) := by decide +kernel
theorem d_Bytes_appendWord_1 : decode b_Bytes_appendWord 1 = .ok (.iload_n 1, 1) := by decide +kernel
theorem d_Bytes_appendWord_2 : decode b_Bytes_appendWord 2 = .ok (.bipush 24, 2) := by decide +kernel
theorem d_Bytes_appendWord_4 : decode b_Bytes_appendWord 4 = .ok (.iushr, 1) := by decide +kernel
theorem d_Bytes_appendWord_5 : decode b_Bytes_appendWord 5 = .ok (.sipush 255, 3) := by decide +kernel
theorem d_Bytes_appendWord_8 : decode b_Bytes_appendWord 8 = .ok (.iand, 1) := by decide +kernel
theorem d_Bytes_appendWord_9 : decode b_Bytes_appendWord 9 = .ok (.invokevirtual 19, 3) := by decide +kernel
theorem d_Bytes_appendWord_12 : decode b_Bytes_appendWord 12 = .ok (.pop, 1) := by decide +kernel
theorem d_Bytes_appendWord_13 : decode b_Bytes_appendWord 13 = .ok (.aload_n 0, 1) := by decide +kernel
theorem d_Bytes_appendWord_14 : decode b_Bytes_appendWord 14 = .ok (.iload_n 1, 1) := by decide +kernel
theorem d_Bytes_appendWord_15 : decode b_Bytes_appendWord 15 = .ok (.bipush 16, 2) := by decide +kernel
theorem d_Bytes_appendWord_17 : decode b_Bytes_appendWord 17 = .ok (.iushr, 1) := by decide +kernel
theorem d_Bytes_appendWord_18 : decode b_Bytes_appendWord 18 = .ok (.sipush 255, 3) := by decide +kernel
theorem d_Bytes_appendWord_21 : decode b_Bytes_appendWord 21 = .ok (.iand, 1) := by decide +kernel
theorem d_Bytes_appendWord_22 : decode b_Bytes_appendWord 22 = .ok (.invokevirtual 19, 3) := by decide +kernel
theorem d_Bytes_appendWord_25 : decode b_Bytes_appendWord 25 = .ok (.pop, 1) := by decide +kernel
theorem d_Bytes_appendWord_26 : decode b_Bytes_appendWord 26 = .ok (.aload_n 0, 1) := by decide +kernel
theorem d_Bytes_appendWord_27 : decode b_Bytes_appendWord 27 = .ok (.iload_n 1, 1) := by decide +kernel
theorem d_Bytes_appendWord_28 : decode b_Bytes_appendWord 28 = .ok (.bipush 8, 2) := by decide +kernel
theorem d_Bytes_appendWord_30 : decode b_Bytes_appendWord 30 = .ok (.iushr, 1) := by decide +kernel
theorem d_Bytes_appendWord_31 : decode b_Bytes_appendWord 31 = .ok (.sipush 255, 3) := by decide +kernel
theorem d_Bytes_appendWord_34 : decode b_Bytes_appendWord 34 = .ok (.iand, 1) := by decide +kernel
theorem d_Bytes_appendWord_35 : decode b_Bytes_appendWord 35 = .ok (.invokevirtual 19, 3) := by decide +kernel
theorem d_Bytes_appendWord_38 : decode b_Bytes_appendWord 38 = .ok (.pop, 1) := by decide +kernel
theorem d_Bytes_appendWord_39 : decode b_Bytes_appendWord 39 = .ok (.aload_n 0, 1) := by decide +kernel
theorem d_Bytes_appendWord_40 : decode b_Bytes_appendWord 40 = .ok (.iload_n 1, 1) := by decide +kernel
theorem d_Bytes_appendWord_41 : decode b_Bytes_appendWord 41 = .ok (.sipush 255, 3) := by decide +kernel
theorem d_Bytes_appendWord_44 : decode b_Bytes_appendWord 44 = .ok (.iand, 1) := by decide +kernel
theorem d_Bytes_appendWord_45 : decode b_Bytes_appendWord 45 = .ok (.invokevirtual 19, 3) := by decide +kernel
theorem d_Bytes_appendWord_48 : decode b_Bytes_appendWord 48 = .ok (.pop, 1) := by decide +kernel
theorem d_Bytes_appendWord_49 : decode b_Bytes_appendWord 49 = .ok (.return_, 1) := by decide +kernel
theorem d_Bytes_appendPart_0 : decode b_Bytes_appendPart 0 = .ok (.iload_n 2, 1) := by decide +kernel
theorem d_Bytes_appendPart_1 : decode b_Bytes_appendPart 1 = .ok (.iload_n 3, 1) := by decide +kernel
theorem d_Bytes_appendPart_2 : decode b_Bytes_appendPart 2 = .ok (.iadd, 1) := by decide +kernel
theorem d_Bytes_appendPart_3 : decode b_Bytes_appendPart 3 = .ok (.aload_n 1, 1) := by decide +kernel
theorem d_Bytes_appendPart_4 : decode b_Bytes_appendPart 4 = .ok (.getfield 15, 3) := by decide +kernel
theorem d_Bytes_appendPart_7 : decode b_Bytes_appendPart 7 = .ok (.invokestatic 23, 3) := by decide +kernel
theorem d_Bytes_appendPart_10 : decode b_Bytes_appendPart 10 = .ok (.istore 4, 2) := by decide +kernel
theorem d_Bytes_appendPart_12 : decode b_Bytes_appendPart 12 = .ok (.iload_n 2, 1) := by decide +kernel
theorem d_Bytes_appendPart_13 : decode b_Bytes_appendPart 13 = .ok (.iconst 0, 1) := by decide +kernel
theorem d_Bytes_appendPart_14 : decode b_Bytes_appendPart 14 = .ok (.invokestatic 29, 3) := by decide +kernel
theorem d_Bytes_appendPart_17 : decode b_Bytes_appendPart 17 = .ok (.istore 5, 2) := by decide +kernel
theorem d_Bytes_appendPart_19 : decode b_Bytes_appendPart 19 = .ok (.iload 5, 2) := by decide +kernel
theorem d_Bytes_appendPart_21 : decode b_Bytes_appendPart 21 = .ok (.iload 4, 2) := by decide +kernel
theorem d_Bytes_appendPart_23 : decode b_Bytes_appendPart 23 = .ok (.if_icmp .ge (21), 3) := by decide +kernel
theorem d_Bytes_appendPart_26 : decode b_Bytes_appendPart 26 = .ok (.aload_n 0, 1) := by decide +kernel
theorem d_Bytes_appendPart_27 : decode b_Bytes_appendPart 27 = .ok (.aload_n 1, 1) := by decide +kernel
theorem d_Bytes_appendPart_28 : decode b_Bytes_appendPart 28 = .ok (.getfield 9, 3) := by decide +kernel
theorem d_Bytes_appendPart_31 : decode b_Bytes_appendPart 31 = .ok (.iload 5, 2) := by decide +kernel
theorem d_Bytes_appendPart_33 : decode b_Bytes_appendPart 33 = .ok (.iaload, 1) := by decide +kernel
theorem d_Bytes_appendPart_34 : decode b_Bytes_appendPart 34 = .ok (.invokevirtual 19, 3) := by decide +kernel
theorem d_Bytes_appendPart_37 : decode b_Bytes_appendPart 37 = .ok (.pop, 1) := by decide +kernel
theorem d_Bytes_appendPart_38 : decode b_Bytes_appendPart 38 = .ok (.iinc 5 (1), 3) := by decide +kernel
theorem d_Bytes_appendPart_41 : decode b_Bytes_appendPart 41 = .ok (.goto (-22), 3) := by decide +kernel
theorem d_Bytes_appendPart_44 : decode b_Bytes_appendPart 44 = .ok (.return_, 1) := by decide +kernel
theorem d_Bytes_become_0 : decode b_Bytes_become 0 = .ok (.aload_n 0, 1) := by decide +kernel
theorem d_Bytes_become_1 : decode b_Bytes_become 1 = .ok (.aload_n 1, 1) := by decide +kernel
theorem d_Bytes_become_2 : decode b_Bytes_become 2 = .ok (.getfield 15, 3) := by decide +kernel
theorem d_Bytes_become_5 : decode b_Bytes_become 5 = .ok (.aload_n 0, 1) := by decide +kernel
theorem d_Bytes_become_6 : decode b_Bytes_become 6 = .ok (.getfield 9, 3) := by decide +kernel
theorem d_Bytes_become_9 : decode b_Bytes_become 9 = .ok (.arraylength, 1) := by decide +kernel
theorem d_Bytes_become_10 : decode b_Bytes_become 10 = .ok (.invokestatic 23, 3) := by decide +kernel
theorem d_Bytes_become_13 : decode b_Bytes_become 13 = .ok (.putfield 15, 3) := by decide +kernel
theorem d_Bytes_become_16 : decode b_Bytes_become 16 = .ok (.aload_n 1, 1) := by decide +kernel
theorem d_Bytes_become_17 : decode b_Bytes_become 17 = .ok (.getfield 9, 3) := by decide +kernel
theorem d_Bytes_become_20 : decode b_Bytes_become 20 = .ok (.iconst 0, 1) := by decide +kernel
theorem d_Bytes_become_21 : decode b_Bytes_become 21 = .ok (.aload_n 0, 1) := by decide +kernel
theorem d_Bytes_become_22 : decode b_Bytes_become 22 = .ok (.getfield 9, 3) := by decide +kernel
theorem d_Bytes_become_25 : decode b_Bytes_become 25 = .ok (.iconst 0, 1) := by decide +kernel
theorem d_Bytes_become_26 : decode b_Bytes_become 26 = .ok (.aload_n 0, 1) := by decide +kernel
theorem d_Bytes_become_27 : decode b_Bytes_become 27 = .ok (.getfield 15, 3) := by decide +kernel
theorem d_Bytes_become_30 : decode b_Bytes_become 30 = .ok (.invokestatic 32, 3) := by decide +kernel
theorem d_Bytes_become_33 : decode b_Bytes_become 33 = .ok (.return_, 1) := by decide +kernel
theorem d_Bytes_at_0 : decode b_Bytes_at 0 = .ok (.iload_n 1, 1) := by decide +kernel
theorem d_Bytes_at_1 : decode b_Bytes_at 1 = .ok (.ifCond .lt (20), 3) := by decide +kernel
theorem d_Bytes_at_4 : decode b_Bytes_at 4 = .ok (.iload_n 1, 1) := by decide +kernel
theorem d_Bytes_at_5 : decode b_Bytes_at 5 = .ok (.aload_n 0, 1) := by decide +kernel
theorem d_Bytes_at_6 : decode b_Bytes_at 6 = .ok (.getfield 15, 3) := by decide +kernel
theorem d_Bytes_at_9 : decode b_Bytes_at 9 = .ok (.if_icmp .ge (12), 3) := by decide +kernel
theorem d_Bytes_at_12 : decode b_Bytes_at 12 = .ok (.aload_n 0, 1) := by decide +kernel
theorem d_Bytes_at_13 : decode b_Bytes_at 13 = .ok (.getfield 9, 3) := by decide +kernel
theorem d_Bytes_at_16 : decode b_Bytes_at 16 = .ok (.iload_n 1, 1) := by decide +kernel
theorem d_Bytes_at_17 : decode b_Bytes_at 17 = .ok (.iaload, 1) := by decide +kernel
theorem d_Bytes_at_18 : decode b_Bytes_at 18 = .ok (.goto (4), 3) := by decide +kernel
theorem d_Bytes_at_21 : decode b_Bytes_at 21 = .ok (.iconst (-1), 1) := by decide +kernel
theorem d_Bytes_at_22 : decode b_Bytes_at 22 = .ok (.ireturn, 1) := by decide +kernel
theorem d_Bytes_wordAt_0 : decode b_Bytes_wordAt 0 = .ok (.iload_n 1, 1) := by decide +kernel
theorem d_Bytes_wordAt_1 : decode b_Bytes_wordAt 1 = .ok (.ifCond .lt (13), 3) := by decide +kernel
theorem d_Bytes_wordAt_4 : decode b_Bytes_wordAt 4 = .ok (.iload_n 1, 1) := by decide +kernel
theorem d_Bytes_wordAt_5 : decode b_Bytes_wordAt 5 = .ok (.aload_n 0, 1) := by decide +kernel
theorem d_Bytes_wordAt_6 : decode b_Bytes_wordAt 6 = .ok (.getfield 15, 3) := by decide +kernel
theorem d_Bytes_wordAt_9 : decode b_Bytes_wordAt 9 = .ok (.iconst 4, 1) := by decide +kernel
theorem d_Bytes_wordAt_10 : decode b_Bytes_wordAt 10 = .ok (.isub, 1) := by decide +kernel
theorem d_Bytes_wordAt_11 : decode b_Bytes_wordAt 11 = .ok (.if_icmp .le (5), 3) := by decide +kernel
theorem d_Bytes_wordAt_14 : decode b_Bytes_wordAt 14 = .ok (.iconst 0, 1) := by decide +kernel
theorem d_Bytes_wordAt_15 : decode b_Bytes_wordAt 15 = .ok (.ireturn, 1) := by decide +kernel
theorem d_Bytes_wordAt_16 : decode b_Bytes_wordAt 16 = .ok (.aload_n 0, 1) := by decide +kernel
theorem d_Bytes_wordAt_17 : decode b_Bytes_wordAt 17 = .ok (.getfield 9, 3) := by decide +kernel
theorem d_Bytes_wordAt_20 : decode b_Bytes_wordAt 20 = .ok (.iload_n 1, 1) := by decide +kernel
theorem d_Bytes_wordAt_21 : decode b_Bytes_wordAt 21 = .ok (.iaload, 1) := by decide +kernel
theorem d_Bytes_wordAt_22 : decode b_Bytes_wordAt 22 = .ok (.bipush 24, 2) := by decide +kernel
theorem d_Bytes_wordAt_24 : decode b_Bytes_wordAt 24 = .ok (.ishl, 1) := by decide +kernel
theorem d_Bytes_wordAt_25 : decode b_Bytes_wordAt 25 = .ok (.aload_n 0, 1) := by decide +kernel
theorem d_Bytes_wordAt_26 : decode b_Bytes_wordAt 26 = .ok (.getfield 9, 3) := by decide +kernel
theorem d_Bytes_wordAt_29 : decode b_Bytes_wordAt 29 = .ok (.iload_n 1, 1) := by decide +kernel
theorem d_Bytes_wordAt_30 : decode b_Bytes_wordAt 30 = .ok (.iconst 1, 1) := by decide +kernel
theorem d_Bytes_wordAt_31 : decode b_Bytes_wordAt 31 = .ok (.iadd, 1) := by decide +kernel
theorem d_Bytes_wordAt_32 : decode b_Bytes_wordAt 32 = .ok (.iaload, 1) := by decide +kernel
theorem d_Bytes_wordAt_33 : decode b_Bytes_wordAt 33 = .ok (.bipush 16, 2) := by decide +kernel
theorem d_Bytes_wordAt_35 : decode b_Bytes_wordAt 35 = .ok (.ishl, 1) := by decide +kernel
theorem d_Bytes_wordAt_36 : decode b_Bytes_wordAt 36 = .ok (.ior, 1) := by decide +kernel
theorem d_Bytes_wordAt_37 : decode b_Bytes_wordAt 37 = .ok (.aload_n 0, 1) := by decide +kernel
theorem d_Bytes_wordAt_38 : decode b_Bytes_wordAt 38 = .ok (.getfield 9, 3) := by decide +kernel
theorem d_Bytes_wordAt_41 : decode b_Bytes_wordAt 41 = .ok (.iload_n 1, 1) := by decide +kernel
theorem d_Bytes_wordAt_42 : decode b_Bytes_wordAt 42 = .ok (.iconst 2, 1) := by decide +kernel
theorem d_Bytes_wordAt_43 : decode b_Bytes_wordAt 43 = .ok (.iadd, 1) := by decide +kernel
theorem d_Bytes_wordAt_44 : decode b_Bytes_wordAt 44 = .ok (.iaload, 1) := by decide +kernel
theorem d_Bytes_wordAt_45 : decode b_Bytes_wordAt 45 = .ok (.bipush 8, 2) := by decide +kernel
theorem d_Bytes_wordAt_47 : decode b_Bytes_wordAt 47 = .ok (.ishl, 1) := by decide +kernel
theorem d_Bytes_wordAt_48 : decode b_Bytes_wordAt 48 = .ok (.ior, 1) := by decide +kernel
theorem d_Bytes_wordAt_49 : decode b_Bytes_wordAt 49 = .ok (.aload_n 0, 1) := by decide +kernel
theorem d_Bytes_wordAt_50 : decode b_Bytes_wordAt 50 = .ok (.getfield 9, 3) := by decide +kernel
theorem d_Bytes_wordAt_53 : decode b_Bytes_wordAt 53 = .ok (.iload_n 1, 1) := by decide +kernel
theorem d_Bytes_wordAt_54 : decode b_Bytes_wordAt 54 = .ok (.iconst 3, 1) := by decide +kernel
theorem d_Bytes_wordAt_55 : decode b_Bytes_wordAt 55 = .ok (.iadd, 1) := by decide +kernel
theorem d_Bytes_wordAt_56 : decode b_Bytes_wordAt 56 = .ok (.iaload, 1) := by decide +kernel
theorem d_Bytes_wordAt_57 : decode b_Bytes_wordAt 57 = .ok (.ior, 1) := by decide +kernel
theorem d_Bytes_wordAt_58 : decode b_Bytes_wordAt 58 = .ok (.ireturn, 1) := by decide +kernel
theorem d_Bytes_swapped_0 : decode b_Bytes_swapped 0 = .ok (.iload_n 0, 1) := by decide +kernel
theorem d_Bytes_swapped_1 : decode b_Bytes_swapped 1 = .ok (.bipush 24, 2) := by decide +kernel
theorem d_Bytes_swapped_3 : decode b_Bytes_swapped 3 = .ok (.ishl, 1) := by decide +kernel
theorem d_Bytes_swapped_4 : decode b_Bytes_swapped 4 = .ok (.iload_n 0, 1) := by decide +kernel
theorem d_Bytes_swapped_5 : decode b_Bytes_swapped 5 = .ok (.ldc 38, 2) := by decide +kernel
theorem d_Bytes_swapped_7 : decode b_Bytes_swapped 7 = .ok (.iand, 1) := by decide +kernel
theorem d_Bytes_swapped_8 : decode b_Bytes_swapped 8 = .ok (.bipush 8, 2) := by decide +kernel
theorem d_Bytes_swapped_10 : decode b_Bytes_swapped 10 = .ok (.ishl, 1) := by decide +kernel
theorem d_Bytes_swapped_11 : decode b_Bytes_swapped 11 = .ok (.ior, 1) := by decide +kernel
theorem d_Bytes_swapped_12 : decode b_Bytes_swapped 12 = .ok (.iload_n 0, 1) := by decide +kernel
theorem d_Bytes_swapped_13 : decode b_Bytes_swapped 13 = .ok (.bipush 8, 2) := by decide +kernel
theorem d_Bytes_swapped_15 : decode b_Bytes_swapped 15 = .ok (.iushr, 1) := by decide +kernel
theorem d_Bytes_swapped_16 : decode b_Bytes_swapped 16 = .ok (.ldc 38, 2) := by decide +kernel
theorem d_Bytes_swapped_18 : decode b_Bytes_swapped 18 = .ok (.iand, 1) := by decide +kernel
theorem d_Bytes_swapped_19 : decode b_Bytes_swapped 19 = .ok (.ior, 1) := by decide +kernel
theorem d_Bytes_swapped_20 : decode b_Bytes_swapped 20 = .ok (.iload_n 0, 1) := by decide +kernel
theorem d_Bytes_swapped_21 : decode b_Bytes_swapped 21 = .ok (.bipush 24, 2) := by decide +kernel
theorem d_Bytes_swapped_23 : decode b_Bytes_swapped 23 = .ok (.iushr, 1) := by decide +kernel
theorem d_Bytes_swapped_24 : decode b_Bytes_swapped 24 = .ok (.ior, 1) := by decide +kernel
theorem d_Bytes_swapped_25 : decode b_Bytes_swapped 25 = .ok (.ireturn, 1) := by decide +kernel
theorem d_Bytes_moveToEnd_0 : decode b_Bytes_moveToEnd 0 = .ok (.iload_n 1, 1) := by decide +kernel
theorem d_Bytes_moveToEnd_1 : decode b_Bytes_moveToEnd 1 = .ok (.ifCond .lt (9), 3) := by decide +kernel
theorem d_Bytes_moveToEnd_4 : decode b_Bytes_moveToEnd 4 = .ok (.iload_n 1, 1) := by decide +kernel
theorem d_Bytes_moveToEnd_5 : decode b_Bytes_moveToEnd 5 = .ok (.aload_n 0, 1) := by decide +kernel
theorem d_Bytes_moveToEnd_6 : decode b_Bytes_moveToEnd 6 = .ok (.arraylength, 1) := by decide +kernel
theorem d_Bytes_moveToEnd_7 : decode b_Bytes_moveToEnd 7 = .ok (.if_icmp .lt (4), 3) := by decide +kernel
theorem d_Bytes_moveToEnd_10 : decode b_Bytes_moveToEnd 10 = .ok (.return_, 1) := by decide +kernel
theorem d_Bytes_moveToEnd_11 : decode b_Bytes_moveToEnd 11 = .ok (.aload_n 0, 1) := by decide +kernel
theorem d_Bytes_moveToEnd_12 : decode b_Bytes_moveToEnd 12 = .ok (.iload_n 1, 1) := by decide +kernel
theorem d_Bytes_moveToEnd_13 : decode b_Bytes_moveToEnd 13 = .ok (.aaload, 1) := by decide +kernel
theorem d_Bytes_moveToEnd_14 : decode b_Bytes_moveToEnd 14 = .ok (.astore_n 2, 1) := by decide +kernel
theorem d_Bytes_moveToEnd_15 : decode b_Bytes_moveToEnd 15 = .ok (.iload_n 1, 1) := by decide +kernel
theorem d_Bytes_moveToEnd_16 : decode b_Bytes_moveToEnd 16 = .ok (.istore_n 3, 1) := by decide +kernel
theorem d_Bytes_moveToEnd_17 : decode b_Bytes_moveToEnd 17 = .ok (.iload_n 3, 1) := by decide +kernel
theorem d_Bytes_moveToEnd_18 : decode b_Bytes_moveToEnd 18 = .ok (.aload_n 0, 1) := by decide +kernel
theorem d_Bytes_moveToEnd_19 : decode b_Bytes_moveToEnd 19 = .ok (.arraylength, 1) := by decide +kernel
theorem d_Bytes_moveToEnd_20 : decode b_Bytes_moveToEnd 20 = .ok (.iconst 1, 1) := by decide +kernel
theorem d_Bytes_moveToEnd_21 : decode b_Bytes_moveToEnd 21 = .ok (.isub, 1) := by decide +kernel
theorem d_Bytes_moveToEnd_22 : decode b_Bytes_moveToEnd 22 = .ok (.if_icmp .ge (17), 3) := by decide +kernel
theorem d_Bytes_moveToEnd_25 : decode b_Bytes_moveToEnd 25 = .ok (.aload_n 0, 1) := by decide +kernel
theorem d_Bytes_moveToEnd_26 : decode b_Bytes_moveToEnd 26 = .ok (.iload_n 3, 1) := by decide +kernel
theorem d_Bytes_moveToEnd_27 : decode b_Bytes_moveToEnd 27 = .ok (.aload_n 0, 1) := by decide +kernel
theorem d_Bytes_moveToEnd_28 : decode b_Bytes_moveToEnd 28 = .ok (.iload_n 3, 1) := by decide +kernel
theorem d_Bytes_moveToEnd_29 : decode b_Bytes_moveToEnd 29 = .ok (.iconst 1, 1) := by decide +kernel
theorem d_Bytes_moveToEnd_30 : decode b_Bytes_moveToEnd 30 = .ok (.iadd, 1) := by decide +kernel
theorem d_Bytes_moveToEnd_31 : decode b_Bytes_moveToEnd 31 = .ok (.aaload, 1) := by decide +kernel
theorem d_Bytes_moveToEnd_32 : decode b_Bytes_moveToEnd 32 = .ok (.aastore, 1) := by decide +kernel
theorem d_Bytes_moveToEnd_33 : decode b_Bytes_moveToEnd 33 = .ok (.iinc 3 (1), 3) := by decide +kernel
theorem d_Bytes_moveToEnd_36 : decode b_Bytes_moveToEnd 36 = .ok (.goto (-19), 3) := by decide +kernel
theorem d_Bytes_moveToEnd_39 : decode b_Bytes_moveToEnd 39 = .ok (.aload_n 0, 1) := by decide +kernel
theorem d_Bytes_moveToEnd_40 : decode b_Bytes_moveToEnd 40 = .ok (.aload_n 0, 1) := by decide +kernel
theorem d_Bytes_moveToEnd_41 : decode b_Bytes_moveToEnd 41 = .ok (.arraylength, 1) := by decide +kernel
theorem d_Bytes_moveToEnd_42 : decode b_Bytes_moveToEnd 42 = .ok (.iconst 1, 1) := by decide +kernel
theorem d_Bytes_moveToEnd_43 : decode b_Bytes_moveToEnd 43 = .ok (.isub, 1) := by decide +kernel
theorem d_Bytes_moveToEnd_44 : decode b_Bytes_moveToEnd 44 = .ok (.aload_n 2, 1) := by decide +kernel
theorem d_Bytes_moveToEnd_45 : decode b_Bytes_moveToEnd 45 = .ok (.aastore, 1) := by decide +kernel
theorem d_Bytes_moveToEnd_46 : decode b_Bytes_moveToEnd 46 = .ok (.return_, 1) := by decide +kernel
theorem d_Client_init_0 : decode b_Client_init 0 = .ok (.aload_n 0, 1) := by decide +kernel
theorem d_Client_init_1 : decode b_Client_init 1 = .ok (.invokespecial 3, 3) := by decide +kernel
theorem d_Client_init_4 : decode b_Client_init 4 = .ok (.aload_n 0, 1) := by decide +kernel
theorem d_Client_init_5 : decode b_Client_init 5 = .ok (.new 9, 3) := by decide +kernel
theorem d_Client_init_8 : decode b_Client_init 8 = .ok (.dup, 1) := by decide +kernel
theorem d_Client_init_9 : decode b_Client_init 9 = .ok (.sipush 200, 3) := by decide +kernel
theorem d_Client_init_12 : decode b_Client_init 12 = .ok (.invokespecial 11, 3) := by decide +kernel
theorem d_Client_init_15 : decode b_Client_init 15 = .ok (.putfield 14, 3) := by decide +kernel
theorem d_Client_init_18 : decode b_Client_init 18 = .ok (.aload_n 0, 1) := by decide +kernel
theorem d_Client_init_19 : decode b_Client_init 19 = .ok (.bipush 100, 2) := by decide +kernel
theorem d_Client_init_21 : decode b_Client_init 21 = .ok (.newarray .int, 2) := by decide +kernel
theorem d_Client_init_23 : decode b_Client_init 23 = .ok (.putfield 20, 3) := by decide +kernel
theorem d_Client_init_26 : decode b_Client_init 26 = .ok (.aload_n 0, 1) := by decide +kernel
theorem d_Client_init_27 : decode b_Client_init 27 = .ok (.bipush 100, 2) := by decide +kernel
theorem d_Client_init_29 : decode b_Client_init 29 = .ok (.newarray .int, 2) := by decide +kernel
theorem d_Client_init_31 : decode b_Client_init 31 = .ok (.putfield 24, 3) := by decide +kernel
theorem d_Client_init_34 : decode b_Client_init 34 = .ok (.aload_n 0, 1) := by decide +kernel
theorem d_Client_init_35 : decode b_Client_init 35 = .ok (.iconst 0, 1) := by decide +kernel
theorem d_Client_init_36 : decode b_Client_init 36 = .ok (.putfield 27, 3) := by decide +kernel
theorem d_Client_init_39 : decode b_Client_init 39 = .ok (.aload_n 0, 1) := by decide +kernel
theorem d_Client_init_40 : decode b_Client_init 40 = .ok (.bipush 8, 2) := by decide +kernel
theorem d_Client_init_42 : decode b_Client_init 42 = .ok (.newarray .int, 2) := by decide +kernel
theorem d_Client_init_44 : decode b_Client_init 44 = .ok (.putfield 31, 3) := by decide +kernel
theorem d_Client_init_47 : decode b_Client_init 47 = .ok (.aload_n 0, 1) := by decide +kernel
theorem d_Client_init_48 : decode b_Client_init 48 = .ok (.bipush 8, 2) := by decide +kernel
theorem d_Client_init_50 : decode b_Client_init 50 = .ok (.newarray .int, 2) := by decide +kernel
theorem d_Client_init_52 : decode b_Client_init 52 = .ok (.putfield 34, 3) := by decide +kernel
theorem d_Client_init_55 : decode b_Client_init 55 = .ok (.aload_n 0, 1) := by decide +kernel
theorem d_Client_init_56 : decode b_Client_init 56 = .ok (.bipush 8, 2) := by decide +kernel
theorem d_Client_init_58 : decode b_Client_init 58 = .ok (.anewarray 9, 3) := by decide +kernel
theorem d_Client_init_61 : decode b_Client_init 61 = .ok (.putfield 37, 3) := by decide +kernel
theorem d_Client_init_64 : decode b_Client_init 64 = .ok (.aload_n 0, 1) := by decide +kernel
theorem d_Client_init_65 : decode b_Client_init 65 = .ok (.iconst 0, 1) := by decide +kernel
theorem d_Client_init_66 : decode b_Client_init 66 = .ok (.putfield 41, 3) := by decide +kernel
theorem d_Client_init_69 : decode b_Client_init 69 = .ok (.aload_n 0, 1) := by decide +kernel
theorem d_Client_init_70 : decode b_Client_init 70 = .ok (.aload_n 1, 1) := by decide +kernel
theorem d_Client_init_71 : decode b_Client_init 71 = .ok (.putfield 44, 3) := by decide +kernel
theorem d_Client_init_74 : decode b_Client_init 74 = .ok (.aload_n 0, 1) := by decide +kernel
theorem d_Client_init_75 : decode b_Client_init 75 = .ok (.aload_n 2, 1) := by decide +kernel
theorem d_Client_init_76 : decode b_Client_init 76 = .ok (.putfield 48, 3) := by decide +kernel
theorem d_Client_init_79 : decode b_Client_init 79 = .ok (.iconst 0, 1) := by decide +kernel
theorem d_Client_init_80 : decode b_Client_init 80 = .ok (.istore_n 3, 1) := by decide +kernel
theorem d_Client_init_81 : decode b_Client_init 81 = .ok (.iload_n 3, 1) := by decide +kernel
theorem d_Client_init_82 : decode b_Client_init 82 = .ok (.aload_n 0, 1) := by decide +kernel
theorem d_Client_init_83 : decode b_Client_init 83 = .ok (.getfield 37, 3) := by decide +kernel
theorem d_Client_init_86 : decode b_Client_init 86 = .ok (.arraylength, 1) := by decide +kernel
theorem d_Client_init_87 : decode b_Client_init 87 = .ok (.if_icmp .ge (25), 3) := by decide +kernel
theorem d_Client_init_90 : decode b_Client_init 90 = .ok (.aload_n 0, 1) := by decide +kernel
theorem d_Client_init_91 : decode b_Client_init 91 = .ok (.getfield 37, 3) := by decide +kernel
theorem d_Client_init_94 : decode b_Client_init 94 = .ok (.iload_n 3, 1) := by decide +kernel
theorem d_Client_init_95 : decode b_Client_init 95 = .ok (.new 9, 3) := by decide +kernel
theorem d_Client_init_98 : decode b_Client_init 98 = .ok (.dup, 1) := by decide +kernel
theorem d_Client_init_99 : decode b_Client_init 99 = .ok (.sipush 156, 3) := by decide +kernel
theorem d_Client_init_102 : decode b_Client_init 102 = .ok (.invokespecial 11, 3) := by decide +kernel
theorem d_Client_init_105 : decode b_Client_init 105 = .ok (.aastore, 1) := by decide +kernel
theorem d_Client_init_106 : decode b_Client_init 106 = .ok (.iinc 3 (1), 3) := by decide +kernel
theorem d_Client_init_109 : decode b_Client_init 109 = .ok (.goto (-28), 3) := by decide +kernel
theorem d_Client_init_112 : decode b_Client_init 112 = .ok (.return_, 1) := by decide +kernel
theorem d_Client_place_0 : decode b_Client_place 0 = .ok (.iload_n 1, 1) := by decide +kernel
theorem d_Client_place_1 : decode b_Client_place 1 = .ok (.ifCond .lt (10), 3) := by decide +kernel
theorem d_Client_place_4 : decode b_Client_place 4 = .ok (.iload_n 1, 1) := by decide +kernel
theorem d_Client_place_5 : decode b_Client_place 5 = .ok (.sipush 255, 3) := by decide +kernel
theorem d_Client_place_8 : decode b_Client_place 8 = .ok (.if_icmp .le (6), 3) := by decide +kernel
theorem d_Client_place_11 : decode b_Client_place 11 = .ok (.bipush (-4), 2) := by decide +kernel
theorem d_Client_place_13 : decode b_Client_place 13 = .ok (.ireturn, 1) := by decide +kernel
theorem d_Client_place_14 : decode b_Client_place 14 = .ok (.aload_n 0, 1) := by decide +kernel
theorem d_Client_place_15 : decode b_Client_place 15 = .ok (.getfield 41, 3) := by decide +kernel
theorem d_Client_place_18 : decode b_Client_place 18 = .ok (.bipush 8, 2) := by decide +kernel
theorem d_Client_place_20 : decode b_Client_place 20 = .ok (.if_icmp .ge (12), 3) := by decide +kernel
theorem d_Client_place_23 : decode b_Client_place 23 = .ok (.aload_n 0, 1) := by decide +kernel
theorem d_Client_place_24 : decode b_Client_place 24 = .ok (.getfield 27, 3) := by decide +kernel
theorem d_Client_place_27 : decode b_Client_place 27 = .ok (.bipush 100, 2) := by decide +kernel
theorem d_Client_place_29 : decode b_Client_place 29 = .ok (.if_icmp .lt (6), 3) := by decide +kernel
theorem d_Client_place_32 : decode b_Client_place 32 = .ok (.bipush (-5), 2) := by decide +kernel
theorem d_Client_place_34 : decode b_Client_place 34 = .ok (.ireturn, 1) := by decide +kernel
theorem d_Client_place_35 : decode b_Client_place 35 = .ok (.aload_n 0, 1) := by decide +kernel
theorem d_Client_place_36 : decode b_Client_place 36 = .ok (.getfield 27, 3) := by decide +kernel
theorem d_Client_place_39 : decode b_Client_place 39 = .ok (.istore_n 3, 1) := by decide +kernel
theorem d_Client_place_40 : decode b_Client_place 40 = .ok (.aload_n 0, 1) := by decide +kernel
theorem d_Client_place_41 : decode b_Client_place 41 = .ok (.getfield 14, 3) := by decide +kernel
theorem d_Client_place_44 : decode b_Client_place 44 = .ok (.invokevirtual 52, 3) := by decide +kernel
theorem d_Client_place_47 : decode b_Client_place 47 = .ok (.aload_n 0, 1) := by decide +kernel
theorem d_Client_place_48 : decode b_Client_place 48 = .ok (.getfield 14, 3) := by decide +kernel
theorem d_Client_place_51 : decode b_Client_place 51 = .ok (.iload_n 3, 1) := by decide +kernel
theorem d_Client_place_52 : decode b_Client_place 52 = .ok (.invokevirtual 55, 3) := by decide +kernel
theorem d_Client_place_55 : decode b_Client_place 55 = .ok (.aload_n 0, 1) := by decide +kernel
theorem d_Client_place_56 : decode b_Client_place 56 = .ok (.getfield 14, 3) := by decide +kernel
theorem d_Client_place_59 : decode b_Client_place 59 = .ok (.iconst 0, 1) := by decide +kernel
theorem d_Client_place_60 : decode b_Client_place 60 = .ok (.invokevirtual 55, 3) := by decide +kernel
theorem d_Client_place_63 : decode b_Client_place 63 = .ok (.aload_n 0, 1) := by decide +kernel
theorem d_Client_place_64 : decode b_Client_place 64 = .ok (.getfield 14, 3) := by decide +kernel
theorem d_Client_place_67 : decode b_Client_place 67 = .ok (.iload_n 1, 1) := by decide +kernel
theorem d_Client_place_68 : decode b_Client_place 68 = .ok (.invokevirtual 55, 3) := by decide +kernel
theorem d_Client_place_71 : decode b_Client_place 71 = .ok (.aload_n 0, 1) := by decide +kernel
theorem d_Client_place_72 : decode b_Client_place 72 = .ok (.getfield 48, 3) := by decide +kernel
theorem d_Client_place_75 : decode b_Client_place 75 = .ok (.aload_n 2, 1) := by decide +kernel
theorem d_Client_place_76 : decode b_Client_place 76 = .ok (.aload_n 0, 1) := by decide +kernel
theorem d_Client_place_77 : decode b_Client_place 77 = .ok (.getfield 14, 3) := by decide +kernel
theorem d_Client_place_80 : decode b_Client_place 80 = .ok (.invokevirtual 58, 3) := by decide +kernel
theorem d_Client_place_83 : decode b_Client_place 83 = .ok (.aload_n 0, 1) := by decide +kernel
theorem d_Client_place_84 : decode b_Client_place 84 = .ok (.getfield 14, 3) := by decide +kernel
theorem d_Client_place_87 : decode b_Client_place 87 = .ok (.aload_n 0, 1) := by decide +kernel
theorem d_Client_place_88 : decode b_Client_place 88 = .ok (.getfield 37, 3) := by decide +kernel
theorem d_Client_place_91 : decode b_Client_place 91 = .ok (.aload_n 0, 1) := by decide +kernel
theorem d_Client_place_92 : decode b_Client_place 92 = .ok (.getfield 41, 3) := by decide +kernel
theorem d_Client_place_95 : decode b_Client_place 95 = .ok (.aaload, 1) := by decide +kernel
theorem d_Client_place_96 : decode b_Client_place 96 = .ok (.invokestatic 64, 3) := by decide +kernel
theorem d_Client_place_99 : decode b_Client_place 99 = .ok (.aload_n 0, 1) := by decide +kernel
theorem d_Client_place_100 : decode b_Client_place 100 = .ok (.getfield 44, 3) := by decide +kernel
theorem d_Client_place_103 : decode b_Client_place 103 = .ok (.aload_n 0, 1) := by decide +kernel
theorem d_Client_place_104 : decode b_Client_place 104 = .ok (.getfield 37, 3) := by decide +kernel
theorem d_Client_place_107 : decode b_Client_place 107 = .ok (.aload_n 0, 1) := by decide +kernel
theorem d_Client_place_108 : decode b_Client_place 108 = .ok (.getfield 41, 3) := by decide +kernel
theorem d_Client_place_111 : decode b_Client_place 111 = .ok (.aaload, 1) := by decide +kernel
theorem d_Client_place_112 : decode b_Client_place 112 = .ok (.iconst 1, 1) := by decide +kernel
theorem d_Client_place_113 : decode b_Client_place 113 = .ok (.invokevirtual 70, 3) := by decide +kernel
theorem d_Client_place_116 : decode b_Client_place 116 = .ok (.aload_n 0, 1) := by decide +kernel
theorem d_Client_place_117 : decode b_Client_place 117 = .ok (.getfield 20, 3) := by decide +kernel
theorem d_Client_place_120 : decode b_Client_place 120 = .ok (.iload_n 3, 1) := by decide +kernel
theorem d_Client_place_121 : decode b_Client_place 121 = .ok (.iconst 3, 1) := by decide +kernel
theorem d_Client_place_122 : decode b_Client_place 122 = .ok (.iastore, 1) := by decide +kernel
theorem d_Client_place_123 : decode b_Client_place 123 = .ok (.aload_n 0, 1) := by decide +kernel
theorem d_Client_place_124 : decode b_Client_place 124 = .ok (.getfield 31, 3) := by decide +kernel
theorem d_Client_place_127 : decode b_Client_place 127 = .ok (.aload_n 0, 1) := by decide +kernel
theorem d_Client_place_128 : decode b_Client_place 128 = .ok (.getfield 41, 3) := by decide +kernel
theorem d_Client_place_131 : decode b_Client_place 131 = .ok (.iload_n 3, 1) := by decide +kernel
theorem d_Client_place_132 : decode b_Client_place 132 = .ok (.iastore, 1) := by decide +kernel
theorem d_Client_place_133 : decode b_Client_place 133 = .ok (.aload_n 0, 1) := by decide +kernel
theorem d_Client_place_134 : decode b_Client_place 134 = .ok (.getfield 34, 3) := by decide +kernel
theorem d_Client_place_137 : decode b_Client_place 137 = .ok (.aload_n 0, 1) := by decide +kernel
theorem d_Client_place_138 : decode b_Client_place 138 = .ok (.getfield 41, 3) := by decide +kernel
theorem d_Client_place_141 : decode b_Client_place 141 = .ok (.iconst 0, 1) := by decide +kernel
theorem d_Client_place_142 : decode b_Client_place 142 = .ok (.iastore, 1) := by decide +kernel
theorem d_Client_place_143 : decode b_Client_place 143 = .ok (.aload_n 0, 1) := by decide +kernel
theorem d_Client_place_144 : decode b_Client_place 144 = .ok (.dup, 1) := by decide +kernel
theorem d_Client_place_145 : decode b_Client_place 145 = .ok (.getfield 27, 3) := by decide +kernel
theorem d_Client_place_148 : decode b_Client_place 148 = .ok (.iconst 1, 1) := by decide +kernel
theorem d_Client_place_149 : decode b_Client_place 149 = .ok (.iadd, 1) := by decide +kernel
theorem d_Client_place_150 : decode b_Client_place 150 = .ok (.putfield 27, 3) := by decide +kernel
theorem d_Client_place_153 : decode b_Client_place 153 = .ok (.aload_n 0, 1) := by decide +kernel
theorem d_Client_place_154 : decode b_Client_place 154 = .ok (.dup, 1) := by decide +kernel
theorem d_Client_place_155 : decode b_Client_place 155 = .ok (.getfield 41, 3) := by decide +kernel
theorem d_Client_place_158 : decode b_Client_place 158 = .ok (.iconst 1, 1) := by decide +kernel
theorem d_Client_place_159 : decode b_Client_place 159 = .ok (.iadd, 1) := by decide +kernel
theorem d_Client_place_160 : decode b_Client_place 160 = .ok (.putfield 41, 3) := by decide +kernel
theorem d_Client_place_163 : decode b_Client_place 163 = .ok (.iload_n 3, 1) := by decide +kernel
theorem d_Client_place_164 : decode b_Client_place 164 = .ok (.ireturn, 1) := by decide +kernel
end
section
theorem d_Client_growOlder_0 : decode b_Client_growOlder 0 = .ok (.iconst 0, 1) := by decide +kernel
theorem d_Client_growOlder_1 : decode b_Client_growOlder 1 = .ok (.istore_n 1, 1) := by decide +kernel
theorem d_Client_growOlder_2 : decode b_Client_growOlder 2 = .ok (.iconst 0, 1) := by decide +kernel
theorem d_Client_growOlder_3 : decode b_Client_growOlder 3 = .ok (.istore_n 2, 1) := by decide +kernel
theorem d_Client_growOlder_4 : decode b_Client_growOlder 4 = .ok (.iload_n 2, 1) := by decide +kernel
theorem d_Client_growOlder_5 : decode b_Client_growOlder 5 = .ok (.aload_n 0, 1) := by decide +kernel
theorem d_Client_growOlder_6 : decode b_Client_growOlder 6 = .ok (.getfield 41, 3) := by decide +kernel
theorem d_Client_growOlder_9 : decode b_Client_growOlder 9 = .ok (.if_icmp .ge (53), 3) := by decide +kernel
theorem d_Client_growOlder_12 : decode b_Client_growOlder 12 = .ok (.aload_n 0, 1) := by decide +kernel
theorem d_Client_growOlder_13 : decode b_Client_growOlder 13 = .ok (.getfield 34, 3) := by decide +kernel
theorem d_Client_growOlder_16 : decode b_Client_growOlder 16 = .ok (.iload_n 2, 1) := by decide +kernel
theorem d_Client_growOlder_17 : decode b_Client_growOlder 17 = .ok (.dup2, 1) := by decide +kernel
theorem d_Client_growOlder_18 : decode b_Client_growOlder 18 = .ok (.iaload, 1) := by decide +kernel
theorem d_Client_growOlder_19 : decode b_Client_growOlder 19 = .ok (.iconst 1, 1) := by decide +kernel
theorem d_Client_growOlder_20 : decode b_Client_growOlder 20 = .ok (.iadd, 1) := by decide +kernel
theorem d_Client_growOlder_21 : decode b_Client_growOlder 21 = .ok (.iastore, 1) := by decide +kernel
theorem d_Client_growOlder_22 : decode b_Client_growOlder 22 = .ok (.aload_n 0, 1) := by decide +kernel
theorem d_Client_growOlder_23 : decode b_Client_growOlder 23 = .ok (.getfield 34, 3) := by decide +kernel
theorem d_Client_growOlder_26 : decode b_Client_growOlder 26 = .ok (.iload_n 2, 1) := by decide +kernel
theorem d_Client_growOlder_27 : decode b_Client_growOlder 27 = .ok (.iaload, 1) := by decide +kernel
theorem d_Client_growOlder_28 : decode b_Client_growOlder 28 = .ok (.iconst 3, 1) := by decide +kernel
theorem d_Client_growOlder_29 : decode b_Client_growOlder 29 = .ok (.if_icmp .lt (27), 3) := by decide +kernel
theorem d_Client_growOlder_32 : decode b_Client_growOlder 32 = .ok (.aload_n 0, 1) := by decide +kernel
theorem d_Client_growOlder_33 : decode b_Client_growOlder 33 = .ok (.getfield 44, 3) := by decide +kernel
theorem d_Client_growOlder_36 : decode b_Client_growOlder 36 = .ok (.aload_n 0, 1) := by decide +kernel
theorem d_Client_growOlder_37 : decode b_Client_growOlder 37 = .ok (.getfield 37, 3) := by decide +kernel
theorem d_Client_growOlder_40 : decode b_Client_growOlder 40 = .ok (.iload_n 2, 1) := by decide +kernel
theorem d_Client_growOlder_41 : decode b_Client_growOlder 41 = .ok (.aaload, 1) := by decide +kernel
theorem d_Client_growOlder_42 : decode b_Client_growOlder 42 = .ok (.iconst 1, 1) := by decide +kernel
theorem d_Client_growOlder_43 : decode b_Client_growOlder 43 = .ok (.invokevirtual 70, 3) := by decide +kernel
theorem d_Client_growOlder_46 : decode b_Client_growOlder 46 = .ok (.aload_n 0, 1) := by decide +kernel
theorem d_Client_growOlder_47 : decode b_Client_growOlder 47 = .ok (.getfield 34, 3) := by decide +kernel
theorem d_Client_growOlder_50 : decode b_Client_growOlder 50 = .ok (.iload_n 2, 1) := by decide +kernel
theorem d_Client_growOlder_51 : decode b_Client_growOlder 51 = .ok (.iconst 0, 1) := by decide +kernel
theorem d_Client_growOlder_52 : decode b_Client_growOlder 52 = .ok (.iastore, 1) := by decide +kernel
theorem d_Client_growOlder_53 : decode b_Client_growOlder 53 = .ok (.iinc 1 (1), 3) := by decide +kernel
theorem d_Client_growOlder_56 : decode b_Client_growOlder 56 = .ok (.iinc 2 (1), 3) := by decide +kernel
theorem d_Client_growOlder_59 : decode b_Client_growOlder 59 = .ok (.goto (-55), 3) := by decide +kernel
theorem d_Client_growOlder_62 : decode b_Client_growOlder 62 = .ok (.iload_n 1, 1) := by decide +kernel
theorem d_Client_growOlder_63 : decode b_Client_growOlder 63 = .ok (.ireturn, 1) := by decide +kernel
theorem d_Client_receive_0 : decode b_Client_receive 0 = .ok (.aload_n 1, 1) := by decide +kernel
theorem d_Client_receive_1 : decode b_Client_receive 1 = .ok (.aload_n 0, 1) := by decide +kernel
theorem d_Client_receive_2 : decode b_Client_receive 2 = .ok (.getfield 14, 3) := by decide +kernel
theorem d_Client_receive_5 : decode b_Client_receive 5 = .ok (.invokestatic 76, 3) := by decide +kernel
theorem d_Client_receive_8 : decode b_Client_receive 8 = .ok (.ifCond .eq (15), 3) := by decide +kernel
theorem d_Client_receive_11 : decode b_Client_receive 11 = .ok (.aload_n 0, 1) := by decide +kernel
theorem d_Client_receive_12 : decode b_Client_receive 12 = .ok (.getfield 14, 3) := by decide +kernel
theorem d_Client_receive_15 : decode b_Client_receive 15 = .ok (.getfield 80, 3) := by decide +kernel
theorem d_Client_receive_18 : decode b_Client_receive 18 = .ok (.bipush 12, 2) := by decide +kernel
theorem d_Client_receive_20 : decode b_Client_receive 20 = .ok (.if_icmp .ge (6), 3) := by decide +kernel
theorem d_Client_receive_23 : decode b_Client_receive 23 = .ok (.bipush (-2), 2) := by decide +kernel
theorem d_Client_receive_25 : decode b_Client_receive 25 = .ok (.ireturn, 1) := by decide +kernel
theorem d_Client_receive_26 : decode b_Client_receive 26 = .ok (.aload_n 0, 1) := by decide +kernel
theorem d_Client_receive_27 : decode b_Client_receive 27 = .ok (.getfield 14, 3) := by decide +kernel
theorem d_Client_receive_30 : decode b_Client_receive 30 = .ok (.iconst 4, 1) := by decide +kernel
theorem d_Client_receive_31 : decode b_Client_receive 31 = .ok (.invokevirtual 83, 3) := by decide +kernel
theorem d_Client_receive_34 : decode b_Client_receive 34 = .ok (.iconst 1, 1) := by decide +kernel
theorem d_Client_receive_35 : decode b_Client_receive 35 = .ok (.if_icmp .eq (6), 3) := by decide +kernel
theorem d_Client_receive_38 : decode b_Client_receive 38 = .ok (.bipush (-3), 2) := by decide +kernel
theorem d_Client_receive_40 : decode b_Client_receive 40 = .ok (.ireturn, 1) := by decide +kernel
theorem d_Client_receive_41 : decode b_Client_receive 41 = .ok (.aload_n 0, 1) := by decide +kernel
theorem d_Client_receive_42 : decode b_Client_receive 42 = .ok (.getfield 14, 3) := by decide +kernel
theorem d_Client_receive_45 : decode b_Client_receive 45 = .ok (.bipush 8, 2) := by decide +kernel
theorem d_Client_receive_47 : decode b_Client_receive 47 = .ok (.invokevirtual 83, 3) := by decide +kernel
theorem d_Client_receive_50 : decode b_Client_receive 50 = .ok (.istore_n 2, 1) := by decide +kernel
theorem d_Client_receive_51 : decode b_Client_receive 51 = .ok (.iload_n 2, 1) := by decide +kernel
theorem d_Client_receive_52 : decode b_Client_receive 52 = .ok (.ifCond .lt (8), 3) := by decide +kernel
theorem d_Client_receive_55 : decode b_Client_receive 55 = .ok (.iload_n 2, 1) := by decide +kernel
theorem d_Client_receive_56 : decode b_Client_receive 56 = .ok (.iconst 2, 1) := by decide +kernel
theorem d_Client_receive_57 : decode b_Client_receive 57 = .ok (.if_icmp .le (6), 3) := by decide +kernel
theorem d_Client_receive_60 : decode b_Client_receive 60 = .ok (.bipush (-2), 2) := by decide +kernel
theorem d_Client_receive_62 : decode b_Client_receive 62 = .ok (.ireturn, 1) := by decide +kernel
theorem d_Client_receive_63 : decode b_Client_receive 63 = .ok (.aload_n 0, 1) := by decide +kernel
theorem d_Client_receive_64 : decode b_Client_receive 64 = .ok (.getfield 14, 3) := by decide +kernel
theorem d_Client_receive_67 : decode b_Client_receive 67 = .ok (.getfield 80, 3) := by decide +kernel
theorem d_Client_receive_70 : decode b_Client_receive 70 = .ok (.iload_n 2, 1) := by decide +kernel
theorem d_Client_receive_71 : decode b_Client_receive 71 = .ok (.ifCond .ne (8), 3) := by decide +kernel
theorem d_Client_receive_74 : decode b_Client_receive 74 = .ok (.bipush 16, 2) := by decide +kernel
theorem d_Client_receive_76 : decode b_Client_receive 76 = .ok (.goto (5), 3) := by decide +kernel
theorem d_Client_receive_79 : decode b_Client_receive 79 = .ok (.bipush 12, 2) := by decide +kernel
theorem d_Client_receive_81 : decode b_Client_receive 81 = .ok (.if_icmp .eq (6), 3) := by decide +kernel
theorem d_Client_receive_84 : decode b_Client_receive 84 = .ok (.bipush (-2), 2) := by decide +kernel
theorem d_Client_receive_86 : decode b_Client_receive 86 = .ok (.ireturn, 1) := by decide +kernel
theorem d_Client_receive_87 : decode b_Client_receive 87 = .ok (.aload_n 0, 1) := by decide +kernel
theorem d_Client_receive_88 : decode b_Client_receive 88 = .ok (.aload_n 0, 1) := by decide +kernel
theorem d_Client_receive_89 : decode b_Client_receive 89 = .ok (.getfield 14, 3) := by decide +kernel
theorem d_Client_receive_92 : decode b_Client_receive 92 = .ok (.iconst 0, 1) := by decide +kernel
theorem d_Client_receive_93 : decode b_Client_receive 93 = .ok (.invokevirtual 83, 3) := by decide +kernel
theorem d_Client_receive_96 : decode b_Client_receive 96 = .ok (.invokevirtual 87, 3) := by decide +kernel
theorem d_Client_receive_99 : decode b_Client_receive 99 = .ok (.istore_n 3, 1) := by decide +kernel
theorem d_Client_receive_100 : decode b_Client_receive 100 = .ok (.iload_n 3, 1) := by decide +kernel
theorem d_Client_receive_101 : decode b_Client_receive 101 = .ok (.iconst (-1), 1) := by decide +kernel
theorem d_Client_receive_102 : decode b_Client_receive 102 = .ok (.if_icmp .ne (5), 3) := by decide +kernel
theorem d_Client_receive_105 : decode b_Client_receive 105 = .ok (.iconst 5, 1) := by decide +kernel
theorem d_Client_receive_106 : decode b_Client_receive 106 = .ok (.ireturn, 1) := by decide +kernel
theorem d_Client_receive_107 : decode b_Client_receive 107 = .ok (.aload_n 0, 1) := by decide +kernel
theorem d_Client_receive_108 : decode b_Client_receive 108 = .ok (.iload_n 3, 1) := by decide +kernel
theorem d_Client_receive_109 : decode b_Client_receive 109 = .ok (.iload_n 2, 1) := by decide +kernel
theorem d_Client_receive_110 : decode b_Client_receive 110 = .ok (.iload_n 2, 1) := by decide +kernel
theorem d_Client_receive_111 : decode b_Client_receive 111 = .ok (.ifCond .ne (15), 3) := by decide +kernel
theorem d_Client_receive_114 : decode b_Client_receive 114 = .ok (.aload_n 0, 1) := by decide +kernel
theorem d_Client_receive_115 : decode b_Client_receive 115 = .ok (.getfield 14, 3) := by decide +kernel
theorem d_Client_receive_118 : decode b_Client_receive 118 = .ok (.bipush 12, 2) := by decide +kernel
theorem d_Client_receive_120 : decode b_Client_receive 120 = .ok (.invokevirtual 83, 3) := by decide +kernel
theorem d_Client_receive_123 : decode b_Client_receive 123 = .ok (.goto (4), 3) := by decide +kernel
theorem d_Client_receive_126 : decode b_Client_receive 126 = .ok (.iconst 0, 1) := by decide +kernel
theorem d_Client_receive_127 : decode b_Client_receive 127 = .ok (.invokevirtual 90, 3) := by decide +kernel
theorem d_Client_receive_130 : decode b_Client_receive 130 = .ok (.iconst 4, 1) := by decide +kernel
theorem d_Client_receive_131 : decode b_Client_receive 131 = .ok (.ireturn, 1) := by decide +kernel
theorem d_Client_pendingPlaceOf_0 : decode b_Client_pendingPlaceOf 0 = .ok (.iconst 0, 1) := by decide +kernel
theorem d_Client_pendingPlaceOf_1 : decode b_Client_pendingPlaceOf 1 = .ok (.istore_n 2, 1) := by decide +kernel
theorem d_Client_pendingPlaceOf_2 : decode b_Client_pendingPlaceOf 2 = .ok (.iload_n 2, 1) := by decide +kernel
theorem d_Client_pendingPlaceOf_3 : decode b_Client_pendingPlaceOf 3 = .ok (.aload_n 0, 1) := by decide +kernel
theorem d_Client_pendingPlaceOf_4 : decode b_Client_pendingPlaceOf 4 = .ok (.getfield 41, 3) := by decide +kernel
theorem d_Client_pendingPlaceOf_7 : decode b_Client_pendingPlaceOf 7 = .ok (.if_icmp .ge (21), 3) := by decide +kernel
theorem d_Client_pendingPlaceOf_10 : decode b_Client_pendingPlaceOf 10 = .ok (.aload_n 0, 1) := by decide +kernel
theorem d_Client_pendingPlaceOf_11 : decode b_Client_pendingPlaceOf 11 = .ok (.getfield 31, 3) := by decide +kernel
theorem d_Client_pendingPlaceOf_14 : decode b_Client_pendingPlaceOf 14 = .ok (.iload_n 2, 1) := by decide +kernel
theorem d_Client_pendingPlaceOf_15 : decode b_Client_pendingPlaceOf 15 = .ok (.iaload, 1) := by decide +kernel
theorem d_Client_pendingPlaceOf_16 : decode b_Client_pendingPlaceOf 16 = .ok (.iload_n 1, 1) := by decide +kernel
theorem d_Client_pendingPlaceOf_17 : decode b_Client_pendingPlaceOf 17 = .ok (.if_icmp .ne (5), 3) := by decide +kernel
theorem d_Client_pendingPlaceOf_20 : decode b_Client_pendingPlaceOf 20 = .ok (.iload_n 2, 1) := by decide +kernel
theorem d_Client_pendingPlaceOf_21 : decode b_Client_pendingPlaceOf 21 = .ok (.ireturn, 1) := by decide +kernel
theorem d_Client_pendingPlaceOf_22 : decode b_Client_pendingPlaceOf 22 = .ok (.iinc 2 (1), 3) := by decide +kernel
theorem d_Client_pendingPlaceOf_25 : decode b_Client_pendingPlaceOf 25 = .ok (.goto (-23), 3) := by decide +kernel
theorem d_Client_pendingPlaceOf_28 : decode b_Client_pendingPlaceOf 28 = .ok (.iconst (-1), 1) := by decide +kernel
theorem d_Client_pendingPlaceOf_29 : decode b_Client_pendingPlaceOf 29 = .ok (.ireturn, 1) := by decide +kernel
theorem d_Client_settle_0 : decode b_Client_settle 0 = .ok (.aload_n 0, 1) := by decide +kernel
theorem d_Client_settle_1 : decode b_Client_settle 1 = .ok (.getfield 31, 3) := by decide +kernel
theorem d_Client_settle_4 : decode b_Client_settle 4 = .ok (.iload_n 1, 1) := by decide +kernel
theorem d_Client_settle_5 : decode b_Client_settle 5 = .ok (.iaload, 1) := by decide +kernel
theorem d_Client_settle_6 : decode b_Client_settle 6 = .ok (.istore 4, 2) := by decide +kernel
theorem d_Client_settle_8 : decode b_Client_settle 8 = .ok (.aload_n 0, 1) := by decide +kernel
theorem d_Client_settle_9 : decode b_Client_settle 9 = .ok (.getfield 20, 3) := by decide +kernel
theorem d_Client_settle_12 : decode b_Client_settle 12 = .ok (.iload 4, 2) := by decide +kernel
theorem d_Client_settle_14 : decode b_Client_settle 14 = .ok (.iload_n 2, 1) := by decide +kernel
theorem d_Client_settle_15 : decode b_Client_settle 15 = .ok (.iastore, 1) := by decide +kernel
theorem d_Client_settle_16 : decode b_Client_settle 16 = .ok (.aload_n 0, 1) := by decide +kernel
theorem d_Client_settle_17 : decode b_Client_settle 17 = .ok (.getfield 24, 3) := by decide +kernel
theorem d_Client_settle_20 : decode b_Client_settle 20 = .ok (.iload 4, 2) := by decide +kernel
theorem d_Client_settle_22 : decode b_Client_settle 22 = .ok (.iload_n 3, 1) := by decide +kernel
theorem d_Client_settle_23 : decode b_Client_settle 23 = .ok (.iastore, 1) := by decide +kernel
theorem d_Client_settle_24 : decode b_Client_settle 24 = .ok (.aload_n 0, 1) := by decide +kernel
theorem d_Client_settle_25 : decode b_Client_settle 25 = .ok (.getfield 37, 3) := by decide +kernel
theorem d_Client_settle_28 : decode b_Client_settle 28 = .ok (.iload_n 1, 1) := by decide +kernel
theorem d_Client_settle_29 : decode b_Client_settle 29 = .ok (.invokestatic 94, 3) := by decide +kernel
theorem d_Client_settle_32 : decode b_Client_settle 32 = .ok (.aload_n 0, 1) := by decide +kernel
theorem d_Client_settle_33 : decode b_Client_settle 33 = .ok (.dup, 1) := by decide +kernel
theorem d_Client_settle_34 : decode b_Client_settle 34 = .ok (.getfield 41, 3) := by decide +kernel
theorem d_Client_settle_37 : decode b_Client_settle 37 = .ok (.iconst 1, 1) := by decide +kernel
theorem d_Client_settle_38 : decode b_Client_settle 38 = .ok (.isub, 1) := by decide +kernel
theorem d_Client_settle_39 : decode b_Client_settle 39 = .ok (.putfield 41, 3) := by decide +kernel
theorem d_Client_settle_42 : decode b_Client_settle 42 = .ok (.iload_n 1, 1) := by decide +kernel
theorem d_Client_settle_43 : decode b_Client_settle 43 = .ok (.istore 5, 2) := by decide +kernel
theorem d_Client_settle_45 : decode b_Client_settle 45 = .ok (.iload 5, 2) := by decide +kernel
theorem d_Client_settle_47 : decode b_Client_settle 47 = .ok (.aload_n 0, 1) := by decide +kernel
theorem d_Client_settle_48 : decode b_Client_settle 48 = .ok (.getfield 41, 3) := by decide +kernel
theorem d_Client_settle_51 : decode b_Client_settle 51 = .ok (.if_icmp .ge (41), 3) := by decide +kernel
theorem d_Client_settle_54 : decode b_Client_settle 54 = .ok (.aload_n 0, 1) := by decide +kernel
theorem d_Client_settle_55 : decode b_Client_settle 55 = .ok (.getfield 31, 3) := by decide +kernel
theorem d_Client_settle_58 : decode b_Client_settle 58 = .ok (.iload 5, 2) := by decide +kernel
theorem d_Client_settle_60 : decode b_Client_settle 60 = .ok (.aload_n 0, 1) := by decide +kernel
theorem d_Client_settle_61 : decode b_Client_settle 61 = .ok (.getfield 31, 3) := by decide +kernel
theorem d_Client_settle_64 : decode b_Client_settle 64 = .ok (.iload 5, 2) := by decide +kernel
theorem d_Client_settle_66 : decode b_Client_settle 66 = .ok (.iconst 1, 1) := by decide +kernel
theorem d_Client_settle_67 : decode b_Client_settle 67 = .ok (.iadd, 1) := by decide +kernel
theorem d_Client_settle_68 : decode b_Client_settle 68 = .ok (.iaload, 1) := by decide +kernel
theorem d_Client_settle_69 : decode b_Client_settle 69 = .ok (.iastore, 1) := by decide +kernel
theorem d_Client_settle_70 : decode b_Client_settle 70 = .ok (.aload_n 0, 1) := by decide +kernel
theorem d_Client_settle_71 : decode b_Client_settle 71 = .ok (.getfield 34, 3) := by decide +kernel
theorem d_Client_settle_74 : decode b_Client_settle 74 = .ok (.iload 5, 2) := by decide +kernel
theorem d_Client_settle_76 : decode b_Client_settle 76 = .ok (.aload_n 0, 1) := by decide +kernel
theorem d_Client_settle_77 : decode b_Client_settle 77 = .ok (.getfield 34, 3) := by decide +kernel
theorem d_Client_settle_80 : decode b_Client_settle 80 = .ok (.iload 5, 2) := by decide +kernel
theorem d_Client_settle_82 : decode b_Client_settle 82 = .ok (.iconst 1, 1) := by decide +kernel
theorem d_Client_settle_83 : decode b_Client_settle 83 = .ok (.iadd, 1) := by decide +kernel
theorem d_Client_settle_84 : decode b_Client_settle 84 = .ok (.iaload, 1) := by decide +kernel
theorem d_Client_settle_85 : decode b_Client_settle 85 = .ok (.iastore, 1) := by decide +kernel
theorem d_Client_settle_86 : decode b_Client_settle 86 = .ok (.iinc 5 (1), 3) := by decide +kernel
theorem d_Client_settle_89 : decode b_Client_settle 89 = .ok (.goto (-44), 3) := by decide +kernel
theorem d_Client_settle_92 : decode b_Client_settle 92 = .ok (.return_, 1) := by decide +kernel
theorem d_Client_statusOf_0 : decode b_Client_statusOf 0 = .ok (.iload_n 1, 1) := by decide +kernel
theorem d_Client_statusOf_1 : decode b_Client_statusOf 1 = .ok (.ifCond .lt (20), 3) := by decide +kernel
theorem d_Client_statusOf_4 : decode b_Client_statusOf 4 = .ok (.iload_n 1, 1) := by decide +kernel
theorem d_Client_statusOf_5 : decode b_Client_statusOf 5 = .ok (.aload_n 0, 1) := by decide +kernel
theorem d_Client_statusOf_6 : decode b_Client_statusOf 6 = .ok (.getfield 27, 3) := by decide +kernel
theorem d_Client_statusOf_9 : decode b_Client_statusOf 9 = .ok (.if_icmp .ge (12), 3) := by decide +kernel
theorem d_Client_statusOf_12 : decode b_Client_statusOf 12 = .ok (.aload_n 0, 1) := by decide +kernel
theorem d_Client_statusOf_13 : decode b_Client_statusOf 13 = .ok (.getfield 20, 3) := by decide +kernel
theorem d_Client_statusOf_16 : decode b_Client_statusOf 16 = .ok (.iload_n 1, 1) := by decide +kernel
theorem d_Client_statusOf_17 : decode b_Client_statusOf 17 = .ok (.iaload, 1) := by decide +kernel
theorem d_Client_statusOf_18 : decode b_Client_statusOf 18 = .ok (.goto (4), 3) := by decide +kernel
theorem d_Client_statusOf_21 : decode b_Client_statusOf 21 = .ok (.iconst (-1), 1) := by decide +kernel
theorem d_Client_statusOf_22 : decode b_Client_statusOf 22 = .ok (.ireturn, 1) := by decide +kernel
theorem d_Client_resultOf_0 : decode b_Client_resultOf 0 = .ok (.iload_n 1, 1) := by decide +kernel
theorem d_Client_resultOf_1 : decode b_Client_resultOf 1 = .ok (.ifCond .lt (20), 3) := by decide +kernel
theorem d_Client_resultOf_4 : decode b_Client_resultOf 4 = .ok (.iload_n 1, 1) := by decide +kernel
theorem d_Client_resultOf_5 : decode b_Client_resultOf 5 = .ok (.aload_n 0, 1) := by decide +kernel
theorem d_Client_resultOf_6 : decode b_Client_resultOf 6 = .ok (.getfield 27, 3) := by decide +kernel
theorem d_Client_resultOf_9 : decode b_Client_resultOf 9 = .ok (.if_icmp .ge (12), 3) := by decide +kernel
theorem d_Client_resultOf_12 : decode b_Client_resultOf 12 = .ok (.aload_n 0, 1) := by decide +kernel
theorem d_Client_resultOf_13 : decode b_Client_resultOf 13 = .ok (.getfield 24, 3) := by decide +kernel
theorem d_Client_resultOf_16 : decode b_Client_resultOf 16 = .ok (.iload_n 1, 1) := by decide +kernel
theorem d_Client_resultOf_17 : decode b_Client_resultOf 17 = .ok (.iaload, 1) := by decide +kernel
theorem d_Client_resultOf_18 : decode b_Client_resultOf 18 = .ok (.goto (4), 3) := by decide +kernel
theorem d_Client_resultOf_21 : decode b_Client_resultOf 21 = .ok (.iconst 0, 1) := by decide +kernel
theorem d_Client_resultOf_22 : decode b_Client_resultOf 22 = .ok (.ireturn, 1) := by decide +kernel
theorem d_Fragments_wrap_0 : decode b_Fragments_wrap 0 = .ok (.aload_n 1, 1) := by decide +kernel
theorem d_Fragments_wrap_1 : decode b_Fragments_wrap 1 = .ok (.invokevirtual 7, 3) := by decide +kernel
theorem d_Fragments_wrap_4 : decode b_Fragments_wrap 4 = .ok (.iconst 0, 1) := by decide +kernel
theorem d_Fragments_wrap_5 : decode b_Fragments_wrap 5 = .ok (.istore_n 2, 1) := by decide +kernel
theorem d_Fragments_wrap_6 : decode b_Fragments_wrap 6 = .ok (.iload_n 2, 1) := by decide +kernel
theorem d_Fragments_wrap_7 : decode b_Fragments_wrap 7 = .ok (.aload_n 0, 1) := by decide +kernel
theorem d_Fragments_wrap_8 : decode b_Fragments_wrap 8 = .ok (.getfield 12, 3) := by decide +kernel
theorem d_Fragments_wrap_11 : decode b_Fragments_wrap 11 = .ok (.if_icmp .ge (62), 3) := by decide +kernel
theorem d_Fragments_wrap_14 : decode b_Fragments_wrap 14 = .ok (.bipush 16, 2) := by decide +kernel
theorem d_Fragments_wrap_16 : decode b_Fragments_wrap 16 = .ok (.aload_n 0, 1) := by decide +kernel
theorem d_Fragments_wrap_17 : decode b_Fragments_wrap 17 = .ok (.getfield 12, 3) := by decide +kernel
theorem d_Fragments_wrap_20 : decode b_Fragments_wrap 20 = .ok (.iload_n 2, 1) := by decide +kernel
theorem d_Fragments_wrap_21 : decode b_Fragments_wrap 21 = .ok (.isub, 1) := by decide +kernel
theorem d_Fragments_wrap_22 : decode b_Fragments_wrap 22 = .ok (.invokestatic 18, 3) := by decide +kernel
theorem d_Fragments_wrap_25 : decode b_Fragments_wrap 25 = .ok (.istore_n 3, 1) := by decide +kernel
theorem d_Fragments_wrap_26 : decode b_Fragments_wrap 26 = .ok (.iload_n 2, 1) := by decide +kernel
theorem d_Fragments_wrap_27 : decode b_Fragments_wrap 27 = .ok (.iload_n 3, 1) := by decide +kernel
theorem d_Fragments_wrap_28 : decode b_Fragments_wrap 28 = .ok (.iadd, 1) := by decide +kernel
theorem d_Fragments_wrap_29 : decode b_Fragments_wrap 29 = .ok (.aload_n 0, 1) := by decide +kernel
theorem d_Fragments_wrap_30 : decode b_Fragments_wrap 30 = .ok (.getfield 12, 3) := by decide +kernel
theorem d_Fragments_wrap_33 : decode b_Fragments_wrap 33 = .ok (.if_icmp .ne (7), 3) := by decide +kernel
theorem d_Fragments_wrap_36 : decode b_Fragments_wrap 36 = .ok (.iconst 1, 1) := by decide +kernel
theorem d_Fragments_wrap_37 : decode b_Fragments_wrap 37 = .ok (.goto (4), 3) := by decide +kernel
theorem d_Fragments_wrap_40 : decode b_Fragments_wrap 40 = .ok (.iconst 0, 1) := by decide +kernel
theorem d_Fragments_wrap_41 : decode b_Fragments_wrap 41 = .ok (.istore 4, 2) := by decide +kernel
theorem d_Fragments_wrap_43 : decode b_Fragments_wrap 43 = .ok (.aload_n 1, 1) := by decide +kernel
theorem d_Fragments_wrap_44 : decode b_Fragments_wrap 44 = .ok (.iload 4, 2) := by decide +kernel
theorem d_Fragments_wrap_46 : decode b_Fragments_wrap 46 = .ok (.ifCond .eq (10), 3) := by decide +kernel
theorem d_Fragments_wrap_49 : decode b_Fragments_wrap 49 = .ok (.iload_n 3, 1) := by decide +kernel
theorem d_Fragments_wrap_50 : decode b_Fragments_wrap 50 = .ok (.ldc 24, 2) := by decide +kernel
theorem d_Fragments_wrap_52 : decode b_Fragments_wrap 52 = .ok (.iadd, 1) := by decide +kernel
theorem d_Fragments_wrap_53 : decode b_Fragments_wrap 53 = .ok (.goto (4), 3) := by decide +kernel
theorem d_Fragments_wrap_56 : decode b_Fragments_wrap 56 = .ok (.iload_n 3, 1) := by decide +kernel
theorem d_Fragments_wrap_57 : decode b_Fragments_wrap 57 = .ok (.invokevirtual 25, 3) := by decide +kernel
theorem d_Fragments_wrap_60 : decode b_Fragments_wrap 60 = .ok (.aload_n 1, 1) := by decide +kernel
theorem d_Fragments_wrap_61 : decode b_Fragments_wrap 61 = .ok (.aload_n 0, 1) := by decide +kernel
theorem d_Fragments_wrap_62 : decode b_Fragments_wrap 62 = .ok (.iload_n 2, 1) := by decide +kernel
theorem d_Fragments_wrap_63 : decode b_Fragments_wrap 63 = .ok (.iload_n 3, 1) := by decide +kernel
theorem d_Fragments_wrap_64 : decode b_Fragments_wrap 64 = .ok (.invokevirtual 29, 3) := by decide +kernel
theorem d_Fragments_wrap_67 : decode b_Fragments_wrap 67 = .ok (.iinc 2 (16), 3) := by decide +kernel
theorem d_Fragments_wrap_70 : decode b_Fragments_wrap 70 = .ok (.goto (-64), 3) := by decide +kernel
theorem d_Fragments_wrap_73 : decode b_Fragments_wrap 73 = .ok (.return_, 1) := by decide +kernel
theorem d_Fragments_unwrap_0 : decode b_Fragments_unwrap 0 = .ok (.aload_n 1, 1) := by decide +kernel
theorem d_Fragments_unwrap_1 : decode b_Fragments_unwrap 1 = .ok (.invokevirtual 7, 3) := by decide +kernel
theorem d_Fragments_unwrap_4 : decode b_Fragments_unwrap 4 = .ok (.iconst 0, 1) := by decide +kernel
theorem d_Fragments_unwrap_5 : decode b_Fragments_unwrap 5 = .ok (.istore_n 2, 1) := by decide +kernel
theorem d_Fragments_unwrap_6 : decode b_Fragments_unwrap 6 = .ok (.iconst 0, 1) := by decide +kernel
theorem d_Fragments_unwrap_7 : decode b_Fragments_unwrap 7 = .ok (.istore_n 3, 1) := by decide +kernel
theorem d_Fragments_unwrap_8 : decode b_Fragments_unwrap 8 = .ok (.iload_n 3, 1) := by decide +kernel
theorem d_Fragments_unwrap_9 : decode b_Fragments_unwrap 9 = .ok (.aload_n 0, 1) := by decide +kernel
theorem d_Fragments_unwrap_10 : decode b_Fragments_unwrap 10 = .ok (.getfield 12, 3) := by decide +kernel
theorem d_Fragments_unwrap_13 : decode b_Fragments_unwrap 13 = .ok (.if_icmp .ge (81), 3) := by decide +kernel
theorem d_Fragments_unwrap_16 : decode b_Fragments_unwrap 16 = .ok (.iload_n 2, 1) := by decide +kernel
theorem d_Fragments_unwrap_17 : decode b_Fragments_unwrap 17 = .ok (.aload_n 0, 1) := by decide +kernel
theorem d_Fragments_unwrap_18 : decode b_Fragments_unwrap 18 = .ok (.getfield 12, 3) := by decide +kernel
theorem d_Fragments_unwrap_21 : decode b_Fragments_unwrap 21 = .ok (.iconst 4, 1) := by decide +kernel
theorem d_Fragments_unwrap_22 : decode b_Fragments_unwrap 22 = .ok (.isub, 1) := by decide +kernel
theorem d_Fragments_unwrap_23 : decode b_Fragments_unwrap 23 = .ok (.if_icmp .gt (71), 3) := by decide +kernel
theorem d_Fragments_unwrap_26 : decode b_Fragments_unwrap 26 = .ok (.aload_n 0, 1) := by decide +kernel
theorem d_Fragments_unwrap_27 : decode b_Fragments_unwrap 27 = .ok (.iload_n 2, 1) := by decide +kernel
theorem d_Fragments_unwrap_28 : decode b_Fragments_unwrap 28 = .ok (.invokevirtual 33, 3) := by decide +kernel
theorem d_Fragments_unwrap_31 : decode b_Fragments_unwrap 31 = .ok (.istore 4, 2) := by decide +kernel
theorem d_Fragments_unwrap_33 : decode b_Fragments_unwrap 33 = .ok (.iload 4, 2) := by decide +kernel
theorem d_Fragments_unwrap_35 : decode b_Fragments_unwrap 35 = .ok (.ldc 39, 2) := by decide +kernel
theorem d_Fragments_unwrap_37 : decode b_Fragments_unwrap 37 = .ok (.iand, 1) := by decide +kernel
theorem d_Fragments_unwrap_38 : decode b_Fragments_unwrap 38 = .ok (.istore 5, 2) := by decide +kernel
theorem d_Fragments_unwrap_40 : decode b_Fragments_unwrap 40 = .ok (.iinc 2 (4), 3) := by decide +kernel
theorem d_Fragments_unwrap_43 : decode b_Fragments_unwrap 43 = .ok (.iload 5, 2) := by decide +kernel
theorem d_Fragments_unwrap_45 : decode b_Fragments_unwrap 45 = .ok (.aload_n 0, 1) := by decide +kernel
theorem d_Fragments_unwrap_46 : decode b_Fragments_unwrap 46 = .ok (.getfield 12, 3) := by decide +kernel
theorem d_Fragments_unwrap_49 : decode b_Fragments_unwrap 49 = .ok (.iload_n 2, 1) := by decide +kernel
theorem d_Fragments_unwrap_50 : decode b_Fragments_unwrap 50 = .ok (.isub, 1) := by decide +kernel
theorem d_Fragments_unwrap_51 : decode b_Fragments_unwrap 51 = .ok (.if_icmp .le (5), 3) := by decide +kernel
theorem d_Fragments_unwrap_54 : decode b_Fragments_unwrap 54 = .ok (.iconst 0, 1) := by decide +kernel
theorem d_Fragments_unwrap_55 : decode b_Fragments_unwrap 55 = .ok (.ireturn, 1) := by decide +kernel
theorem d_Fragments_unwrap_56 : decode b_Fragments_unwrap 56 = .ok (.aload_n 1, 1) := by decide +kernel
theorem d_Fragments_unwrap_57 : decode b_Fragments_unwrap 57 = .ok (.aload_n 0, 1) := by decide +kernel
theorem d_Fragments_unwrap_58 : decode b_Fragments_unwrap 58 = .ok (.iload_n 2, 1) := by decide +kernel
theorem d_Fragments_unwrap_59 : decode b_Fragments_unwrap 59 = .ok (.iload 5, 2) := by decide +kernel
theorem d_Fragments_unwrap_61 : decode b_Fragments_unwrap 61 = .ok (.invokevirtual 29, 3) := by decide +kernel
theorem d_Fragments_unwrap_64 : decode b_Fragments_unwrap 64 = .ok (.iload_n 2, 1) := by decide +kernel
theorem d_Fragments_unwrap_65 : decode b_Fragments_unwrap 65 = .ok (.iload 5, 2) := by decide +kernel
theorem d_Fragments_unwrap_67 : decode b_Fragments_unwrap 67 = .ok (.iadd, 1) := by decide +kernel
theorem d_Fragments_unwrap_68 : decode b_Fragments_unwrap 68 = .ok (.istore_n 2, 1) := by decide +kernel
theorem d_Fragments_unwrap_69 : decode b_Fragments_unwrap 69 = .ok (.iload 4, 2) := by decide +kernel
theorem d_Fragments_unwrap_71 : decode b_Fragments_unwrap 71 = .ok (.ifCond .ge (17), 3) := by decide +kernel
theorem d_Fragments_unwrap_74 : decode b_Fragments_unwrap 74 = .ok (.iload_n 2, 1) := by decide +kernel
theorem d_Fragments_unwrap_75 : decode b_Fragments_unwrap 75 = .ok (.aload_n 0, 1) := by decide +kernel
theorem d_Fragments_unwrap_76 : decode b_Fragments_unwrap 76 = .ok (.getfield 12, 3) := by decide +kernel
theorem d_Fragments_unwrap_79 : decode b_Fragments_unwrap 79 = .ok (.if_icmp .ne (7), 3) := by decide +kernel
theorem d_Fragments_unwrap_82 : decode b_Fragments_unwrap 82 = .ok (.iconst 1, 1) := by decide +kernel
theorem d_Fragments_unwrap_83 : decode b_Fragments_unwrap 83 = .ok (.goto (4), 3) := by decide +kernel
theorem d_Fragments_unwrap_86 : decode b_Fragments_unwrap 86 = .ok (.iconst 0, 1) := by decide +kernel
theorem d_Fragments_unwrap_87 : decode b_Fragments_unwrap 87 = .ok (.ireturn, 1) := by decide +kernel
theorem d_Fragments_unwrap_88 : decode b_Fragments_unwrap 88 = .ok (.iinc 3 (1), 3) := by decide +kernel
theorem d_Fragments_unwrap_91 : decode b_Fragments_unwrap 91 = .ok (.goto (-83), 3) := by decide +kernel
theorem d_Fragments_unwrap_94 : decode b_Fragments_unwrap 94 = .ok (.iconst 0, 1) := by decide +kernel
theorem d_Fragments_unwrap_95 : decode b_Fragments_unwrap 95 = .ok (.ireturn, 1) := by decide +kernel
theorem d_Network_init_0 : decode b_Network_init 0 = .ok (.aload_n 0, 1) := by decide +kernel
theorem d_Network_init_1 : decode b_Network_init 1 = .ok (.invokespecial 3, 3) := by decide +kernel
theorem d_Network_init_4 : decode b_Network_init 4 = .ok (.aload_n 0, 1) := by decide +kernel
theorem d_Network_init_5 : decode b_Network_init 5 = .ok (.bipush 17, 2) := by decide +kernel
theorem d_Network_init_7 : decode b_Network_init 7 = .ok (.anewarray 11, 3) := by decide +kernel
theorem d_Network_init_10 : decode b_Network_init 10 = .ok (.putfield 13, 3) := by decide +kernel
theorem d_Network_init_13 : decode b_Network_init 13 = .ok (.aload_n 0, 1) := by decide +kernel
theorem d_Network_init_14 : decode b_Network_init 14 = .ok (.bipush 16, 2) := by decide +kernel
theorem d_Network_init_16 : decode b_Network_init 16 = .ok (.newarray .boolean, 2) := by decide +kernel
theorem d_Network_init_18 : decode b_Network_init 18 = .ok (.putfield 17, 3) := by decide +kernel
theorem d_Network_init_21 : decode b_Network_init 21 = .ok (.aload_n 0, 1) := by decide +kernel
theorem d_Network_init_22 : decode b_Network_init 22 = .ok (.iconst 0, 1) := by decide +kernel
theorem d_Network_init_23 : decode b_Network_init 23 = .ok (.putfield 21, 3) := by decide +kernel
theorem d_Network_init_26 : decode b_Network_init 26 = .ok (.iconst 0, 1) := by decide +kernel
theorem d_Network_init_27 : decode b_Network_init 27 = .ok (.istore_n 1, 1) := by decide +kernel
theorem d_Network_init_28 : decode b_Network_init 28 = .ok (.iload_n 1, 1) := by decide +kernel
theorem d_Network_init_29 : decode b_Network_init 29 = .ok (.aload_n 0, 1) := by decide +kernel
theorem d_Network_init_30 : decode b_Network_init 30 = .ok (.getfield 13, 3) := by decide +kernel
theorem d_Network_init_33 : decode b_Network_init 33 = .ok (.arraylength, 1) := by decide +kernel
theorem d_Network_init_34 : decode b_Network_init 34 = .ok (.if_icmp .ge (25), 3) := by decide +kernel
theorem d_Network_init_37 : decode b_Network_init 37 = .ok (.aload_n 0, 1) := by decide +kernel
theorem d_Network_init_38 : decode b_Network_init 38 = .ok (.getfield 13, 3) := by decide +kernel
theorem d_Network_init_41 : decode b_Network_init 41 = .ok (.iload_n 1, 1) := by decide +kernel
theorem d_Network_init_42 : decode b_Network_init 42 = .ok (.new 11, 3) := by decide +kernel
theorem d_Network_init_45 : decode b_Network_init 45 = .ok (.dup, 1) := by decide +kernel
theorem d_Network_init_46 : decode b_Network_init 46 = .ok (.sipush 156, 3) := by decide +kernel
theorem d_Network_init_49 : decode b_Network_init 49 = .ok (.invokespecial 25, 3) := by decide +kernel
theorem d_Network_init_52 : decode b_Network_init 52 = .ok (.aastore, 1) := by decide +kernel
theorem d_Network_init_53 : decode b_Network_init 53 = .ok (.iinc 1 (1), 3) := by decide +kernel
theorem d_Network_init_56 : decode b_Network_init 56 = .ok (.goto (-28), 3) := by decide +kernel
theorem d_Network_init_59 : decode b_Network_init 59 = .ok (.return_, 1) := by decide +kernel
theorem d_Network_has_0 : decode b_Network_has 0 = .ok (.iload_n 1, 1) := by decide +kernel
theorem d_Network_has_1 : decode b_Network_has 1 = .ok (.ifCond .lt (15), 3) := by decide +kernel
theorem d_Network_has_4 : decode b_Network_has 4 = .ok (.iload_n 1, 1) := by decide +kernel
theorem d_Network_has_5 : decode b_Network_has 5 = .ok (.aload_n 0, 1) := by decide +kernel
theorem d_Network_has_6 : decode b_Network_has 6 = .ok (.getfield 21, 3) := by decide +kernel
theorem d_Network_has_9 : decode b_Network_has 9 = .ok (.if_icmp .ge (7), 3) := by decide +kernel
theorem d_Network_has_12 : decode b_Network_has 12 = .ok (.iconst 1, 1) := by decide +kernel
theorem d_Network_has_13 : decode b_Network_has 13 = .ok (.goto (4), 3) := by decide +kernel
theorem d_Network_has_16 : decode b_Network_has 16 = .ok (.iconst 0, 1) := by decide +kernel
theorem d_Network_has_17 : decode b_Network_has 17 = .ok (.ireturn, 1) := by decide +kernel
theorem d_Network_isFull_0 : decode b_Network_isFull 0 = .ok (.aload_n 0, 1) := by decide +kernel
theorem d_Network_isFull_1 : decode b_Network_isFull 1 = .ok (.getfield 21, 3) := by decide +kernel
theorem d_Network_isFull_4 : decode b_Network_isFull 4 = .ok (.bipush 16, 2) := by decide +kernel
theorem d_Network_isFull_6 : decode b_Network_isFull 6 = .ok (.if_icmp .lt (7), 3) := by decide +kernel
theorem d_Network_isFull_9 : decode b_Network_isFull 9 = .ok (.iconst 1, 1) := by decide +kernel
theorem d_Network_isFull_10 : decode b_Network_isFull 10 = .ok (.goto (4), 3) := by decide +kernel
theorem d_Network_isFull_13 : decode b_Network_isFull 13 = .ok (.iconst 0, 1) := by decide +kernel
theorem d_Network_isFull_14 : decode b_Network_isFull 14 = .ok (.ireturn, 1) := by decide +kernel
theorem d_Network_message_0 : decode b_Network_message 0 = .ok (.aload_n 0, 1) := by decide +kernel
theorem d_Network_message_1 : decode b_Network_message 1 = .ok (.getfield 13, 3) := by decide +kernel
theorem d_Network_message_4 : decode b_Network_message 4 = .ok (.aload_n 0, 1) := by decide +kernel
theorem d_Network_message_5 : decode b_Network_message 5 = .ok (.iload_n 1, 1) := by decide +kernel
theorem d_Network_message_6 : decode b_Network_message 6 = .ok (.invokevirtual 28, 3) := by decide +kernel
theorem d_Network_message_9 : decode b_Network_message 9 = .ok (.ifCond .eq (7), 3) := by decide +kernel
theorem d_Network_message_12 : decode b_Network_message 12 = .ok (.iload_n 1, 1) := by decide +kernel
theorem d_Network_message_13 : decode b_Network_message 13 = .ok (.goto (5), 3) := by decide +kernel
theorem d_Network_message_16 : decode b_Network_message 16 = .ok (.bipush 16, 2) := by decide +kernel
theorem d_Network_message_18 : decode b_Network_message 18 = .ok (.aaload, 1) := by decide +kernel
theorem d_Network_message_19 : decode b_Network_message 19 = .ok (.areturn, 1) := by decide +kernel
theorem d_Network_isForServer_0 : decode b_Network_isForServer 0 = .ok (.aload_n 0, 1) := by decide +kernel
theorem d_Network_isForServer_1 : decode b_Network_isForServer 1 = .ok (.iload_n 1, 1) := by decide +kernel
theorem d_Network_isForServer_2 : decode b_Network_isForServer 2 = .ok (.invokevirtual 28, 3) := by decide +kernel
theorem d_Network_isForServer_5 : decode b_Network_isForServer 5 = .ok (.ifCond .eq (16), 3) := by decide +kernel
theorem d_Network_isForServer_8 : decode b_Network_isForServer 8 = .ok (.aload_n 0, 1) := by decide +kernel
theorem d_Network_isForServer_9 : decode b_Network_isForServer 9 = .ok (.getfield 17, 3) := by decide +kernel
theorem d_Network_isForServer_12 : decode b_Network_isForServer 12 = .ok (.iload_n 1, 1) := by decide +kernel
theorem d_Network_isForServer_13 : decode b_Network_isForServer 13 = .ok (.baload, 1) := by decide +kernel
theorem d_Network_isForServer_14 : decode b_Network_isForServer 14 = .ok (.ifCond .eq (7), 3) := by decide +kernel
theorem d_Network_isForServer_17 : decode b_Network_isForServer 17 = .ok (.iconst 1, 1) := by decide +kernel
theorem d_Network_isForServer_18 : decode b_Network_isForServer 18 = .ok (.goto (4), 3) := by decide +kernel
theorem d_Network_isForServer_21 : decode b_Network_isForServer 21 = .ok (.iconst 0, 1) := by decide +kernel
theorem d_Network_isForServer_22 : decode b_Network_isForServer 22 = .ok (.ireturn, 1) := by decide +kernel
theorem d_Network_send_0 : decode b_Network_send 0 = .ok (.aload_n 0, 1) := by decide +kernel
theorem d_Network_send_1 : decode b_Network_send 1 = .ok (.invokevirtual 32, 3) := by decide +kernel
theorem d_Network_send_4 : decode b_Network_send 4 = .ok (.ifCond .eq (4), 3) := by decide +kernel
theorem d_Network_send_7 : decode b_Network_send 7 = .ok (.return_, 1) := by decide +kernel
theorem d_Network_send_8 : decode b_Network_send 8 = .ok (.aload_n 0, 1) := by decide +kernel
theorem d_Network_send_9 : decode b_Network_send 9 = .ok (.getfield 13, 3) := by decide +kernel
theorem d_Network_send_12 : decode b_Network_send 12 = .ok (.aload_n 0, 1) := by decide +kernel
theorem d_Network_send_13 : decode b_Network_send 13 = .ok (.getfield 21, 3) := by decide +kernel
theorem d_Network_send_16 : decode b_Network_send 16 = .ok (.aaload, 1) := by decide +kernel
theorem d_Network_send_17 : decode b_Network_send 17 = .ok (.aload_n 1, 1) := by decide +kernel
theorem d_Network_send_18 : decode b_Network_send 18 = .ok (.invokevirtual 36, 3) := by decide +kernel
theorem d_Network_send_21 : decode b_Network_send 21 = .ok (.aload_n 0, 1) := by decide +kernel
theorem d_Network_send_22 : decode b_Network_send 22 = .ok (.getfield 17, 3) := by decide +kernel
theorem d_Network_send_25 : decode b_Network_send 25 = .ok (.aload_n 0, 1) := by decide +kernel
theorem d_Network_send_26 : decode b_Network_send 26 = .ok (.getfield 21, 3) := by decide +kernel
theorem d_Network_send_29 : decode b_Network_send 29 = .ok (.iload_n 2, 1) := by decide +kernel
theorem d_Network_send_30 : decode b_Network_send 30 = .ok (.bastore, 1) := by decide +kernel
theorem d_Network_send_31 : decode b_Network_send 31 = .ok (.aload_n 0, 1) := by decide +kernel
theorem d_Network_send_32 : decode b_Network_send 32 = .ok (.dup, 1) := by decide +kernel
theorem d_Network_send_33 : decode b_Network_send 33 = .ok (.getfield 21, 3) := by decide +kernel
theorem d_Network_send_36 : decode b_Network_send 36 = .ok (.iconst 1, 1) := by decide +kernel
theorem d_Network_send_37 : decode b_Network_send 37 = .ok (.iadd, 1) := by decide +kernel
theorem d_Network_send_38 : decode b_Network_send 38 = .ok (.putfield 21, 3) := by decide +kernel
theorem d_Network_send_41 : decode b_Network_send 41 = .ok (.return_, 1) := by decide +kernel
theorem d_Network_take_0 : decode b_Network_take 0 = .ok (.aload_n 0, 1) := by decide +kernel
theorem d_Network_take_1 : decode b_Network_take 1 = .ok (.iload_n 1, 1) := by decide +kernel
theorem d_Network_take_2 : decode b_Network_take 2 = .ok (.invokevirtual 28, 3) := by decide +kernel
theorem d_Network_take_5 : decode b_Network_take 5 = .ok (.ifCond .eq (51), 3) := by decide +kernel
theorem d_Network_take_8 : decode b_Network_take 8 = .ok (.aload_n 0, 1) := by decide +kernel
theorem d_Network_take_9 : decode b_Network_take 9 = .ok (.getfield 13, 3) := by decide +kernel
theorem d_Network_take_12 : decode b_Network_take 12 = .ok (.iload_n 1, 1) := by decide +kernel
theorem d_Network_take_13 : decode b_Network_take 13 = .ok (.invokestatic 40, 3) := by decide +kernel
theorem d_Network_take_16 : decode b_Network_take 16 = .ok (.aload_n 0, 1) := by decide +kernel
theorem d_Network_take_17 : decode b_Network_take 17 = .ok (.dup, 1) := by decide +kernel
theorem d_Network_take_18 : decode b_Network_take 18 = .ok (.getfield 21, 3) := by decide +kernel
theorem d_Network_take_21 : decode b_Network_take 21 = .ok (.iconst 1, 1) := by decide +kernel
theorem d_Network_take_22 : decode b_Network_take 22 = .ok (.isub, 1) := by decide +kernel
theorem d_Network_take_23 : decode b_Network_take 23 = .ok (.putfield 21, 3) := by decide +kernel
theorem d_Network_take_26 : decode b_Network_take 26 = .ok (.iload_n 1, 1) := by decide +kernel
theorem d_Network_take_27 : decode b_Network_take 27 = .ok (.istore_n 2, 1) := by decide +kernel
theorem d_Network_take_28 : decode b_Network_take 28 = .ok (.iload_n 2, 1) := by decide +kernel
theorem d_Network_take_29 : decode b_Network_take 29 = .ok (.aload_n 0, 1) := by decide +kernel
theorem d_Network_take_30 : decode b_Network_take 30 = .ok (.getfield 21, 3) := by decide +kernel
theorem d_Network_take_33 : decode b_Network_take 33 = .ok (.if_icmp .ge (23), 3) := by decide +kernel
theorem d_Network_take_36 : decode b_Network_take 36 = .ok (.aload_n 0, 1) := by decide +kernel
theorem d_Network_take_37 : decode b_Network_take 37 = .ok (.getfield 17, 3) := by decide +kernel
theorem d_Network_take_40 : decode b_Network_take 40 = .ok (.iload_n 2, 1) := by decide +kernel
theorem d_Network_take_41 : decode b_Network_take 41 = .ok (.aload_n 0, 1) := by decide +kernel
theorem d_Network_take_42 : decode b_Network_take 42 = .ok (.getfield 17, 3) := by decide +kernel
theorem d_Network_take_45 : decode b_Network_take 45 = .ok (.iload_n 2, 1) := by decide +kernel
theorem d_Network_take_46 : decode b_Network_take 46 = .ok (.iconst 1, 1) := by decide +kernel
theorem d_Network_take_47 : decode b_Network_take 47 = .ok (.iadd, 1) := by decide +kernel
theorem d_Network_take_48 : decode b_Network_take 48 = .ok (.baload, 1) := by decide +kernel
theorem d_Network_take_49 : decode b_Network_take 49 = .ok (.bastore, 1) := by decide +kernel
theorem d_Network_take_50 : decode b_Network_take 50 = .ok (.iinc 2 (1), 3) := by decide +kernel
theorem d_Network_take_53 : decode b_Network_take 53 = .ok (.goto (-25), 3) := by decide +kernel
theorem d_Network_take_56 : decode b_Network_take 56 = .ok (.aload_n 0, 1) := by decide +kernel
theorem d_Network_take_57 : decode b_Network_take 57 = .ok (.getfield 13, 3) := by decide +kernel
theorem d_Network_take_60 : decode b_Network_take 60 = .ok (.bipush 16, 2) := by decide +kernel
theorem d_Network_take_62 : decode b_Network_take 62 = .ok (.aaload, 1) := by decide +kernel
theorem d_Network_take_63 : decode b_Network_take 63 = .ok (.areturn, 1) := by decide +kernel
theorem d_Reader_init_0 : decode b_Reader_init 0 = .ok (.aload_n 0, 1) := by decide +kernel
theorem d_Reader_init_1 : decode b_Reader_init 1 = .ok (.invokespecial 1, 3) := by decide +kernel
theorem d_Reader_init_4 : decode b_Reader_init 4 = .ok (.aload_n 0, 1) := by decide +kernel
theorem d_Reader_init_5 : decode b_Reader_init 5 = .ok (.aload_n 1, 1) := by decide +kernel
theorem d_Reader_init_6 : decode b_Reader_init 6 = .ok (.putfield 7, 3) := by decide +kernel
theorem d_Reader_init_9 : decode b_Reader_init 9 = .ok (.aload_n 0, 1) := by decide +kernel
theorem d_Reader_init_10 : decode b_Reader_init 10 = .ok (.iconst 0, 1) := by decide +kernel
theorem d_Reader_init_11 : decode b_Reader_init 11 = .ok (.putfield 13, 3) := by decide +kernel
theorem d_Reader_init_14 : decode b_Reader_init 14 = .ok (.aload_n 0, 1) := by decide +kernel
theorem d_Reader_init_15 : decode b_Reader_init 15 = .ok (.iconst 0, 1) := by decide +kernel
theorem d_Reader_init_16 : decode b_Reader_init 16 = .ok (.putfield 17, 3) := by decide +kernel
theorem d_Reader_init_19 : decode b_Reader_init 19 = .ok (.return_, 1) := by decide +kernel
theorem d_Reader_startAt_0 : decode b_Reader_startAt 0 = .ok (.aload_n 0, 1) := by decide +kernel
theorem d_Reader_startAt_1 : decode b_Reader_startAt 1 = .ok (.iload_n 1, 1) := by decide +kernel
theorem d_Reader_startAt_2 : decode b_Reader_startAt 2 = .ok (.iconst 0, 1) := by decide +kernel
theorem d_Reader_startAt_3 : decode b_Reader_startAt 3 = .ok (.invokestatic 21, 3) := by decide +kernel
theorem d_Reader_startAt_6 : decode b_Reader_startAt 6 = .ok (.putfield 13, 3) := by decide +kernel
theorem d_Reader_startAt_9 : decode b_Reader_startAt 9 = .ok (.aload_n 0, 1) := by decide +kernel
theorem d_Reader_startAt_10 : decode b_Reader_startAt 10 = .ok (.iconst 0, 1) := by decide +kernel
theorem d_Reader_startAt_11 : decode b_Reader_startAt 11 = .ok (.putfield 17, 3) := by decide +kernel
theorem d_Reader_startAt_14 : decode b_Reader_startAt 14 = .ok (.return_, 1) := by decide +kernel
theorem d_Reader_left_0 : decode b_Reader_left 0 = .ok (.aload_n 0, 1) := by decide +kernel
theorem d_Reader_left_1 : decode b_Reader_left 1 = .ok (.getfield 7, 3) := by decide +kernel
theorem d_Reader_left_4 : decode b_Reader_left 4 = .ok (.getfield 27, 3) := by decide +kernel
theorem d_Reader_left_7 : decode b_Reader_left 7 = .ok (.aload_n 0, 1) := by decide +kernel
theorem d_Reader_left_8 : decode b_Reader_left 8 = .ok (.getfield 13, 3) := by decide +kernel
theorem d_Reader_left_11 : decode b_Reader_left 11 = .ok (.isub, 1) := by decide +kernel
theorem d_Reader_left_12 : decode b_Reader_left 12 = .ok (.ireturn, 1) := by decide +kernel
theorem d_Reader_takeWord_0 : decode b_Reader_takeWord 0 = .ok (.aload_n 0, 1) := by decide +kernel
theorem d_Reader_takeWord_1 : decode b_Reader_takeWord 1 = .ok (.getfield 7, 3) := by decide +kernel
theorem d_Reader_takeWord_4 : decode b_Reader_takeWord 4 = .ok (.getfield 27, 3) := by decide +kernel
theorem d_Reader_takeWord_7 : decode b_Reader_takeWord 7 = .ok (.aload_n 0, 1) := by decide +kernel
theorem d_Reader_takeWord_8 : decode b_Reader_takeWord 8 = .ok (.getfield 13, 3) := by decide +kernel
theorem d_Reader_takeWord_11 : decode b_Reader_takeWord 11 = .ok (.isub, 1) := by decide +kernel
theorem d_Reader_takeWord_12 : decode b_Reader_takeWord 12 = .ok (.iconst 4, 1) := by decide +kernel
theorem d_Reader_takeWord_13 : decode b_Reader_takeWord 13 = .ok (.if_icmp .ge (10), 3) := by decide +kernel
theorem d_Reader_takeWord_16 : decode b_Reader_takeWord 16 = .ok (.aload_n 0, 1) := by decide +kernel
theorem d_Reader_takeWord_17 : decode b_Reader_takeWord 17 = .ok (.iconst 1, 1) := by decide +kernel
theorem d_Reader_takeWord_18 : decode b_Reader_takeWord 18 = .ok (.putfield 17, 3) := by decide +kernel
theorem d_Reader_takeWord_21 : decode b_Reader_takeWord 21 = .ok (.iconst 0, 1) := by decide +kernel
theorem d_Reader_takeWord_22 : decode b_Reader_takeWord 22 = .ok (.ireturn, 1) := by decide +kernel
theorem d_Reader_takeWord_23 : decode b_Reader_takeWord 23 = .ok (.iconst 0, 1) := by decide +kernel
theorem d_Reader_takeWord_24 : decode b_Reader_takeWord 24 = .ok (.istore_n 1, 1) := by decide +kernel
theorem d_Reader_takeWord_25 : decode b_Reader_takeWord 25 = .ok (.iconst 0, 1) := by decide +kernel
theorem d_Reader_takeWord_26 : decode b_Reader_takeWord 26 = .ok (.istore_n 2, 1) := by decide +kernel
theorem d_Reader_takeWord_27 : decode b_Reader_takeWord 27 = .ok (.iload_n 2, 1) := by decide +kernel
theorem d_Reader_takeWord_28 : decode b_Reader_takeWord 28 = .ok (.iconst 4, 1) := by decide +kernel
theorem d_Reader_takeWord_29 : decode b_Reader_takeWord 29 = .ok (.if_icmp .ge (37), 3) := by decide +kernel
theorem d_Reader_takeWord_32 : decode b_Reader_takeWord 32 = .ok (.iload_n 1, 1) := by decide +kernel
theorem d_Reader_takeWord_33 : decode b_Reader_takeWord 33 = .ok (.bipush 8, 2) := by decide +kernel
theorem d_Reader_takeWord_35 : decode b_Reader_takeWord 35 = .ok (.ishl, 1) := by decide +kernel
theorem d_Reader_takeWord_36 : decode b_Reader_takeWord 36 = .ok (.aload_n 0, 1) := by decide +kernel
theorem d_Reader_takeWord_37 : decode b_Reader_takeWord 37 = .ok (.getfield 7, 3) := by decide +kernel
theorem d_Reader_takeWord_40 : decode b_Reader_takeWord 40 = .ok (.getfield 32, 3) := by decide +kernel
theorem d_Reader_takeWord_43 : decode b_Reader_takeWord 43 = .ok (.aload_n 0, 1) := by decide +kernel
theorem d_Reader_takeWord_44 : decode b_Reader_takeWord 44 = .ok (.getfield 13, 3) := by decide +kernel
theorem d_Reader_takeWord_47 : decode b_Reader_takeWord 47 = .ok (.iaload, 1) := by decide +kernel
theorem d_Reader_takeWord_48 : decode b_Reader_takeWord 48 = .ok (.ior, 1) := by decide +kernel
theorem d_Reader_takeWord_49 : decode b_Reader_takeWord 49 = .ok (.istore_n 1, 1) := by decide +kernel
theorem d_Reader_takeWord_50 : decode b_Reader_takeWord 50 = .ok (.aload_n 0, 1) := by decide +kernel
theorem d_Reader_takeWord_51 : decode b_Reader_takeWord 51 = .ok (.dup, 1) := by decide +kernel
theorem d_Reader_takeWord_52 : decode b_Reader_takeWord 52 = .ok (.getfield 13, 3) := by decide +kernel
theorem d_Reader_takeWord_55 : decode b_Reader_takeWord 55 = .ok (.iconst 1, 1) := by decide +kernel
theorem d_Reader_takeWord_56 : decode b_Reader_takeWord 56 = .ok (.iadd, 1) := by decide +kernel
theorem d_Reader_takeWord_57 : decode b_Reader_takeWord 57 = .ok (.putfield 13, 3) := by decide +kernel
theorem d_Reader_takeWord_60 : decode b_Reader_takeWord 60 = .ok (.iinc 2 (1), 3) := by decide +kernel
theorem d_Reader_takeWord_63 : decode b_Reader_takeWord 63 = .ok (.goto (-36), 3) := by decide +kernel
theorem d_Reader_takeWord_66 : decode b_Reader_takeWord 66 = .ok (.iload_n 1, 1) := by decide +kernel
theorem d_Reader_takeWord_67 : decode b_Reader_takeWord 67 = .ok (.ireturn, 1) := by decide +kernel
theorem d_Reader_takeVarint_0 : decode b_Reader_takeVarint 0 = .ok (.lconst 0, 1) := by decide +kernel
theorem d_Reader_takeVarint_1 : decode b_Reader_takeVarint 1 = .ok (.lstore_n 1, 1) := by decide +kernel
theorem d_Reader_takeVarint_2 : decode b_Reader_takeVarint 2 = .ok (.iconst 0, 1) := by decide +kernel
theorem d_Reader_takeVarint_3 : decode b_Reader_takeVarint 3 = .ok (.istore_n 3, 1) := by decide +kernel
theorem d_Reader_takeVarint_4 : decode b_Reader_takeVarint 4 = .ok (.iload_n 3, 1) := by decide +kernel
theorem d_Reader_takeVarint_5 : decode b_Reader_takeVarint 5 = .ok (.bipush 10, 2) := by decide +kernel
theorem d_Reader_takeVarint_7 : decode b_Reader_takeVarint 7 = .ok (.if_icmp .ge (71), 3) := by decide +kernel
theorem d_Reader_takeVarint_10 : decode b_Reader_takeVarint 10 = .ok (.aload_n 0, 1) := by decide +kernel
theorem d_Reader_takeVarint_11 : decode b_Reader_takeVarint 11 = .ok (.getfield 13, 3) := by decide +kernel
theorem d_Reader_takeVarint_14 : decode b_Reader_takeVarint 14 = .ok (.aload_n 0, 1) := by decide +kernel
theorem d_Reader_takeVarint_15 : decode b_Reader_takeVarint 15 = .ok (.getfield 7, 3) := by decide +kernel
theorem d_Reader_takeVarint_18 : decode b_Reader_takeVarint 18 = .ok (.getfield 27, 3) := by decide +kernel
theorem d_Reader_takeVarint_21 : decode b_Reader_takeVarint 21 = .ok (.if_icmp .ge (57), 3) := by decide +kernel
theorem d_Reader_takeVarint_24 : decode b_Reader_takeVarint 24 = .ok (.aload_n 0, 1) := by decide +kernel
theorem d_Reader_takeVarint_25 : decode b_Reader_takeVarint 25 = .ok (.getfield 7, 3) := by decide +kernel
theorem d_Reader_takeVarint_28 : decode b_Reader_takeVarint 28 = .ok (.getfield 32, 3) := by decide +kernel
theorem d_Reader_takeVarint_31 : decode b_Reader_takeVarint 31 = .ok (.aload_n 0, 1) := by decide +kernel
theorem d_Reader_takeVarint_32 : decode b_Reader_takeVarint 32 = .ok (.getfield 13, 3) := by decide +kernel
theorem d_Reader_takeVarint_35 : decode b_Reader_takeVarint 35 = .ok (.iaload, 1) := by decide +kernel
theorem d_Reader_takeVarint_36 : decode b_Reader_takeVarint 36 = .ok (.istore 4, 2) := by decide +kernel
theorem d_Reader_takeVarint_38 : decode b_Reader_takeVarint 38 = .ok (.aload_n 0, 1) := by decide +kernel
theorem d_Reader_takeVarint_39 : decode b_Reader_takeVarint 39 = .ok (.dup, 1) := by decide +kernel
theorem d_Reader_takeVarint_40 : decode b_Reader_takeVarint 40 = .ok (.getfield 13, 3) := by decide +kernel
theorem d_Reader_takeVarint_43 : decode b_Reader_takeVarint 43 = .ok (.iconst 1, 1) := by decide +kernel
theorem d_Reader_takeVarint_44 : decode b_Reader_takeVarint 44 = .ok (.iadd, 1) := by decide +kernel
theorem d_Reader_takeVarint_45 : decode b_Reader_takeVarint 45 = .ok (.putfield 13, 3) := by decide +kernel
theorem d_Reader_takeVarint_48 : decode b_Reader_takeVarint 48 = .ok (.lload_n 1, 1) := by decide +kernel
theorem d_Reader_takeVarint_49 : decode b_Reader_takeVarint 49 = .ok (.iload 4, 2) := by decide +kernel
theorem d_Reader_takeVarint_51 : decode b_Reader_takeVarint 51 = .ok (.bipush 127, 2) := by decide +kernel
theorem d_Reader_takeVarint_53 : decode b_Reader_takeVarint 53 = .ok (.iand, 1) := by decide +kernel
theorem d_Reader_takeVarint_54 : decode b_Reader_takeVarint 54 = .ok (.i2l, 1) := by decide +kernel
theorem d_Reader_takeVarint_55 : decode b_Reader_takeVarint 55 = .ok (.bipush 7, 2) := by decide +kernel
theorem d_Reader_takeVarint_57 : decode b_Reader_takeVarint 57 = .ok (.iload_n 3, 1) := by decide +kernel
theorem d_Reader_takeVarint_58 : decode b_Reader_takeVarint 58 = .ok (.imul, 1) := by decide +kernel
theorem d_Reader_takeVarint_59 : decode b_Reader_takeVarint 59 = .ok (.lshl, 1) := by decide +kernel
theorem d_Reader_takeVarint_60 : decode b_Reader_takeVarint 60 = .ok (.lor, 1) := by decide +kernel
theorem d_Reader_takeVarint_61 : decode b_Reader_takeVarint 61 = .ok (.lstore_n 1, 1) := by decide +kernel
theorem d_Reader_takeVarint_62 : decode b_Reader_takeVarint 62 = .ok (.iload 4, 2) := by decide +kernel
theorem d_Reader_takeVarint_64 : decode b_Reader_takeVarint 64 = .ok (.sipush 128, 3) := by decide +kernel
theorem d_Reader_takeVarint_67 : decode b_Reader_takeVarint 67 = .ok (.if_icmp .ge (5), 3) := by decide +kernel
theorem d_Reader_takeVarint_70 : decode b_Reader_takeVarint 70 = .ok (.lload_n 1, 1) := by decide +kernel
theorem d_Reader_takeVarint_71 : decode b_Reader_takeVarint 71 = .ok (.lreturn, 1) := by decide +kernel
theorem d_Reader_takeVarint_72 : decode b_Reader_takeVarint 72 = .ok (.iinc 3 (1), 3) := by decide +kernel
theorem d_Reader_takeVarint_75 : decode b_Reader_takeVarint 75 = .ok (.goto (-71), 3) := by decide +kernel
theorem d_Reader_takeVarint_78 : decode b_Reader_takeVarint 78 = .ok (.aload_n 0, 1) := by decide +kernel
theorem d_Reader_takeVarint_79 : decode b_Reader_takeVarint 79 = .ok (.iconst 1, 1) := by decide +kernel
theorem d_Reader_takeVarint_80 : decode b_Reader_takeVarint 80 = .ok (.putfield 17, 3) := by decide +kernel
theorem d_Reader_takeVarint_83 : decode b_Reader_takeVarint 83 = .ok (.lconst 0, 1) := by decide +kernel
theorem d_Reader_takeVarint_84 : decode b_Reader_takeVarint 84 = .ok (.lreturn, 1) := by decide +kernel
theorem d_Reader_skip_0 : decode b_Reader_skip 0 = .ok (.lload_n 1, 1) := by decide +kernel
theorem d_Reader_skip_1 : decode b_Reader_skip 1 = .ok (.lconst 0, 1) := by decide +kernel
theorem d_Reader_skip_2 : decode b_Reader_skip 2 = .ok (.lcmp, 1) := by decide +kernel
theorem d_Reader_skip_3 : decode b_Reader_skip 3 = .ok (.ifCond .lt (21), 3) := by decide +kernel
theorem d_Reader_skip_6 : decode b_Reader_skip 6 = .ok (.lload_n 1, 1) := by decide +kernel
theorem d_Reader_skip_7 : decode b_Reader_skip 7 = .ok (.aload_n 0, 1) := by decide +kernel
theorem d_Reader_skip_8 : decode b_Reader_skip 8 = .ok (.getfield 7, 3) := by decide +kernel
theorem d_Reader_skip_11 : decode b_Reader_skip 11 = .ok (.getfield 27, 3) := by decide +kernel
theorem d_Reader_skip_14 : decode b_Reader_skip 14 = .ok (.aload_n 0, 1) := by decide +kernel
theorem d_Reader_skip_15 : decode b_Reader_skip 15 = .ok (.getfield 13, 3) := by decide +kernel
theorem d_Reader_skip_18 : decode b_Reader_skip 18 = .ok (.isub, 1) := by decide +kernel
theorem d_Reader_skip_19 : decode b_Reader_skip 19 = .ok (.i2l, 1) := by decide +kernel
theorem d_Reader_skip_20 : decode b_Reader_skip 20 = .ok (.lcmp, 1) := by decide +kernel
theorem d_Reader_skip_21 : decode b_Reader_skip 21 = .ok (.ifCond .le (11), 3) := by decide +kernel
theorem d_Reader_skip_24 : decode b_Reader_skip 24 = .ok (.aload_n 0, 1) := by decide +kernel
theorem d_Reader_skip_25 : decode b_Reader_skip 25 = .ok (.iconst 1, 1) := by decide +kernel
theorem d_Reader_skip_26 : decode b_Reader_skip 26 = .ok (.putfield 17, 3) := by decide +kernel
theorem d_Reader_skip_29 : decode b_Reader_skip 29 = .ok (.goto (14), 3) := by decide +kernel
theorem d_Reader_skip_32 : decode b_Reader_skip 32 = .ok (.aload_n 0, 1) := by decide +kernel
theorem d_Reader_skip_33 : decode b_Reader_skip 33 = .ok (.dup, 1) := by decide +kernel
theorem d_Reader_skip_34 : decode b_Reader_skip 34 = .ok (.getfield 13, 3) := by decide +kernel
theorem d_Reader_skip_37 : decode b_Reader_skip 37 = .ok (.lload_n 1, 1) := by decide +kernel
theorem d_Reader_skip_38 : decode b_Reader_skip 38 = .ok (.l2i, 1) := by decide +kernel
theorem d_Reader_skip_39 : decode b_Reader_skip 39 = .ok (.iadd, 1) := by decide +kernel
theorem d_Reader_skip_40 : decode b_Reader_skip 40 = .ok (.putfield 13, 3) := by decide +kernel
theorem d_Reader_skip_43 : decode b_Reader_skip 43 = .ok (.return_, 1) := by decide +kernel
theorem d_Schema_init_0 : decode b_Schema_init 0 = .ok (.aload_n 0, 1) := by decide +kernel
theorem d_Schema_init_1 : decode b_Schema_init 1 = .ok (.invokespecial 3, 3) := by decide +kernel
theorem d_Schema_init_4 : decode b_Schema_init 4 = .ok (.aload_n 0, 1) := by decide +kernel
theorem d_Schema_init_5 : decode b_Schema_init 5 = .ok (.iconst 4, 1) := by decide +kernel
theorem d_Schema_init_6 : decode b_Schema_init 6 = .ok (.newarray .int, 2) := by decide +kernel
theorem d_Schema_init_8 : decode b_Schema_init 8 = .ok (.putfield 11, 3) := by decide +kernel
theorem d_Schema_init_11 : decode b_Schema_init 11 = .ok (.aload_n 0, 1) := by decide +kernel
theorem d_Schema_init_12 : decode b_Schema_init 12 = .ok (.iconst 4, 1) := by decide +kernel
theorem d_Schema_init_13 : decode b_Schema_init 13 = .ok (.newarray .int, 2) := by decide +kernel
theorem d_Schema_init_15 : decode b_Schema_init 15 = .ok (.putfield 15, 3) := by decide +kernel
theorem d_Schema_init_18 : decode b_Schema_init 18 = .ok (.aload_n 0, 1) := by decide +kernel
theorem d_Schema_init_19 : decode b_Schema_init 19 = .ok (.iconst 4, 1) := by decide +kernel
theorem d_Schema_init_20 : decode b_Schema_init 20 = .ok (.newarray .int, 2) := by decide +kernel
theorem d_Schema_init_22 : decode b_Schema_init 22 = .ok (.putfield 18, 3) := by decide +kernel
theorem d_Schema_init_25 : decode b_Schema_init 25 = .ok (.aload_n 0, 1) := by decide +kernel
theorem d_Schema_init_26 : decode b_Schema_init 26 = .ok (.iconst 4, 1) := by decide +kernel
theorem d_Schema_init_27 : decode b_Schema_init 27 = .ok (.newarray .boolean, 2) := by decide +kernel
theorem d_Schema_init_29 : decode b_Schema_init 29 = .ok (.putfield 21, 3) := by decide +kernel
theorem d_Schema_init_32 : decode b_Schema_init 32 = .ok (.aload_n 0, 1) := by decide +kernel
theorem d_Schema_init_33 : decode b_Schema_init 33 = .ok (.iconst 0, 1) := by decide +kernel
theorem d_Schema_init_34 : decode b_Schema_init 34 = .ok (.putfield 25, 3) := by decide +kernel
theorem d_Schema_init_37 : decode b_Schema_init 37 = .ok (.return_, 1) := by decide +kernel
end
section
theorem d_Schema_declare_0 : decode b_Schema_declare 0 = .ok (.iload_n 1, 1) := by decide +kernel
theorem d_Schema_declare_1 : decode b_Schema_declare 1 = .ok (.iconst 1, 1) := by decide +kernel
theorem d_Schema_declare_2 : decode b_Schema_declare 2 = .ok (.if_icmp .lt (18), 3) := by decide +kernel
theorem d_Schema_declare_5 : decode b_Schema_declare 5 = .ok (.iload_n 1, 1) := by decide +kernel
theorem d_Schema_declare_6 : decode b_Schema_declare 6 = .ok (.bipush 30, 2) := by decide +kernel
theorem d_Schema_declare_8 : decode b_Schema_declare 8 = .ok (.if_icmp .gt (12), 3) := by decide +kernel
theorem d_Schema_declare_11 : decode b_Schema_declare 11 = .ok (.iload_n 2, 1) := by decide +kernel
theorem d_Schema_declare_12 : decode b_Schema_declare 12 = .ok (.ifCond .lt (8), 3) := by decide +kernel
theorem d_Schema_declare_15 : decode b_Schema_declare 15 = .ok (.iload_n 2, 1) := by decide +kernel
theorem d_Schema_declare_16 : decode b_Schema_declare 16 = .ok (.iconst 3, 1) := by decide +kernel
theorem d_Schema_declare_17 : decode b_Schema_declare 17 = .ok (.if_icmp .le (6), 3) := by decide +kernel
theorem d_Schema_declare_20 : decode b_Schema_declare 20 = .ok (.bipush (-4), 2) := by decide +kernel
theorem d_Schema_declare_22 : decode b_Schema_declare 22 = .ok (.ireturn, 1) := by decide +kernel
theorem d_Schema_declare_23 : decode b_Schema_declare 23 = .ok (.aload_n 0, 1) := by decide +kernel
theorem d_Schema_declare_24 : decode b_Schema_declare 24 = .ok (.iload_n 1, 1) := by decide +kernel
theorem d_Schema_declare_25 : decode b_Schema_declare 25 = .ok (.invokevirtual 29, 3) := by decide +kernel
theorem d_Schema_declare_28 : decode b_Schema_declare 28 = .ok (.iconst (-1), 1) := by decide +kernel
theorem d_Schema_declare_29 : decode b_Schema_declare 29 = .ok (.if_icmp .eq (6), 3) := by decide +kernel
theorem d_Schema_declare_32 : decode b_Schema_declare 32 = .ok (.bipush (-4), 2) := by decide +kernel
theorem d_Schema_declare_34 : decode b_Schema_declare 34 = .ok (.ireturn, 1) := by decide +kernel
theorem d_Schema_declare_35 : decode b_Schema_declare 35 = .ok (.aload_n 0, 1) := by decide +kernel
theorem d_Schema_declare_36 : decode b_Schema_declare 36 = .ok (.getfield 25, 3) := by decide +kernel
theorem d_Schema_declare_39 : decode b_Schema_declare 39 = .ok (.iconst 4, 1) := by decide +kernel
theorem d_Schema_declare_40 : decode b_Schema_declare 40 = .ok (.if_icmp .lt (6), 3) := by decide +kernel
theorem d_Schema_declare_43 : decode b_Schema_declare 43 = .ok (.bipush (-5), 2) := by decide +kernel
theorem d_Schema_declare_45 : decode b_Schema_declare 45 = .ok (.ireturn, 1) := by decide +kernel
theorem d_Schema_declare_46 : decode b_Schema_declare 46 = .ok (.aload_n 0, 1) := by decide +kernel
theorem d_Schema_declare_47 : decode b_Schema_declare 47 = .ok (.getfield 11, 3) := by decide +kernel
theorem d_Schema_declare_50 : decode b_Schema_declare 50 = .ok (.aload_n 0, 1) := by decide +kernel
theorem d_Schema_declare_51 : decode b_Schema_declare 51 = .ok (.getfield 25, 3) := by decide +kernel
theorem d_Schema_declare_54 : decode b_Schema_declare 54 = .ok (.iload_n 1, 1) := by decide +kernel
theorem d_Schema_declare_55 : decode b_Schema_declare 55 = .ok (.iastore, 1) := by decide +kernel
theorem d_Schema_declare_56 : decode b_Schema_declare 56 = .ok (.aload_n 0, 1) := by decide +kernel
theorem d_Schema_declare_57 : decode b_Schema_declare 57 = .ok (.getfield 15, 3) := by decide +kernel
theorem d_Schema_declare_60 : decode b_Schema_declare 60 = .ok (.aload_n 0, 1) := by decide +kernel
theorem d_Schema_declare_61 : decode b_Schema_declare 61 = .ok (.getfield 25, 3) := by decide +kernel
theorem d_Schema_declare_64 : decode b_Schema_declare 64 = .ok (.iload_n 2, 1) := by decide +kernel
theorem d_Schema_declare_65 : decode b_Schema_declare 65 = .ok (.iastore, 1) := by decide +kernel
theorem d_Schema_declare_66 : decode b_Schema_declare 66 = .ok (.aload_n 0, 1) := by decide +kernel
theorem d_Schema_declare_67 : decode b_Schema_declare 67 = .ok (.getfield 18, 3) := by decide +kernel
theorem d_Schema_declare_70 : decode b_Schema_declare 70 = .ok (.aload_n 0, 1) := by decide +kernel
theorem d_Schema_declare_71 : decode b_Schema_declare 71 = .ok (.getfield 25, 3) := by decide +kernel
theorem d_Schema_declare_74 : decode b_Schema_declare 74 = .ok (.bipush 8, 2) := by decide +kernel
theorem d_Schema_declare_76 : decode b_Schema_declare 76 = .ok (.iload_n 1, 1) := by decide +kernel
theorem d_Schema_declare_77 : decode b_Schema_declare 77 = .ok (.imul, 1) := by decide +kernel
theorem d_Schema_declare_78 : decode b_Schema_declare 78 = .ok (.iload_n 2, 1) := by decide +kernel
theorem d_Schema_declare_79 : decode b_Schema_declare 79 = .ok (.iconst 2, 1) := by decide +kernel
theorem d_Schema_declare_80 : decode b_Schema_declare 80 = .ok (.if_icmp .ne (7), 3) := by decide +kernel
theorem d_Schema_declare_83 : decode b_Schema_declare 83 = .ok (.iconst 5, 1) := by decide +kernel
theorem d_Schema_declare_84 : decode b_Schema_declare 84 = .ok (.goto (4), 3) := by decide +kernel
theorem d_Schema_declare_87 : decode b_Schema_declare 87 = .ok (.iconst 0, 1) := by decide +kernel
theorem d_Schema_declare_88 : decode b_Schema_declare 88 = .ok (.iadd, 1) := by decide +kernel
theorem d_Schema_declare_89 : decode b_Schema_declare 89 = .ok (.iastore, 1) := by decide +kernel
theorem d_Schema_declare_90 : decode b_Schema_declare 90 = .ok (.aload_n 0, 1) := by decide +kernel
theorem d_Schema_declare_91 : decode b_Schema_declare 91 = .ok (.getfield 21, 3) := by decide +kernel
theorem d_Schema_declare_94 : decode b_Schema_declare 94 = .ok (.aload_n 0, 1) := by decide +kernel
theorem d_Schema_declare_95 : decode b_Schema_declare 95 = .ok (.getfield 25, 3) := by decide +kernel
theorem d_Schema_declare_98 : decode b_Schema_declare 98 = .ok (.iload_n 3, 1) := by decide +kernel
theorem d_Schema_declare_99 : decode b_Schema_declare 99 = .ok (.bastore, 1) := by decide +kernel
theorem d_Schema_declare_100 : decode b_Schema_declare 100 = .ok (.aload_n 0, 1) := by decide +kernel
theorem d_Schema_declare_101 : decode b_Schema_declare 101 = .ok (.dup, 1) := by decide +kernel
theorem d_Schema_declare_102 : decode b_Schema_declare 102 = .ok (.getfield 25, 3) := by decide +kernel
theorem d_Schema_declare_105 : decode b_Schema_declare 105 = .ok (.iconst 1, 1) := by decide +kernel
theorem d_Schema_declare_106 : decode b_Schema_declare 106 = .ok (.iadd, 1) := by decide +kernel
theorem d_Schema_declare_107 : decode b_Schema_declare 107 = .ok (.putfield 25, 3) := by decide +kernel
theorem d_Schema_declare_110 : decode b_Schema_declare 110 = .ok (.aload_n 0, 1) := by decide +kernel
theorem d_Schema_declare_111 : decode b_Schema_declare 111 = .ok (.getfield 25, 3) := by decide +kernel
theorem d_Schema_declare_114 : decode b_Schema_declare 114 = .ok (.iconst 1, 1) := by decide +kernel
theorem d_Schema_declare_115 : decode b_Schema_declare 115 = .ok (.isub, 1) := by decide +kernel
theorem d_Schema_declare_116 : decode b_Schema_declare 116 = .ok (.ireturn, 1) := by decide +kernel
theorem d_Schema_indexOf_0 : decode b_Schema_indexOf 0 = .ok (.iconst 0, 1) := by decide +kernel
theorem d_Schema_indexOf_1 : decode b_Schema_indexOf 1 = .ok (.istore_n 2, 1) := by decide +kernel
theorem d_Schema_indexOf_2 : decode b_Schema_indexOf 2 = .ok (.iload_n 2, 1) := by decide +kernel
theorem d_Schema_indexOf_3 : decode b_Schema_indexOf 3 = .ok (.aload_n 0, 1) := by decide +kernel
theorem d_Schema_indexOf_4 : decode b_Schema_indexOf 4 = .ok (.getfield 25, 3) := by decide +kernel
theorem d_Schema_indexOf_7 : decode b_Schema_indexOf 7 = .ok (.if_icmp .ge (21), 3) := by decide +kernel
theorem d_Schema_indexOf_10 : decode b_Schema_indexOf 10 = .ok (.aload_n 0, 1) := by decide +kernel
theorem d_Schema_indexOf_11 : decode b_Schema_indexOf 11 = .ok (.getfield 11, 3) := by decide +kernel
theorem d_Schema_indexOf_14 : decode b_Schema_indexOf 14 = .ok (.iload_n 2, 1) := by decide +kernel
theorem d_Schema_indexOf_15 : decode b_Schema_indexOf 15 = .ok (.iaload, 1) := by decide +kernel
theorem d_Schema_indexOf_16 : decode b_Schema_indexOf 16 = .ok (.iload_n 1, 1) := by decide +kernel
theorem d_Schema_indexOf_17 : decode b_Schema_indexOf 17 = .ok (.if_icmp .ne (5), 3) := by decide +kernel
theorem d_Schema_indexOf_20 : decode b_Schema_indexOf 20 = .ok (.iload_n 2, 1) := by decide +kernel
theorem d_Schema_indexOf_21 : decode b_Schema_indexOf 21 = .ok (.ireturn, 1) := by decide +kernel
theorem d_Schema_indexOf_22 : decode b_Schema_indexOf 22 = .ok (.iinc 2 (1), 3) := by decide +kernel
theorem d_Schema_indexOf_25 : decode b_Schema_indexOf 25 = .ok (.goto (-23), 3) := by decide +kernel
theorem d_Schema_indexOf_28 : decode b_Schema_indexOf 28 = .ok (.iconst (-1), 1) := by decide +kernel
theorem d_Schema_indexOf_29 : decode b_Schema_indexOf 29 = .ok (.ireturn, 1) := by decide +kernel
theorem d_Schema_has_0 : decode b_Schema_has 0 = .ok (.iload_n 1, 1) := by decide +kernel
theorem d_Schema_has_1 : decode b_Schema_has 1 = .ok (.ifCond .lt (15), 3) := by decide +kernel
theorem d_Schema_has_4 : decode b_Schema_has 4 = .ok (.iload_n 1, 1) := by decide +kernel
theorem d_Schema_has_5 : decode b_Schema_has 5 = .ok (.aload_n 0, 1) := by decide +kernel
theorem d_Schema_has_6 : decode b_Schema_has 6 = .ok (.getfield 25, 3) := by decide +kernel
theorem d_Schema_has_9 : decode b_Schema_has 9 = .ok (.if_icmp .ge (7), 3) := by decide +kernel
theorem d_Schema_has_12 : decode b_Schema_has 12 = .ok (.iconst 1, 1) := by decide +kernel
theorem d_Schema_has_13 : decode b_Schema_has 13 = .ok (.goto (4), 3) := by decide +kernel
theorem d_Schema_has_16 : decode b_Schema_has 16 = .ok (.iconst 0, 1) := by decide +kernel
theorem d_Schema_has_17 : decode b_Schema_has 17 = .ok (.ireturn, 1) := by decide +kernel
theorem d_Schema_kindOf_0 : decode b_Schema_kindOf 0 = .ok (.aload_n 0, 1) := by decide +kernel
theorem d_Schema_kindOf_1 : decode b_Schema_kindOf 1 = .ok (.iload_n 1, 1) := by decide +kernel
theorem d_Schema_kindOf_2 : decode b_Schema_kindOf 2 = .ok (.invokevirtual 33, 3) := by decide +kernel
theorem d_Schema_kindOf_5 : decode b_Schema_kindOf 5 = .ok (.ifCond .eq (12), 3) := by decide +kernel
theorem d_Schema_kindOf_8 : decode b_Schema_kindOf 8 = .ok (.aload_n 0, 1) := by decide +kernel
theorem d_Schema_kindOf_9 : decode b_Schema_kindOf 9 = .ok (.getfield 15, 3) := by decide +kernel
theorem d_Schema_kindOf_12 : decode b_Schema_kindOf 12 = .ok (.iload_n 1, 1) := by decide +kernel
theorem d_Schema_kindOf_13 : decode b_Schema_kindOf 13 = .ok (.iaload, 1) := by decide +kernel
theorem d_Schema_kindOf_14 : decode b_Schema_kindOf 14 = .ok (.goto (4), 3) := by decide +kernel
theorem d_Schema_kindOf_17 : decode b_Schema_kindOf 17 = .ok (.iconst 0, 1) := by decide +kernel
theorem d_Schema_kindOf_18 : decode b_Schema_kindOf 18 = .ok (.ireturn, 1) := by decide +kernel
theorem d_Schema_isRepeated_0 : decode b_Schema_isRepeated 0 = .ok (.aload_n 0, 1) := by decide +kernel
theorem d_Schema_isRepeated_1 : decode b_Schema_isRepeated 1 = .ok (.iload_n 1, 1) := by decide +kernel
theorem d_Schema_isRepeated_2 : decode b_Schema_isRepeated 2 = .ok (.invokevirtual 33, 3) := by decide +kernel
theorem d_Schema_isRepeated_5 : decode b_Schema_isRepeated 5 = .ok (.ifCond .eq (16), 3) := by decide +kernel
theorem d_Schema_isRepeated_8 : decode b_Schema_isRepeated 8 = .ok (.aload_n 0, 1) := by decide +kernel
theorem d_Schema_isRepeated_9 : decode b_Schema_isRepeated 9 = .ok (.getfield 21, 3) := by decide +kernel
theorem d_Schema_isRepeated_12 : decode b_Schema_isRepeated 12 = .ok (.iload_n 1, 1) := by decide +kernel
theorem d_Schema_isRepeated_13 : decode b_Schema_isRepeated 13 = .ok (.baload, 1) := by decide +kernel
theorem d_Schema_isRepeated_14 : decode b_Schema_isRepeated 14 = .ok (.ifCond .eq (7), 3) := by decide +kernel
theorem d_Schema_isRepeated_17 : decode b_Schema_isRepeated 17 = .ok (.iconst 1, 1) := by decide +kernel
theorem d_Schema_isRepeated_18 : decode b_Schema_isRepeated 18 = .ok (.goto (4), 3) := by decide +kernel
theorem d_Schema_isRepeated_21 : decode b_Schema_isRepeated 21 = .ok (.iconst 0, 1) := by decide +kernel
theorem d_Schema_isRepeated_22 : decode b_Schema_isRepeated 22 = .ok (.ireturn, 1) := by decide +kernel
theorem d_Schema_keyOf_0 : decode b_Schema_keyOf 0 = .ok (.aload_n 0, 1) := by decide +kernel
theorem d_Schema_keyOf_1 : decode b_Schema_keyOf 1 = .ok (.iload_n 1, 1) := by decide +kernel
theorem d_Schema_keyOf_2 : decode b_Schema_keyOf 2 = .ok (.invokevirtual 33, 3) := by decide +kernel
theorem d_Schema_keyOf_5 : decode b_Schema_keyOf 5 = .ok (.ifCond .eq (12), 3) := by decide +kernel
theorem d_Schema_keyOf_8 : decode b_Schema_keyOf 8 = .ok (.aload_n 0, 1) := by decide +kernel
theorem d_Schema_keyOf_9 : decode b_Schema_keyOf 9 = .ok (.getfield 18, 3) := by decide +kernel
theorem d_Schema_keyOf_12 : decode b_Schema_keyOf 12 = .ok (.iload_n 1, 1) := by decide +kernel
theorem d_Schema_keyOf_13 : decode b_Schema_keyOf 13 = .ok (.iaload, 1) := by decide +kernel
theorem d_Schema_keyOf_14 : decode b_Schema_keyOf 14 = .ok (.goto (4), 3) := by decide +kernel
theorem d_Schema_keyOf_17 : decode b_Schema_keyOf 17 = .ok (.iconst 0, 1) := by decide +kernel
theorem d_Schema_keyOf_18 : decode b_Schema_keyOf 18 = .ok (.ireturn, 1) := by decide +kernel
theorem d_Schema_allows_0 : decode b_Schema_allows 0 = .ok (.aload_n 0, 1) := by decide +kernel
theorem d_Schema_allows_1 : decode b_Schema_allows 1 = .ok (.iload_n 1, 1) := by decide +kernel
theorem d_Schema_allows_2 : decode b_Schema_allows 2 = .ok (.invokevirtual 37, 3) := by decide +kernel
theorem d_Schema_allows_5 : decode b_Schema_allows 5 = .ok (.iconst 3, 1) := by decide +kernel
theorem d_Schema_allows_6 : decode b_Schema_allows 6 = .ok (.if_icmp .ne (12), 3) := by decide +kernel
theorem d_Schema_allows_9 : decode b_Schema_allows 9 = .ok (.iload_n 2, 1) := by decide +kernel
theorem d_Schema_allows_10 : decode b_Schema_allows 10 = .ok (.ifCond .eq (8), 3) := by decide +kernel
theorem d_Schema_allows_13 : decode b_Schema_allows 13 = .ok (.iload_n 2, 1) := by decide +kernel
theorem d_Schema_allows_14 : decode b_Schema_allows 14 = .ok (.iconst 1, 1) := by decide +kernel
theorem d_Schema_allows_15 : decode b_Schema_allows 15 = .ok (.if_icmp .ne (7), 3) := by decide +kernel
theorem d_Schema_allows_18 : decode b_Schema_allows 18 = .ok (.iconst 1, 1) := by decide +kernel
theorem d_Schema_allows_19 : decode b_Schema_allows 19 = .ok (.goto (4), 3) := by decide +kernel
theorem d_Schema_allows_22 : decode b_Schema_allows 22 = .ok (.iconst 0, 1) := by decide +kernel
theorem d_Schema_allows_23 : decode b_Schema_allows 23 = .ok (.ireturn, 1) := by decide +kernel
theorem d_Server_init_0 : decode b_Server_init 0 = .ok (.aload_n 0, 1) := by decide +kernel
theorem d_Server_init_1 : decode b_Server_init 1 = .ok (.invokespecial 3, 3) := by decide +kernel
theorem d_Server_init_4 : decode b_Server_init 4 = .ok (.aload_n 0, 1) := by decide +kernel
theorem d_Server_init_5 : decode b_Server_init 5 = .ok (.new 9, 3) := by decide +kernel
theorem d_Server_init_8 : decode b_Server_init 8 = .ok (.dup, 1) := by decide +kernel
theorem d_Server_init_9 : decode b_Server_init 9 = .ok (.sipush 200, 3) := by decide +kernel
theorem d_Server_init_12 : decode b_Server_init 12 = .ok (.invokespecial 11, 3) := by decide +kernel
theorem d_Server_init_15 : decode b_Server_init 15 = .ok (.putfield 14, 3) := by decide +kernel
theorem d_Server_init_18 : decode b_Server_init 18 = .ok (.aload_n 0, 1) := by decide +kernel
theorem d_Server_init_19 : decode b_Server_init 19 = .ok (.new 20, 3) := by decide +kernel
theorem d_Server_init_22 : decode b_Server_init 22 = .ok (.dup, 1) := by decide +kernel
theorem d_Server_init_23 : decode b_Server_init 23 = .ok (.aload_n 0, 1) := by decide +kernel
theorem d_Server_init_24 : decode b_Server_init 24 = .ok (.getfield 14, 3) := by decide +kernel
theorem d_Server_init_27 : decode b_Server_init 27 = .ok (.invokespecial 22, 3) := by decide +kernel
theorem d_Server_init_30 : decode b_Server_init 30 = .ok (.putfield 25, 3) := by decide +kernel
theorem d_Server_init_33 : decode b_Server_init 33 = .ok (.aload_n 0, 1) := by decide +kernel
theorem d_Server_init_34 : decode b_Server_init 34 = .ok (.iconst 4, 1) := by decide +kernel
theorem d_Server_init_35 : decode b_Server_init 35 = .ok (.newarray .int, 2) := by decide +kernel
theorem d_Server_init_37 : decode b_Server_init 37 = .ok (.putfield 29, 3) := by decide +kernel
theorem d_Server_init_40 : decode b_Server_init 40 = .ok (.aload_n 0, 1) := by decide +kernel
theorem d_Server_init_41 : decode b_Server_init 41 = .ok (.iconst 4, 1) := by decide +kernel
theorem d_Server_init_42 : decode b_Server_init 42 = .ok (.anewarray 9, 3) := by decide +kernel
theorem d_Server_init_45 : decode b_Server_init 45 = .ok (.putfield 33, 3) := by decide +kernel
theorem d_Server_init_48 : decode b_Server_init 48 = .ok (.aload_n 0, 1) := by decide +kernel
theorem d_Server_init_49 : decode b_Server_init 49 = .ok (.iconst 0, 1) := by decide +kernel
theorem d_Server_init_50 : decode b_Server_init 50 = .ok (.putfield 37, 3) := by decide +kernel
theorem d_Server_init_53 : decode b_Server_init 53 = .ok (.aload_n 0, 1) := by decide +kernel
theorem d_Server_init_54 : decode b_Server_init 54 = .ok (.iconst 0, 1) := by decide +kernel
theorem d_Server_init_55 : decode b_Server_init 55 = .ok (.putfield 41, 3) := by decide +kernel
theorem d_Server_init_58 : decode b_Server_init 58 = .ok (.aload_n 0, 1) := by decide +kernel
theorem d_Server_init_59 : decode b_Server_init 59 = .ok (.iconst 0, 1) := by decide +kernel
theorem d_Server_init_60 : decode b_Server_init 60 = .ok (.putfield 44, 3) := by decide +kernel
theorem d_Server_init_63 : decode b_Server_init 63 = .ok (.aload_n 0, 1) := by decide +kernel
theorem d_Server_init_64 : decode b_Server_init 64 = .ok (.iconst 0, 1) := by decide +kernel
theorem d_Server_init_65 : decode b_Server_init 65 = .ok (.putfield 47, 3) := by decide +kernel
theorem d_Server_init_68 : decode b_Server_init 68 = .ok (.aload_n 0, 1) := by decide +kernel
theorem d_Server_init_69 : decode b_Server_init 69 = .ok (.aload_n 1, 1) := by decide +kernel
theorem d_Server_init_70 : decode b_Server_init 70 = .ok (.putfield 50, 3) := by decide +kernel
theorem d_Server_init_73 : decode b_Server_init 73 = .ok (.aload_n 0, 1) := by decide +kernel
theorem d_Server_init_74 : decode b_Server_init 74 = .ok (.aload_n 2, 1) := by decide +kernel
theorem d_Server_init_75 : decode b_Server_init 75 = .ok (.putfield 54, 3) := by decide +kernel
theorem d_Server_init_78 : decode b_Server_init 78 = .ok (.aload_n 0, 1) := by decide +kernel
theorem d_Server_init_79 : decode b_Server_init 79 = .ok (.aload_n 3, 1) := by decide +kernel
theorem d_Server_init_80 : decode b_Server_init 80 = .ok (.putfield 58, 3) := by decide +kernel
theorem d_Server_init_83 : decode b_Server_init 83 = .ok (.iconst 0, 1) := by decide +kernel
theorem d_Server_init_84 : decode b_Server_init 84 = .ok (.istore 4, 2) := by decide +kernel
theorem d_Server_init_86 : decode b_Server_init 86 = .ok (.iload 4, 2) := by decide +kernel
theorem d_Server_init_88 : decode b_Server_init 88 = .ok (.aload_n 0, 1) := by decide +kernel
theorem d_Server_init_89 : decode b_Server_init 89 = .ok (.getfield 33, 3) := by decide +kernel
theorem d_Server_init_92 : decode b_Server_init 92 = .ok (.arraylength, 1) := by decide +kernel
theorem d_Server_init_93 : decode b_Server_init 93 = .ok (.if_icmp .ge (25), 3) := by decide +kernel
theorem d_Server_init_96 : decode b_Server_init 96 = .ok (.aload_n 0, 1) := by decide +kernel
theorem d_Server_init_97 : decode b_Server_init 97 = .ok (.getfield 33, 3) := by decide +kernel
theorem d_Server_init_100 : decode b_Server_init 100 = .ok (.iload 4, 2) := by decide +kernel
theorem d_Server_init_102 : decode b_Server_init 102 = .ok (.new 9, 3) := by decide +kernel
theorem d_Server_init_105 : decode b_Server_init 105 = .ok (.dup, 1) := by decide +kernel
theorem d_Server_init_106 : decode b_Server_init 106 = .ok (.bipush 20, 2) := by decide +kernel
theorem d_Server_init_108 : decode b_Server_init 108 = .ok (.invokespecial 11, 3) := by decide +kernel
theorem d_Server_init_111 : decode b_Server_init 111 = .ok (.aastore, 1) := by decide +kernel
theorem d_Server_init_112 : decode b_Server_init 112 = .ok (.iinc 4 (1), 3) := by decide +kernel
theorem d_Server_init_115 : decode b_Server_init 115 = .ok (.goto (-29), 3) := by decide +kernel
theorem d_Server_init_118 : decode b_Server_init 118 = .ok (.return_, 1) := by decide +kernel
theorem d_Server_receive_0 : decode b_Server_receive 0 = .ok (.aload_n 1, 1) := by decide +kernel
theorem d_Server_receive_1 : decode b_Server_receive 1 = .ok (.aload_n 0, 1) := by decide +kernel
theorem d_Server_receive_2 : decode b_Server_receive 2 = .ok (.getfield 14, 3) := by decide +kernel
theorem d_Server_receive_5 : decode b_Server_receive 5 = .ok (.invokestatic 62, 3) := by decide +kernel
theorem d_Server_receive_8 : decode b_Server_receive 8 = .ok (.ifCond .eq (15), 3) := by decide +kernel
theorem d_Server_receive_11 : decode b_Server_receive 11 = .ok (.aload_n 0, 1) := by decide +kernel
theorem d_Server_receive_12 : decode b_Server_receive 12 = .ok (.getfield 14, 3) := by decide +kernel
theorem d_Server_receive_15 : decode b_Server_receive 15 = .ok (.getfield 68, 3) := by decide +kernel
theorem d_Server_receive_18 : decode b_Server_receive 18 = .ok (.bipush 12, 2) := by decide +kernel
theorem d_Server_receive_20 : decode b_Server_receive 20 = .ok (.if_icmp .ge (6), 3) := by decide +kernel
theorem d_Server_receive_23 : decode b_Server_receive 23 = .ok (.bipush (-2), 2) := by decide +kernel
theorem d_Server_receive_25 : decode b_Server_receive 25 = .ok (.ireturn, 1) := by decide +kernel
theorem d_Server_receive_26 : decode b_Server_receive 26 = .ok (.aload_n 0, 1) := by decide +kernel
theorem d_Server_receive_27 : decode b_Server_receive 27 = .ok (.getfield 14, 3) := by decide +kernel
theorem d_Server_receive_30 : decode b_Server_receive 30 = .ok (.iconst 4, 1) := by decide +kernel
theorem d_Server_receive_31 : decode b_Server_receive 31 = .ok (.invokevirtual 71, 3) := by decide +kernel
theorem d_Server_receive_34 : decode b_Server_receive 34 = .ok (.ifCond .eq (6), 3) := by decide +kernel
theorem d_Server_receive_37 : decode b_Server_receive 37 = .ok (.bipush (-3), 2) := by decide +kernel
theorem d_Server_receive_39 : decode b_Server_receive 39 = .ok (.ireturn, 1) := by decide +kernel
theorem d_Server_receive_40 : decode b_Server_receive 40 = .ok (.aload_n 0, 1) := by decide +kernel
theorem d_Server_receive_41 : decode b_Server_receive 41 = .ok (.getfield 14, 3) := by decide +kernel
theorem d_Server_receive_44 : decode b_Server_receive 44 = .ok (.iconst 0, 1) := by decide +kernel
theorem d_Server_receive_45 : decode b_Server_receive 45 = .ok (.invokevirtual 71, 3) := by decide +kernel
theorem d_Server_receive_48 : decode b_Server_receive 48 = .ok (.istore_n 2, 1) := by decide +kernel
theorem d_Server_receive_49 : decode b_Server_receive 49 = .ok (.iconst 0, 1) := by decide +kernel
theorem d_Server_receive_50 : decode b_Server_receive 50 = .ok (.istore_n 3, 1) := by decide +kernel
theorem d_Server_receive_51 : decode b_Server_receive 51 = .ok (.iload_n 3, 1) := by decide +kernel
theorem d_Server_receive_52 : decode b_Server_receive 52 = .ok (.aload_n 0, 1) := by decide +kernel
theorem d_Server_receive_53 : decode b_Server_receive 53 = .ok (.getfield 37, 3) := by decide +kernel
theorem d_Server_receive_56 : decode b_Server_receive 56 = .ok (.if_icmp .ge (35), 3) := by decide +kernel
theorem d_Server_receive_59 : decode b_Server_receive 59 = .ok (.aload_n 0, 1) := by decide +kernel
theorem d_Server_receive_60 : decode b_Server_receive 60 = .ok (.getfield 29, 3) := by decide +kernel
theorem d_Server_receive_63 : decode b_Server_receive 63 = .ok (.iload_n 3, 1) := by decide +kernel
theorem d_Server_receive_64 : decode b_Server_receive 64 = .ok (.iaload, 1) := by decide +kernel
theorem d_Server_receive_65 : decode b_Server_receive 65 = .ok (.iload_n 2, 1) := by decide +kernel
theorem d_Server_receive_66 : decode b_Server_receive 66 = .ok (.if_icmp .ne (19), 3) := by decide +kernel
theorem d_Server_receive_69 : decode b_Server_receive 69 = .ok (.aload_n 0, 1) := by decide +kernel
theorem d_Server_receive_70 : decode b_Server_receive 70 = .ok (.getfield 50, 3) := by decide +kernel
theorem d_Server_receive_73 : decode b_Server_receive 73 = .ok (.aload_n 0, 1) := by decide +kernel
theorem d_Server_receive_74 : decode b_Server_receive 74 = .ok (.getfield 33, 3) := by decide +kernel
theorem d_Server_receive_77 : decode b_Server_receive 77 = .ok (.iload_n 3, 1) := by decide +kernel
theorem d_Server_receive_78 : decode b_Server_receive 78 = .ok (.aaload, 1) := by decide +kernel
theorem d_Server_receive_79 : decode b_Server_receive 79 = .ok (.iconst 0, 1) := by decide +kernel
theorem d_Server_receive_80 : decode b_Server_receive 80 = .ok (.invokevirtual 75, 3) := by decide +kernel
theorem d_Server_receive_83 : decode b_Server_receive 83 = .ok (.iconst 1, 1) := by decide +kernel
theorem d_Server_receive_84 : decode b_Server_receive 84 = .ok (.ireturn, 1) := by decide +kernel
theorem d_Server_receive_85 : decode b_Server_receive 85 = .ok (.iinc 3 (1), 3) := by decide +kernel
theorem d_Server_receive_88 : decode b_Server_receive 88 = .ok (.goto (-37), 3) := by decide +kernel
theorem d_Server_receive_91 : decode b_Server_receive 91 = .ok (.aload_n 0, 1) := by decide +kernel
theorem d_Server_receive_92 : decode b_Server_receive 92 = .ok (.iload_n 2, 1) := by decide +kernel
theorem d_Server_receive_93 : decode b_Server_receive 93 = .ok (.aload_n 0, 1) := by decide +kernel
theorem d_Server_receive_94 : decode b_Server_receive 94 = .ok (.getfield 14, 3) := by decide +kernel
theorem d_Server_receive_97 : decode b_Server_receive 97 = .ok (.bipush 8, 2) := by decide +kernel
theorem d_Server_receive_99 : decode b_Server_receive 99 = .ok (.invokevirtual 71, 3) := by decide +kernel
theorem d_Server_receive_102 : decode b_Server_receive 102 = .ok (.invokevirtual 81, 3) := by decide +kernel
theorem d_Server_receive_105 : decode b_Server_receive 105 = .ok (.ireturn, 1) := by decide +kernel
theorem d_Server_answer_0 : decode b_Server_answer 0 = .ok (.iload_n 2, 1) := by decide +kernel
theorem d_Server_answer_1 : decode b_Server_answer 1 = .ok (.ifCond .lt (8), 3) := by decide +kernel
theorem d_Server_answer_4 : decode b_Server_answer 4 = .ok (.iload_n 2, 1) := by decide +kernel
theorem d_Server_answer_5 : decode b_Server_answer 5 = .ok (.iconst 3, 1) := by decide +kernel
theorem d_Server_answer_6 : decode b_Server_answer 6 = .ok (.if_icmp .le (12), 3) := by decide +kernel
theorem d_Server_answer_9 : decode b_Server_answer 9 = .ok (.aload_n 0, 1) := by decide +kernel
theorem d_Server_answer_10 : decode b_Server_answer 10 = .ok (.iload_n 1, 1) := by decide +kernel
theorem d_Server_answer_11 : decode b_Server_answer 11 = .ok (.iconst 1, 1) := by decide +kernel
theorem d_Server_answer_12 : decode b_Server_answer 12 = .ok (.iconst 0, 1) := by decide +kernel
theorem d_Server_answer_13 : decode b_Server_answer 13 = .ok (.invokevirtual 85, 3) := by decide +kernel
theorem d_Server_answer_16 : decode b_Server_answer 16 = .ok (.iconst 2, 1) := by decide +kernel
theorem d_Server_answer_17 : decode b_Server_answer 17 = .ok (.ireturn, 1) := by decide +kernel
theorem d_Server_answer_18 : decode b_Server_answer 18 = .ok (.aload_n 0, 1) := by decide +kernel
theorem d_Server_answer_19 : decode b_Server_answer 19 = .ok (.getfield 25, 3) := by decide +kernel
theorem d_Server_answer_22 : decode b_Server_answer 22 = .ok (.bipush 12, 2) := by decide +kernel
theorem d_Server_answer_24 : decode b_Server_answer 24 = .ok (.invokevirtual 89, 3) := by decide +kernel
theorem d_Server_answer_27 : decode b_Server_answer 27 = .ok (.aload_n 0, 1) := by decide +kernel
theorem d_Server_answer_28 : decode b_Server_answer 28 = .ok (.getfield 54, 3) := by decide +kernel
theorem d_Server_answer_31 : decode b_Server_answer 31 = .ok (.aload_n 0, 1) := by decide +kernel
theorem d_Server_answer_32 : decode b_Server_answer 32 = .ok (.getfield 25, 3) := by decide +kernel
theorem d_Server_answer_35 : decode b_Server_answer 35 = .ok (.aload_n 0, 1) := by decide +kernel
theorem d_Server_answer_36 : decode b_Server_answer 36 = .ok (.getfield 58, 3) := by decide +kernel
theorem d_Server_answer_39 : decode b_Server_answer 39 = .ok (.invokevirtual 92, 3) := by decide +kernel
theorem d_Server_answer_42 : decode b_Server_answer 42 = .ok (.ifCond .ne (12), 3) := by decide +kernel
theorem d_Server_answer_45 : decode b_Server_answer 45 = .ok (.aload_n 0, 1) := by decide +kernel
theorem d_Server_answer_46 : decode b_Server_answer 46 = .ok (.iload_n 1, 1) := by decide +kernel
theorem d_Server_answer_47 : decode b_Server_answer 47 = .ok (.iconst 2, 1) := by decide +kernel
theorem d_Server_answer_48 : decode b_Server_answer 48 = .ok (.iconst 0, 1) := by decide +kernel
theorem d_Server_answer_49 : decode b_Server_answer 49 = .ok (.invokevirtual 85, 3) := by decide +kernel
theorem d_Server_answer_52 : decode b_Server_answer 52 = .ok (.iconst 3, 1) := by decide +kernel
theorem d_Server_answer_53 : decode b_Server_answer 53 = .ok (.ireturn, 1) := by decide +kernel
theorem d_Server_answer_54 : decode b_Server_answer 54 = .ok (.aload_n 0, 1) := by decide +kernel
theorem d_Server_answer_55 : decode b_Server_answer 55 = .ok (.iload_n 1, 1) := by decide +kernel
theorem d_Server_answer_56 : decode b_Server_answer 56 = .ok (.iconst 0, 1) := by decide +kernel
theorem d_Server_answer_57 : decode b_Server_answer 57 = .ok (.aload_n 0, 1) := by decide +kernel
theorem d_Server_answer_58 : decode b_Server_answer 58 = .ok (.iload_n 2, 1) := by decide +kernel
theorem d_Server_answer_59 : decode b_Server_answer 59 = .ok (.aload_n 0, 1) := by decide +kernel
theorem d_Server_answer_60 : decode b_Server_answer 60 = .ok (.getfield 58, 3) := by decide +kernel
theorem d_Server_answer_63 : decode b_Server_answer 63 = .ok (.invokevirtual 98, 3) := by decide +kernel
theorem d_Server_answer_66 : decode b_Server_answer 66 = .ok (.invokevirtual 104, 3) := by decide +kernel
theorem d_Server_answer_69 : decode b_Server_answer 69 = .ok (.invokevirtual 85, 3) := by decide +kernel
theorem d_Server_answer_72 : decode b_Server_answer 72 = .ok (.iconst 0, 1) := by decide +kernel
theorem d_Server_answer_73 : decode b_Server_answer 73 = .ok (.ireturn, 1) := by decide +kernel
theorem d_Server_run_0 : decode b_Server_run 0 = .ok (.aload_n 0, 1) := by decide +kernel
theorem d_Server_run_1 : decode b_Server_run 1 = .ok (.dup, 1) := by decide +kernel
theorem d_Server_run_2 : decode b_Server_run 2 = .ok (.getfield 47, 3) := by decide +kernel
theorem d_Server_run_5 : decode b_Server_run 5 = .ok (.iconst 1, 1) := by decide +kernel
theorem d_Server_run_6 : decode b_Server_run 6 = .ok (.iadd, 1) := by decide +kernel
theorem d_Server_run_7 : decode b_Server_run 7 = .ok (.putfield 47, 3) := by decide +kernel
theorem d_Server_run_10 : decode b_Server_run 10 = .ok (.aload_n 0, 1) := by decide +kernel
theorem d_Server_run_11 : decode b_Server_run 11 = .ok (.getfield 44, 3) := by decide +kernel
theorem d_Server_run_14 : decode b_Server_run 14 = .ok (.istore_n 3, 1) := by decide +kernel
theorem d_Server_run_15 : decode b_Server_run 15 = .ok (.iload_n 1, 1) := by decide +kernel
theorem d_Server_run_16 : decode b_Server_run 16 = .ok (.tableswitch (55) (1) (3) #[(28), (43), (50)], 28) := by decide +kernel
theorem d_Server_run_44 : decode b_Server_run 44 = .ok (.aload_n 0, 1) := by decide +kernel
theorem d_Server_run_45 : decode b_Server_run 45 = .ok (.dup, 1) := by decide +kernel
theorem d_Server_run_46 : decode b_Server_run 46 = .ok (.getfield 44, 3) := by decide +kernel
theorem d_Server_run_49 : decode b_Server_run 49 = .ok (.iload_n 2, 1) := by decide +kernel
theorem d_Server_run_50 : decode b_Server_run 50 = .ok (.iadd, 1) := by decide +kernel
theorem d_Server_run_51 : decode b_Server_run 51 = .ok (.putfield 44, 3) := by decide +kernel
theorem d_Server_run_54 : decode b_Server_run 54 = .ok (.aload_n 0, 1) := by decide +kernel
theorem d_Server_run_55 : decode b_Server_run 55 = .ok (.getfield 44, 3) := by decide +kernel
theorem d_Server_run_58 : decode b_Server_run 58 = .ok (.ireturn, 1) := by decide +kernel
theorem d_Server_run_59 : decode b_Server_run 59 = .ok (.aload_n 0, 1) := by decide +kernel
theorem d_Server_run_60 : decode b_Server_run 60 = .ok (.iload_n 2, 1) := by decide +kernel
theorem d_Server_run_61 : decode b_Server_run 61 = .ok (.putfield 44, 3) := by decide +kernel
theorem d_Server_run_64 : decode b_Server_run 64 = .ok (.iload_n 3, 1) := by decide +kernel
theorem d_Server_run_65 : decode b_Server_run 65 = .ok (.ireturn, 1) := by decide +kernel
theorem d_Server_run_66 : decode b_Server_run 66 = .ok (.aload_n 0, 1) := by decide +kernel
theorem d_Server_run_67 : decode b_Server_run 67 = .ok (.getfield 44, 3) := by decide +kernel
theorem d_Server_run_70 : decode b_Server_run 70 = .ok (.ireturn, 1) := by decide +kernel
theorem d_Server_run_71 : decode b_Server_run 71 = .ok (.iconst 0, 1) := by decide +kernel
theorem d_Server_run_72 : decode b_Server_run 72 = .ok (.ireturn, 1) := by decide +kernel
theorem d_Server_reply_0 : decode b_Server_reply 0 = .ok (.aload_n 0, 1) := by decide +kernel
theorem d_Server_reply_1 : decode b_Server_reply 1 = .ok (.getfield 14, 3) := by decide +kernel
theorem d_Server_reply_4 : decode b_Server_reply 4 = .ok (.invokevirtual 107, 3) := by decide +kernel
theorem d_Server_reply_7 : decode b_Server_reply 7 = .ok (.aload_n 0, 1) := by decide +kernel
theorem d_Server_reply_8 : decode b_Server_reply 8 = .ok (.getfield 14, 3) := by decide +kernel
theorem d_Server_reply_11 : decode b_Server_reply 11 = .ok (.iload_n 1, 1) := by decide +kernel
theorem d_Server_reply_12 : decode b_Server_reply 12 = .ok (.invokevirtual 110, 3) := by decide +kernel
theorem d_Server_reply_15 : decode b_Server_reply 15 = .ok (.aload_n 0, 1) := by decide +kernel
theorem d_Server_reply_16 : decode b_Server_reply 16 = .ok (.getfield 14, 3) := by decide +kernel
theorem d_Server_reply_19 : decode b_Server_reply 19 = .ok (.iconst 1, 1) := by decide +kernel
theorem d_Server_reply_20 : decode b_Server_reply 20 = .ok (.invokevirtual 110, 3) := by decide +kernel
theorem d_Server_reply_23 : decode b_Server_reply 23 = .ok (.aload_n 0, 1) := by decide +kernel
theorem d_Server_reply_24 : decode b_Server_reply 24 = .ok (.getfield 14, 3) := by decide +kernel
theorem d_Server_reply_27 : decode b_Server_reply 27 = .ok (.iload_n 2, 1) := by decide +kernel
theorem d_Server_reply_28 : decode b_Server_reply 28 = .ok (.invokevirtual 110, 3) := by decide +kernel
theorem d_Server_reply_31 : decode b_Server_reply 31 = .ok (.iload_n 2, 1) := by decide +kernel
theorem d_Server_reply_32 : decode b_Server_reply 32 = .ok (.ifCond .ne (11), 3) := by decide +kernel
theorem d_Server_reply_35 : decode b_Server_reply 35 = .ok (.aload_n 0, 1) := by decide +kernel
theorem d_Server_reply_36 : decode b_Server_reply 36 = .ok (.getfield 14, 3) := by decide +kernel
theorem d_Server_reply_39 : decode b_Server_reply 39 = .ok (.iload_n 3, 1) := by decide +kernel
theorem d_Server_reply_40 : decode b_Server_reply 40 = .ok (.invokevirtual 110, 3) := by decide +kernel
theorem d_Server_reply_43 : decode b_Server_reply 43 = .ok (.aload_n 0, 1) := by decide +kernel
theorem d_Server_reply_44 : decode b_Server_reply 44 = .ok (.invokevirtual 113, 3) := by decide +kernel
theorem d_Server_reply_47 : decode b_Server_reply 47 = .ok (.istore 4, 2) := by decide +kernel
theorem d_Server_reply_49 : decode b_Server_reply 49 = .ok (.aload_n 0, 1) := by decide +kernel
theorem d_Server_reply_50 : decode b_Server_reply 50 = .ok (.getfield 29, 3) := by decide +kernel
theorem d_Server_reply_53 : decode b_Server_reply 53 = .ok (.iload 4, 2) := by decide +kernel
theorem d_Server_reply_55 : decode b_Server_reply 55 = .ok (.iload_n 1, 1) := by decide +kernel
theorem d_Server_reply_56 : decode b_Server_reply 56 = .ok (.iastore, 1) := by decide +kernel
theorem d_Server_reply_57 : decode b_Server_reply 57 = .ok (.aload_n 0, 1) := by decide +kernel
theorem d_Server_reply_58 : decode b_Server_reply 58 = .ok (.getfield 14, 3) := by decide +kernel
theorem d_Server_reply_61 : decode b_Server_reply 61 = .ok (.aload_n 0, 1) := by decide +kernel
theorem d_Server_reply_62 : decode b_Server_reply 62 = .ok (.getfield 33, 3) := by decide +kernel
theorem d_Server_reply_65 : decode b_Server_reply 65 = .ok (.iload 4, 2) := by decide +kernel
theorem d_Server_reply_67 : decode b_Server_reply 67 = .ok (.aaload, 1) := by decide +kernel
theorem d_Server_reply_68 : decode b_Server_reply 68 = .ok (.invokestatic 116, 3) := by decide +kernel
theorem d_Server_reply_71 : decode b_Server_reply 71 = .ok (.aload_n 0, 1) := by decide +kernel
theorem d_Server_reply_72 : decode b_Server_reply 72 = .ok (.getfield 50, 3) := by decide +kernel
theorem d_Server_reply_75 : decode b_Server_reply 75 = .ok (.aload_n 0, 1) := by decide +kernel
theorem d_Server_reply_76 : decode b_Server_reply 76 = .ok (.getfield 33, 3) := by decide +kernel
theorem d_Server_reply_79 : decode b_Server_reply 79 = .ok (.iload 4, 2) := by decide +kernel
theorem d_Server_reply_81 : decode b_Server_reply 81 = .ok (.aaload, 1) := by decide +kernel
theorem d_Server_reply_82 : decode b_Server_reply 82 = .ok (.iconst 0, 1) := by decide +kernel
theorem d_Server_reply_83 : decode b_Server_reply 83 = .ok (.invokevirtual 75, 3) := by decide +kernel
theorem d_Server_reply_86 : decode b_Server_reply 86 = .ok (.return_, 1) := by decide +kernel
theorem d_Server_slotForNew_0 : decode b_Server_slotForNew 0 = .ok (.aload_n 0, 1) := by decide +kernel
theorem d_Server_slotForNew_1 : decode b_Server_slotForNew 1 = .ok (.getfield 37, 3) := by decide +kernel
theorem d_Server_slotForNew_4 : decode b_Server_slotForNew 4 = .ok (.iconst 4, 1) := by decide +kernel
theorem d_Server_slotForNew_5 : decode b_Server_slotForNew 5 = .ok (.if_icmp .ge (20), 3) := by decide +kernel
theorem d_Server_slotForNew_8 : decode b_Server_slotForNew 8 = .ok (.aload_n 0, 1) := by decide +kernel
theorem d_Server_slotForNew_9 : decode b_Server_slotForNew 9 = .ok (.dup, 1) := by decide +kernel
theorem d_Server_slotForNew_10 : decode b_Server_slotForNew 10 = .ok (.getfield 37, 3) := by decide +kernel
theorem d_Server_slotForNew_13 : decode b_Server_slotForNew 13 = .ok (.iconst 1, 1) := by decide +kernel
theorem d_Server_slotForNew_14 : decode b_Server_slotForNew 14 = .ok (.iadd, 1) := by decide +kernel
theorem d_Server_slotForNew_15 : decode b_Server_slotForNew 15 = .ok (.putfield 37, 3) := by decide +kernel
theorem d_Server_slotForNew_18 : decode b_Server_slotForNew 18 = .ok (.aload_n 0, 1) := by decide +kernel
theorem d_Server_slotForNew_19 : decode b_Server_slotForNew 19 = .ok (.getfield 37, 3) := by decide +kernel
theorem d_Server_slotForNew_22 : decode b_Server_slotForNew 22 = .ok (.iconst 1, 1) := by decide +kernel
theorem d_Server_slotForNew_23 : decode b_Server_slotForNew 23 = .ok (.isub, 1) := by decide +kernel
theorem d_Server_slotForNew_24 : decode b_Server_slotForNew 24 = .ok (.ireturn, 1) := by decide +kernel
theorem d_Server_slotForNew_25 : decode b_Server_slotForNew 25 = .ok (.aload_n 0, 1) := by decide +kernel
theorem d_Server_slotForNew_26 : decode b_Server_slotForNew 26 = .ok (.getfield 41, 3) := by decide +kernel
theorem d_Server_slotForNew_29 : decode b_Server_slotForNew 29 = .ok (.istore_n 1, 1) := by decide +kernel
theorem d_Server_slotForNew_30 : decode b_Server_slotForNew 30 = .ok (.aload_n 0, 1) := by decide +kernel
theorem d_Server_slotForNew_31 : decode b_Server_slotForNew 31 = .ok (.aload_n 0, 1) := by decide +kernel
theorem d_Server_slotForNew_32 : decode b_Server_slotForNew 32 = .ok (.getfield 41, 3) := by decide +kernel
theorem d_Server_slotForNew_35 : decode b_Server_slotForNew 35 = .ok (.iconst 1, 1) := by decide +kernel
theorem d_Server_slotForNew_36 : decode b_Server_slotForNew 36 = .ok (.iadd, 1) := by decide +kernel
theorem d_Server_slotForNew_37 : decode b_Server_slotForNew 37 = .ok (.iconst 4, 1) := by decide +kernel
theorem d_Server_slotForNew_38 : decode b_Server_slotForNew 38 = .ok (.irem, 1) := by decide +kernel
theorem d_Server_slotForNew_39 : decode b_Server_slotForNew 39 = .ok (.putfield 41, 3) := by decide +kernel
theorem d_Server_slotForNew_42 : decode b_Server_slotForNew 42 = .ok (.iload_n 1, 1) := by decide +kernel
theorem d_Server_slotForNew_43 : decode b_Server_slotForNew 43 = .ok (.ireturn, 1) := by decide +kernel
theorem d_TaggedFormat_init_0 : decode b_TaggedFormat_init 0 = .ok (.aload_n 0, 1) := by decide +kernel
theorem d_TaggedFormat_init_1 : decode b_TaggedFormat_init 1 = .ok (.aload_n 1, 1) := by decide +kernel
theorem d_TaggedFormat_init_2 : decode b_TaggedFormat_init 2 = .ok (.invokespecial 3, 3) := by decide +kernel
theorem d_TaggedFormat_init_5 : decode b_TaggedFormat_init 5 = .ok (.return_, 1) := by decide +kernel
theorem d_TaggedFormat_write_0 : decode b_TaggedFormat_write 0 = .ok (.iconst 0, 1) := by decide +kernel
theorem d_TaggedFormat_write_1 : decode b_TaggedFormat_write 1 = .ok (.istore_n 3, 1) := by decide +kernel
theorem d_TaggedFormat_write_2 : decode b_TaggedFormat_write 2 = .ok (.iload_n 3, 1) := by decide +kernel
theorem d_TaggedFormat_write_3 : decode b_TaggedFormat_write 3 = .ok (.aload_n 0, 1) := by decide +kernel
theorem d_TaggedFormat_write_4 : decode b_TaggedFormat_write 4 = .ok (.getfield 9, 3) := by decide +kernel
theorem d_TaggedFormat_write_7 : decode b_TaggedFormat_write 7 = .ok (.getfield 15, 3) := by decide +kernel
theorem d_TaggedFormat_write_10 : decode b_TaggedFormat_write 10 = .ok (.if_icmp .ge (84), 3) := by decide +kernel
theorem d_TaggedFormat_write_13 : decode b_TaggedFormat_write 13 = .ok (.aload_n 1, 1) := by decide +kernel
theorem d_TaggedFormat_write_14 : decode b_TaggedFormat_write 14 = .ok (.iload_n 3, 1) := by decide +kernel
theorem d_TaggedFormat_write_15 : decode b_TaggedFormat_write 15 = .ok (.invokevirtual 21, 3) := by decide +kernel
theorem d_TaggedFormat_write_18 : decode b_TaggedFormat_write 18 = .ok (.istore 4, 2) := by decide +kernel
theorem d_TaggedFormat_write_20 : decode b_TaggedFormat_write 20 = .ok (.iconst 0, 1) := by decide +kernel
theorem d_TaggedFormat_write_21 : decode b_TaggedFormat_write 21 = .ok (.istore 5, 2) := by decide +kernel
theorem d_TaggedFormat_write_23 : decode b_TaggedFormat_write 23 = .ok (.iload 5, 2) := by decide +kernel
theorem d_TaggedFormat_write_25 : decode b_TaggedFormat_write 25 = .ok (.iload 4, 2) := by decide +kernel
theorem d_TaggedFormat_write_27 : decode b_TaggedFormat_write 27 = .ok (.if_icmp .ge (61), 3) := by decide +kernel
theorem d_TaggedFormat_write_30 : decode b_TaggedFormat_write 30 = .ok (.aload_n 1, 1) := by decide +kernel
theorem d_TaggedFormat_write_31 : decode b_TaggedFormat_write 31 = .ok (.iload_n 3, 1) := by decide +kernel
theorem d_TaggedFormat_write_32 : decode b_TaggedFormat_write 32 = .ok (.iload 5, 2) := by decide +kernel
theorem d_TaggedFormat_write_34 : decode b_TaggedFormat_write 34 = .ok (.invokevirtual 27, 3) := by decide +kernel
theorem d_TaggedFormat_write_37 : decode b_TaggedFormat_write 37 = .ok (.istore 6, 2) := by decide +kernel
theorem d_TaggedFormat_write_39 : decode b_TaggedFormat_write 39 = .ok (.iload 6, 2) := by decide +kernel
theorem d_TaggedFormat_write_41 : decode b_TaggedFormat_write 41 = .ok (.ifCond .ne (14), 3) := by decide +kernel
theorem d_TaggedFormat_write_44 : decode b_TaggedFormat_write 44 = .ok (.aload_n 0, 1) := by decide +kernel
theorem d_TaggedFormat_write_45 : decode b_TaggedFormat_write 45 = .ok (.getfield 9, 3) := by decide +kernel
theorem d_TaggedFormat_write_48 : decode b_TaggedFormat_write 48 = .ok (.iload_n 3, 1) := by decide +kernel
theorem d_TaggedFormat_write_49 : decode b_TaggedFormat_write 49 = .ok (.invokevirtual 31, 3) := by decide +kernel
theorem d_TaggedFormat_write_52 : decode b_TaggedFormat_write 52 = .ok (.ifCond .eq (30), 3) := by decide +kernel
theorem d_TaggedFormat_write_55 : decode b_TaggedFormat_write 55 = .ok (.aload_n 0, 1) := by decide +kernel
theorem d_TaggedFormat_write_56 : decode b_TaggedFormat_write 56 = .ok (.getfield 9, 3) := by decide +kernel
theorem d_TaggedFormat_write_59 : decode b_TaggedFormat_write 59 = .ok (.iload_n 3, 1) := by decide +kernel
theorem d_TaggedFormat_write_60 : decode b_TaggedFormat_write 60 = .ok (.invokevirtual 35, 3) := by decide +kernel
theorem d_TaggedFormat_write_63 : decode b_TaggedFormat_write 63 = .ok (.i2l, 1) := by decide +kernel
theorem d_TaggedFormat_write_64 : decode b_TaggedFormat_write 64 = .ok (.aload_n 2, 1) := by decide +kernel
theorem d_TaggedFormat_write_65 : decode b_TaggedFormat_write 65 = .ok (.invokestatic 38, 3) := by decide +kernel
theorem d_TaggedFormat_write_68 : decode b_TaggedFormat_write 68 = .ok (.aload_n 0, 1) := by decide +kernel
theorem d_TaggedFormat_write_69 : decode b_TaggedFormat_write 69 = .ok (.getfield 9, 3) := by decide +kernel
theorem d_TaggedFormat_write_72 : decode b_TaggedFormat_write 72 = .ok (.iload_n 3, 1) := by decide +kernel
theorem d_TaggedFormat_write_73 : decode b_TaggedFormat_write 73 = .ok (.invokevirtual 42, 3) := by decide +kernel
theorem d_TaggedFormat_write_76 : decode b_TaggedFormat_write 76 = .ok (.iload 6, 2) := by decide +kernel
theorem d_TaggedFormat_write_78 : decode b_TaggedFormat_write 78 = .ok (.aload_n 2, 1) := by decide +kernel
theorem d_TaggedFormat_write_79 : decode b_TaggedFormat_write 79 = .ok (.invokestatic 45, 3) := by decide +kernel
theorem d_TaggedFormat_write_82 : decode b_TaggedFormat_write 82 = .ok (.iinc 5 (1), 3) := by decide +kernel
theorem d_TaggedFormat_write_85 : decode b_TaggedFormat_write 85 = .ok (.goto (-62), 3) := by decide +kernel
theorem d_TaggedFormat_write_88 : decode b_TaggedFormat_write 88 = .ok (.iinc 3 (1), 3) := by decide +kernel
theorem d_TaggedFormat_write_91 : decode b_TaggedFormat_write 91 = .ok (.goto (-89), 3) := by decide +kernel
theorem d_TaggedFormat_write_94 : decode b_TaggedFormat_write 94 = .ok (.return_, 1) := by decide +kernel
theorem d_TaggedFormat_writeInt_0 : decode b_TaggedFormat_writeInt 0 = .ok (.iload_n 0, 1) := by decide +kernel
theorem d_TaggedFormat_writeInt_1 : decode b_TaggedFormat_writeInt 1 = .ok (.lookupswitch (66) #[(1, 38), (2, 27)], 27) := by decide +kernel
theorem d_TaggedFormat_writeInt_28 : decode b_TaggedFormat_writeInt 28 = .ok (.aload_n 2, 1) := by decide +kernel
theorem d_TaggedFormat_writeInt_29 : decode b_TaggedFormat_writeInt 29 = .ok (.iload_n 1, 1) := by decide +kernel
theorem d_TaggedFormat_writeInt_30 : decode b_TaggedFormat_writeInt 30 = .ok (.invokestatic 49, 3) := by decide +kernel
theorem d_TaggedFormat_writeInt_33 : decode b_TaggedFormat_writeInt 33 = .ok (.invokevirtual 54, 3) := by decide +kernel
theorem d_TaggedFormat_writeInt_36 : decode b_TaggedFormat_writeInt 36 = .ok (.goto (41), 3) := by decide +kernel
theorem d_TaggedFormat_writeInt_39 : decode b_TaggedFormat_writeInt 39 = .ok (.iload_n 1, 1) := by decide +kernel
theorem d_TaggedFormat_writeInt_40 : decode b_TaggedFormat_writeInt 40 = .ok (.ifCond .lt (12), 3) := by decide +kernel
theorem d_TaggedFormat_writeInt_43 : decode b_TaggedFormat_writeInt 43 = .ok (.ldc2_w 58, 3) := by decide +kernel
theorem d_TaggedFormat_writeInt_46 : decode b_TaggedFormat_writeInt 46 = .ok (.iload_n 1, 1) := by decide +kernel
theorem d_TaggedFormat_writeInt_47 : decode b_TaggedFormat_writeInt 47 = .ok (.i2l, 1) := by decide +kernel
theorem d_TaggedFormat_writeInt_48 : decode b_TaggedFormat_writeInt 48 = .ok (.lmul, 1) := by decide +kernel
theorem d_TaggedFormat_writeInt_49 : decode b_TaggedFormat_writeInt 49 = .ok (.goto (11), 3) := by decide +kernel
theorem d_TaggedFormat_writeInt_52 : decode b_TaggedFormat_writeInt 52 = .ok (.ldc2_w 60, 3) := by decide +kernel
theorem d_TaggedFormat_writeInt_55 : decode b_TaggedFormat_writeInt 55 = .ok (.iload_n 1, 1) := by decide +kernel
theorem d_TaggedFormat_writeInt_56 : decode b_TaggedFormat_writeInt 56 = .ok (.i2l, 1) := by decide +kernel
theorem d_TaggedFormat_writeInt_57 : decode b_TaggedFormat_writeInt 57 = .ok (.lmul, 1) := by decide +kernel
theorem d_TaggedFormat_writeInt_58 : decode b_TaggedFormat_writeInt 58 = .ok (.lconst 1, 1) := by decide +kernel
theorem d_TaggedFormat_writeInt_59 : decode b_TaggedFormat_writeInt 59 = .ok (.lsub, 1) := by decide +kernel
theorem d_TaggedFormat_writeInt_60 : decode b_TaggedFormat_writeInt 60 = .ok (.aload_n 2, 1) := by decide +kernel
theorem d_TaggedFormat_writeInt_61 : decode b_TaggedFormat_writeInt 61 = .ok (.invokestatic 38, 3) := by decide +kernel
theorem d_TaggedFormat_writeInt_64 : decode b_TaggedFormat_writeInt 64 = .ok (.goto (13), 3) := by decide +kernel
theorem d_TaggedFormat_writeInt_67 : decode b_TaggedFormat_writeInt 67 = .ok (.iload_n 1, 1) := by decide +kernel
theorem d_TaggedFormat_writeInt_68 : decode b_TaggedFormat_writeInt 68 = .ok (.i2l, 1) := by decide +kernel
theorem d_TaggedFormat_writeInt_69 : decode b_TaggedFormat_writeInt 69 = .ok (.ldc2_w 62, 3) := by decide +kernel
theorem d_TaggedFormat_writeInt_72 : decode b_TaggedFormat_writeInt 72 = .ok (.land, 1) := by decide +kernel
theorem d_TaggedFormat_writeInt_73 : decode b_TaggedFormat_writeInt 73 = .ok (.aload_n 2, 1) := by decide +kernel
theorem d_TaggedFormat_writeInt_74 : decode b_TaggedFormat_writeInt 74 = .ok (.invokestatic 38, 3) := by decide +kernel
theorem d_TaggedFormat_writeInt_77 : decode b_TaggedFormat_writeInt 77 = .ok (.return_, 1) := by decide +kernel
theorem d_TaggedFormat_writeVarint_0 : decode b_TaggedFormat_writeVarint 0 = .ok (.lload_n 0, 1) := by decide +kernel
theorem d_TaggedFormat_writeVarint_1 : decode b_TaggedFormat_writeVarint 1 = .ok (.lstore_n 3, 1) := by decide +kernel
theorem d_TaggedFormat_writeVarint_2 : decode b_TaggedFormat_writeVarint 2 = .ok (.iconst 1, 1) := by decide +kernel
theorem d_TaggedFormat_writeVarint_3 : decode b_TaggedFormat_writeVarint 3 = .ok (.istore 5, 2) := by decide +kernel
theorem d_TaggedFormat_writeVarint_5 : decode b_TaggedFormat_writeVarint 5 = .ok (.iload 5, 2) := by decide +kernel
theorem d_TaggedFormat_writeVarint_7 : decode b_TaggedFormat_writeVarint 7 = .ok (.bipush 10, 2) := by decide +kernel
theorem d_TaggedFormat_writeVarint_9 : decode b_TaggedFormat_writeVarint 9 = .ok (.if_icmp .ge (38), 3) := by decide +kernel
theorem d_TaggedFormat_writeVarint_12 : decode b_TaggedFormat_writeVarint 12 = .ok (.lload_n 3, 1) := by decide +kernel
theorem d_TaggedFormat_writeVarint_13 : decode b_TaggedFormat_writeVarint 13 = .ok (.bipush 7, 2) := by decide +kernel
theorem d_TaggedFormat_writeVarint_15 : decode b_TaggedFormat_writeVarint 15 = .ok (.lushr, 1) := by decide +kernel
theorem d_TaggedFormat_writeVarint_16 : decode b_TaggedFormat_writeVarint 16 = .ok (.lconst 0, 1) := by decide +kernel
theorem d_TaggedFormat_writeVarint_17 : decode b_TaggedFormat_writeVarint 17 = .ok (.lcmp, 1) := by decide +kernel
theorem d_TaggedFormat_writeVarint_18 : decode b_TaggedFormat_writeVarint 18 = .ok (.ifCond .eq (29), 3) := by decide +kernel
theorem d_TaggedFormat_writeVarint_21 : decode b_TaggedFormat_writeVarint 21 = .ok (.aload_n 2, 1) := by decide +kernel
theorem d_TaggedFormat_writeVarint_22 : decode b_TaggedFormat_writeVarint 22 = .ok (.lload_n 3, 1) := by decide +kernel
theorem d_TaggedFormat_writeVarint_23 : decode b_TaggedFormat_writeVarint 23 = .ok (.ldc2_w 66, 3) := by decide +kernel
theorem d_TaggedFormat_writeVarint_26 : decode b_TaggedFormat_writeVarint 26 = .ok (.land, 1) := by decide +kernel
theorem d_TaggedFormat_writeVarint_27 : decode b_TaggedFormat_writeVarint 27 = .ok (.l2i, 1) := by decide +kernel
theorem d_TaggedFormat_writeVarint_28 : decode b_TaggedFormat_writeVarint 28 = .ok (.sipush 128, 3) := by decide +kernel
theorem d_TaggedFormat_writeVarint_31 : decode b_TaggedFormat_writeVarint 31 = .ok (.iadd, 1) := by decide +kernel
theorem d_TaggedFormat_writeVarint_32 : decode b_TaggedFormat_writeVarint 32 = .ok (.invokevirtual 68, 3) := by decide +kernel
theorem d_TaggedFormat_writeVarint_35 : decode b_TaggedFormat_writeVarint 35 = .ok (.pop, 1) := by decide +kernel
theorem d_TaggedFormat_writeVarint_36 : decode b_TaggedFormat_writeVarint 36 = .ok (.lload_n 3, 1) := by decide +kernel
theorem d_TaggedFormat_writeVarint_37 : decode b_TaggedFormat_writeVarint 37 = .ok (.bipush 7, 2) := by decide +kernel
theorem d_TaggedFormat_writeVarint_39 : decode b_TaggedFormat_writeVarint 39 = .ok (.lushr, 1) := by decide +kernel
theorem d_TaggedFormat_writeVarint_40 : decode b_TaggedFormat_writeVarint 40 = .ok (.lstore_n 3, 1) := by decide +kernel
theorem d_TaggedFormat_writeVarint_41 : decode b_TaggedFormat_writeVarint 41 = .ok (.iinc 5 (1), 3) := by decide +kernel
theorem d_TaggedFormat_writeVarint_44 : decode b_TaggedFormat_writeVarint 44 = .ok (.goto (-39), 3) := by decide +kernel
theorem d_TaggedFormat_writeVarint_47 : decode b_TaggedFormat_writeVarint 47 = .ok (.aload_n 2, 1) := by decide +kernel
theorem d_TaggedFormat_writeVarint_48 : decode b_TaggedFormat_writeVarint 48 = .ok (.lload_n 3, 1) := by decide +kernel
theorem d_TaggedFormat_writeVarint_49 : decode b_TaggedFormat_writeVarint 49 = .ok (.l2i, 1) := by decide +kernel
theorem d_TaggedFormat_writeVarint_50 : decode b_TaggedFormat_writeVarint 50 = .ok (.invokevirtual 68, 3) := by decide +kernel
theorem d_TaggedFormat_writeVarint_53 : decode b_TaggedFormat_writeVarint 53 = .ok (.pop, 1) := by decide +kernel
theorem d_TaggedFormat_writeVarint_54 : decode b_TaggedFormat_writeVarint 54 = .ok (.return_, 1) := by decide +kernel
theorem d_TaggedFormat_read_0 : decode b_TaggedFormat_read 0 = .ok (.aload_n 2, 1) := by decide +kernel
theorem d_TaggedFormat_read_1 : decode b_TaggedFormat_read 1 = .ok (.invokevirtual 71, 3) := by decide +kernel
theorem d_TaggedFormat_read_4 : decode b_TaggedFormat_read 4 = .ok (.aload_n 1, 1) := by decide +kernel
theorem d_TaggedFormat_read_5 : decode b_TaggedFormat_read 5 = .ok (.invokevirtual 75, 3) := by decide +kernel
theorem d_TaggedFormat_read_8 : decode b_TaggedFormat_read 8 = .ok (.istore_n 3, 1) := by decide +kernel
theorem d_TaggedFormat_read_9 : decode b_TaggedFormat_read 9 = .ok (.iconst 0, 1) := by decide +kernel
theorem d_TaggedFormat_read_10 : decode b_TaggedFormat_read 10 = .ok (.istore 4, 2) := by decide +kernel
theorem d_TaggedFormat_read_12 : decode b_TaggedFormat_read 12 = .ok (.iload 4, 2) := by decide +kernel
theorem d_TaggedFormat_read_14 : decode b_TaggedFormat_read 14 = .ok (.iload_n 3, 1) := by decide +kernel
theorem d_TaggedFormat_read_15 : decode b_TaggedFormat_read 15 = .ok (.if_icmp .ge (27), 3) := by decide +kernel
theorem d_TaggedFormat_read_18 : decode b_TaggedFormat_read 18 = .ok (.aload_n 1, 1) := by decide +kernel
theorem d_TaggedFormat_read_19 : decode b_TaggedFormat_read 19 = .ok (.invokevirtual 75, 3) := by decide +kernel
theorem d_TaggedFormat_read_22 : decode b_TaggedFormat_read 22 = .ok (.ifCond .le (20), 3) := by decide +kernel
theorem d_TaggedFormat_read_25 : decode b_TaggedFormat_read 25 = .ok (.aload_n 0, 1) := by decide +kernel
theorem d_TaggedFormat_read_26 : decode b_TaggedFormat_read 26 = .ok (.aload_n 1, 1) := by decide +kernel
theorem d_TaggedFormat_read_27 : decode b_TaggedFormat_read 27 = .ok (.aload_n 2, 1) := by decide +kernel
theorem d_TaggedFormat_read_28 : decode b_TaggedFormat_read 28 = .ok (.invokevirtual 79, 3) := by decide +kernel
theorem d_TaggedFormat_read_31 : decode b_TaggedFormat_read 31 = .ok (.ifCond .ne (5), 3) := by decide +kernel
theorem d_TaggedFormat_read_34 : decode b_TaggedFormat_read 34 = .ok (.iconst 0, 1) := by decide +kernel
theorem d_TaggedFormat_read_35 : decode b_TaggedFormat_read 35 = .ok (.ireturn, 1) := by decide +kernel
theorem d_TaggedFormat_read_36 : decode b_TaggedFormat_read 36 = .ok (.iinc 4 (1), 3) := by decide +kernel
theorem d_TaggedFormat_read_39 : decode b_TaggedFormat_read 39 = .ok (.goto (-27), 3) := by decide +kernel
theorem d_TaggedFormat_read_42 : decode b_TaggedFormat_read 42 = .ok (.aload_n 1, 1) := by decide +kernel
theorem d_TaggedFormat_read_43 : decode b_TaggedFormat_read 43 = .ok (.invokevirtual 75, 3) := by decide +kernel
theorem d_TaggedFormat_read_46 : decode b_TaggedFormat_read 46 = .ok (.ifCond .ne (7), 3) := by decide +kernel
theorem d_TaggedFormat_read_49 : decode b_TaggedFormat_read 49 = .ok (.iconst 1, 1) := by decide +kernel
theorem d_TaggedFormat_read_50 : decode b_TaggedFormat_read 50 = .ok (.goto (4), 3) := by decide +kernel
theorem d_TaggedFormat_read_53 : decode b_TaggedFormat_read 53 = .ok (.iconst 0, 1) := by decide +kernel
theorem d_TaggedFormat_read_54 : decode b_TaggedFormat_read 54 = .ok (.ireturn, 1) := by decide +kernel
theorem d_TaggedFormat_readEntry_0 : decode b_TaggedFormat_readEntry 0 = .ok (.aload_n 1, 1) := by decide +kernel
theorem d_TaggedFormat_readEntry_1 : decode b_TaggedFormat_readEntry 1 = .ok (.invokevirtual 83, 3) := by decide +kernel
theorem d_TaggedFormat_readEntry_4 : decode b_TaggedFormat_readEntry 4 = .ok (.lstore_n 3, 1) := by decide +kernel
theorem d_TaggedFormat_readEntry_5 : decode b_TaggedFormat_readEntry 5 = .ok (.aload_n 1, 1) := by decide +kernel
theorem d_TaggedFormat_readEntry_6 : decode b_TaggedFormat_readEntry 6 = .ok (.getfield 87, 3) := by decide +kernel
theorem d_TaggedFormat_readEntry_9 : decode b_TaggedFormat_readEntry 9 = .ok (.ifCond .ne (19), 3) := by decide +kernel
theorem d_TaggedFormat_readEntry_12 : decode b_TaggedFormat_readEntry 12 = .ok (.lload_n 3, 1) := by decide +kernel
theorem d_TaggedFormat_readEntry_13 : decode b_TaggedFormat_readEntry 13 = .ok (.ldc2_w 91, 3) := by decide +kernel
theorem d_TaggedFormat_readEntry_16 : decode b_TaggedFormat_readEntry 16 = .ok (.lcmp, 1) := by decide +kernel
theorem d_TaggedFormat_readEntry_17 : decode b_TaggedFormat_readEntry 17 = .ok (.ifCond .lt (11), 3) := by decide +kernel
theorem d_TaggedFormat_readEntry_20 : decode b_TaggedFormat_readEntry 20 = .ok (.lload_n 3, 1) := by decide +kernel
theorem d_TaggedFormat_readEntry_21 : decode b_TaggedFormat_readEntry 21 = .ok (.ldc2_w 62, 3) := by decide +kernel
theorem d_TaggedFormat_readEntry_24 : decode b_TaggedFormat_readEntry 24 = .ok (.lcmp, 1) := by decide +kernel
theorem d_TaggedFormat_readEntry_25 : decode b_TaggedFormat_readEntry 25 = .ok (.ifCond .le (5), 3) := by decide +kernel
theorem d_TaggedFormat_readEntry_28 : decode b_TaggedFormat_readEntry 28 = .ok (.iconst 0, 1) := by decide +kernel
theorem d_TaggedFormat_readEntry_29 : decode b_TaggedFormat_readEntry 29 = .ok (.ireturn, 1) := by decide +kernel
theorem d_TaggedFormat_readEntry_30 : decode b_TaggedFormat_readEntry 30 = .ok (.aload_n 1, 1) := by decide +kernel
theorem d_TaggedFormat_readEntry_31 : decode b_TaggedFormat_readEntry 31 = .ok (.lload_n 3, 1) := by decide +kernel
theorem d_TaggedFormat_readEntry_32 : decode b_TaggedFormat_readEntry 32 = .ok (.ldc2_w 93, 3) := by decide +kernel
theorem d_TaggedFormat_readEntry_35 : decode b_TaggedFormat_readEntry 35 = .ok (.land, 1) := by decide +kernel
theorem d_TaggedFormat_readEntry_36 : decode b_TaggedFormat_readEntry 36 = .ok (.l2i, 1) := by decide +kernel
theorem d_TaggedFormat_readEntry_37 : decode b_TaggedFormat_readEntry 37 = .ok (.invokestatic 95, 3) := by decide +kernel
theorem d_TaggedFormat_readEntry_40 : decode b_TaggedFormat_readEntry 40 = .ok (.lstore 5, 2) := by decide +kernel
theorem d_TaggedFormat_readEntry_42 : decode b_TaggedFormat_readEntry 42 = .ok (.aload_n 1, 1) := by decide +kernel
theorem d_TaggedFormat_readEntry_43 : decode b_TaggedFormat_readEntry 43 = .ok (.getfield 87, 3) := by decide +kernel
theorem d_TaggedFormat_readEntry_46 : decode b_TaggedFormat_readEntry 46 = .ok (.ifCond .eq (5), 3) := by decide +kernel
theorem d_TaggedFormat_readEntry_49 : decode b_TaggedFormat_readEntry 49 = .ok (.iconst 0, 1) := by decide +kernel
theorem d_TaggedFormat_readEntry_50 : decode b_TaggedFormat_readEntry 50 = .ok (.ireturn, 1) := by decide +kernel
theorem d_TaggedFormat_readEntry_51 : decode b_TaggedFormat_readEntry 51 = .ok (.aload_n 0, 1) := by decide +kernel
theorem d_TaggedFormat_readEntry_52 : decode b_TaggedFormat_readEntry 52 = .ok (.getfield 9, 3) := by decide +kernel
theorem d_TaggedFormat_readEntry_55 : decode b_TaggedFormat_readEntry 55 = .ok (.lload_n 3, 1) := by decide +kernel
theorem d_TaggedFormat_readEntry_56 : decode b_TaggedFormat_readEntry 56 = .ok (.iconst 3, 1) := by decide +kernel
theorem d_TaggedFormat_readEntry_57 : decode b_TaggedFormat_readEntry 57 = .ok (.lushr, 1) := by decide +kernel
theorem d_TaggedFormat_readEntry_58 : decode b_TaggedFormat_readEntry 58 = .ok (.l2i, 1) := by decide +kernel
theorem d_TaggedFormat_readEntry_59 : decode b_TaggedFormat_readEntry 59 = .ok (.invokevirtual 99, 3) := by decide +kernel
theorem d_TaggedFormat_readEntry_62 : decode b_TaggedFormat_readEntry 62 = .ok (.istore 7, 2) := by decide +kernel
theorem d_TaggedFormat_readEntry_64 : decode b_TaggedFormat_readEntry 64 = .ok (.iload 7, 2) := by decide +kernel
theorem d_TaggedFormat_readEntry_66 : decode b_TaggedFormat_readEntry 66 = .ok (.iconst (-1), 1) := by decide +kernel
theorem d_TaggedFormat_readEntry_67 : decode b_TaggedFormat_readEntry 67 = .ok (.if_icmp .eq (18), 3) := by decide +kernel
theorem d_TaggedFormat_readEntry_70 : decode b_TaggedFormat_readEntry 70 = .ok (.aload_n 0, 1) := by decide +kernel
theorem d_TaggedFormat_readEntry_71 : decode b_TaggedFormat_readEntry 71 = .ok (.getfield 9, 3) := by decide +kernel
theorem d_TaggedFormat_readEntry_74 : decode b_TaggedFormat_readEntry 74 = .ok (.iload 7, 2) := by decide +kernel
theorem d_TaggedFormat_readEntry_76 : decode b_TaggedFormat_readEntry 76 = .ok (.invokevirtual 35, 3) := by decide +kernel
theorem d_TaggedFormat_readEntry_79 : decode b_TaggedFormat_readEntry 79 = .ok (.i2l, 1) := by decide +kernel
theorem d_TaggedFormat_readEntry_80 : decode b_TaggedFormat_readEntry 80 = .ok (.lload_n 3, 1) := by decide +kernel
theorem d_TaggedFormat_readEntry_81 : decode b_TaggedFormat_readEntry 81 = .ok (.lcmp, 1) := by decide +kernel
theorem d_TaggedFormat_readEntry_82 : decode b_TaggedFormat_readEntry 82 = .ok (.ifCond .eq (5), 3) := by decide +kernel
theorem d_TaggedFormat_readEntry_85 : decode b_TaggedFormat_readEntry 85 = .ok (.iconst 1, 1) := by decide +kernel
theorem d_TaggedFormat_readEntry_86 : decode b_TaggedFormat_readEntry 86 = .ok (.ireturn, 1) := by decide +kernel
theorem d_TaggedFormat_readEntry_87 : decode b_TaggedFormat_readEntry 87 = .ok (.aload_n 2, 1) := by decide +kernel
theorem d_TaggedFormat_readEntry_88 : decode b_TaggedFormat_readEntry 88 = .ok (.iload 7, 2) := by decide +kernel
theorem d_TaggedFormat_readEntry_90 : decode b_TaggedFormat_readEntry 90 = .ok (.aload_n 0, 1) := by decide +kernel
theorem d_TaggedFormat_readEntry_91 : decode b_TaggedFormat_readEntry 91 = .ok (.getfield 9, 3) := by decide +kernel
theorem d_TaggedFormat_readEntry_94 : decode b_TaggedFormat_readEntry 94 = .ok (.iload 7, 2) := by decide +kernel
theorem d_TaggedFormat_readEntry_96 : decode b_TaggedFormat_readEntry 96 = .ok (.invokevirtual 42, 3) := by decide +kernel
theorem d_TaggedFormat_readEntry_99 : decode b_TaggedFormat_readEntry 99 = .ok (.lload 5, 2) := by decide +kernel
theorem d_TaggedFormat_readEntry_101 : decode b_TaggedFormat_readEntry 101 = .ok (.invokestatic 102, 3) := by decide +kernel
theorem d_TaggedFormat_readEntry_104 : decode b_TaggedFormat_readEntry 104 = .ok (.invokevirtual 106, 3) := by decide +kernel
theorem d_TaggedFormat_readEntry_107 : decode b_TaggedFormat_readEntry 107 = .ok (.ireturn, 1) := by decide +kernel
end
section
theorem d_TaggedFormat_takePayload_0 : decode b_TaggedFormat_takePayload 0 = .ok (.iload_n 1, 1) := by decide +kernel
theorem d_TaggedFormat_takePayload_1 : decode b_TaggedFormat_takePayload 1 = .ok (.tableswitch (72) (0) (5) #[(39), (53), (62), (72), (72), (44)], 39) := by decide +kernel
theorem d_TaggedFormat_takePayload_40 : decode b_TaggedFormat_takePayload 40 = .ok (.aload_n 0, 1) := by decide +kernel
theorem d_TaggedFormat_takePayload_41 : decode b_TaggedFormat_takePayload 41 = .ok (.invokevirtual 83, 3) := by decide +kernel
theorem d_TaggedFormat_takePayload_44 : decode b_TaggedFormat_takePayload 44 = .ok (.lreturn, 1) := by decide +kernel
theorem d_TaggedFormat_takePayload_45 : decode b_TaggedFormat_takePayload 45 = .ok (.aload_n 0, 1) := by decide +kernel
theorem d_TaggedFormat_takePayload_46 : decode b_TaggedFormat_takePayload 46 = .ok (.invokevirtual 110, 3) := by decide +kernel
theorem d_TaggedFormat_takePayload_49 : decode b_TaggedFormat_takePayload 49 = .ok (.invokestatic 49, 3) := by decide +kernel
theorem d_TaggedFormat_takePayload_52 : decode b_TaggedFormat_takePayload 52 = .ok (.i2l, 1) := by decide +kernel
theorem d_TaggedFormat_takePayload_53 : decode b_TaggedFormat_takePayload 53 = .ok (.lreturn, 1) := by decide +kernel
theorem d_TaggedFormat_takePayload_54 : decode b_TaggedFormat_takePayload 54 = .ok (.aload_n 0, 1) := by decide +kernel
theorem d_TaggedFormat_takePayload_55 : decode b_TaggedFormat_takePayload 55 = .ok (.ldc2_w 91, 3) := by decide +kernel
theorem d_TaggedFormat_takePayload_58 : decode b_TaggedFormat_takePayload 58 = .ok (.invokevirtual 113, 3) := by decide +kernel
theorem d_TaggedFormat_takePayload_61 : decode b_TaggedFormat_takePayload 61 = .ok (.lconst 0, 1) := by decide +kernel
theorem d_TaggedFormat_takePayload_62 : decode b_TaggedFormat_takePayload 62 = .ok (.lreturn, 1) := by decide +kernel
theorem d_TaggedFormat_takePayload_63 : decode b_TaggedFormat_takePayload 63 = .ok (.aload_n 0, 1) := by decide +kernel
theorem d_TaggedFormat_takePayload_64 : decode b_TaggedFormat_takePayload 64 = .ok (.aload_n 0, 1) := by decide +kernel
theorem d_TaggedFormat_takePayload_65 : decode b_TaggedFormat_takePayload 65 = .ok (.invokevirtual 83, 3) := by decide +kernel
theorem d_TaggedFormat_takePayload_68 : decode b_TaggedFormat_takePayload 68 = .ok (.invokevirtual 113, 3) := by decide +kernel
theorem d_TaggedFormat_takePayload_71 : decode b_TaggedFormat_takePayload 71 = .ok (.lconst 0, 1) := by decide +kernel
theorem d_TaggedFormat_takePayload_72 : decode b_TaggedFormat_takePayload 72 = .ok (.lreturn, 1) := by decide +kernel
theorem d_TaggedFormat_takePayload_73 : decode b_TaggedFormat_takePayload 73 = .ok (.aload_n 0, 1) := by decide +kernel
theorem d_TaggedFormat_takePayload_74 : decode b_TaggedFormat_takePayload 74 = .ok (.iconst 1, 1) := by decide +kernel
theorem d_TaggedFormat_takePayload_75 : decode b_TaggedFormat_takePayload 75 = .ok (.putfield 87, 3) := by decide +kernel
theorem d_TaggedFormat_takePayload_78 : decode b_TaggedFormat_takePayload 78 = .ok (.lconst 0, 1) := by decide +kernel
theorem d_TaggedFormat_takePayload_79 : decode b_TaggedFormat_takePayload 79 = .ok (.lreturn, 1) := by decide +kernel
theorem d_TaggedFormat_intOfPayload_0 : decode b_TaggedFormat_intOfPayload 0 = .ok (.lload_n 1, 1) := by decide +kernel
theorem d_TaggedFormat_intOfPayload_1 : decode b_TaggedFormat_intOfPayload 1 = .ok (.l2i, 1) := by decide +kernel
theorem d_TaggedFormat_intOfPayload_2 : decode b_TaggedFormat_intOfPayload 2 = .ok (.istore_n 3, 1) := by decide +kernel
theorem d_TaggedFormat_intOfPayload_3 : decode b_TaggedFormat_intOfPayload 3 = .ok (.iload_n 0, 1) := by decide +kernel
theorem d_TaggedFormat_intOfPayload_4 : decode b_TaggedFormat_intOfPayload 4 = .ok (.lookupswitch (62) #[(1, 28), (3, 50)], 28) := by decide +kernel
theorem d_TaggedFormat_intOfPayload_32 : decode b_TaggedFormat_intOfPayload 32 = .ok (.iload_n 3, 1) := by decide +kernel
theorem d_TaggedFormat_intOfPayload_33 : decode b_TaggedFormat_intOfPayload 33 = .ok (.iconst 1, 1) := by decide +kernel
theorem d_TaggedFormat_intOfPayload_34 : decode b_TaggedFormat_intOfPayload 34 = .ok (.iushr, 1) := by decide +kernel
theorem d_TaggedFormat_intOfPayload_35 : decode b_TaggedFormat_intOfPayload 35 = .ok (.istore 4, 2) := by decide +kernel
theorem d_TaggedFormat_intOfPayload_37 : decode b_TaggedFormat_intOfPayload 37 = .ok (.iload_n 3, 1) := by decide +kernel
theorem d_TaggedFormat_intOfPayload_38 : decode b_TaggedFormat_intOfPayload 38 = .ok (.iconst 1, 1) := by decide +kernel
theorem d_TaggedFormat_intOfPayload_39 : decode b_TaggedFormat_intOfPayload 39 = .ok (.iand, 1) := by decide +kernel
theorem d_TaggedFormat_intOfPayload_40 : decode b_TaggedFormat_intOfPayload 40 = .ok (.ifCond .ne (8), 3) := by decide +kernel
theorem d_TaggedFormat_intOfPayload_43 : decode b_TaggedFormat_intOfPayload 43 = .ok (.iload 4, 2) := by decide +kernel
theorem d_TaggedFormat_intOfPayload_45 : decode b_TaggedFormat_intOfPayload 45 = .ok (.goto (8), 3) := by decide +kernel
theorem d_TaggedFormat_intOfPayload_48 : decode b_TaggedFormat_intOfPayload 48 = .ok (.iload 4, 2) := by decide +kernel
theorem d_TaggedFormat_intOfPayload_50 : decode b_TaggedFormat_intOfPayload 50 = .ok (.ineg, 1) := by decide +kernel
theorem d_TaggedFormat_intOfPayload_51 : decode b_TaggedFormat_intOfPayload 51 = .ok (.iconst 1, 1) := by decide +kernel
theorem d_TaggedFormat_intOfPayload_52 : decode b_TaggedFormat_intOfPayload 52 = .ok (.isub, 1) := by decide +kernel
theorem d_TaggedFormat_intOfPayload_53 : decode b_TaggedFormat_intOfPayload 53 = .ok (.ireturn, 1) := by decide +kernel
theorem d_TaggedFormat_intOfPayload_54 : decode b_TaggedFormat_intOfPayload 54 = .ok (.lload_n 1, 1) := by decide +kernel
theorem d_TaggedFormat_intOfPayload_55 : decode b_TaggedFormat_intOfPayload 55 = .ok (.lconst 0, 1) := by decide +kernel
theorem d_TaggedFormat_intOfPayload_56 : decode b_TaggedFormat_intOfPayload 56 = .ok (.lcmp, 1) := by decide +kernel
theorem d_TaggedFormat_intOfPayload_57 : decode b_TaggedFormat_intOfPayload 57 = .ok (.ifCond .ne (7), 3) := by decide +kernel
theorem d_TaggedFormat_intOfPayload_60 : decode b_TaggedFormat_intOfPayload 60 = .ok (.iconst 0, 1) := by decide +kernel
theorem d_TaggedFormat_intOfPayload_61 : decode b_TaggedFormat_intOfPayload 61 = .ok (.goto (4), 3) := by decide +kernel
theorem d_TaggedFormat_intOfPayload_64 : decode b_TaggedFormat_intOfPayload 64 = .ok (.iconst 1, 1) := by decide +kernel
theorem d_TaggedFormat_intOfPayload_65 : decode b_TaggedFormat_intOfPayload 65 = .ok (.ireturn, 1) := by decide +kernel
theorem d_TaggedFormat_intOfPayload_66 : decode b_TaggedFormat_intOfPayload 66 = .ok (.iload_n 3, 1) := by decide +kernel
theorem d_TaggedFormat_intOfPayload_67 : decode b_TaggedFormat_intOfPayload 67 = .ok (.ireturn, 1) := by decide +kernel
theorem d_Value_init_0 : decode b_Value_init 0 = .ok (.aload_n 0, 1) := by decide +kernel
theorem d_Value_init_1 : decode b_Value_init 1 = .ok (.invokespecial 1, 3) := by decide +kernel
theorem d_Value_init_4 : decode b_Value_init 4 = .ok (.aload_n 0, 1) := by decide +kernel
theorem d_Value_init_5 : decode b_Value_init 5 = .ok (.bipush 16, 2) := by decide +kernel
theorem d_Value_init_7 : decode b_Value_init 7 = .ok (.newarray .int, 2) := by decide +kernel
theorem d_Value_init_9 : decode b_Value_init 9 = .ok (.putfield 11, 3) := by decide +kernel
theorem d_Value_init_12 : decode b_Value_init 12 = .ok (.aload_n 0, 1) := by decide +kernel
theorem d_Value_init_13 : decode b_Value_init 13 = .ok (.iconst 4, 1) := by decide +kernel
theorem d_Value_init_14 : decode b_Value_init 14 = .ok (.newarray .int, 2) := by decide +kernel
theorem d_Value_init_16 : decode b_Value_init 16 = .ok (.putfield 15, 3) := by decide +kernel
theorem d_Value_init_19 : decode b_Value_init 19 = .ok (.aload_n 0, 1) := by decide +kernel
theorem d_Value_init_20 : decode b_Value_init 20 = .ok (.aload_n 1, 1) := by decide +kernel
theorem d_Value_init_21 : decode b_Value_init 21 = .ok (.putfield 18, 3) := by decide +kernel
theorem d_Value_init_24 : decode b_Value_init 24 = .ok (.return_, 1) := by decide +kernel
theorem d_Value_clear_0 : decode b_Value_clear 0 = .ok (.iconst 0, 1) := by decide +kernel
theorem d_Value_clear_1 : decode b_Value_clear 1 = .ok (.istore_n 1, 1) := by decide +kernel
theorem d_Value_clear_2 : decode b_Value_clear 2 = .ok (.iload_n 1, 1) := by decide +kernel
theorem d_Value_clear_3 : decode b_Value_clear 3 = .ok (.aload_n 0, 1) := by decide +kernel
theorem d_Value_clear_4 : decode b_Value_clear 4 = .ok (.getfield 11, 3) := by decide +kernel
theorem d_Value_clear_7 : decode b_Value_clear 7 = .ok (.arraylength, 1) := by decide +kernel
theorem d_Value_clear_8 : decode b_Value_clear 8 = .ok (.if_icmp .ge (16), 3) := by decide +kernel
theorem d_Value_clear_11 : decode b_Value_clear 11 = .ok (.aload_n 0, 1) := by decide +kernel
theorem d_Value_clear_12 : decode b_Value_clear 12 = .ok (.getfield 11, 3) := by decide +kernel
theorem d_Value_clear_15 : decode b_Value_clear 15 = .ok (.iload_n 1, 1) := by decide +kernel
theorem d_Value_clear_16 : decode b_Value_clear 16 = .ok (.iconst 0, 1) := by decide +kernel
theorem d_Value_clear_17 : decode b_Value_clear 17 = .ok (.iastore, 1) := by decide +kernel
theorem d_Value_clear_18 : decode b_Value_clear 18 = .ok (.iinc 1 (1), 3) := by decide +kernel
theorem d_Value_clear_21 : decode b_Value_clear 21 = .ok (.goto (-19), 3) := by decide +kernel
theorem d_Value_clear_24 : decode b_Value_clear 24 = .ok (.iconst 0, 1) := by decide +kernel
theorem d_Value_clear_25 : decode b_Value_clear 25 = .ok (.istore_n 1, 1) := by decide +kernel
theorem d_Value_clear_26 : decode b_Value_clear 26 = .ok (.iload_n 1, 1) := by decide +kernel
theorem d_Value_clear_27 : decode b_Value_clear 27 = .ok (.aload_n 0, 1) := by decide +kernel
theorem d_Value_clear_28 : decode b_Value_clear 28 = .ok (.getfield 15, 3) := by decide +kernel
theorem d_Value_clear_31 : decode b_Value_clear 31 = .ok (.arraylength, 1) := by decide +kernel
theorem d_Value_clear_32 : decode b_Value_clear 32 = .ok (.if_icmp .ge (16), 3) := by decide +kernel
theorem d_Value_clear_35 : decode b_Value_clear 35 = .ok (.aload_n 0, 1) := by decide +kernel
theorem d_Value_clear_36 : decode b_Value_clear 36 = .ok (.getfield 15, 3) := by decide +kernel
theorem d_Value_clear_39 : decode b_Value_clear 39 = .ok (.iload_n 1, 1) := by decide +kernel
theorem d_Value_clear_40 : decode b_Value_clear 40 = .ok (.iconst 0, 1) := by decide +kernel
theorem d_Value_clear_41 : decode b_Value_clear 41 = .ok (.iastore, 1) := by decide +kernel
theorem d_Value_clear_42 : decode b_Value_clear 42 = .ok (.iinc 1 (1), 3) := by decide +kernel
theorem d_Value_clear_45 : decode b_Value_clear 45 = .ok (.goto (-19), 3) := by decide +kernel
theorem d_Value_clear_48 : decode b_Value_clear 48 = .ok (.return_, 1) := by decide +kernel
theorem d_Value_store_0 : decode b_Value_store 0 = .ok (.aload_n 0, 1) := by decide +kernel
theorem d_Value_store_1 : decode b_Value_store 1 = .ok (.getfield 18, 3) := by decide +kernel
theorem d_Value_store_4 : decode b_Value_store 4 = .ok (.iload_n 1, 1) := by decide +kernel
theorem d_Value_store_5 : decode b_Value_store 5 = .ok (.invokevirtual 22, 3) := by decide +kernel
theorem d_Value_store_8 : decode b_Value_store 8 = .ok (.ifCond .ne (5), 3) := by decide +kernel
theorem d_Value_store_11 : decode b_Value_store 11 = .ok (.iconst 0, 1) := by decide +kernel
theorem d_Value_store_12 : decode b_Value_store 12 = .ok (.ireturn, 1) := by decide +kernel
theorem d_Value_store_13 : decode b_Value_store 13 = .ok (.aload_n 0, 1) := by decide +kernel
theorem d_Value_store_14 : decode b_Value_store 14 = .ok (.getfield 18, 3) := by decide +kernel
theorem d_Value_store_17 : decode b_Value_store 17 = .ok (.getfield 26, 3) := by decide +kernel
theorem d_Value_store_20 : decode b_Value_store 20 = .ok (.iload_n 1, 1) := by decide +kernel
theorem d_Value_store_21 : decode b_Value_store 21 = .ok (.baload, 1) := by decide +kernel
theorem d_Value_store_22 : decode b_Value_store 22 = .ok (.ifCond .ne (14), 3) := by decide +kernel
theorem d_Value_store_25 : decode b_Value_store 25 = .ok (.aload_n 0, 1) := by decide +kernel
theorem d_Value_store_26 : decode b_Value_store 26 = .ok (.getfield 11, 3) := by decide +kernel
theorem d_Value_store_29 : decode b_Value_store 29 = .ok (.iload_n 1, 1) := by decide +kernel
theorem d_Value_store_30 : decode b_Value_store 30 = .ok (.iconst 4, 1) := by decide +kernel
theorem d_Value_store_31 : decode b_Value_store 31 = .ok (.imul, 1) := by decide +kernel
theorem d_Value_store_32 : decode b_Value_store 32 = .ok (.iload_n 2, 1) := by decide +kernel
theorem d_Value_store_33 : decode b_Value_store 33 = .ok (.iastore, 1) := by decide +kernel
theorem d_Value_store_34 : decode b_Value_store 34 = .ok (.iconst 1, 1) := by decide +kernel
theorem d_Value_store_35 : decode b_Value_store 35 = .ok (.ireturn, 1) := by decide +kernel
theorem d_Value_store_36 : decode b_Value_store 36 = .ok (.aload_n 0, 1) := by decide +kernel
theorem d_Value_store_37 : decode b_Value_store 37 = .ok (.getfield 15, 3) := by decide +kernel
theorem d_Value_store_40 : decode b_Value_store 40 = .ok (.iload_n 1, 1) := by decide +kernel
theorem d_Value_store_41 : decode b_Value_store 41 = .ok (.iaload, 1) := by decide +kernel
theorem d_Value_store_42 : decode b_Value_store 42 = .ok (.iconst 4, 1) := by decide +kernel
theorem d_Value_store_43 : decode b_Value_store 43 = .ok (.if_icmp .lt (5), 3) := by decide +kernel
theorem d_Value_store_46 : decode b_Value_store 46 = .ok (.iconst 0, 1) := by decide +kernel
theorem d_Value_store_47 : decode b_Value_store 47 = .ok (.ireturn, 1) := by decide +kernel
theorem d_Value_store_48 : decode b_Value_store 48 = .ok (.aload_n 0, 1) := by decide +kernel
theorem d_Value_store_49 : decode b_Value_store 49 = .ok (.getfield 11, 3) := by decide +kernel
theorem d_Value_store_52 : decode b_Value_store 52 = .ok (.iload_n 1, 1) := by decide +kernel
theorem d_Value_store_53 : decode b_Value_store 53 = .ok (.iconst 4, 1) := by decide +kernel
theorem d_Value_store_54 : decode b_Value_store 54 = .ok (.imul, 1) := by decide +kernel
theorem d_Value_store_55 : decode b_Value_store 55 = .ok (.aload_n 0, 1) := by decide +kernel
theorem d_Value_store_56 : decode b_Value_store 56 = .ok (.getfield 15, 3) := by decide +kernel
theorem d_Value_store_59 : decode b_Value_store 59 = .ok (.iload_n 1, 1) := by decide +kernel
theorem d_Value_store_60 : decode b_Value_store 60 = .ok (.iaload, 1) := by decide +kernel
theorem d_Value_store_61 : decode b_Value_store 61 = .ok (.iadd, 1) := by decide +kernel
theorem d_Value_store_62 : decode b_Value_store 62 = .ok (.iload_n 2, 1) := by decide +kernel
theorem d_Value_store_63 : decode b_Value_store 63 = .ok (.iastore, 1) := by decide +kernel
theorem d_Value_store_64 : decode b_Value_store 64 = .ok (.aload_n 0, 1) := by decide +kernel
theorem d_Value_store_65 : decode b_Value_store 65 = .ok (.getfield 15, 3) := by decide +kernel
theorem d_Value_store_68 : decode b_Value_store 68 = .ok (.iload_n 1, 1) := by decide +kernel
theorem d_Value_store_69 : decode b_Value_store 69 = .ok (.dup2, 1) := by decide +kernel
theorem d_Value_store_70 : decode b_Value_store 70 = .ok (.iaload, 1) := by decide +kernel
theorem d_Value_store_71 : decode b_Value_store 71 = .ok (.iconst 1, 1) := by decide +kernel
theorem d_Value_store_72 : decode b_Value_store 72 = .ok (.iadd, 1) := by decide +kernel
theorem d_Value_store_73 : decode b_Value_store 73 = .ok (.iastore, 1) := by decide +kernel
theorem d_Value_store_74 : decode b_Value_store 74 = .ok (.iconst 1, 1) := by decide +kernel
theorem d_Value_store_75 : decode b_Value_store 75 = .ok (.ireturn, 1) := by decide +kernel
theorem d_Value_countOf_0 : decode b_Value_countOf 0 = .ok (.aload_n 0, 1) := by decide +kernel
theorem d_Value_countOf_1 : decode b_Value_countOf 1 = .ok (.getfield 18, 3) := by decide +kernel
theorem d_Value_countOf_4 : decode b_Value_countOf 4 = .ok (.iload_n 1, 1) := by decide +kernel
theorem d_Value_countOf_5 : decode b_Value_countOf 5 = .ok (.invokevirtual 22, 3) := by decide +kernel
theorem d_Value_countOf_8 : decode b_Value_countOf 8 = .ok (.ifCond .ne (5), 3) := by decide +kernel
theorem d_Value_countOf_11 : decode b_Value_countOf 11 = .ok (.iconst 0, 1) := by decide +kernel
theorem d_Value_countOf_12 : decode b_Value_countOf 12 = .ok (.ireturn, 1) := by decide +kernel
theorem d_Value_countOf_13 : decode b_Value_countOf 13 = .ok (.aload_n 0, 1) := by decide +kernel
theorem d_Value_countOf_14 : decode b_Value_countOf 14 = .ok (.getfield 18, 3) := by decide +kernel
theorem d_Value_countOf_17 : decode b_Value_countOf 17 = .ok (.getfield 26, 3) := by decide +kernel
theorem d_Value_countOf_20 : decode b_Value_countOf 20 = .ok (.iload_n 1, 1) := by decide +kernel
theorem d_Value_countOf_21 : decode b_Value_countOf 21 = .ok (.baload, 1) := by decide +kernel
theorem d_Value_countOf_22 : decode b_Value_countOf 22 = .ok (.ifCond .eq (12), 3) := by decide +kernel
theorem d_Value_countOf_25 : decode b_Value_countOf 25 = .ok (.aload_n 0, 1) := by decide +kernel
theorem d_Value_countOf_26 : decode b_Value_countOf 26 = .ok (.getfield 15, 3) := by decide +kernel
theorem d_Value_countOf_29 : decode b_Value_countOf 29 = .ok (.iload_n 1, 1) := by decide +kernel
theorem d_Value_countOf_30 : decode b_Value_countOf 30 = .ok (.iaload, 1) := by decide +kernel
theorem d_Value_countOf_31 : decode b_Value_countOf 31 = .ok (.goto (4), 3) := by decide +kernel
theorem d_Value_countOf_34 : decode b_Value_countOf 34 = .ok (.iconst 1, 1) := by decide +kernel
theorem d_Value_countOf_35 : decode b_Value_countOf 35 = .ok (.ireturn, 1) := by decide +kernel
theorem d_Value_intOf_0 : decode b_Value_intOf 0 = .ok (.iload_n 2, 1) := by decide +kernel
theorem d_Value_intOf_1 : decode b_Value_intOf 1 = .ok (.ifCond .lt (25), 3) := by decide +kernel
theorem d_Value_intOf_4 : decode b_Value_intOf 4 = .ok (.iload_n 2, 1) := by decide +kernel
theorem d_Value_intOf_5 : decode b_Value_intOf 5 = .ok (.aload_n 0, 1) := by decide +kernel
theorem d_Value_intOf_6 : decode b_Value_intOf 6 = .ok (.iload_n 1, 1) := by decide +kernel
theorem d_Value_intOf_7 : decode b_Value_intOf 7 = .ok (.invokevirtual 30, 3) := by decide +kernel
theorem d_Value_intOf_10 : decode b_Value_intOf 10 = .ok (.if_icmp .ge (16), 3) := by decide +kernel
theorem d_Value_intOf_13 : decode b_Value_intOf 13 = .ok (.aload_n 0, 1) := by decide +kernel
theorem d_Value_intOf_14 : decode b_Value_intOf 14 = .ok (.getfield 11, 3) := by decide +kernel
theorem d_Value_intOf_17 : decode b_Value_intOf 17 = .ok (.iload_n 1, 1) := by decide +kernel
theorem d_Value_intOf_18 : decode b_Value_intOf 18 = .ok (.iconst 4, 1) := by decide +kernel
theorem d_Value_intOf_19 : decode b_Value_intOf 19 = .ok (.imul, 1) := by decide +kernel
theorem d_Value_intOf_20 : decode b_Value_intOf 20 = .ok (.iload_n 2, 1) := by decide +kernel
theorem d_Value_intOf_21 : decode b_Value_intOf 21 = .ok (.iadd, 1) := by decide +kernel
theorem d_Value_intOf_22 : decode b_Value_intOf 22 = .ok (.iaload, 1) := by decide +kernel
theorem d_Value_intOf_23 : decode b_Value_intOf 23 = .ok (.goto (4), 3) := by decide +kernel
theorem d_Value_intOf_26 : decode b_Value_intOf 26 = .ok (.iconst 0, 1) := by decide +kernel
theorem d_Value_intOf_27 : decode b_Value_intOf 27 = .ok (.ireturn, 1) := by decide +kernel
theorem d_Value_digest_0 : decode b_Value_digest 0 = .ok (.iconst 0, 1) := by decide +kernel
theorem d_Value_digest_1 : decode b_Value_digest 1 = .ok (.istore_n 1, 1) := by decide +kernel
theorem d_Value_digest_2 : decode b_Value_digest 2 = .ok (.iconst 0, 1) := by decide +kernel
theorem d_Value_digest_3 : decode b_Value_digest 3 = .ok (.istore_n 2, 1) := by decide +kernel
theorem d_Value_digest_4 : decode b_Value_digest 4 = .ok (.iload_n 2, 1) := by decide +kernel
theorem d_Value_digest_5 : decode b_Value_digest 5 = .ok (.aload_n 0, 1) := by decide +kernel
theorem d_Value_digest_6 : decode b_Value_digest 6 = .ok (.getfield 18, 3) := by decide +kernel
theorem d_Value_digest_9 : decode b_Value_digest 9 = .ok (.getfield 34, 3) := by decide +kernel
theorem d_Value_digest_12 : decode b_Value_digest 12 = .ok (.if_icmp .ge (61), 3) := by decide +kernel
theorem d_Value_digest_15 : decode b_Value_digest 15 = .ok (.aload_n 0, 1) := by decide +kernel
theorem d_Value_digest_16 : decode b_Value_digest 16 = .ok (.iload_n 2, 1) := by decide +kernel
theorem d_Value_digest_17 : decode b_Value_digest 17 = .ok (.invokevirtual 30, 3) := by decide +kernel
theorem d_Value_digest_20 : decode b_Value_digest 20 = .ok (.istore_n 3, 1) := by decide +kernel
theorem d_Value_digest_21 : decode b_Value_digest 21 = .ok (.aload_n 0, 1) := by decide +kernel
theorem d_Value_digest_22 : decode b_Value_digest 22 = .ok (.getfield 18, 3) := by decide +kernel
theorem d_Value_digest_25 : decode b_Value_digest 25 = .ok (.iload_n 2, 1) := by decide +kernel
theorem d_Value_digest_26 : decode b_Value_digest 26 = .ok (.invokevirtual 38, 3) := by decide +kernel
theorem d_Value_digest_29 : decode b_Value_digest 29 = .ok (.ifCond .eq (10), 3) := by decide +kernel
theorem d_Value_digest_32 : decode b_Value_digest 32 = .ok (.bipush 31, 2) := by decide +kernel
theorem d_Value_digest_34 : decode b_Value_digest 34 = .ok (.iload_n 1, 1) := by decide +kernel
theorem d_Value_digest_35 : decode b_Value_digest 35 = .ok (.imul, 1) := by decide +kernel
theorem d_Value_digest_36 : decode b_Value_digest 36 = .ok (.iload_n 3, 1) := by decide +kernel
theorem d_Value_digest_37 : decode b_Value_digest 37 = .ok (.iadd, 1) := by decide +kernel
theorem d_Value_digest_38 : decode b_Value_digest 38 = .ok (.istore_n 1, 1) := by decide +kernel
theorem d_Value_digest_39 : decode b_Value_digest 39 = .ok (.iconst 0, 1) := by decide +kernel
theorem d_Value_digest_40 : decode b_Value_digest 40 = .ok (.istore 4, 2) := by decide +kernel
theorem d_Value_digest_42 : decode b_Value_digest 42 = .ok (.iload 4, 2) := by decide +kernel
theorem d_Value_digest_44 : decode b_Value_digest 44 = .ok (.iload_n 3, 1) := by decide +kernel
theorem d_Value_digest_45 : decode b_Value_digest 45 = .ok (.if_icmp .ge (22), 3) := by decide +kernel
theorem d_Value_digest_48 : decode b_Value_digest 48 = .ok (.bipush 31, 2) := by decide +kernel
theorem d_Value_digest_50 : decode b_Value_digest 50 = .ok (.iload_n 1, 1) := by decide +kernel
theorem d_Value_digest_51 : decode b_Value_digest 51 = .ok (.imul, 1) := by decide +kernel
theorem d_Value_digest_52 : decode b_Value_digest 52 = .ok (.aload_n 0, 1) := by decide +kernel
theorem d_Value_digest_53 : decode b_Value_digest 53 = .ok (.iload_n 2, 1) := by decide +kernel
theorem d_Value_digest_54 : decode b_Value_digest 54 = .ok (.iload 4, 2) := by decide +kernel
theorem d_Value_digest_56 : decode b_Value_digest 56 = .ok (.invokevirtual 41, 3) := by decide +kernel
theorem d_Value_digest_59 : decode b_Value_digest 59 = .ok (.iadd, 1) := by decide +kernel
theorem d_Value_digest_60 : decode b_Value_digest 60 = .ok (.istore_n 1, 1) := by decide +kernel
theorem d_Value_digest_61 : decode b_Value_digest 61 = .ok (.iinc 4 (1), 3) := by decide +kernel
theorem d_Value_digest_64 : decode b_Value_digest 64 = .ok (.goto (-22), 3) := by decide +kernel
theorem d_Value_digest_67 : decode b_Value_digest 67 = .ok (.iinc 2 (1), 3) := by decide +kernel
theorem d_Value_digest_70 : decode b_Value_digest 70 = .ok (.goto (-66), 3) := by decide +kernel
theorem d_Value_digest_73 : decode b_Value_digest 73 = .ok (.iload_n 1, 1) := by decide +kernel
theorem d_Value_digest_74 : decode b_Value_digest 74 = .ok (.ireturn, 1) := by decide +kernel
theorem d_WordFormat_init_0 : decode b_WordFormat_init 0 = .ok (.aload_n 0, 1) := by decide +kernel
theorem d_WordFormat_init_1 : decode b_WordFormat_init 1 = .ok (.aload_n 1, 1) := by decide +kernel
theorem d_WordFormat_init_2 : decode b_WordFormat_init 2 = .ok (.invokespecial 1, 3) := by decide +kernel
theorem d_WordFormat_init_5 : decode b_WordFormat_init 5 = .ok (.return_, 1) := by decide +kernel
theorem d_WordFormat_write_0 : decode b_WordFormat_write 0 = .ok (.iconst 0, 1) := by decide +kernel
theorem d_WordFormat_write_1 : decode b_WordFormat_write 1 = .ok (.istore_n 3, 1) := by decide +kernel
theorem d_WordFormat_write_2 : decode b_WordFormat_write 2 = .ok (.iload_n 3, 1) := by decide +kernel
theorem d_WordFormat_write_3 : decode b_WordFormat_write 3 = .ok (.aload_n 0, 1) := by decide +kernel
theorem d_WordFormat_write_4 : decode b_WordFormat_write 4 = .ok (.getfield 7, 3) := by decide +kernel
theorem d_WordFormat_write_7 : decode b_WordFormat_write 7 = .ok (.getfield 13, 3) := by decide +kernel
theorem d_WordFormat_write_10 : decode b_WordFormat_write 10 = .ok (.if_icmp .ge (60), 3) := by decide +kernel
theorem d_WordFormat_write_13 : decode b_WordFormat_write 13 = .ok (.aload_n 1, 1) := by decide +kernel
theorem d_WordFormat_write_14 : decode b_WordFormat_write 14 = .ok (.iload_n 3, 1) := by decide +kernel
theorem d_WordFormat_write_15 : decode b_WordFormat_write 15 = .ok (.invokevirtual 19, 3) := by decide +kernel
theorem d_WordFormat_write_18 : decode b_WordFormat_write 18 = .ok (.istore 4, 2) := by decide +kernel
theorem d_WordFormat_write_20 : decode b_WordFormat_write 20 = .ok (.aload_n 0, 1) := by decide +kernel
theorem d_WordFormat_write_21 : decode b_WordFormat_write 21 = .ok (.getfield 7, 3) := by decide +kernel
theorem d_WordFormat_write_24 : decode b_WordFormat_write 24 = .ok (.iload_n 3, 1) := by decide +kernel
theorem d_WordFormat_write_25 : decode b_WordFormat_write 25 = .ok (.invokevirtual 25, 3) := by decide +kernel
theorem d_WordFormat_write_28 : decode b_WordFormat_write 28 = .ok (.ifCond .eq (9), 3) := by decide +kernel
theorem d_WordFormat_write_31 : decode b_WordFormat_write 31 = .ok (.aload_n 2, 1) := by decide +kernel
theorem d_WordFormat_write_32 : decode b_WordFormat_write 32 = .ok (.iload 4, 2) := by decide +kernel
theorem d_WordFormat_write_34 : decode b_WordFormat_write 34 = .ok (.invokevirtual 29, 3) := by decide +kernel
theorem d_WordFormat_write_37 : decode b_WordFormat_write 37 = .ok (.iconst 0, 1) := by decide +kernel
theorem d_WordFormat_write_38 : decode b_WordFormat_write 38 = .ok (.istore 5, 2) := by decide +kernel
theorem d_WordFormat_write_40 : decode b_WordFormat_write 40 = .ok (.iload 5, 2) := by decide +kernel
theorem d_WordFormat_write_42 : decode b_WordFormat_write 42 = .ok (.iload 4, 2) := by decide +kernel
theorem d_WordFormat_write_44 : decode b_WordFormat_write 44 = .ok (.if_icmp .ge (20), 3) := by decide +kernel
theorem d_WordFormat_write_47 : decode b_WordFormat_write 47 = .ok (.aload_n 2, 1) := by decide +kernel
theorem d_WordFormat_write_48 : decode b_WordFormat_write 48 = .ok (.aload_n 1, 1) := by decide +kernel
theorem d_WordFormat_write_49 : decode b_WordFormat_write 49 = .ok (.iload_n 3, 1) := by decide +kernel
theorem d_WordFormat_write_50 : decode b_WordFormat_write 50 = .ok (.iload 5, 2) := by decide +kernel
theorem d_WordFormat_write_52 : decode b_WordFormat_write 52 = .ok (.invokevirtual 35, 3) := by decide +kernel
theorem d_WordFormat_write_55 : decode b_WordFormat_write 55 = .ok (.invokevirtual 29, 3) := by decide +kernel
theorem d_WordFormat_write_58 : decode b_WordFormat_write 58 = .ok (.iinc 5 (1), 3) := by decide +kernel
theorem d_WordFormat_write_61 : decode b_WordFormat_write 61 = .ok (.goto (-21), 3) := by decide +kernel
theorem d_WordFormat_write_64 : decode b_WordFormat_write 64 = .ok (.iinc 3 (1), 3) := by decide +kernel
theorem d_WordFormat_write_67 : decode b_WordFormat_write 67 = .ok (.goto (-65), 3) := by decide +kernel
theorem d_WordFormat_write_70 : decode b_WordFormat_write 70 = .ok (.return_, 1) := by decide +kernel
theorem d_WordFormat_read_0 : decode b_WordFormat_read 0 = .ok (.aload_n 2, 1) := by decide +kernel
theorem d_WordFormat_read_1 : decode b_WordFormat_read 1 = .ok (.invokevirtual 39, 3) := by decide +kernel
theorem d_WordFormat_read_4 : decode b_WordFormat_read 4 = .ok (.iconst 0, 1) := by decide +kernel
theorem d_WordFormat_read_5 : decode b_WordFormat_read 5 = .ok (.istore_n 3, 1) := by decide +kernel
theorem d_WordFormat_read_6 : decode b_WordFormat_read 6 = .ok (.iload_n 3, 1) := by decide +kernel
theorem d_WordFormat_read_7 : decode b_WordFormat_read 7 = .ok (.aload_n 0, 1) := by decide +kernel
theorem d_WordFormat_read_8 : decode b_WordFormat_read 8 = .ok (.getfield 7, 3) := by decide +kernel
theorem d_WordFormat_read_11 : decode b_WordFormat_read 11 = .ok (.getfield 13, 3) := by decide +kernel
theorem d_WordFormat_read_14 : decode b_WordFormat_read 14 = .ok (.if_icmp .ge (104), 3) := by decide +kernel
theorem d_WordFormat_read_17 : decode b_WordFormat_read 17 = .ok (.aload_n 0, 1) := by decide +kernel
theorem d_WordFormat_read_18 : decode b_WordFormat_read 18 = .ok (.getfield 7, 3) := by decide +kernel
theorem d_WordFormat_read_21 : decode b_WordFormat_read 21 = .ok (.iload_n 3, 1) := by decide +kernel
theorem d_WordFormat_read_22 : decode b_WordFormat_read 22 = .ok (.invokevirtual 25, 3) := by decide +kernel
theorem d_WordFormat_read_25 : decode b_WordFormat_read 25 = .ok (.ifCond .eq (10), 3) := by decide +kernel
theorem d_WordFormat_read_28 : decode b_WordFormat_read 28 = .ok (.aload_n 1, 1) := by decide +kernel
theorem d_WordFormat_read_29 : decode b_WordFormat_read 29 = .ok (.invokevirtual 43, 3) := by decide +kernel
theorem d_WordFormat_read_32 : decode b_WordFormat_read 32 = .ok (.goto (4), 3) := by decide +kernel
theorem d_WordFormat_read_35 : decode b_WordFormat_read 35 = .ok (.iconst 1, 1) := by decide +kernel
theorem d_WordFormat_read_36 : decode b_WordFormat_read 36 = .ok (.istore 4, 2) := by decide +kernel
theorem d_WordFormat_read_38 : decode b_WordFormat_read 38 = .ok (.aload_n 1, 1) := by decide +kernel
theorem d_WordFormat_read_39 : decode b_WordFormat_read 39 = .ok (.getfield 49, 3) := by decide +kernel
theorem d_WordFormat_read_42 : decode b_WordFormat_read 42 = .ok (.ifCond .ne (14), 3) := by decide +kernel
theorem d_WordFormat_read_45 : decode b_WordFormat_read 45 = .ok (.iload 4, 2) := by decide +kernel
theorem d_WordFormat_read_47 : decode b_WordFormat_read 47 = .ok (.ifCond .lt (9), 3) := by decide +kernel
theorem d_WordFormat_read_50 : decode b_WordFormat_read 50 = .ok (.iload 4, 2) := by decide +kernel
theorem d_WordFormat_read_52 : decode b_WordFormat_read 52 = .ok (.iconst 4, 1) := by decide +kernel
theorem d_WordFormat_read_53 : decode b_WordFormat_read 53 = .ok (.if_icmp .le (5), 3) := by decide +kernel
theorem d_WordFormat_read_56 : decode b_WordFormat_read 56 = .ok (.iconst 0, 1) := by decide +kernel
theorem d_WordFormat_read_57 : decode b_WordFormat_read 57 = .ok (.ireturn, 1) := by decide +kernel
theorem d_WordFormat_read_58 : decode b_WordFormat_read 58 = .ok (.iconst 0, 1) := by decide +kernel
theorem d_WordFormat_read_59 : decode b_WordFormat_read 59 = .ok (.istore 5, 2) := by decide +kernel
theorem d_WordFormat_read_61 : decode b_WordFormat_read 61 = .ok (.iload 5, 2) := by decide +kernel
theorem d_WordFormat_read_63 : decode b_WordFormat_read 63 = .ok (.iload 4, 2) := by decide +kernel
theorem d_WordFormat_read_65 : decode b_WordFormat_read 65 = .ok (.if_icmp .ge (47), 3) := by decide +kernel
theorem d_WordFormat_read_68 : decode b_WordFormat_read 68 = .ok (.aload_n 1, 1) := by decide +kernel
theorem d_WordFormat_read_69 : decode b_WordFormat_read 69 = .ok (.invokevirtual 43, 3) := by decide +kernel
theorem d_WordFormat_read_72 : decode b_WordFormat_read 72 = .ok (.istore 6, 2) := by decide +kernel
theorem d_WordFormat_read_74 : decode b_WordFormat_read 74 = .ok (.aload_n 1, 1) := by decide +kernel
theorem d_WordFormat_read_75 : decode b_WordFormat_read 75 = .ok (.getfield 49, 3) := by decide +kernel
theorem d_WordFormat_read_78 : decode b_WordFormat_read 78 = .ok (.ifCond .ne (26), 3) := by decide +kernel
theorem d_WordFormat_read_81 : decode b_WordFormat_read 81 = .ok (.aload_n 0, 1) := by decide +kernel
theorem d_WordFormat_read_82 : decode b_WordFormat_read 82 = .ok (.getfield 7, 3) := by decide +kernel
theorem d_WordFormat_read_85 : decode b_WordFormat_read 85 = .ok (.iload_n 3, 1) := by decide +kernel
theorem d_WordFormat_read_86 : decode b_WordFormat_read 86 = .ok (.iload 6, 2) := by decide +kernel
theorem d_WordFormat_read_88 : decode b_WordFormat_read 88 = .ok (.invokevirtual 53, 3) := by decide +kernel
theorem d_WordFormat_read_91 : decode b_WordFormat_read 91 = .ok (.ifCond .eq (13), 3) := by decide +kernel
theorem d_WordFormat_read_94 : decode b_WordFormat_read 94 = .ok (.aload_n 2, 1) := by decide +kernel
theorem d_WordFormat_read_95 : decode b_WordFormat_read 95 = .ok (.iload_n 3, 1) := by decide +kernel
theorem d_WordFormat_read_96 : decode b_WordFormat_read 96 = .ok (.iload 6, 2) := by decide +kernel
theorem d_WordFormat_read_98 : decode b_WordFormat_read 98 = .ok (.invokevirtual 57, 3) := by decide +kernel
theorem d_WordFormat_read_101 : decode b_WordFormat_read 101 = .ok (.ifCond .ne (5), 3) := by decide +kernel
theorem d_WordFormat_read_104 : decode b_WordFormat_read 104 = .ok (.iconst 0, 1) := by decide +kernel
theorem d_WordFormat_read_105 : decode b_WordFormat_read 105 = .ok (.ireturn, 1) := by decide +kernel
theorem d_WordFormat_read_106 : decode b_WordFormat_read 106 = .ok (.iinc 5 (1), 3) := by decide +kernel
theorem d_WordFormat_read_109 : decode b_WordFormat_read 109 = .ok (.goto (-48), 3) := by decide +kernel
theorem d_WordFormat_read_112 : decode b_WordFormat_read 112 = .ok (.iinc 3 (1), 3) := by decide +kernel
theorem d_WordFormat_read_115 : decode b_WordFormat_read 115 = .ok (.goto (-109), 3) := by decide +kernel
theorem d_WordFormat_read_118 : decode b_WordFormat_read 118 = .ok (.aload_n 1, 1) := by decide +kernel
theorem d_WordFormat_read_119 : decode b_WordFormat_read 119 = .ok (.invokevirtual 60, 3) := by decide +kernel
theorem d_WordFormat_read_122 : decode b_WordFormat_read 122 = .ok (.ifCond .ne (7), 3) := by decide +kernel
theorem d_WordFormat_read_125 : decode b_WordFormat_read 125 = .ok (.iconst 1, 1) := by decide +kernel
theorem d_WordFormat_read_126 : decode b_WordFormat_read 126 = .ok (.goto (4), 3) := by decide +kernel
theorem d_WordFormat_read_129 : decode b_WordFormat_read 129 = .ok (.iconst 0, 1) := by decide +kernel
theorem d_WordFormat_read_130 : decode b_WordFormat_read 130 = .ok (.ireturn, 1) := by decide +kernel
theorem d_Format_init_0 : decode b_Format_init 0 = .ok (.aload_n 0, 1) := by decide +kernel
theorem d_Format_init_1 : decode b_Format_init 1 = .ok (.invokespecial 1, 3) := by decide +kernel
theorem d_Format_init_4 : decode b_Format_init 4 = .ok (.aload_n 0, 1) := by decide +kernel
theorem d_Format_init_5 : decode b_Format_init 5 = .ok (.aload_n 1, 1) := by decide +kernel
theorem d_Format_init_6 : decode b_Format_init 6 = .ok (.putfield 7, 3) := by decide +kernel
theorem d_Format_init_9 : decode b_Format_init 9 = .ok (.return_, 1) := by decide +kernel
theorem d_Md_init_0 : decode b_Md_init 0 = .ok (.aload_n 0, 1) := by decide +kernel
theorem d_Md_init_1 : decode b_Md_init 1 = .ok (.invokespecial 1, 3) := by decide +kernel
theorem d_Md_init_4 : decode b_Md_init 4 = .ok (.aload_n 0, 1) := by decide +kernel
theorem d_Md_init_5 : decode b_Md_init 5 = .ok (.iconst 4, 1) := by decide +kernel
theorem d_Md_init_6 : decode b_Md_init 6 = .ok (.newarray .int, 2) := by decide +kernel
theorem d_Md_init_8 : decode b_Md_init 8 = .ok (.putfield 7, 3) := by decide +kernel
theorem d_Md_init_11 : decode b_Md_init 11 = .ok (.aload_n 0, 1) := by decide +kernel
theorem d_Md_init_12 : decode b_Md_init 12 = .ok (.iconst 4, 1) := by decide +kernel
theorem d_Md_init_13 : decode b_Md_init 13 = .ok (.newarray .int, 2) := by decide +kernel
theorem d_Md_init_15 : decode b_Md_init 15 = .ok (.putfield 13, 3) := by decide +kernel
theorem d_Md_init_18 : decode b_Md_init 18 = .ok (.aload_n 0, 1) := by decide +kernel
theorem d_Md_init_19 : decode b_Md_init 19 = .ok (.iconst 4, 1) := by decide +kernel
theorem d_Md_init_20 : decode b_Md_init 20 = .ok (.newarray .boolean, 2) := by decide +kernel
theorem d_Md_init_22 : decode b_Md_init 22 = .ok (.putfield 16, 3) := by decide +kernel
theorem d_Md_init_25 : decode b_Md_init 25 = .ok (.aload_n 0, 1) := by decide +kernel
theorem d_Md_init_26 : decode b_Md_init 26 = .ok (.bipush 8, 2) := by decide +kernel
theorem d_Md_init_28 : decode b_Md_init 28 = .ok (.newarray .int, 2) := by decide +kernel
theorem d_Md_init_30 : decode b_Md_init 30 = .ok (.putfield 20, 3) := by decide +kernel
theorem d_Md_init_33 : decode b_Md_init 33 = .ok (.aload_n 0, 1) := by decide +kernel
theorem d_Md_init_34 : decode b_Md_init 34 = .ok (.bipush 32, 2) := by decide +kernel
theorem d_Md_init_36 : decode b_Md_init 36 = .ok (.newarray .int, 2) := by decide +kernel
theorem d_Md_init_38 : decode b_Md_init 38 = .ok (.putfield 23, 3) := by decide +kernel
theorem d_Md_init_41 : decode b_Md_init 41 = .ok (.aload_n 0, 1) := by decide +kernel
theorem d_Md_init_42 : decode b_Md_init 42 = .ok (.sipush 210, 3) := by decide +kernel
theorem d_Md_init_45 : decode b_Md_init 45 = .ok (.newarray .int, 2) := by decide +kernel
theorem d_Md_init_47 : decode b_Md_init 47 = .ok (.putfield 26, 3) := by decide +kernel
theorem d_Md_init_50 : decode b_Md_init 50 = .ok (.aload_n 0, 1) := by decide +kernel
theorem d_Md_init_51 : decode b_Md_init 51 = .ok (.sipush 210, 3) := by decide +kernel
theorem d_Md_init_54 : decode b_Md_init 54 = .ok (.newarray .int, 2) := by decide +kernel
theorem d_Md_init_56 : decode b_Md_init 56 = .ok (.putfield 29, 3) := by decide +kernel
theorem d_Md_init_59 : decode b_Md_init 59 = .ok (.aload_n 0, 1) := by decide +kernel
theorem d_Md_init_60 : decode b_Md_init 60 = .ok (.sipush 2560, 3) := by decide +kernel
theorem d_Md_init_63 : decode b_Md_init 63 = .ok (.newarray .int, 2) := by decide +kernel
theorem d_Md_init_65 : decode b_Md_init 65 = .ok (.putfield 32, 3) := by decide +kernel
theorem d_Md_init_68 : decode b_Md_init 68 = .ok (.aload_n 0, 1) := by decide +kernel
theorem d_Md_init_69 : decode b_Md_init 69 = .ok (.bipush 16, 2) := by decide +kernel
theorem d_Md_init_71 : decode b_Md_init 71 = .ok (.newarray .int, 2) := by decide +kernel
theorem d_Md_init_73 : decode b_Md_init 73 = .ok (.putfield 35, 3) := by decide +kernel
theorem d_Md_init_76 : decode b_Md_init 76 = .ok (.aload_n 0, 1) := by decide +kernel
theorem d_Md_init_77 : decode b_Md_init 77 = .ok (.bipush 16, 2) := by decide +kernel
theorem d_Md_init_79 : decode b_Md_init 79 = .ok (.newarray .boolean, 2) := by decide +kernel
theorem d_Md_init_81 : decode b_Md_init 81 = .ok (.putfield 38, 3) := by decide +kernel
theorem d_Md_init_84 : decode b_Md_init 84 = .ok (.aload_n 0, 1) := by decide +kernel
theorem d_Md_init_85 : decode b_Md_init 85 = .ok (.sipush 200, 3) := by decide +kernel
theorem d_Md_init_88 : decode b_Md_init 88 = .ok (.newarray .int, 2) := by decide +kernel
theorem d_Md_init_90 : decode b_Md_init 90 = .ok (.putfield 41, 3) := by decide +kernel
theorem d_Md_init_93 : decode b_Md_init 93 = .ok (.aload_n 0, 1) := by decide +kernel
theorem d_Md_init_94 : decode b_Md_init 94 = .ok (.iconst 4, 1) := by decide +kernel
theorem d_Md_init_95 : decode b_Md_init 95 = .ok (.newarray .int, 2) := by decide +kernel
theorem d_Md_init_97 : decode b_Md_init 97 = .ok (.putfield 44, 3) := by decide +kernel
theorem d_Md_init_100 : decode b_Md_init 100 = .ok (.aload_n 0, 1) := by decide +kernel
theorem d_Md_init_101 : decode b_Md_init 101 = .ok (.iconst 4, 1) := by decide +kernel
theorem d_Md_init_102 : decode b_Md_init 102 = .ok (.newarray .int, 2) := by decide +kernel
theorem d_Md_init_104 : decode b_Md_init 104 = .ok (.putfield 47, 3) := by decide +kernel
theorem d_Md_init_107 : decode b_Md_init 107 = .ok (.aload_n 0, 1) := by decide +kernel
theorem d_Md_init_108 : decode b_Md_init 108 = .ok (.iconst 4, 1) := by decide +kernel
theorem d_Md_init_109 : decode b_Md_init 109 = .ok (.newarray .int, 2) := by decide +kernel
theorem d_Md_init_111 : decode b_Md_init 111 = .ok (.putfield 50, 3) := by decide +kernel
theorem d_Md_init_114 : decode b_Md_init 114 = .ok (.aload_n 0, 1) := by decide +kernel
theorem d_Md_init_115 : decode b_Md_init 115 = .ok (.bipush 100, 2) := by decide +kernel
theorem d_Md_init_117 : decode b_Md_init 117 = .ok (.newarray .int, 2) := by decide +kernel
theorem d_Md_init_119 : decode b_Md_init 119 = .ok (.putfield 53, 3) := by decide +kernel
theorem d_Md_init_122 : decode b_Md_init 122 = .ok (.aload_n 0, 1) := by decide +kernel
theorem d_Md_init_123 : decode b_Md_init 123 = .ok (.bipush 100, 2) := by decide +kernel
theorem d_Md_init_125 : decode b_Md_init 125 = .ok (.newarray .int, 2) := by decide +kernel
theorem d_Md_init_127 : decode b_Md_init 127 = .ok (.putfield 56, 3) := by decide +kernel
theorem d_Md_init_130 : decode b_Md_init 130 = .ok (.aload_n 0, 1) := by decide +kernel
theorem d_Md_init_131 : decode b_Md_init 131 = .ok (.bipush 100, 2) := by decide +kernel
theorem d_Md_init_133 : decode b_Md_init 133 = .ok (.newarray .int, 2) := by decide +kernel
theorem d_Md_init_135 : decode b_Md_init 135 = .ok (.putfield 59, 3) := by decide +kernel
theorem d_Md_init_138 : decode b_Md_init 138 = .ok (.aload_n 0, 1) := by decide +kernel
theorem d_Md_init_139 : decode b_Md_init 139 = .ok (.sipush 1280, 3) := by decide +kernel
theorem d_Md_init_142 : decode b_Md_init 142 = .ok (.newarray .int, 2) := by decide +kernel
theorem d_Md_init_144 : decode b_Md_init 144 = .ok (.putfield 62, 3) := by decide +kernel
theorem d_Md_init_147 : decode b_Md_init 147 = .ok (.aload_n 0, 1) := by decide +kernel
theorem d_Md_init_148 : decode b_Md_init 148 = .ok (.bipush 8, 2) := by decide +kernel
theorem d_Md_init_150 : decode b_Md_init 150 = .ok (.newarray .int, 2) := by decide +kernel
theorem d_Md_init_152 : decode b_Md_init 152 = .ok (.putfield 65, 3) := by decide +kernel
theorem d_Md_init_155 : decode b_Md_init 155 = .ok (.aload_n 0, 1) := by decide +kernel
theorem d_Md_init_156 : decode b_Md_init 156 = .ok (.bipush 8, 2) := by decide +kernel
theorem d_Md_init_158 : decode b_Md_init 158 = .ok (.newarray .int, 2) := by decide +kernel
theorem d_Md_init_160 : decode b_Md_init 160 = .ok (.dup, 1) := by decide +kernel
theorem d_Md_init_161 : decode b_Md_init 161 = .ok (.iconst 0, 1) := by decide +kernel
theorem d_Md_init_162 : decode b_Md_init 162 = .ok (.iconst (-1), 1) := by decide +kernel
theorem d_Md_init_163 : decode b_Md_init 163 = .ok (.iastore, 1) := by decide +kernel
theorem d_Md_init_164 : decode b_Md_init 164 = .ok (.dup, 1) := by decide +kernel
theorem d_Md_init_165 : decode b_Md_init 165 = .ok (.iconst 1, 1) := by decide +kernel
theorem d_Md_init_166 : decode b_Md_init 166 = .ok (.iconst (-1), 1) := by decide +kernel
theorem d_Md_init_167 : decode b_Md_init 167 = .ok (.iastore, 1) := by decide +kernel
theorem d_Md_init_168 : decode b_Md_init 168 = .ok (.dup, 1) := by decide +kernel
theorem d_Md_init_169 : decode b_Md_init 169 = .ok (.iconst 2, 1) := by decide +kernel
theorem d_Md_init_170 : decode b_Md_init 170 = .ok (.iconst (-1), 1) := by decide +kernel
theorem d_Md_init_171 : decode b_Md_init 171 = .ok (.iastore, 1) := by decide +kernel
theorem d_Md_init_172 : decode b_Md_init 172 = .ok (.dup, 1) := by decide +kernel
theorem d_Md_init_173 : decode b_Md_init 173 = .ok (.iconst 3, 1) := by decide +kernel
theorem d_Md_init_174 : decode b_Md_init 174 = .ok (.iconst (-1), 1) := by decide +kernel
theorem d_Md_init_175 : decode b_Md_init 175 = .ok (.iastore, 1) := by decide +kernel
theorem d_Md_init_176 : decode b_Md_init 176 = .ok (.dup, 1) := by decide +kernel
theorem d_Md_init_177 : decode b_Md_init 177 = .ok (.iconst 4, 1) := by decide +kernel
theorem d_Md_init_178 : decode b_Md_init 178 = .ok (.iconst (-1), 1) := by decide +kernel
theorem d_Md_init_179 : decode b_Md_init 179 = .ok (.iastore, 1) := by decide +kernel
theorem d_Md_init_180 : decode b_Md_init 180 = .ok (.dup, 1) := by decide +kernel
theorem d_Md_init_181 : decode b_Md_init 181 = .ok (.iconst 5, 1) := by decide +kernel
theorem d_Md_init_182 : decode b_Md_init 182 = .ok (.iconst (-1), 1) := by decide +kernel
theorem d_Md_init_183 : decode b_Md_init 183 = .ok (.iastore, 1) := by decide +kernel
theorem d_Md_init_184 : decode b_Md_init 184 = .ok (.dup, 1) := by decide +kernel
theorem d_Md_init_185 : decode b_Md_init 185 = .ok (.bipush 6, 2) := by decide +kernel
theorem d_Md_init_187 : decode b_Md_init 187 = .ok (.iconst (-1), 1) := by decide +kernel
theorem d_Md_init_188 : decode b_Md_init 188 = .ok (.iastore, 1) := by decide +kernel
theorem d_Md_init_189 : decode b_Md_init 189 = .ok (.dup, 1) := by decide +kernel
theorem d_Md_init_190 : decode b_Md_init 190 = .ok (.bipush 7, 2) := by decide +kernel
theorem d_Md_init_192 : decode b_Md_init 192 = .ok (.iconst (-1), 1) := by decide +kernel
theorem d_Md_init_193 : decode b_Md_init 193 = .ok (.iastore, 1) := by decide +kernel
theorem d_Md_init_194 : decode b_Md_init 194 = .ok (.putfield 68, 3) := by decide +kernel
theorem d_Md_init_197 : decode b_Md_init 197 = .ok (.aload_n 0, 1) := by decide +kernel
theorem d_Md_init_198 : decode b_Md_init 198 = .ok (.iload_n 1, 1) := by decide +kernel
theorem d_Md_init_199 : decode b_Md_init 199 = .ok (.iconst 1, 1) := by decide +kernel
theorem d_Md_init_200 : decode b_Md_init 200 = .ok (.iand, 1) := by decide +kernel
theorem d_Md_init_201 : decode b_Md_init 201 = .ok (.iconst 1, 1) := by decide +kernel
theorem d_Md_init_202 : decode b_Md_init 202 = .ok (.if_icmp .ne (7), 3) := by decide +kernel
theorem d_Md_init_205 : decode b_Md_init 205 = .ok (.iconst 1, 1) := by decide +kernel
theorem d_Md_init_206 : decode b_Md_init 206 = .ok (.goto (4), 3) := by decide +kernel
theorem d_Md_init_209 : decode b_Md_init 209 = .ok (.iconst 0, 1) := by decide +kernel
theorem d_Md_init_210 : decode b_Md_init 210 = .ok (.putfield 71, 3) := by decide +kernel
theorem d_Md_init_213 : decode b_Md_init 213 = .ok (.return_, 1) := by decide +kernel
theorem d_Md_field_0 : decode b_Md_field 0 = .ok (.iconst 0, 1) := by decide +kernel
theorem d_Md_field_1 : decode b_Md_field 1 = .ok (.istore 4, 2) := by decide +kernel
theorem d_Md_field_3 : decode b_Md_field 3 = .ok (.iconst 0, 1) := by decide +kernel
theorem d_Md_field_4 : decode b_Md_field 4 = .ok (.istore 5, 2) := by decide +kernel
theorem d_Md_field_6 : decode b_Md_field 6 = .ok (.iload 5, 2) := by decide +kernel
theorem d_Md_field_8 : decode b_Md_field 8 = .ok (.aload_n 0, 1) := by decide +kernel
theorem d_Md_field_9 : decode b_Md_field 9 = .ok (.getfield 75, 3) := by decide +kernel
theorem d_Md_field_12 : decode b_Md_field 12 = .ok (.if_icmp .ge (32), 3) := by decide +kernel
theorem d_Md_field_15 : decode b_Md_field 15 = .ok (.iload 4, 2) := by decide +kernel
theorem d_Md_field_17 : decode b_Md_field 17 = .ok (.ifCond .ne (14), 3) := by decide +kernel
theorem d_Md_field_20 : decode b_Md_field 20 = .ok (.aload_n 0, 1) := by decide +kernel
theorem d_Md_field_21 : decode b_Md_field 21 = .ok (.getfield 7, 3) := by decide +kernel
theorem d_Md_field_24 : decode b_Md_field 24 = .ok (.iload 5, 2) := by decide +kernel
theorem d_Md_field_26 : decode b_Md_field 26 = .ok (.iaload, 1) := by decide +kernel
theorem d_Md_field_27 : decode b_Md_field 27 = .ok (.iload_n 1, 1) := by decide +kernel
theorem d_Md_field_28 : decode b_Md_field 28 = .ok (.if_icmp .ne (7), 3) := by decide +kernel
theorem d_Md_field_31 : decode b_Md_field 31 = .ok (.iconst 1, 1) := by decide +kernel
theorem d_Md_field_32 : decode b_Md_field 32 = .ok (.goto (4), 3) := by decide +kernel
theorem d_Md_field_35 : decode b_Md_field 35 = .ok (.iconst 0, 1) := by decide +kernel
theorem d_Md_field_36 : decode b_Md_field 36 = .ok (.istore 4, 2) := by decide +kernel
theorem d_Md_field_38 : decode b_Md_field 38 = .ok (.iinc 5 (1), 3) := by decide +kernel
theorem d_Md_field_41 : decode b_Md_field 41 = .ok (.goto (-35), 3) := by decide +kernel
theorem d_Md_field_44 : decode b_Md_field 44 = .ok (.iload_n 1, 1) := by decide +kernel
theorem d_Md_field_45 : decode b_Md_field 45 = .ok (.iconst 1, 1) := by decide +kernel
theorem d_Md_field_46 : decode b_Md_field 46 = .ok (.if_icmp .lt (23), 3) := by decide +kernel
theorem d_Md_field_49 : decode b_Md_field 49 = .ok (.iload_n 1, 1) := by decide +kernel
theorem d_Md_field_50 : decode b_Md_field 50 = .ok (.bipush 30, 2) := by decide +kernel
theorem d_Md_field_52 : decode b_Md_field 52 = .ok (.if_icmp .gt (17), 3) := by decide +kernel
theorem d_Md_field_55 : decode b_Md_field 55 = .ok (.iload_n 2, 1) := by decide +kernel
theorem d_Md_field_56 : decode b_Md_field 56 = .ok (.ifCond .lt (13), 3) := by decide +kernel
theorem d_Md_field_59 : decode b_Md_field 59 = .ok (.iload_n 2, 1) := by decide +kernel
theorem d_Md_field_60 : decode b_Md_field 60 = .ok (.iconst 3, 1) := by decide +kernel
theorem d_Md_field_61 : decode b_Md_field 61 = .ok (.if_icmp .gt (8), 3) := by decide +kernel
theorem d_Md_field_64 : decode b_Md_field 64 = .ok (.iload 4, 2) := by decide +kernel
theorem d_Md_field_66 : decode b_Md_field 66 = .ok (.ifCond .eq (6), 3) := by decide +kernel
theorem d_Md_field_69 : decode b_Md_field 69 = .ok (.bipush (-4), 2) := by decide +kernel
theorem d_Md_field_71 : decode b_Md_field 71 = .ok (.ireturn, 1) := by decide +kernel
theorem d_Md_field_72 : decode b_Md_field 72 = .ok (.aload_n 0, 1) := by decide +kernel
theorem d_Md_field_73 : decode b_Md_field 73 = .ok (.getfield 75, 3) := by decide +kernel
theorem d_Md_field_76 : decode b_Md_field 76 = .ok (.iconst 4, 1) := by decide +kernel
theorem d_Md_field_77 : decode b_Md_field 77 = .ok (.if_icmp .ne (6), 3) := by decide +kernel
theorem d_Md_field_80 : decode b_Md_field 80 = .ok (.bipush (-5), 2) := by decide +kernel
theorem d_Md_field_82 : decode b_Md_field 82 = .ok (.ireturn, 1) := by decide +kernel
theorem d_Md_field_83 : decode b_Md_field 83 = .ok (.aload_n 0, 1) := by decide +kernel
theorem d_Md_field_84 : decode b_Md_field 84 = .ok (.getfield 7, 3) := by decide +kernel
theorem d_Md_field_87 : decode b_Md_field 87 = .ok (.aload_n 0, 1) := by decide +kernel
theorem d_Md_field_88 : decode b_Md_field 88 = .ok (.getfield 75, 3) := by decide +kernel
theorem d_Md_field_91 : decode b_Md_field 91 = .ok (.iload_n 1, 1) := by decide +kernel
theorem d_Md_field_92 : decode b_Md_field 92 = .ok (.iastore, 1) := by decide +kernel
theorem d_Md_field_93 : decode b_Md_field 93 = .ok (.aload_n 0, 1) := by decide +kernel
theorem d_Md_field_94 : decode b_Md_field 94 = .ok (.getfield 13, 3) := by decide +kernel
theorem d_Md_field_97 : decode b_Md_field 97 = .ok (.aload_n 0, 1) := by decide +kernel
theorem d_Md_field_98 : decode b_Md_field 98 = .ok (.getfield 75, 3) := by decide +kernel
theorem d_Md_field_101 : decode b_Md_field 101 = .ok (.iload_n 2, 1) := by decide +kernel
theorem d_Md_field_102 : decode b_Md_field 102 = .ok (.iastore, 1) := by decide +kernel
theorem d_Md_field_103 : decode b_Md_field 103 = .ok (.aload_n 0, 1) := by decide +kernel
theorem d_Md_field_104 : decode b_Md_field 104 = .ok (.getfield 16, 3) := by decide +kernel
theorem d_Md_field_107 : decode b_Md_field 107 = .ok (.aload_n 0, 1) := by decide +kernel
theorem d_Md_field_108 : decode b_Md_field 108 = .ok (.getfield 75, 3) := by decide +kernel
theorem d_Md_field_111 : decode b_Md_field 111 = .ok (.iload_n 3, 1) := by decide +kernel
theorem d_Md_field_112 : decode b_Md_field 112 = .ok (.bastore, 1) := by decide +kernel
theorem d_Md_field_113 : decode b_Md_field 113 = .ok (.aload_n 0, 1) := by decide +kernel
theorem d_Md_field_114 : decode b_Md_field 114 = .ok (.dup, 1) := by decide +kernel
theorem d_Md_field_115 : decode b_Md_field 115 = .ok (.getfield 75, 3) := by decide +kernel
theorem d_Md_field_118 : decode b_Md_field 118 = .ok (.iconst 1, 1) := by decide +kernel
theorem d_Md_field_119 : decode b_Md_field 119 = .ok (.iadd, 1) := by decide +kernel
theorem d_Md_field_120 : decode b_Md_field 120 = .ok (.putfield 75, 3) := by decide +kernel
theorem d_Md_field_123 : decode b_Md_field 123 = .ok (.aload_n 0, 1) := by decide +kernel
theorem d_Md_field_124 : decode b_Md_field 124 = .ok (.aload_n 0, 1) := by decide +kernel
theorem d_Md_field_125 : decode b_Md_field 125 = .ok (.getfield 75, 3) := by decide +kernel
theorem d_Md_field_128 : decode b_Md_field 128 = .ok (.iconst 1, 1) := by decide +kernel
theorem d_Md_field_129 : decode b_Md_field 129 = .ok (.isub, 1) := by decide +kernel
theorem d_Md_field_130 : decode b_Md_field 130 = .ok (.invokevirtual 79, 3) := by decide +kernel
theorem d_Md_field_133 : decode b_Md_field 133 = .ok (.aload_n 0, 1) := by decide +kernel
theorem d_Md_field_134 : decode b_Md_field 134 = .ok (.aload_n 0, 1) := by decide +kernel
theorem d_Md_field_135 : decode b_Md_field 135 = .ok (.getfield 75, 3) := by decide +kernel
theorem d_Md_field_138 : decode b_Md_field 138 = .ok (.iconst 3, 1) := by decide +kernel
theorem d_Md_field_139 : decode b_Md_field 139 = .ok (.iadd, 1) := by decide +kernel
theorem d_Md_field_140 : decode b_Md_field 140 = .ok (.invokevirtual 79, 3) := by decide +kernel
theorem d_Md_field_143 : decode b_Md_field 143 = .ok (.aload_n 0, 1) := by decide +kernel
theorem d_Md_field_144 : decode b_Md_field 144 = .ok (.getfield 75, 3) := by decide +kernel
theorem d_Md_field_147 : decode b_Md_field 147 = .ok (.iconst 1, 1) := by decide +kernel
theorem d_Md_field_148 : decode b_Md_field 148 = .ok (.isub, 1) := by decide +kernel
theorem d_Md_field_149 : decode b_Md_field 149 = .ok (.ireturn, 1) := by decide +kernel
theorem d_Md_empty_0 : decode b_Md_empty 0 = .ok (.aload_n 0, 1) := by decide +kernel
theorem d_Md_empty_1 : decode b_Md_empty 1 = .ok (.getfield 20, 3) := by decide +kernel
theorem d_Md_empty_4 : decode b_Md_empty 4 = .ok (.iload_n 1, 1) := by decide +kernel
theorem d_Md_empty_5 : decode b_Md_empty 5 = .ok (.aload_n 0, 1) := by decide +kernel
theorem d_Md_empty_6 : decode b_Md_empty 6 = .ok (.getfield 16, 3) := by decide +kernel
theorem d_Md_empty_9 : decode b_Md_empty 9 = .ok (.iload_n 1, 1) := by decide +kernel
theorem d_Md_empty_10 : decode b_Md_empty 10 = .ok (.iconst 4, 1) := by decide +kernel
theorem d_Md_empty_11 : decode b_Md_empty 11 = .ok (.irem, 1) := by decide +kernel
theorem d_Md_empty_12 : decode b_Md_empty 12 = .ok (.baload, 1) := by decide +kernel
theorem d_Md_empty_13 : decode b_Md_empty 13 = .ok (.ifCond .eq (7), 3) := by decide +kernel
theorem d_Md_empty_16 : decode b_Md_empty 16 = .ok (.iconst 0, 1) := by decide +kernel
theorem d_Md_empty_17 : decode b_Md_empty 17 = .ok (.goto (4), 3) := by decide +kernel
theorem d_Md_empty_20 : decode b_Md_empty 20 = .ok (.iconst 1, 1) := by decide +kernel
theorem d_Md_empty_21 : decode b_Md_empty 21 = .ok (.iastore, 1) := by decide +kernel
theorem d_Md_empty_22 : decode b_Md_empty 22 = .ok (.aload_n 0, 1) := by decide +kernel
theorem d_Md_empty_23 : decode b_Md_empty 23 = .ok (.getfield 23, 3) := by decide +kernel
theorem d_Md_empty_26 : decode b_Md_empty 26 = .ok (.iconst 4, 1) := by decide +kernel
theorem d_Md_empty_27 : decode b_Md_empty 27 = .ok (.iload_n 1, 1) := by decide +kernel
theorem d_Md_empty_28 : decode b_Md_empty 28 = .ok (.imul, 1) := by decide +kernel
theorem d_Md_empty_29 : decode b_Md_empty 29 = .ok (.iconst 0, 1) := by decide +kernel
theorem d_Md_empty_30 : decode b_Md_empty 30 = .ok (.iastore, 1) := by decide +kernel
theorem d_Md_empty_31 : decode b_Md_empty 31 = .ok (.return_, 1) := by decide +kernel
theorem d_Md_give_0 : decode b_Md_give 0 = .ok (.aload_n 0, 1) := by decide +kernel
theorem d_Md_give_1 : decode b_Md_give 1 = .ok (.getfield 16, 3) := by decide +kernel
theorem d_Md_give_4 : decode b_Md_give 4 = .ok (.iload_n 1, 1) := by decide +kernel
theorem d_Md_give_5 : decode b_Md_give 5 = .ok (.iconst 4, 1) := by decide +kernel
theorem d_Md_give_6 : decode b_Md_give 6 = .ok (.irem, 1) := by decide +kernel
theorem d_Md_give_7 : decode b_Md_give 7 = .ok (.baload, 1) := by decide +kernel
theorem d_Md_give_8 : decode b_Md_give 8 = .ok (.ifCond .ne (14), 3) := by decide +kernel
theorem d_Md_give_11 : decode b_Md_give 11 = .ok (.aload_n 0, 1) := by decide +kernel
theorem d_Md_give_12 : decode b_Md_give 12 = .ok (.getfield 23, 3) := by decide +kernel
theorem d_Md_give_15 : decode b_Md_give 15 = .ok (.iconst 4, 1) := by decide +kernel
theorem d_Md_give_16 : decode b_Md_give 16 = .ok (.iload_n 1, 1) := by decide +kernel
theorem d_Md_give_17 : decode b_Md_give 17 = .ok (.imul, 1) := by decide +kernel
theorem d_Md_give_18 : decode b_Md_give 18 = .ok (.iload_n 2, 1) := by decide +kernel
theorem d_Md_give_19 : decode b_Md_give 19 = .ok (.iastore, 1) := by decide +kernel
theorem d_Md_give_20 : decode b_Md_give 20 = .ok (.iconst 1, 1) := by decide +kernel
theorem d_Md_give_21 : decode b_Md_give 21 = .ok (.ireturn, 1) := by decide +kernel
theorem d_Md_give_22 : decode b_Md_give 22 = .ok (.aload_n 0, 1) := by decide +kernel
theorem d_Md_give_23 : decode b_Md_give 23 = .ok (.getfield 20, 3) := by decide +kernel
theorem d_Md_give_26 : decode b_Md_give 26 = .ok (.iload_n 1, 1) := by decide +kernel
theorem d_Md_give_27 : decode b_Md_give 27 = .ok (.iaload, 1) := by decide +kernel
theorem d_Md_give_28 : decode b_Md_give 28 = .ok (.iconst 4, 1) := by decide +kernel
theorem d_Md_give_29 : decode b_Md_give 29 = .ok (.if_icmp .ne (5), 3) := by decide +kernel
theorem d_Md_give_32 : decode b_Md_give 32 = .ok (.iconst 0, 1) := by decide +kernel
theorem d_Md_give_33 : decode b_Md_give 33 = .ok (.ireturn, 1) := by decide +kernel
theorem d_Md_give_34 : decode b_Md_give 34 = .ok (.aload_n 0, 1) := by decide +kernel
theorem d_Md_give_35 : decode b_Md_give 35 = .ok (.getfield 23, 3) := by decide +kernel
theorem d_Md_give_38 : decode b_Md_give 38 = .ok (.iconst 4, 1) := by decide +kernel
theorem d_Md_give_39 : decode b_Md_give 39 = .ok (.iload_n 1, 1) := by decide +kernel
theorem d_Md_give_40 : decode b_Md_give 40 = .ok (.imul, 1) := by decide +kernel
theorem d_Md_give_41 : decode b_Md_give 41 = .ok (.aload_n 0, 1) := by decide +kernel
theorem d_Md_give_42 : decode b_Md_give 42 = .ok (.getfield 20, 3) := by decide +kernel
theorem d_Md_give_45 : decode b_Md_give 45 = .ok (.iload_n 1, 1) := by decide +kernel
theorem d_Md_give_46 : decode b_Md_give 46 = .ok (.iaload, 1) := by decide +kernel
theorem d_Md_give_47 : decode b_Md_give 47 = .ok (.iadd, 1) := by decide +kernel
theorem d_Md_give_48 : decode b_Md_give 48 = .ok (.iload_n 2, 1) := by decide +kernel
theorem d_Md_give_49 : decode b_Md_give 49 = .ok (.iastore, 1) := by decide +kernel
theorem d_Md_give_50 : decode b_Md_give 50 = .ok (.aload_n 0, 1) := by decide +kernel
theorem d_Md_give_51 : decode b_Md_give 51 = .ok (.getfield 20, 3) := by decide +kernel
theorem d_Md_give_54 : decode b_Md_give 54 = .ok (.iload_n 1, 1) := by decide +kernel
theorem d_Md_give_55 : decode b_Md_give 55 = .ok (.dup2, 1) := by decide +kernel
theorem d_Md_give_56 : decode b_Md_give 56 = .ok (.iaload, 1) := by decide +kernel
theorem d_Md_give_57 : decode b_Md_give 57 = .ok (.iconst 1, 1) := by decide +kernel
theorem d_Md_give_58 : decode b_Md_give 58 = .ok (.iadd, 1) := by decide +kernel
theorem d_Md_give_59 : decode b_Md_give 59 = .ok (.iastore, 1) := by decide +kernel
theorem d_Md_give_60 : decode b_Md_give 60 = .ok (.iconst 1, 1) := by decide +kernel
theorem d_Md_give_61 : decode b_Md_give 61 = .ok (.ireturn, 1) := by decide +kernel
end
section
theorem d_Md_put_0 : decode b_Md_put 0 = .ok (.iload_n 1, 1) := by decide +kernel
theorem d_Md_put_1 : decode b_Md_put 1 = .ok (.ifCond .lt (30), 3) := by decide +kernel
theorem d_Md_put_4 : decode b_Md_put 4 = .ok (.iload_n 1, 1) := by decide +kernel
theorem d_Md_put_5 : decode b_Md_put 5 = .ok (.aload_n 0, 1) := by decide +kernel
theorem d_Md_put_6 : decode b_Md_put 6 = .ok (.getfield 75, 3) := by decide +kernel
theorem d_Md_put_9 : decode b_Md_put 9 = .ok (.if_icmp .ge (22), 3) := by decide +kernel
theorem d_Md_put_12 : decode b_Md_put 12 = .ok (.aload_n 0, 1) := by decide +kernel
theorem d_Md_put_13 : decode b_Md_put 13 = .ok (.getfield 13, 3) := by decide +kernel
theorem d_Md_put_16 : decode b_Md_put 16 = .ok (.iload_n 1, 1) := by decide +kernel
theorem d_Md_put_17 : decode b_Md_put 17 = .ok (.iaload, 1) := by decide +kernel
theorem d_Md_put_18 : decode b_Md_put 18 = .ok (.iconst 3, 1) := by decide +kernel
theorem d_Md_put_19 : decode b_Md_put 19 = .ok (.if_icmp .ne (14), 3) := by decide +kernel
theorem d_Md_put_22 : decode b_Md_put 22 = .ok (.iload_n 2, 1) := by decide +kernel
theorem d_Md_put_23 : decode b_Md_put 23 = .ok (.ifCond .eq (10), 3) := by decide +kernel
theorem d_Md_put_26 : decode b_Md_put 26 = .ok (.iload_n 2, 1) := by decide +kernel
theorem d_Md_put_27 : decode b_Md_put 27 = .ok (.iconst 1, 1) := by decide +kernel
theorem d_Md_put_28 : decode b_Md_put 28 = .ok (.if_icmp .eq (5), 3) := by decide +kernel
theorem d_Md_put_31 : decode b_Md_put 31 = .ok (.iconst 0, 1) := by decide +kernel
theorem d_Md_put_32 : decode b_Md_put 32 = .ok (.ireturn, 1) := by decide +kernel
theorem d_Md_put_33 : decode b_Md_put 33 = .ok (.aload_n 0, 1) := by decide +kernel
theorem d_Md_put_34 : decode b_Md_put 34 = .ok (.iload_n 1, 1) := by decide +kernel
theorem d_Md_put_35 : decode b_Md_put 35 = .ok (.iload_n 2, 1) := by decide +kernel
theorem d_Md_put_36 : decode b_Md_put 36 = .ok (.invokevirtual 83, 3) := by decide +kernel
theorem d_Md_put_39 : decode b_Md_put 39 = .ok (.ireturn, 1) := by decide +kernel
theorem d_Md_reset_0 : decode b_Md_reset 0 = .ok (.iconst 0, 1) := by decide +kernel
theorem d_Md_reset_1 : decode b_Md_reset 1 = .ok (.istore_n 1, 1) := by decide +kernel
theorem d_Md_reset_2 : decode b_Md_reset 2 = .ok (.iload_n 1, 1) := by decide +kernel
theorem d_Md_reset_3 : decode b_Md_reset 3 = .ok (.aload_n 0, 1) := by decide +kernel
theorem d_Md_reset_4 : decode b_Md_reset 4 = .ok (.getfield 75, 3) := by decide +kernel
theorem d_Md_reset_7 : decode b_Md_reset 7 = .ok (.if_icmp .ge (14), 3) := by decide +kernel
theorem d_Md_reset_10 : decode b_Md_reset 10 = .ok (.aload_n 0, 1) := by decide +kernel
theorem d_Md_reset_11 : decode b_Md_reset 11 = .ok (.iload_n 1, 1) := by decide +kernel
theorem d_Md_reset_12 : decode b_Md_reset 12 = .ok (.invokevirtual 79, 3) := by decide +kernel
theorem d_Md_reset_15 : decode b_Md_reset 15 = .ok (.iinc 1 (1), 3) := by decide +kernel
theorem d_Md_reset_18 : decode b_Md_reset 18 = .ok (.goto (-16), 3) := by decide +kernel
theorem d_Md_reset_21 : decode b_Md_reset 21 = .ok (.return_, 1) := by decide +kernel
theorem d_Md_digest_0 : decode b_Md_digest 0 = .ok (.iconst 0, 1) := by decide +kernel
theorem d_Md_digest_1 : decode b_Md_digest 1 = .ok (.istore_n 1, 1) := by decide +kernel
theorem d_Md_digest_2 : decode b_Md_digest 2 = .ok (.iconst 0, 1) := by decide +kernel
theorem d_Md_digest_3 : decode b_Md_digest 3 = .ok (.istore_n 2, 1) := by decide +kernel
theorem d_Md_digest_4 : decode b_Md_digest 4 = .ok (.iload_n 2, 1) := by decide +kernel
theorem d_Md_digest_5 : decode b_Md_digest 5 = .ok (.aload_n 0, 1) := by decide +kernel
theorem d_Md_digest_6 : decode b_Md_digest 6 = .ok (.getfield 75, 3) := by decide +kernel
theorem d_Md_digest_9 : decode b_Md_digest 9 = .ok (.if_icmp .ge (75), 3) := by decide +kernel
theorem d_Md_digest_12 : decode b_Md_digest 12 = .ok (.aload_n 0, 1) := by decide +kernel
theorem d_Md_digest_13 : decode b_Md_digest 13 = .ok (.getfield 16, 3) := by decide +kernel
theorem d_Md_digest_16 : decode b_Md_digest 16 = .ok (.iload_n 2, 1) := by decide +kernel
theorem d_Md_digest_17 : decode b_Md_digest 17 = .ok (.baload, 1) := by decide +kernel
theorem d_Md_digest_18 : decode b_Md_digest 18 = .ok (.ifCond .eq (19), 3) := by decide +kernel
theorem d_Md_digest_21 : decode b_Md_digest 21 = .ok (.bipush 31, 2) := by decide +kernel
theorem d_Md_digest_23 : decode b_Md_digest 23 = .ok (.iload_n 1, 1) := by decide +kernel
theorem d_Md_digest_24 : decode b_Md_digest 24 = .ok (.imul, 1) := by decide +kernel
theorem d_Md_digest_25 : decode b_Md_digest 25 = .ok (.aload_n 0, 1) := by decide +kernel
theorem d_Md_digest_26 : decode b_Md_digest 26 = .ok (.getfield 20, 3) := by decide +kernel
theorem d_Md_digest_29 : decode b_Md_digest 29 = .ok (.iconst 4, 1) := by decide +kernel
theorem d_Md_digest_30 : decode b_Md_digest 30 = .ok (.iload_n 2, 1) := by decide +kernel
theorem d_Md_digest_31 : decode b_Md_digest 31 = .ok (.iadd, 1) := by decide +kernel
theorem d_Md_digest_32 : decode b_Md_digest 32 = .ok (.iaload, 1) := by decide +kernel
theorem d_Md_digest_33 : decode b_Md_digest 33 = .ok (.iadd, 1) := by decide +kernel
theorem d_Md_digest_34 : decode b_Md_digest 34 = .ok (.goto (4), 3) := by decide +kernel
theorem d_Md_digest_37 : decode b_Md_digest 37 = .ok (.iload_n 1, 1) := by decide +kernel
theorem d_Md_digest_38 : decode b_Md_digest 38 = .ok (.istore_n 1, 1) := by decide +kernel
theorem d_Md_digest_39 : decode b_Md_digest 39 = .ok (.iconst 0, 1) := by decide +kernel
theorem d_Md_digest_40 : decode b_Md_digest 40 = .ok (.istore_n 3, 1) := by decide +kernel
theorem d_Md_digest_41 : decode b_Md_digest 41 = .ok (.iload_n 3, 1) := by decide +kernel
theorem d_Md_digest_42 : decode b_Md_digest 42 = .ok (.aload_n 0, 1) := by decide +kernel
theorem d_Md_digest_43 : decode b_Md_digest 43 = .ok (.getfield 20, 3) := by decide +kernel
theorem d_Md_digest_46 : decode b_Md_digest 46 = .ok (.iconst 4, 1) := by decide +kernel
theorem d_Md_digest_47 : decode b_Md_digest 47 = .ok (.iload_n 2, 1) := by decide +kernel
theorem d_Md_digest_48 : decode b_Md_digest 48 = .ok (.iadd, 1) := by decide +kernel
theorem d_Md_digest_49 : decode b_Md_digest 49 = .ok (.iaload, 1) := by decide +kernel
theorem d_Md_digest_50 : decode b_Md_digest 50 = .ok (.if_icmp .ge (28), 3) := by decide +kernel
theorem d_Md_digest_53 : decode b_Md_digest 53 = .ok (.bipush 31, 2) := by decide +kernel
theorem d_Md_digest_55 : decode b_Md_digest 55 = .ok (.iload_n 1, 1) := by decide +kernel
theorem d_Md_digest_56 : decode b_Md_digest 56 = .ok (.imul, 1) := by decide +kernel
theorem d_Md_digest_57 : decode b_Md_digest 57 = .ok (.aload_n 0, 1) := by decide +kernel
theorem d_Md_digest_58 : decode b_Md_digest 58 = .ok (.getfield 23, 3) := by decide +kernel
theorem d_Md_digest_61 : decode b_Md_digest 61 = .ok (.bipush 16, 2) := by decide +kernel
theorem d_Md_digest_63 : decode b_Md_digest 63 = .ok (.iconst 4, 1) := by decide +kernel
theorem d_Md_digest_64 : decode b_Md_digest 64 = .ok (.iload_n 2, 1) := by decide +kernel
theorem d_Md_digest_65 : decode b_Md_digest 65 = .ok (.imul, 1) := by decide +kernel
theorem d_Md_digest_66 : decode b_Md_digest 66 = .ok (.iadd, 1) := by decide +kernel
theorem d_Md_digest_67 : decode b_Md_digest 67 = .ok (.iload_n 3, 1) := by decide +kernel
theorem d_Md_digest_68 : decode b_Md_digest 68 = .ok (.iadd, 1) := by decide +kernel
theorem d_Md_digest_69 : decode b_Md_digest 69 = .ok (.iaload, 1) := by decide +kernel
theorem d_Md_digest_70 : decode b_Md_digest 70 = .ok (.iadd, 1) := by decide +kernel
theorem d_Md_digest_71 : decode b_Md_digest 71 = .ok (.istore_n 1, 1) := by decide +kernel
theorem d_Md_digest_72 : decode b_Md_digest 72 = .ok (.iinc 3 (1), 3) := by decide +kernel
theorem d_Md_digest_75 : decode b_Md_digest 75 = .ok (.goto (-34), 3) := by decide +kernel
theorem d_Md_digest_78 : decode b_Md_digest 78 = .ok (.iinc 2 (1), 3) := by decide +kernel
theorem d_Md_digest_81 : decode b_Md_digest 81 = .ok (.goto (-77), 3) := by decide +kernel
theorem d_Md_digest_84 : decode b_Md_digest 84 = .ok (.iload_n 1, 1) := by decide +kernel
theorem d_Md_digest_85 : decode b_Md_digest 85 = .ok (.ireturn, 1) := by decide +kernel
theorem d_Md_write_0 : decode b_Md_write 0 = .ok (.aload_n 0, 1) := by decide +kernel
theorem d_Md_write_1 : decode b_Md_write 1 = .ok (.getfield 26, 3) := by decide +kernel
theorem d_Md_write_4 : decode b_Md_write 4 = .ok (.aload_n 0, 1) := by decide +kernel
theorem d_Md_write_5 : decode b_Md_write 5 = .ok (.getfield 87, 3) := by decide +kernel
theorem d_Md_write_8 : decode b_Md_write 8 = .ok (.iload_n 1, 1) := by decide +kernel
theorem d_Md_write_9 : decode b_Md_write 9 = .ok (.iastore, 1) := by decide +kernel
theorem d_Md_write_10 : decode b_Md_write 10 = .ok (.aload_n 0, 1) := by decide +kernel
theorem d_Md_write_11 : decode b_Md_write 11 = .ok (.dup, 1) := by decide +kernel
theorem d_Md_write_12 : decode b_Md_write 12 = .ok (.getfield 87, 3) := by decide +kernel
theorem d_Md_write_15 : decode b_Md_write 15 = .ok (.iconst 1, 1) := by decide +kernel
theorem d_Md_write_16 : decode b_Md_write 16 = .ok (.iadd, 1) := by decide +kernel
theorem d_Md_write_17 : decode b_Md_write 17 = .ok (.putfield 87, 3) := by decide +kernel
theorem d_Md_write_20 : decode b_Md_write 20 = .ok (.return_, 1) := by decide +kernel
theorem d_Md_writeWord_0 : decode b_Md_writeWord 0 = .ok (.iconst 3, 1) := by decide +kernel
theorem d_Md_writeWord_1 : decode b_Md_writeWord 1 = .ok (.istore_n 2, 1) := by decide +kernel
theorem d_Md_writeWord_2 : decode b_Md_writeWord 2 = .ok (.iload_n 2, 1) := by decide +kernel
theorem d_Md_writeWord_3 : decode b_Md_writeWord 3 = .ok (.ifCond .lt (23), 3) := by decide +kernel
theorem d_Md_writeWord_6 : decode b_Md_writeWord 6 = .ok (.aload_n 0, 1) := by decide +kernel
theorem d_Md_writeWord_7 : decode b_Md_writeWord 7 = .ok (.iload_n 1, 1) := by decide +kernel
theorem d_Md_writeWord_8 : decode b_Md_writeWord 8 = .ok (.bipush 8, 2) := by decide +kernel
theorem d_Md_writeWord_10 : decode b_Md_writeWord 10 = .ok (.iload_n 2, 1) := by decide +kernel
theorem d_Md_writeWord_11 : decode b_Md_writeWord 11 = .ok (.imul, 1) := by decide +kernel
theorem d_Md_writeWord_12 : decode b_Md_writeWord 12 = .ok (.ishr, 1) := by decide +kernel
theorem d_Md_writeWord_13 : decode b_Md_writeWord 13 = .ok (.sipush 255, 3) := by decide +kernel
theorem d_Md_writeWord_16 : decode b_Md_writeWord 16 = .ok (.iand, 1) := by decide +kernel
theorem d_Md_writeWord_17 : decode b_Md_writeWord 17 = .ok (.invokevirtual 90, 3) := by decide +kernel
theorem d_Md_writeWord_20 : decode b_Md_writeWord 20 = .ok (.iinc 2 (-1), 3) := by decide +kernel
theorem d_Md_writeWord_23 : decode b_Md_writeWord 23 = .ok (.goto (-21), 3) := by decide +kernel
theorem d_Md_writeWord_26 : decode b_Md_writeWord 26 = .ok (.return_, 1) := by decide +kernel
theorem d_Md_writeVarint_0 : decode b_Md_writeVarint 0 = .ok (.lload_n 1, 1) := by decide +kernel
theorem d_Md_writeVarint_1 : decode b_Md_writeVarint 1 = .ok (.lstore_n 3, 1) := by decide +kernel
theorem d_Md_writeVarint_2 : decode b_Md_writeVarint 2 = .ok (.lload_n 3, 1) := by decide +kernel
theorem d_Md_writeVarint_3 : decode b_Md_writeVarint 3 = .ok (.ldc2_w 93, 3) := by decide +kernel
theorem d_Md_writeVarint_6 : decode b_Md_writeVarint 6 = .ok (.lcmp, 1) := by decide +kernel
theorem d_Md_writeVarint_7 : decode b_Md_writeVarint 7 = .ok (.ifCond .lt (26), 3) := by decide +kernel
theorem d_Md_writeVarint_10 : decode b_Md_writeVarint 10 = .ok (.aload_n 0, 1) := by decide +kernel
theorem d_Md_writeVarint_11 : decode b_Md_writeVarint 11 = .ok (.lload_n 3, 1) := by decide +kernel
theorem d_Md_writeVarint_12 : decode b_Md_writeVarint 12 = .ok (.ldc2_w 93, 3) := by decide +kernel
theorem d_Md_writeVarint_15 : decode b_Md_writeVarint 15 = .ok (.lrem, 1) := by decide +kernel
theorem d_Md_writeVarint_16 : decode b_Md_writeVarint 16 = .ok (.ldc2_w 93, 3) := by decide +kernel
theorem d_Md_writeVarint_19 : decode b_Md_writeVarint 19 = .ok (.ladd, 1) := by decide +kernel
theorem d_Md_writeVarint_20 : decode b_Md_writeVarint 20 = .ok (.l2i, 1) := by decide +kernel
theorem d_Md_writeVarint_21 : decode b_Md_writeVarint 21 = .ok (.invokevirtual 90, 3) := by decide +kernel
theorem d_Md_writeVarint_24 : decode b_Md_writeVarint 24 = .ok (.lload_n 3, 1) := by decide +kernel
theorem d_Md_writeVarint_25 : decode b_Md_writeVarint 25 = .ok (.ldc2_w 93, 3) := by decide +kernel
theorem d_Md_writeVarint_28 : decode b_Md_writeVarint 28 = .ok (.ldiv, 1) := by decide +kernel
theorem d_Md_writeVarint_29 : decode b_Md_writeVarint 29 = .ok (.lstore_n 3, 1) := by decide +kernel
theorem d_Md_writeVarint_30 : decode b_Md_writeVarint 30 = .ok (.goto (-28), 3) := by decide +kernel
theorem d_Md_writeVarint_33 : decode b_Md_writeVarint 33 = .ok (.aload_n 0, 1) := by decide +kernel
theorem d_Md_writeVarint_34 : decode b_Md_writeVarint 34 = .ok (.lload_n 3, 1) := by decide +kernel
theorem d_Md_writeVarint_35 : decode b_Md_writeVarint 35 = .ok (.l2i, 1) := by decide +kernel
theorem d_Md_writeVarint_36 : decode b_Md_writeVarint 36 = .ok (.invokevirtual 90, 3) := by decide +kernel
theorem d_Md_writeVarint_39 : decode b_Md_writeVarint 39 = .ok (.return_, 1) := by decide +kernel
theorem d_Md_writeTagged_0 : decode b_Md_writeTagged 0 = .ok (.aload_n 0, 1) := by decide +kernel
theorem d_Md_writeTagged_1 : decode b_Md_writeTagged 1 = .ok (.ldc2_w 95, 3) := by decide +kernel
theorem d_Md_writeTagged_4 : decode b_Md_writeTagged 4 = .ok (.aload_n 0, 1) := by decide +kernel
theorem d_Md_writeTagged_5 : decode b_Md_writeTagged 5 = .ok (.getfield 7, 3) := by decide +kernel
theorem d_Md_writeTagged_8 : decode b_Md_writeTagged 8 = .ok (.iload_n 1, 1) := by decide +kernel
theorem d_Md_writeTagged_9 : decode b_Md_writeTagged 9 = .ok (.iaload, 1) := by decide +kernel
theorem d_Md_writeTagged_10 : decode b_Md_writeTagged 10 = .ok (.i2l, 1) := by decide +kernel
theorem d_Md_writeTagged_11 : decode b_Md_writeTagged 11 = .ok (.lmul, 1) := by decide +kernel
theorem d_Md_writeTagged_12 : decode b_Md_writeTagged 12 = .ok (.aload_n 0, 1) := by decide +kernel
theorem d_Md_writeTagged_13 : decode b_Md_writeTagged 13 = .ok (.getfield 13, 3) := by decide +kernel
theorem d_Md_writeTagged_16 : decode b_Md_writeTagged 16 = .ok (.iload_n 1, 1) := by decide +kernel
theorem d_Md_writeTagged_17 : decode b_Md_writeTagged 17 = .ok (.iaload, 1) := by decide +kernel
theorem d_Md_writeTagged_18 : decode b_Md_writeTagged 18 = .ok (.iconst 2, 1) := by decide +kernel
theorem d_Md_writeTagged_19 : decode b_Md_writeTagged 19 = .ok (.if_icmp .ne (9), 3) := by decide +kernel
theorem d_Md_writeTagged_22 : decode b_Md_writeTagged 22 = .ok (.ldc2_w 97, 3) := by decide +kernel
theorem d_Md_writeTagged_25 : decode b_Md_writeTagged 25 = .ok (.goto (4), 3) := by decide +kernel
theorem d_Md_writeTagged_28 : decode b_Md_writeTagged 28 = .ok (.lconst 0, 1) := by decide +kernel
theorem d_Md_writeTagged_29 : decode b_Md_writeTagged 29 = .ok (.ladd, 1) := by decide +kernel
theorem d_Md_writeTagged_30 : decode b_Md_writeTagged 30 = .ok (.invokevirtual 99, 3) := by decide +kernel
theorem d_Md_writeTagged_33 : decode b_Md_writeTagged 33 = .ok (.aload_n 0, 1) := by decide +kernel
theorem d_Md_writeTagged_34 : decode b_Md_writeTagged 34 = .ok (.getfield 13, 3) := by decide +kernel
theorem d_Md_writeTagged_37 : decode b_Md_writeTagged 37 = .ok (.iload_n 1, 1) := by decide +kernel
theorem d_Md_writeTagged_38 : decode b_Md_writeTagged 38 = .ok (.iaload, 1) := by decide +kernel
theorem d_Md_writeTagged_39 : decode b_Md_writeTagged 39 = .ok (.ifCond .ne (25), 3) := by decide +kernel
theorem d_Md_writeTagged_42 : decode b_Md_writeTagged 42 = .ok (.aload_n 0, 1) := by decide +kernel
theorem d_Md_writeTagged_43 : decode b_Md_writeTagged 43 = .ok (.iload_n 2, 1) := by decide +kernel
theorem d_Md_writeTagged_44 : decode b_Md_writeTagged 44 = .ok (.ifCond .ge (12), 3) := by decide +kernel
theorem d_Md_writeTagged_47 : decode b_Md_writeTagged 47 = .ok (.iload_n 2, 1) := by decide +kernel
theorem d_Md_writeTagged_48 : decode b_Md_writeTagged 48 = .ok (.i2l, 1) := by decide +kernel
theorem d_Md_writeTagged_49 : decode b_Md_writeTagged 49 = .ok (.ldc2_w 103, 3) := by decide +kernel
theorem d_Md_writeTagged_52 : decode b_Md_writeTagged 52 = .ok (.ladd, 1) := by decide +kernel
theorem d_Md_writeTagged_53 : decode b_Md_writeTagged 53 = .ok (.goto (5), 3) := by decide +kernel
theorem d_Md_writeTagged_56 : decode b_Md_writeTagged 56 = .ok (.iload_n 2, 1) := by decide +kernel
theorem d_Md_writeTagged_57 : decode b_Md_writeTagged 57 = .ok (.i2l, 1) := by decide +kernel
theorem d_Md_writeTagged_58 : decode b_Md_writeTagged 58 = .ok (.invokevirtual 99, 3) := by decide +kernel
theorem d_Md_writeTagged_61 : decode b_Md_writeTagged 61 = .ok (.goto (86), 3) := by decide +kernel
theorem d_Md_writeTagged_64 : decode b_Md_writeTagged 64 = .ok (.aload_n 0, 1) := by decide +kernel
theorem d_Md_writeTagged_65 : decode b_Md_writeTagged 65 = .ok (.getfield 13, 3) := by decide +kernel
theorem d_Md_writeTagged_68 : decode b_Md_writeTagged 68 = .ok (.iload_n 1, 1) := by decide +kernel
theorem d_Md_writeTagged_69 : decode b_Md_writeTagged 69 = .ok (.iaload, 1) := by decide +kernel
theorem d_Md_writeTagged_70 : decode b_Md_writeTagged 70 = .ok (.iconst 1, 1) := by decide +kernel
theorem d_Md_writeTagged_71 : decode b_Md_writeTagged 71 = .ok (.if_icmp .ne (31), 3) := by decide +kernel
theorem d_Md_writeTagged_74 : decode b_Md_writeTagged 74 = .ok (.aload_n 0, 1) := by decide +kernel
theorem d_Md_writeTagged_75 : decode b_Md_writeTagged 75 = .ok (.iload_n 2, 1) := by decide +kernel
theorem d_Md_writeTagged_76 : decode b_Md_writeTagged 76 = .ok (.ifCond .ge (14), 3) := by decide +kernel
theorem d_Md_writeTagged_79 : decode b_Md_writeTagged 79 = .ok (.ldc2_w 105, 3) := by decide +kernel
theorem d_Md_writeTagged_82 : decode b_Md_writeTagged 82 = .ok (.iload_n 2, 1) := by decide +kernel
theorem d_Md_writeTagged_83 : decode b_Md_writeTagged 83 = .ok (.i2l, 1) := by decide +kernel
theorem d_Md_writeTagged_84 : decode b_Md_writeTagged 84 = .ok (.lmul, 1) := by decide +kernel
theorem d_Md_writeTagged_85 : decode b_Md_writeTagged 85 = .ok (.lconst 1, 1) := by decide +kernel
theorem d_Md_writeTagged_86 : decode b_Md_writeTagged 86 = .ok (.lsub, 1) := by decide +kernel
theorem d_Md_writeTagged_87 : decode b_Md_writeTagged 87 = .ok (.goto (9), 3) := by decide +kernel
theorem d_Md_writeTagged_90 : decode b_Md_writeTagged 90 = .ok (.ldc2_w 107, 3) := by decide +kernel
theorem d_Md_writeTagged_93 : decode b_Md_writeTagged 93 = .ok (.iload_n 2, 1) := by decide +kernel
theorem d_Md_writeTagged_94 : decode b_Md_writeTagged 94 = .ok (.i2l, 1) := by decide +kernel
theorem d_Md_writeTagged_95 : decode b_Md_writeTagged 95 = .ok (.lmul, 1) := by decide +kernel
theorem d_Md_writeTagged_96 : decode b_Md_writeTagged 96 = .ok (.invokevirtual 99, 3) := by decide +kernel
theorem d_Md_writeTagged_99 : decode b_Md_writeTagged 99 = .ok (.goto (48), 3) := by decide +kernel
theorem d_Md_writeTagged_102 : decode b_Md_writeTagged 102 = .ok (.aload_n 0, 1) := by decide +kernel
theorem d_Md_writeTagged_103 : decode b_Md_writeTagged 103 = .ok (.getfield 13, 3) := by decide +kernel
theorem d_Md_writeTagged_106 : decode b_Md_writeTagged 106 = .ok (.iload_n 1, 1) := by decide +kernel
theorem d_Md_writeTagged_107 : decode b_Md_writeTagged 107 = .ok (.iaload, 1) := by decide +kernel
theorem d_Md_writeTagged_108 : decode b_Md_writeTagged 108 = .ok (.iconst 2, 1) := by decide +kernel
theorem d_Md_writeTagged_109 : decode b_Md_writeTagged 109 = .ok (.if_icmp .ne (33), 3) := by decide +kernel
theorem d_Md_writeTagged_112 : decode b_Md_writeTagged 112 = .ok (.iconst 0, 1) := by decide +kernel
theorem d_Md_writeTagged_113 : decode b_Md_writeTagged 113 = .ok (.istore_n 3, 1) := by decide +kernel
theorem d_Md_writeTagged_114 : decode b_Md_writeTagged 114 = .ok (.iload_n 3, 1) := by decide +kernel
theorem d_Md_writeTagged_115 : decode b_Md_writeTagged 115 = .ok (.iconst 4, 1) := by decide +kernel
theorem d_Md_writeTagged_116 : decode b_Md_writeTagged 116 = .ok (.if_icmp .ge (23), 3) := by decide +kernel
theorem d_Md_writeTagged_119 : decode b_Md_writeTagged 119 = .ok (.aload_n 0, 1) := by decide +kernel
theorem d_Md_writeTagged_120 : decode b_Md_writeTagged 120 = .ok (.iload_n 2, 1) := by decide +kernel
theorem d_Md_writeTagged_121 : decode b_Md_writeTagged 121 = .ok (.bipush 8, 2) := by decide +kernel
theorem d_Md_writeTagged_123 : decode b_Md_writeTagged 123 = .ok (.iload_n 3, 1) := by decide +kernel
theorem d_Md_writeTagged_124 : decode b_Md_writeTagged 124 = .ok (.imul, 1) := by decide +kernel
theorem d_Md_writeTagged_125 : decode b_Md_writeTagged 125 = .ok (.ishr, 1) := by decide +kernel
theorem d_Md_writeTagged_126 : decode b_Md_writeTagged 126 = .ok (.sipush 255, 3) := by decide +kernel
theorem d_Md_writeTagged_129 : decode b_Md_writeTagged 129 = .ok (.iand, 1) := by decide +kernel
theorem d_Md_writeTagged_130 : decode b_Md_writeTagged 130 = .ok (.invokevirtual 90, 3) := by decide +kernel
theorem d_Md_writeTagged_133 : decode b_Md_writeTagged 133 = .ok (.iinc 3 (1), 3) := by decide +kernel
theorem d_Md_writeTagged_136 : decode b_Md_writeTagged 136 = .ok (.goto (-22), 3) := by decide +kernel
theorem d_Md_writeTagged_139 : decode b_Md_writeTagged 139 = .ok (.goto (8), 3) := by decide +kernel
theorem d_Md_writeTagged_142 : decode b_Md_writeTagged 142 = .ok (.aload_n 0, 1) := by decide +kernel
theorem d_Md_writeTagged_143 : decode b_Md_writeTagged 143 = .ok (.iload_n 2, 1) := by decide +kernel
theorem d_Md_writeTagged_144 : decode b_Md_writeTagged 144 = .ok (.invokevirtual 90, 3) := by decide +kernel
theorem d_Md_writeTagged_147 : decode b_Md_writeTagged 147 = .ok (.return_, 1) := by decide +kernel
theorem d_Md_writeDraft_0 : decode b_Md_writeDraft 0 = .ok (.iconst 0, 1) := by decide +kernel
theorem d_Md_writeDraft_1 : decode b_Md_writeDraft 1 = .ok (.istore_n 1, 1) := by decide +kernel
theorem d_Md_writeDraft_2 : decode b_Md_writeDraft 2 = .ok (.iload_n 1, 1) := by decide +kernel
theorem d_Md_writeDraft_3 : decode b_Md_writeDraft 3 = .ok (.aload_n 0, 1) := by decide +kernel
theorem d_Md_writeDraft_4 : decode b_Md_writeDraft 4 = .ok (.getfield 75, 3) := by decide +kernel
theorem d_Md_writeDraft_7 : decode b_Md_writeDraft 7 = .ok (.if_icmp .ge (98), 3) := by decide +kernel
theorem d_Md_writeDraft_10 : decode b_Md_writeDraft 10 = .ok (.aload_n 0, 1) := by decide +kernel
theorem d_Md_writeDraft_11 : decode b_Md_writeDraft 11 = .ok (.getfield 71, 3) := by decide +kernel
theorem d_Md_writeDraft_14 : decode b_Md_writeDraft 14 = .ok (.ifCond .eq (22), 3) := by decide +kernel
theorem d_Md_writeDraft_17 : decode b_Md_writeDraft 17 = .ok (.aload_n 0, 1) := by decide +kernel
theorem d_Md_writeDraft_18 : decode b_Md_writeDraft 18 = .ok (.getfield 16, 3) := by decide +kernel
theorem d_Md_writeDraft_21 : decode b_Md_writeDraft 21 = .ok (.iload_n 1, 1) := by decide +kernel
theorem d_Md_writeDraft_22 : decode b_Md_writeDraft 22 = .ok (.baload, 1) := by decide +kernel
theorem d_Md_writeDraft_23 : decode b_Md_writeDraft 23 = .ok (.ifCond .eq (13), 3) := by decide +kernel
theorem d_Md_writeDraft_26 : decode b_Md_writeDraft 26 = .ok (.aload_n 0, 1) := by decide +kernel
theorem d_Md_writeDraft_27 : decode b_Md_writeDraft 27 = .ok (.aload_n 0, 1) := by decide +kernel
theorem d_Md_writeDraft_28 : decode b_Md_writeDraft 28 = .ok (.getfield 20, 3) := by decide +kernel
theorem d_Md_writeDraft_31 : decode b_Md_writeDraft 31 = .ok (.iload_n 1, 1) := by decide +kernel
theorem d_Md_writeDraft_32 : decode b_Md_writeDraft 32 = .ok (.iaload, 1) := by decide +kernel
theorem d_Md_writeDraft_33 : decode b_Md_writeDraft 33 = .ok (.invokevirtual 109, 3) := by decide +kernel
theorem d_Md_writeDraft_36 : decode b_Md_writeDraft 36 = .ok (.iconst 0, 1) := by decide +kernel
theorem d_Md_writeDraft_37 : decode b_Md_writeDraft 37 = .ok (.istore_n 2, 1) := by decide +kernel
theorem d_Md_writeDraft_38 : decode b_Md_writeDraft 38 = .ok (.iload_n 2, 1) := by decide +kernel
theorem d_Md_writeDraft_39 : decode b_Md_writeDraft 39 = .ok (.aload_n 0, 1) := by decide +kernel
theorem d_Md_writeDraft_40 : decode b_Md_writeDraft 40 = .ok (.getfield 20, 3) := by decide +kernel
theorem d_Md_writeDraft_43 : decode b_Md_writeDraft 43 = .ok (.iload_n 1, 1) := by decide +kernel
theorem d_Md_writeDraft_44 : decode b_Md_writeDraft 44 = .ok (.iaload, 1) := by decide +kernel
theorem d_Md_writeDraft_45 : decode b_Md_writeDraft 45 = .ok (.if_icmp .ge (54), 3) := by decide +kernel
theorem d_Md_writeDraft_48 : decode b_Md_writeDraft 48 = .ok (.aload_n 0, 1) := by decide +kernel
theorem d_Md_writeDraft_49 : decode b_Md_writeDraft 49 = .ok (.getfield 23, 3) := by decide +kernel
theorem d_Md_writeDraft_52 : decode b_Md_writeDraft 52 = .ok (.iconst 4, 1) := by decide +kernel
theorem d_Md_writeDraft_53 : decode b_Md_writeDraft 53 = .ok (.iload_n 1, 1) := by decide +kernel
theorem d_Md_writeDraft_54 : decode b_Md_writeDraft 54 = .ok (.imul, 1) := by decide +kernel
theorem d_Md_writeDraft_55 : decode b_Md_writeDraft 55 = .ok (.iload_n 2, 1) := by decide +kernel
theorem d_Md_writeDraft_56 : decode b_Md_writeDraft 56 = .ok (.iadd, 1) := by decide +kernel
theorem d_Md_writeDraft_57 : decode b_Md_writeDraft 57 = .ok (.iaload, 1) := by decide +kernel
theorem d_Md_writeDraft_58 : decode b_Md_writeDraft 58 = .ok (.istore_n 3, 1) := by decide +kernel
theorem d_Md_writeDraft_59 : decode b_Md_writeDraft 59 = .ok (.aload_n 0, 1) := by decide +kernel
theorem d_Md_writeDraft_60 : decode b_Md_writeDraft 60 = .ok (.getfield 71, 3) := by decide +kernel
theorem d_Md_writeDraft_63 : decode b_Md_writeDraft 63 = .ok (.ifCond .eq (11), 3) := by decide +kernel
theorem d_Md_writeDraft_66 : decode b_Md_writeDraft 66 = .ok (.aload_n 0, 1) := by decide +kernel
theorem d_Md_writeDraft_67 : decode b_Md_writeDraft 67 = .ok (.iload_n 3, 1) := by decide +kernel
theorem d_Md_writeDraft_68 : decode b_Md_writeDraft 68 = .ok (.invokevirtual 109, 3) := by decide +kernel
theorem d_Md_writeDraft_71 : decode b_Md_writeDraft 71 = .ok (.goto (22), 3) := by decide +kernel
theorem d_Md_writeDraft_74 : decode b_Md_writeDraft 74 = .ok (.aload_n 0, 1) := by decide +kernel
theorem d_Md_writeDraft_75 : decode b_Md_writeDraft 75 = .ok (.getfield 16, 3) := by decide +kernel
theorem d_Md_writeDraft_78 : decode b_Md_writeDraft 78 = .ok (.iload_n 1, 1) := by decide +kernel
theorem d_Md_writeDraft_79 : decode b_Md_writeDraft 79 = .ok (.baload, 1) := by decide +kernel
theorem d_Md_writeDraft_80 : decode b_Md_writeDraft 80 = .ok (.ifCond .ne (7), 3) := by decide +kernel
theorem d_Md_writeDraft_83 : decode b_Md_writeDraft 83 = .ok (.iload_n 3, 1) := by decide +kernel
theorem d_Md_writeDraft_84 : decode b_Md_writeDraft 84 = .ok (.ifCond .eq (9), 3) := by decide +kernel
theorem d_Md_writeDraft_87 : decode b_Md_writeDraft 87 = .ok (.aload_n 0, 1) := by decide +kernel
theorem d_Md_writeDraft_88 : decode b_Md_writeDraft 88 = .ok (.iload_n 1, 1) := by decide +kernel
theorem d_Md_writeDraft_89 : decode b_Md_writeDraft 89 = .ok (.iload_n 3, 1) := by decide +kernel
theorem d_Md_writeDraft_90 : decode b_Md_writeDraft 90 = .ok (.invokevirtual 112, 3) := by decide +kernel
theorem d_Md_writeDraft_93 : decode b_Md_writeDraft 93 = .ok (.iinc 2 (1), 3) := by decide +kernel
theorem d_Md_writeDraft_96 : decode b_Md_writeDraft 96 = .ok (.goto (-58), 3) := by decide +kernel
theorem d_Md_writeDraft_99 : decode b_Md_writeDraft 99 = .ok (.iinc 1 (1), 3) := by decide +kernel
theorem d_Md_writeDraft_102 : decode b_Md_writeDraft 102 = .ok (.goto (-100), 3) := by decide +kernel
theorem d_Md_writeDraft_105 : decode b_Md_writeDraft 105 = .ok (.return_, 1) := by decide +kernel
theorem d_Md_fragment_0 : decode b_Md_fragment 0 = .ok (.aload_n 0, 1) := by decide +kernel
theorem d_Md_fragment_1 : decode b_Md_fragment 1 = .ok (.iconst 0, 1) := by decide +kernel
theorem d_Md_fragment_2 : decode b_Md_fragment 2 = .ok (.putfield 116, 3) := by decide +kernel
theorem d_Md_fragment_5 : decode b_Md_fragment 5 = .ok (.aload_n 0, 1) := by decide +kernel
theorem d_Md_fragment_6 : decode b_Md_fragment 6 = .ok (.getfield 87, 3) := by decide +kernel
theorem d_Md_fragment_9 : decode b_Md_fragment 9 = .ok (.istore_n 1, 1) := by decide +kernel
theorem d_Md_fragment_10 : decode b_Md_fragment 10 = .ok (.iconst 0, 1) := by decide +kernel
theorem d_Md_fragment_11 : decode b_Md_fragment 11 = .ok (.istore_n 2, 1) := by decide +kernel
theorem d_Md_fragment_12 : decode b_Md_fragment 12 = .ok (.iload_n 2, 1) := by decide +kernel
theorem d_Md_fragment_13 : decode b_Md_fragment 13 = .ok (.aload_n 0, 1) := by decide +kernel
theorem d_Md_fragment_14 : decode b_Md_fragment 14 = .ok (.getfield 87, 3) := by decide +kernel
theorem d_Md_fragment_17 : decode b_Md_fragment 17 = .ok (.if_icmp .ge (126), 3) := by decide +kernel
theorem d_Md_fragment_20 : decode b_Md_fragment 20 = .ok (.iload_n 2, 1) := by decide +kernel
theorem d_Md_fragment_21 : decode b_Md_fragment 21 = .ok (.bipush 16, 2) := by decide +kernel
theorem d_Md_fragment_23 : decode b_Md_fragment 23 = .ok (.irem, 1) := by decide +kernel
theorem d_Md_fragment_24 : decode b_Md_fragment 24 = .ok (.ifCond .ne (88), 3) := by decide +kernel
theorem d_Md_fragment_27 : decode b_Md_fragment 27 = .ok (.iload_n 1, 1) := by decide +kernel
theorem d_Md_fragment_28 : decode b_Md_fragment 28 = .ok (.bipush 16, 2) := by decide +kernel
theorem d_Md_fragment_30 : decode b_Md_fragment 30 = .ok (.if_icmp .ge (7), 3) := by decide +kernel
theorem d_Md_fragment_33 : decode b_Md_fragment 33 = .ok (.iload_n 1, 1) := by decide +kernel
theorem d_Md_fragment_34 : decode b_Md_fragment 34 = .ok (.goto (5), 3) := by decide +kernel
theorem d_Md_fragment_37 : decode b_Md_fragment 37 = .ok (.bipush 16, 2) := by decide +kernel
theorem d_Md_fragment_39 : decode b_Md_fragment 39 = .ok (.istore_n 3, 1) := by decide +kernel
theorem d_Md_fragment_40 : decode b_Md_fragment 40 = .ok (.aload_n 0, 1) := by decide +kernel
theorem d_Md_fragment_41 : decode b_Md_fragment 41 = .ok (.getfield 29, 3) := by decide +kernel
theorem d_Md_fragment_44 : decode b_Md_fragment 44 = .ok (.aload_n 0, 1) := by decide +kernel
theorem d_Md_fragment_45 : decode b_Md_fragment 45 = .ok (.getfield 116, 3) := by decide +kernel
theorem d_Md_fragment_48 : decode b_Md_fragment 48 = .ok (.iload_n 1, 1) := by decide +kernel
theorem d_Md_fragment_49 : decode b_Md_fragment 49 = .ok (.bipush 16, 2) := by decide +kernel
theorem d_Md_fragment_51 : decode b_Md_fragment 51 = .ok (.if_icmp .gt (9), 3) := by decide +kernel
theorem d_Md_fragment_54 : decode b_Md_fragment 54 = .ok (.sipush 128, 3) := by decide +kernel
theorem d_Md_fragment_57 : decode b_Md_fragment 57 = .ok (.goto (4), 3) := by decide +kernel
theorem d_Md_fragment_60 : decode b_Md_fragment 60 = .ok (.iconst 0, 1) := by decide +kernel
theorem d_Md_fragment_61 : decode b_Md_fragment 61 = .ok (.iastore, 1) := by decide +kernel
theorem d_Md_fragment_62 : decode b_Md_fragment 62 = .ok (.aload_n 0, 1) := by decide +kernel
theorem d_Md_fragment_63 : decode b_Md_fragment 63 = .ok (.getfield 29, 3) := by decide +kernel
theorem d_Md_fragment_66 : decode b_Md_fragment 66 = .ok (.aload_n 0, 1) := by decide +kernel
theorem d_Md_fragment_67 : decode b_Md_fragment 67 = .ok (.getfield 116, 3) := by decide +kernel
theorem d_Md_fragment_70 : decode b_Md_fragment 70 = .ok (.iconst 1, 1) := by decide +kernel
theorem d_Md_fragment_71 : decode b_Md_fragment 71 = .ok (.iadd, 1) := by decide +kernel
theorem d_Md_fragment_72 : decode b_Md_fragment 72 = .ok (.iconst 0, 1) := by decide +kernel
theorem d_Md_fragment_73 : decode b_Md_fragment 73 = .ok (.iastore, 1) := by decide +kernel
theorem d_Md_fragment_74 : decode b_Md_fragment 74 = .ok (.aload_n 0, 1) := by decide +kernel
theorem d_Md_fragment_75 : decode b_Md_fragment 75 = .ok (.getfield 29, 3) := by decide +kernel
theorem d_Md_fragment_78 : decode b_Md_fragment 78 = .ok (.aload_n 0, 1) := by decide +kernel
theorem d_Md_fragment_79 : decode b_Md_fragment 79 = .ok (.getfield 116, 3) := by decide +kernel
theorem d_Md_fragment_82 : decode b_Md_fragment 82 = .ok (.iconst 2, 1) := by decide +kernel
theorem d_Md_fragment_83 : decode b_Md_fragment 83 = .ok (.iadd, 1) := by decide +kernel
theorem d_Md_fragment_84 : decode b_Md_fragment 84 = .ok (.iconst 0, 1) := by decide +kernel
theorem d_Md_fragment_85 : decode b_Md_fragment 85 = .ok (.iastore, 1) := by decide +kernel
theorem d_Md_fragment_86 : decode b_Md_fragment 86 = .ok (.aload_n 0, 1) := by decide +kernel
theorem d_Md_fragment_87 : decode b_Md_fragment 87 = .ok (.getfield 29, 3) := by decide +kernel
theorem d_Md_fragment_90 : decode b_Md_fragment 90 = .ok (.aload_n 0, 1) := by decide +kernel
theorem d_Md_fragment_91 : decode b_Md_fragment 91 = .ok (.getfield 116, 3) := by decide +kernel
theorem d_Md_fragment_94 : decode b_Md_fragment 94 = .ok (.iconst 3, 1) := by decide +kernel
theorem d_Md_fragment_95 : decode b_Md_fragment 95 = .ok (.iadd, 1) := by decide +kernel
theorem d_Md_fragment_96 : decode b_Md_fragment 96 = .ok (.iload_n 3, 1) := by decide +kernel
theorem d_Md_fragment_97 : decode b_Md_fragment 97 = .ok (.iastore, 1) := by decide +kernel
theorem d_Md_fragment_98 : decode b_Md_fragment 98 = .ok (.aload_n 0, 1) := by decide +kernel
theorem d_Md_fragment_99 : decode b_Md_fragment 99 = .ok (.aload_n 0, 1) := by decide +kernel
theorem d_Md_fragment_100 : decode b_Md_fragment 100 = .ok (.getfield 116, 3) := by decide +kernel
theorem d_Md_fragment_103 : decode b_Md_fragment 103 = .ok (.iconst 4, 1) := by decide +kernel
theorem d_Md_fragment_104 : decode b_Md_fragment 104 = .ok (.iadd, 1) := by decide +kernel
theorem d_Md_fragment_105 : decode b_Md_fragment 105 = .ok (.putfield 116, 3) := by decide +kernel
theorem d_Md_fragment_108 : decode b_Md_fragment 108 = .ok (.iload_n 1, 1) := by decide +kernel
theorem d_Md_fragment_109 : decode b_Md_fragment 109 = .ok (.iload_n 3, 1) := by decide +kernel
theorem d_Md_fragment_110 : decode b_Md_fragment 110 = .ok (.isub, 1) := by decide +kernel
theorem d_Md_fragment_111 : decode b_Md_fragment 111 = .ok (.istore_n 1, 1) := by decide +kernel
theorem d_Md_fragment_112 : decode b_Md_fragment 112 = .ok (.aload_n 0, 1) := by decide +kernel
theorem d_Md_fragment_113 : decode b_Md_fragment 113 = .ok (.getfield 29, 3) := by decide +kernel
theorem d_Md_fragment_116 : decode b_Md_fragment 116 = .ok (.aload_n 0, 1) := by decide +kernel
theorem d_Md_fragment_117 : decode b_Md_fragment 117 = .ok (.getfield 116, 3) := by decide +kernel
theorem d_Md_fragment_120 : decode b_Md_fragment 120 = .ok (.aload_n 0, 1) := by decide +kernel
theorem d_Md_fragment_121 : decode b_Md_fragment 121 = .ok (.getfield 26, 3) := by decide +kernel
theorem d_Md_fragment_124 : decode b_Md_fragment 124 = .ok (.iload_n 2, 1) := by decide +kernel
theorem d_Md_fragment_125 : decode b_Md_fragment 125 = .ok (.iaload, 1) := by decide +kernel
theorem d_Md_fragment_126 : decode b_Md_fragment 126 = .ok (.iastore, 1) := by decide +kernel
theorem d_Md_fragment_127 : decode b_Md_fragment 127 = .ok (.aload_n 0, 1) := by decide +kernel
theorem d_Md_fragment_128 : decode b_Md_fragment 128 = .ok (.dup, 1) := by decide +kernel
theorem d_Md_fragment_129 : decode b_Md_fragment 129 = .ok (.getfield 116, 3) := by decide +kernel
theorem d_Md_fragment_132 : decode b_Md_fragment 132 = .ok (.iconst 1, 1) := by decide +kernel
theorem d_Md_fragment_133 : decode b_Md_fragment 133 = .ok (.iadd, 1) := by decide +kernel
theorem d_Md_fragment_134 : decode b_Md_fragment 134 = .ok (.putfield 116, 3) := by decide +kernel
theorem d_Md_fragment_137 : decode b_Md_fragment 137 = .ok (.iinc 2 (1), 3) := by decide +kernel
theorem d_Md_fragment_140 : decode b_Md_fragment 140 = .ok (.goto (-128), 3) := by decide +kernel
theorem d_Md_fragment_143 : decode b_Md_fragment 143 = .ok (.return_, 1) := by decide +kernel
theorem d_Md_send_0 : decode b_Md_send 0 = .ok (.aload_n 0, 1) := by decide +kernel
theorem d_Md_send_1 : decode b_Md_send 1 = .ok (.getfield 119, 3) := by decide +kernel
theorem d_Md_send_4 : decode b_Md_send 4 = .ok (.bipush 16, 2) := by decide +kernel
theorem d_Md_send_6 : decode b_Md_send 6 = .ok (.if_icmp .ne (4), 3) := by decide +kernel
theorem d_Md_send_9 : decode b_Md_send 9 = .ok (.return_, 1) := by decide +kernel
theorem d_Md_send_10 : decode b_Md_send 10 = .ok (.iconst 0, 1) := by decide +kernel
theorem d_Md_send_11 : decode b_Md_send 11 = .ok (.istore_n 2, 1) := by decide +kernel
theorem d_Md_send_12 : decode b_Md_send 12 = .ok (.iload_n 2, 1) := by decide +kernel
theorem d_Md_send_13 : decode b_Md_send 13 = .ok (.aload_n 0, 1) := by decide +kernel
theorem d_Md_send_14 : decode b_Md_send 14 = .ok (.getfield 116, 3) := by decide +kernel
theorem d_Md_send_17 : decode b_Md_send 17 = .ok (.if_icmp .ge (30), 3) := by decide +kernel
theorem d_Md_send_20 : decode b_Md_send 20 = .ok (.aload_n 0, 1) := by decide +kernel
theorem d_Md_send_21 : decode b_Md_send 21 = .ok (.getfield 32, 3) := by decide +kernel
theorem d_Md_send_24 : decode b_Md_send 24 = .ok (.sipush 160, 3) := by decide +kernel
theorem d_Md_send_27 : decode b_Md_send 27 = .ok (.aload_n 0, 1) := by decide +kernel
theorem d_Md_send_28 : decode b_Md_send 28 = .ok (.getfield 119, 3) := by decide +kernel
theorem d_Md_send_31 : decode b_Md_send 31 = .ok (.imul, 1) := by decide +kernel
theorem d_Md_send_32 : decode b_Md_send 32 = .ok (.iload_n 2, 1) := by decide +kernel
theorem d_Md_send_33 : decode b_Md_send 33 = .ok (.iadd, 1) := by decide +kernel
theorem d_Md_send_34 : decode b_Md_send 34 = .ok (.aload_n 0, 1) := by decide +kernel
theorem d_Md_send_35 : decode b_Md_send 35 = .ok (.getfield 29, 3) := by decide +kernel
theorem d_Md_send_38 : decode b_Md_send 38 = .ok (.iload_n 2, 1) := by decide +kernel
theorem d_Md_send_39 : decode b_Md_send 39 = .ok (.iaload, 1) := by decide +kernel
theorem d_Md_send_40 : decode b_Md_send 40 = .ok (.iastore, 1) := by decide +kernel
theorem d_Md_send_41 : decode b_Md_send 41 = .ok (.iinc 2 (1), 3) := by decide +kernel
theorem d_Md_send_44 : decode b_Md_send 44 = .ok (.goto (-32), 3) := by decide +kernel
theorem d_Md_send_47 : decode b_Md_send 47 = .ok (.aload_n 0, 1) := by decide +kernel
theorem d_Md_send_48 : decode b_Md_send 48 = .ok (.getfield 35, 3) := by decide +kernel
theorem d_Md_send_51 : decode b_Md_send 51 = .ok (.aload_n 0, 1) := by decide +kernel
theorem d_Md_send_52 : decode b_Md_send 52 = .ok (.getfield 119, 3) := by decide +kernel
theorem d_Md_send_55 : decode b_Md_send 55 = .ok (.aload_n 0, 1) := by decide +kernel
theorem d_Md_send_56 : decode b_Md_send 56 = .ok (.getfield 116, 3) := by decide +kernel
theorem d_Md_send_59 : decode b_Md_send 59 = .ok (.iastore, 1) := by decide +kernel
theorem d_Md_send_60 : decode b_Md_send 60 = .ok (.aload_n 0, 1) := by decide +kernel
theorem d_Md_send_61 : decode b_Md_send 61 = .ok (.getfield 38, 3) := by decide +kernel
theorem d_Md_send_64 : decode b_Md_send 64 = .ok (.aload_n 0, 1) := by decide +kernel
theorem d_Md_send_65 : decode b_Md_send 65 = .ok (.getfield 119, 3) := by decide +kernel
theorem d_Md_send_68 : decode b_Md_send 68 = .ok (.iload_n 1, 1) := by decide +kernel
theorem d_Md_send_69 : decode b_Md_send 69 = .ok (.bastore, 1) := by decide +kernel
theorem d_Md_send_70 : decode b_Md_send 70 = .ok (.aload_n 0, 1) := by decide +kernel
theorem d_Md_send_71 : decode b_Md_send 71 = .ok (.dup, 1) := by decide +kernel
theorem d_Md_send_72 : decode b_Md_send 72 = .ok (.getfield 119, 3) := by decide +kernel
theorem d_Md_send_75 : decode b_Md_send 75 = .ok (.iconst 1, 1) := by decide +kernel
theorem d_Md_send_76 : decode b_Md_send 76 = .ok (.iadd, 1) := by decide +kernel
theorem d_Md_send_77 : decode b_Md_send 77 = .ok (.putfield 119, 3) := by decide +kernel
theorem d_Md_send_80 : decode b_Md_send 80 = .ok (.return_, 1) := by decide +kernel
theorem d_Md_isMessage_0 : decode b_Md_isMessage 0 = .ok (.iload_n 1, 1) := by decide +kernel
theorem d_Md_isMessage_1 : decode b_Md_isMessage 1 = .ok (.ifCond .lt (15), 3) := by decide +kernel
theorem d_Md_isMessage_4 : decode b_Md_isMessage 4 = .ok (.iload_n 1, 1) := by decide +kernel
theorem d_Md_isMessage_5 : decode b_Md_isMessage 5 = .ok (.aload_n 0, 1) := by decide +kernel
theorem d_Md_isMessage_6 : decode b_Md_isMessage 6 = .ok (.getfield 119, 3) := by decide +kernel
theorem d_Md_isMessage_9 : decode b_Md_isMessage 9 = .ok (.if_icmp .ge (7), 3) := by decide +kernel
theorem d_Md_isMessage_12 : decode b_Md_isMessage 12 = .ok (.iconst 1, 1) := by decide +kernel
theorem d_Md_isMessage_13 : decode b_Md_isMessage 13 = .ok (.goto (4), 3) := by decide +kernel
theorem d_Md_isMessage_16 : decode b_Md_isMessage 16 = .ok (.iconst 0, 1) := by decide +kernel
theorem d_Md_isMessage_17 : decode b_Md_isMessage 17 = .ok (.ireturn, 1) := by decide +kernel
theorem d_Md_load_0 : decode b_Md_load 0 = .ok (.aload_n 0, 1) := by decide +kernel
theorem d_Md_load_1 : decode b_Md_load 1 = .ok (.aload_n 0, 1) := by decide +kernel
theorem d_Md_load_2 : decode b_Md_load 2 = .ok (.getfield 35, 3) := by decide +kernel
theorem d_Md_load_5 : decode b_Md_load 5 = .ok (.iload_n 1, 1) := by decide +kernel
theorem d_Md_load_6 : decode b_Md_load 6 = .ok (.iaload, 1) := by decide +kernel
theorem d_Md_load_7 : decode b_Md_load 7 = .ok (.putfield 116, 3) := by decide +kernel
theorem d_Md_load_10 : decode b_Md_load 10 = .ok (.iconst 0, 1) := by decide +kernel
theorem d_Md_load_11 : decode b_Md_load 11 = .ok (.istore_n 2, 1) := by decide +kernel
theorem d_Md_load_12 : decode b_Md_load 12 = .ok (.iload_n 2, 1) := by decide +kernel
theorem d_Md_load_13 : decode b_Md_load 13 = .ok (.aload_n 0, 1) := by decide +kernel
theorem d_Md_load_14 : decode b_Md_load 14 = .ok (.getfield 116, 3) := by decide +kernel
theorem d_Md_load_17 : decode b_Md_load 17 = .ok (.if_icmp .ge (27), 3) := by decide +kernel
theorem d_Md_load_20 : decode b_Md_load 20 = .ok (.aload_n 0, 1) := by decide +kernel
theorem d_Md_load_21 : decode b_Md_load 21 = .ok (.getfield 29, 3) := by decide +kernel
theorem d_Md_load_24 : decode b_Md_load 24 = .ok (.iload_n 2, 1) := by decide +kernel
theorem d_Md_load_25 : decode b_Md_load 25 = .ok (.aload_n 0, 1) := by decide +kernel
theorem d_Md_load_26 : decode b_Md_load 26 = .ok (.getfield 32, 3) := by decide +kernel
theorem d_Md_load_29 : decode b_Md_load 29 = .ok (.sipush 160, 3) := by decide +kernel
theorem d_Md_load_32 : decode b_Md_load 32 = .ok (.iload_n 1, 1) := by decide +kernel
theorem d_Md_load_33 : decode b_Md_load 33 = .ok (.imul, 1) := by decide +kernel
theorem d_Md_load_34 : decode b_Md_load 34 = .ok (.iload_n 2, 1) := by decide +kernel
theorem d_Md_load_35 : decode b_Md_load 35 = .ok (.iadd, 1) := by decide +kernel
theorem d_Md_load_36 : decode b_Md_load 36 = .ok (.iaload, 1) := by decide +kernel
theorem d_Md_load_37 : decode b_Md_load 37 = .ok (.iastore, 1) := by decide +kernel
theorem d_Md_load_38 : decode b_Md_load 38 = .ok (.iinc 2 (1), 3) := by decide +kernel
theorem d_Md_load_41 : decode b_Md_load 41 = .ok (.goto (-29), 3) := by decide +kernel
theorem d_Md_load_44 : decode b_Md_load 44 = .ok (.return_, 1) := by decide +kernel
theorem d_Md_lose_0 : decode b_Md_lose 0 = .ok (.aload_n 0, 1) := by decide +kernel
theorem d_Md_lose_1 : decode b_Md_lose 1 = .ok (.iload_n 1, 1) := by decide +kernel
theorem d_Md_lose_2 : decode b_Md_lose 2 = .ok (.invokevirtual 122, 3) := by decide +kernel
theorem d_Md_lose_5 : decode b_Md_lose 5 = .ok (.ifCond .ne (5), 3) := by decide +kernel
theorem d_Md_lose_8 : decode b_Md_lose 8 = .ok (.iconst 0, 1) := by decide +kernel
theorem d_Md_lose_9 : decode b_Md_lose 9 = .ok (.ireturn, 1) := by decide +kernel
theorem d_Md_lose_10 : decode b_Md_lose 10 = .ok (.aload_n 0, 1) := by decide +kernel
theorem d_Md_lose_11 : decode b_Md_lose 11 = .ok (.dup, 1) := by decide +kernel
theorem d_Md_lose_12 : decode b_Md_lose 12 = .ok (.getfield 119, 3) := by decide +kernel
theorem d_Md_lose_15 : decode b_Md_lose 15 = .ok (.iconst 1, 1) := by decide +kernel
theorem d_Md_lose_16 : decode b_Md_lose 16 = .ok (.isub, 1) := by decide +kernel
theorem d_Md_lose_17 : decode b_Md_lose 17 = .ok (.putfield 119, 3) := by decide +kernel
theorem d_Md_lose_20 : decode b_Md_lose 20 = .ok (.iload_n 1, 1) := by decide +kernel
theorem d_Md_lose_21 : decode b_Md_lose 21 = .ok (.istore_n 2, 1) := by decide +kernel
theorem d_Md_lose_22 : decode b_Md_lose 22 = .ok (.iload_n 2, 1) := by decide +kernel
theorem d_Md_lose_23 : decode b_Md_lose 23 = .ok (.aload_n 0, 1) := by decide +kernel
theorem d_Md_lose_24 : decode b_Md_lose 24 = .ok (.getfield 119, 3) := by decide +kernel
theorem d_Md_lose_27 : decode b_Md_lose 27 = .ok (.if_icmp .ge (80), 3) := by decide +kernel
theorem d_Md_lose_30 : decode b_Md_lose 30 = .ok (.iconst 0, 1) := by decide +kernel
theorem d_Md_lose_31 : decode b_Md_lose 31 = .ok (.istore_n 3, 1) := by decide +kernel
theorem d_Md_lose_32 : decode b_Md_lose 32 = .ok (.iload_n 3, 1) := by decide +kernel
theorem d_Md_lose_33 : decode b_Md_lose 33 = .ok (.sipush 160, 3) := by decide +kernel
theorem d_Md_lose_36 : decode b_Md_lose 36 = .ok (.if_icmp .ge (37), 3) := by decide +kernel
theorem d_Md_lose_39 : decode b_Md_lose 39 = .ok (.aload_n 0, 1) := by decide +kernel
theorem d_Md_lose_40 : decode b_Md_lose 40 = .ok (.getfield 32, 3) := by decide +kernel
theorem d_Md_lose_43 : decode b_Md_lose 43 = .ok (.sipush 160, 3) := by decide +kernel
theorem d_Md_lose_46 : decode b_Md_lose 46 = .ok (.iload_n 2, 1) := by decide +kernel
theorem d_Md_lose_47 : decode b_Md_lose 47 = .ok (.imul, 1) := by decide +kernel
theorem d_Md_lose_48 : decode b_Md_lose 48 = .ok (.iload_n 3, 1) := by decide +kernel
theorem d_Md_lose_49 : decode b_Md_lose 49 = .ok (.iadd, 1) := by decide +kernel
theorem d_Md_lose_50 : decode b_Md_lose 50 = .ok (.aload_n 0, 1) := by decide +kernel
theorem d_Md_lose_51 : decode b_Md_lose 51 = .ok (.getfield 32, 3) := by decide +kernel
theorem d_Md_lose_54 : decode b_Md_lose 54 = .ok (.sipush 160, 3) := by decide +kernel
theorem d_Md_lose_57 : decode b_Md_lose 57 = .ok (.iload_n 2, 1) := by decide +kernel
theorem d_Md_lose_58 : decode b_Md_lose 58 = .ok (.imul, 1) := by decide +kernel
theorem d_Md_lose_59 : decode b_Md_lose 59 = .ok (.sipush 160, 3) := by decide +kernel
theorem d_Md_lose_62 : decode b_Md_lose 62 = .ok (.iadd, 1) := by decide +kernel
theorem d_Md_lose_63 : decode b_Md_lose 63 = .ok (.iload_n 3, 1) := by decide +kernel
theorem d_Md_lose_64 : decode b_Md_lose 64 = .ok (.iadd, 1) := by decide +kernel
theorem d_Md_lose_65 : decode b_Md_lose 65 = .ok (.iaload, 1) := by decide +kernel
theorem d_Md_lose_66 : decode b_Md_lose 66 = .ok (.iastore, 1) := by decide +kernel
theorem d_Md_lose_67 : decode b_Md_lose 67 = .ok (.iinc 3 (1), 3) := by decide +kernel
theorem d_Md_lose_70 : decode b_Md_lose 70 = .ok (.goto (-38), 3) := by decide +kernel
theorem d_Md_lose_73 : decode b_Md_lose 73 = .ok (.aload_n 0, 1) := by decide +kernel
theorem d_Md_lose_74 : decode b_Md_lose 74 = .ok (.getfield 35, 3) := by decide +kernel
theorem d_Md_lose_77 : decode b_Md_lose 77 = .ok (.iload_n 2, 1) := by decide +kernel
theorem d_Md_lose_78 : decode b_Md_lose 78 = .ok (.aload_n 0, 1) := by decide +kernel
theorem d_Md_lose_79 : decode b_Md_lose 79 = .ok (.getfield 35, 3) := by decide +kernel
theorem d_Md_lose_82 : decode b_Md_lose 82 = .ok (.iload_n 2, 1) := by decide +kernel
theorem d_Md_lose_83 : decode b_Md_lose 83 = .ok (.iconst 1, 1) := by decide +kernel
theorem d_Md_lose_84 : decode b_Md_lose 84 = .ok (.iadd, 1) := by decide +kernel
theorem d_Md_lose_85 : decode b_Md_lose 85 = .ok (.iaload, 1) := by decide +kernel
theorem d_Md_lose_86 : decode b_Md_lose 86 = .ok (.iastore, 1) := by decide +kernel
theorem d_Md_lose_87 : decode b_Md_lose 87 = .ok (.aload_n 0, 1) := by decide +kernel
theorem d_Md_lose_88 : decode b_Md_lose 88 = .ok (.getfield 38, 3) := by decide +kernel
theorem d_Md_lose_91 : decode b_Md_lose 91 = .ok (.iload_n 2, 1) := by decide +kernel
theorem d_Md_lose_92 : decode b_Md_lose 92 = .ok (.aload_n 0, 1) := by decide +kernel
theorem d_Md_lose_93 : decode b_Md_lose 93 = .ok (.getfield 38, 3) := by decide +kernel
theorem d_Md_lose_96 : decode b_Md_lose 96 = .ok (.iload_n 2, 1) := by decide +kernel
theorem d_Md_lose_97 : decode b_Md_lose 97 = .ok (.iconst 1, 1) := by decide +kernel
theorem d_Md_lose_98 : decode b_Md_lose 98 = .ok (.iadd, 1) := by decide +kernel
theorem d_Md_lose_99 : decode b_Md_lose 99 = .ok (.baload, 1) := by decide +kernel
theorem d_Md_lose_100 : decode b_Md_lose 100 = .ok (.bastore, 1) := by decide +kernel
theorem d_Md_lose_101 : decode b_Md_lose 101 = .ok (.iinc 2 (1), 3) := by decide +kernel
theorem d_Md_lose_104 : decode b_Md_lose 104 = .ok (.goto (-82), 3) := by decide +kernel
theorem d_Md_lose_107 : decode b_Md_lose 107 = .ok (.iconst 1, 1) := by decide +kernel
theorem d_Md_lose_108 : decode b_Md_lose 108 = .ok (.ireturn, 1) := by decide +kernel
theorem d_Md_copy_0 : decode b_Md_copy 0 = .ok (.aload_n 0, 1) := by decide +kernel
theorem d_Md_copy_1 : decode b_Md_copy 1 = .ok (.iload_n 1, 1) := by decide +kernel
theorem d_Md_copy_2 : decode b_Md_copy 2 = .ok (.invokevirtual 122, 3) := by decide +kernel
theorem d_Md_copy_5 : decode b_Md_copy 5 = .ok (.ifCond .eq (12), 3) := by decide +kernel
theorem d_Md_copy_8 : decode b_Md_copy 8 = .ok (.aload_n 0, 1) := by decide +kernel
theorem d_Md_copy_9 : decode b_Md_copy 9 = .ok (.getfield 119, 3) := by decide +kernel
theorem d_Md_copy_12 : decode b_Md_copy 12 = .ok (.bipush 16, 2) := by decide +kernel
theorem d_Md_copy_14 : decode b_Md_copy 14 = .ok (.if_icmp .ne (5), 3) := by decide +kernel
theorem d_Md_copy_17 : decode b_Md_copy 17 = .ok (.iconst 0, 1) := by decide +kernel
theorem d_Md_copy_18 : decode b_Md_copy 18 = .ok (.ireturn, 1) := by decide +kernel
theorem d_Md_copy_19 : decode b_Md_copy 19 = .ok (.aload_n 0, 1) := by decide +kernel
theorem d_Md_copy_20 : decode b_Md_copy 20 = .ok (.iload_n 1, 1) := by decide +kernel
theorem d_Md_copy_21 : decode b_Md_copy 21 = .ok (.invokevirtual 126, 3) := by decide +kernel
theorem d_Md_copy_24 : decode b_Md_copy 24 = .ok (.aload_n 0, 1) := by decide +kernel
theorem d_Md_copy_25 : decode b_Md_copy 25 = .ok (.aload_n 0, 1) := by decide +kernel
theorem d_Md_copy_26 : decode b_Md_copy 26 = .ok (.getfield 38, 3) := by decide +kernel
theorem d_Md_copy_29 : decode b_Md_copy 29 = .ok (.iload_n 1, 1) := by decide +kernel
theorem d_Md_copy_30 : decode b_Md_copy 30 = .ok (.baload, 1) := by decide +kernel
theorem d_Md_copy_31 : decode b_Md_copy 31 = .ok (.invokevirtual 129, 3) := by decide +kernel
theorem d_Md_copy_34 : decode b_Md_copy 34 = .ok (.iconst 1, 1) := by decide +kernel
theorem d_Md_copy_35 : decode b_Md_copy 35 = .ok (.ireturn, 1) := by decide +kernel
theorem d_Md_gather_0 : decode b_Md_gather 0 = .ok (.aload_n 0, 1) := by decide +kernel
theorem d_Md_gather_1 : decode b_Md_gather 1 = .ok (.iconst 0, 1) := by decide +kernel
theorem d_Md_gather_2 : decode b_Md_gather 2 = .ok (.putfield 87, 3) := by decide +kernel
theorem d_Md_gather_5 : decode b_Md_gather 5 = .ok (.iconst 0, 1) := by decide +kernel
theorem d_Md_gather_6 : decode b_Md_gather 6 = .ok (.istore_n 1, 1) := by decide +kernel
theorem d_Md_gather_7 : decode b_Md_gather 7 = .ok (.iconst 0, 1) := by decide +kernel
theorem d_Md_gather_8 : decode b_Md_gather 8 = .ok (.istore_n 2, 1) := by decide +kernel
theorem d_Md_gather_9 : decode b_Md_gather 9 = .ok (.iload_n 2, 1) := by decide +kernel
theorem d_Md_gather_10 : decode b_Md_gather 10 = .ok (.bipush 60, 2) := by decide +kernel
theorem d_Md_gather_12 : decode b_Md_gather 12 = .ok (.if_icmp .ge (155), 3) := by decide +kernel
theorem d_Md_gather_15 : decode b_Md_gather 15 = .ok (.aload_n 0, 1) := by decide +kernel
theorem d_Md_gather_16 : decode b_Md_gather 16 = .ok (.getfield 116, 3) := by decide +kernel
theorem d_Md_gather_19 : decode b_Md_gather 19 = .ok (.iload_n 1, 1) := by decide +kernel
theorem d_Md_gather_20 : decode b_Md_gather 20 = .ok (.isub, 1) := by decide +kernel
theorem d_Md_gather_21 : decode b_Md_gather 21 = .ok (.iconst 4, 1) := by decide +kernel
theorem d_Md_gather_22 : decode b_Md_gather 22 = .ok (.if_icmp .ge (5), 3) := by decide +kernel
theorem d_Md_gather_25 : decode b_Md_gather 25 = .ok (.iconst 0, 1) := by decide +kernel
theorem d_Md_gather_26 : decode b_Md_gather 26 = .ok (.ireturn, 1) := by decide +kernel
theorem d_Md_gather_27 : decode b_Md_gather 27 = .ok (.aload_n 0, 1) := by decide +kernel
theorem d_Md_gather_28 : decode b_Md_gather 28 = .ok (.getfield 29, 3) := by decide +kernel
theorem d_Md_gather_31 : decode b_Md_gather 31 = .ok (.iload_n 1, 1) := by decide +kernel
theorem d_Md_gather_32 : decode b_Md_gather 32 = .ok (.iaload, 1) := by decide +kernel
theorem d_Md_gather_33 : decode b_Md_gather 33 = .ok (.bipush 127, 2) := by decide +kernel
theorem d_Md_gather_35 : decode b_Md_gather 35 = .ok (.iand, 1) := by decide +kernel
theorem d_Md_gather_36 : decode b_Md_gather 36 = .ok (.sipush 256, 3) := by decide +kernel
theorem d_Md_gather_39 : decode b_Md_gather 39 = .ok (.imul, 1) := by decide +kernel
theorem d_Md_gather_40 : decode b_Md_gather 40 = .ok (.aload_n 0, 1) := by decide +kernel
theorem d_Md_gather_41 : decode b_Md_gather 41 = .ok (.getfield 29, 3) := by decide +kernel
theorem d_Md_gather_44 : decode b_Md_gather 44 = .ok (.iload_n 1, 1) := by decide +kernel
theorem d_Md_gather_45 : decode b_Md_gather 45 = .ok (.iconst 1, 1) := by decide +kernel
theorem d_Md_gather_46 : decode b_Md_gather 46 = .ok (.iadd, 1) := by decide +kernel
theorem d_Md_gather_47 : decode b_Md_gather 47 = .ok (.iaload, 1) := by decide +kernel
theorem d_Md_gather_48 : decode b_Md_gather 48 = .ok (.iadd, 1) := by decide +kernel
theorem d_Md_gather_49 : decode b_Md_gather 49 = .ok (.ldc 133, 2) := by decide +kernel
theorem d_Md_gather_51 : decode b_Md_gather 51 = .ok (.imul, 1) := by decide +kernel
theorem d_Md_gather_52 : decode b_Md_gather 52 = .ok (.aload_n 0, 1) := by decide +kernel
theorem d_Md_gather_53 : decode b_Md_gather 53 = .ok (.getfield 29, 3) := by decide +kernel
theorem d_Md_gather_56 : decode b_Md_gather 56 = .ok (.iload_n 1, 1) := by decide +kernel
theorem d_Md_gather_57 : decode b_Md_gather 57 = .ok (.iconst 2, 1) := by decide +kernel
theorem d_Md_gather_58 : decode b_Md_gather 58 = .ok (.iadd, 1) := by decide +kernel
theorem d_Md_gather_59 : decode b_Md_gather 59 = .ok (.iaload, 1) := by decide +kernel
theorem d_Md_gather_60 : decode b_Md_gather 60 = .ok (.sipush 256, 3) := by decide +kernel
theorem d_Md_gather_63 : decode b_Md_gather 63 = .ok (.imul, 1) := by decide +kernel
theorem d_Md_gather_64 : decode b_Md_gather 64 = .ok (.iadd, 1) := by decide +kernel
theorem d_Md_gather_65 : decode b_Md_gather 65 = .ok (.aload_n 0, 1) := by decide +kernel
theorem d_Md_gather_66 : decode b_Md_gather 66 = .ok (.getfield 29, 3) := by decide +kernel
theorem d_Md_gather_69 : decode b_Md_gather 69 = .ok (.iload_n 1, 1) := by decide +kernel
theorem d_Md_gather_70 : decode b_Md_gather 70 = .ok (.iconst 3, 1) := by decide +kernel
theorem d_Md_gather_71 : decode b_Md_gather 71 = .ok (.iadd, 1) := by decide +kernel
theorem d_Md_gather_72 : decode b_Md_gather 72 = .ok (.iaload, 1) := by decide +kernel
theorem d_Md_gather_73 : decode b_Md_gather 73 = .ok (.iadd, 1) := by decide +kernel
theorem d_Md_gather_74 : decode b_Md_gather 74 = .ok (.istore_n 3, 1) := by decide +kernel
theorem d_Md_gather_75 : decode b_Md_gather 75 = .ok (.aload_n 0, 1) := by decide +kernel
theorem d_Md_gather_76 : decode b_Md_gather 76 = .ok (.getfield 29, 3) := by decide +kernel
theorem d_Md_gather_79 : decode b_Md_gather 79 = .ok (.iload_n 1, 1) := by decide +kernel
theorem d_Md_gather_80 : decode b_Md_gather 80 = .ok (.iaload, 1) := by decide +kernel
theorem d_Md_gather_81 : decode b_Md_gather 81 = .ok (.sipush 128, 3) := by decide +kernel
theorem d_Md_gather_84 : decode b_Md_gather 84 = .ok (.if_icmp .lt (7), 3) := by decide +kernel
theorem d_Md_gather_87 : decode b_Md_gather 87 = .ok (.iconst 1, 1) := by decide +kernel
theorem d_Md_gather_88 : decode b_Md_gather 88 = .ok (.goto (4), 3) := by decide +kernel
theorem d_Md_gather_91 : decode b_Md_gather 91 = .ok (.iconst 0, 1) := by decide +kernel
theorem d_Md_gather_92 : decode b_Md_gather 92 = .ok (.istore 4, 2) := by decide +kernel
theorem d_Md_gather_94 : decode b_Md_gather 94 = .ok (.iload_n 1, 1) := by decide +kernel
theorem d_Md_gather_95 : decode b_Md_gather 95 = .ok (.iconst 4, 1) := by decide +kernel
theorem d_Md_gather_96 : decode b_Md_gather 96 = .ok (.iadd, 1) := by decide +kernel
theorem d_Md_gather_97 : decode b_Md_gather 97 = .ok (.istore_n 1, 1) := by decide +kernel
theorem d_Md_gather_98 : decode b_Md_gather 98 = .ok (.iload_n 3, 1) := by decide +kernel
theorem d_Md_gather_99 : decode b_Md_gather 99 = .ok (.aload_n 0, 1) := by decide +kernel
theorem d_Md_gather_100 : decode b_Md_gather 100 = .ok (.getfield 116, 3) := by decide +kernel
theorem d_Md_gather_103 : decode b_Md_gather 103 = .ok (.iload_n 1, 1) := by decide +kernel
theorem d_Md_gather_104 : decode b_Md_gather 104 = .ok (.isub, 1) := by decide +kernel
theorem d_Md_gather_105 : decode b_Md_gather 105 = .ok (.if_icmp .le (5), 3) := by decide +kernel
theorem d_Md_gather_108 : decode b_Md_gather 108 = .ok (.iconst 0, 1) := by decide +kernel
theorem d_Md_gather_109 : decode b_Md_gather 109 = .ok (.ireturn, 1) := by decide +kernel
theorem d_Md_gather_110 : decode b_Md_gather 110 = .ok (.iconst 0, 1) := by decide +kernel
theorem d_Md_gather_111 : decode b_Md_gather 111 = .ok (.istore 5, 2) := by decide +kernel
theorem d_Md_gather_113 : decode b_Md_gather 113 = .ok (.iload 5, 2) := by decide +kernel
theorem d_Md_gather_115 : decode b_Md_gather 115 = .ok (.iload_n 3, 1) := by decide +kernel
theorem d_Md_gather_116 : decode b_Md_gather 116 = .ok (.if_icmp .ge (22), 3) := by decide +kernel
theorem d_Md_gather_119 : decode b_Md_gather 119 = .ok (.aload_n 0, 1) := by decide +kernel
theorem d_Md_gather_120 : decode b_Md_gather 120 = .ok (.aload_n 0, 1) := by decide +kernel
theorem d_Md_gather_121 : decode b_Md_gather 121 = .ok (.getfield 29, 3) := by decide +kernel
theorem d_Md_gather_124 : decode b_Md_gather 124 = .ok (.iload_n 1, 1) := by decide +kernel
theorem d_Md_gather_125 : decode b_Md_gather 125 = .ok (.iload 5, 2) := by decide +kernel
theorem d_Md_gather_127 : decode b_Md_gather 127 = .ok (.iadd, 1) := by decide +kernel
theorem d_Md_gather_128 : decode b_Md_gather 128 = .ok (.iaload, 1) := by decide +kernel
theorem d_Md_gather_129 : decode b_Md_gather 129 = .ok (.invokevirtual 90, 3) := by decide +kernel
theorem d_Md_gather_132 : decode b_Md_gather 132 = .ok (.iinc 5 (1), 3) := by decide +kernel
theorem d_Md_gather_135 : decode b_Md_gather 135 = .ok (.goto (-22), 3) := by decide +kernel
theorem d_Md_gather_138 : decode b_Md_gather 138 = .ok (.iload_n 1, 1) := by decide +kernel
theorem d_Md_gather_139 : decode b_Md_gather 139 = .ok (.iload_n 3, 1) := by decide +kernel
theorem d_Md_gather_140 : decode b_Md_gather 140 = .ok (.iadd, 1) := by decide +kernel
theorem d_Md_gather_141 : decode b_Md_gather 141 = .ok (.istore_n 1, 1) := by decide +kernel
theorem d_Md_gather_142 : decode b_Md_gather 142 = .ok (.iload 4, 2) := by decide +kernel
theorem d_Md_gather_144 : decode b_Md_gather 144 = .ok (.ifCond .eq (17), 3) := by decide +kernel
theorem d_Md_gather_147 : decode b_Md_gather 147 = .ok (.iload_n 1, 1) := by decide +kernel
theorem d_Md_gather_148 : decode b_Md_gather 148 = .ok (.aload_n 0, 1) := by decide +kernel
theorem d_Md_gather_149 : decode b_Md_gather 149 = .ok (.getfield 116, 3) := by decide +kernel
theorem d_Md_gather_152 : decode b_Md_gather 152 = .ok (.if_icmp .ne (7), 3) := by decide +kernel
theorem d_Md_gather_155 : decode b_Md_gather 155 = .ok (.iconst 1, 1) := by decide +kernel
theorem d_Md_gather_156 : decode b_Md_gather 156 = .ok (.goto (4), 3) := by decide +kernel
theorem d_Md_gather_159 : decode b_Md_gather 159 = .ok (.iconst 0, 1) := by decide +kernel
theorem d_Md_gather_160 : decode b_Md_gather 160 = .ok (.ireturn, 1) := by decide +kernel
theorem d_Md_gather_161 : decode b_Md_gather 161 = .ok (.iinc 2 (1), 3) := by decide +kernel
theorem d_Md_gather_164 : decode b_Md_gather 164 = .ok (.goto (-155), 3) := by decide +kernel
theorem d_Md_gather_167 : decode b_Md_gather 167 = .ok (.iconst 0, 1) := by decide +kernel
theorem d_Md_gather_168 : decode b_Md_gather 168 = .ok (.ireturn, 1) := by decide +kernel
end
section
theorem d_Md_word_0 : decode b_Md_word 0 = .ok (.aload_n 0, 1) := by decide +kernel
theorem d_Md_word_1 : decode b_Md_word 1 = .ok (.getfield 26, 3) := by decide +kernel
theorem d_Md_word_4 : decode b_Md_word 4 = .ok (.iload_n 1, 1) := by decide +kernel
theorem d_Md_word_5 : decode b_Md_word 5 = .ok (.iaload, 1) := by decide +kernel
theorem d_Md_word_6 : decode b_Md_word 6 = .ok (.bipush 24, 2) := by decide +kernel
theorem d_Md_word_8 : decode b_Md_word 8 = .ok (.ishl, 1) := by decide +kernel
theorem d_Md_word_9 : decode b_Md_word 9 = .ok (.aload_n 0, 1) := by decide +kernel
theorem d_Md_word_10 : decode b_Md_word 10 = .ok (.getfield 26, 3) := by decide +kernel
theorem d_Md_word_13 : decode b_Md_word 13 = .ok (.iload_n 1, 1) := by decide +kernel
theorem d_Md_word_14 : decode b_Md_word 14 = .ok (.iconst 1, 1) := by decide +kernel
theorem d_Md_word_15 : decode b_Md_word 15 = .ok (.iadd, 1) := by decide +kernel
theorem d_Md_word_16 : decode b_Md_word 16 = .ok (.iaload, 1) := by decide +kernel
theorem d_Md_word_17 : decode b_Md_word 17 = .ok (.bipush 16, 2) := by decide +kernel
theorem d_Md_word_19 : decode b_Md_word 19 = .ok (.ishl, 1) := by decide +kernel
theorem d_Md_word_20 : decode b_Md_word 20 = .ok (.ior, 1) := by decide +kernel
theorem d_Md_word_21 : decode b_Md_word 21 = .ok (.aload_n 0, 1) := by decide +kernel
theorem d_Md_word_22 : decode b_Md_word 22 = .ok (.getfield 26, 3) := by decide +kernel
theorem d_Md_word_25 : decode b_Md_word 25 = .ok (.iload_n 1, 1) := by decide +kernel
theorem d_Md_word_26 : decode b_Md_word 26 = .ok (.iconst 2, 1) := by decide +kernel
theorem d_Md_word_27 : decode b_Md_word 27 = .ok (.iadd, 1) := by decide +kernel
theorem d_Md_word_28 : decode b_Md_word 28 = .ok (.iaload, 1) := by decide +kernel
theorem d_Md_word_29 : decode b_Md_word 29 = .ok (.bipush 8, 2) := by decide +kernel
theorem d_Md_word_31 : decode b_Md_word 31 = .ok (.ishl, 1) := by decide +kernel
theorem d_Md_word_32 : decode b_Md_word 32 = .ok (.ior, 1) := by decide +kernel
theorem d_Md_word_33 : decode b_Md_word 33 = .ok (.aload_n 0, 1) := by decide +kernel
theorem d_Md_word_34 : decode b_Md_word 34 = .ok (.getfield 26, 3) := by decide +kernel
theorem d_Md_word_37 : decode b_Md_word 37 = .ok (.iload_n 1, 1) := by decide +kernel
theorem d_Md_word_38 : decode b_Md_word 38 = .ok (.iconst 3, 1) := by decide +kernel
theorem d_Md_word_39 : decode b_Md_word 39 = .ok (.iadd, 1) := by decide +kernel
theorem d_Md_word_40 : decode b_Md_word 40 = .ok (.iaload, 1) := by decide +kernel
theorem d_Md_word_41 : decode b_Md_word 41 = .ok (.ior, 1) := by decide +kernel
theorem d_Md_word_42 : decode b_Md_word 42 = .ok (.ireturn, 1) := by decide +kernel
theorem d_Md_readVarint_0 : decode b_Md_readVarint 0 = .ok (.iconst (-1), 1) := by decide +kernel
theorem d_Md_readVarint_1 : decode b_Md_readVarint 1 = .ok (.istore_n 1, 1) := by decide +kernel
theorem d_Md_readVarint_2 : decode b_Md_readVarint 2 = .ok (.bipush 9, 2) := by decide +kernel
theorem d_Md_readVarint_4 : decode b_Md_readVarint 4 = .ok (.istore_n 2, 1) := by decide +kernel
theorem d_Md_readVarint_5 : decode b_Md_readVarint 5 = .ok (.iload_n 2, 1) := by decide +kernel
theorem d_Md_readVarint_6 : decode b_Md_readVarint 6 = .ok (.ifCond .lt (50), 3) := by decide +kernel
theorem d_Md_readVarint_9 : decode b_Md_readVarint 9 = .ok (.aload_n 0, 1) := by decide +kernel
theorem d_Md_readVarint_10 : decode b_Md_readVarint 10 = .ok (.getfield 134, 3) := by decide +kernel
theorem d_Md_readVarint_13 : decode b_Md_readVarint 13 = .ok (.iload_n 2, 1) := by decide +kernel
theorem d_Md_readVarint_14 : decode b_Md_readVarint 14 = .ok (.iadd, 1) := by decide +kernel
theorem d_Md_readVarint_15 : decode b_Md_readVarint 15 = .ok (.aload_n 0, 1) := by decide +kernel
theorem d_Md_readVarint_16 : decode b_Md_readVarint 16 = .ok (.getfield 87, 3) := by decide +kernel
theorem d_Md_readVarint_19 : decode b_Md_readVarint 19 = .ok (.if_icmp .ge (29), 3) := by decide +kernel
theorem d_Md_readVarint_22 : decode b_Md_readVarint 22 = .ok (.aload_n 0, 1) := by decide +kernel
theorem d_Md_readVarint_23 : decode b_Md_readVarint 23 = .ok (.getfield 26, 3) := by decide +kernel
theorem d_Md_readVarint_26 : decode b_Md_readVarint 26 = .ok (.aload_n 0, 1) := by decide +kernel
theorem d_Md_readVarint_27 : decode b_Md_readVarint 27 = .ok (.getfield 134, 3) := by decide +kernel
theorem d_Md_readVarint_30 : decode b_Md_readVarint 30 = .ok (.iload_n 2, 1) := by decide +kernel
theorem d_Md_readVarint_31 : decode b_Md_readVarint 31 = .ok (.iadd, 1) := by decide +kernel
theorem d_Md_readVarint_32 : decode b_Md_readVarint 32 = .ok (.iaload, 1) := by decide +kernel
theorem d_Md_readVarint_33 : decode b_Md_readVarint 33 = .ok (.sipush 128, 3) := by decide +kernel
theorem d_Md_readVarint_36 : decode b_Md_readVarint 36 = .ok (.if_icmp .ge (12), 3) := by decide +kernel
theorem d_Md_readVarint_39 : decode b_Md_readVarint 39 = .ok (.aload_n 0, 1) := by decide +kernel
theorem d_Md_readVarint_40 : decode b_Md_readVarint 40 = .ok (.getfield 134, 3) := by decide +kernel
theorem d_Md_readVarint_43 : decode b_Md_readVarint 43 = .ok (.iload_n 2, 1) := by decide +kernel
theorem d_Md_readVarint_44 : decode b_Md_readVarint 44 = .ok (.iadd, 1) := by decide +kernel
theorem d_Md_readVarint_45 : decode b_Md_readVarint 45 = .ok (.goto (4), 3) := by decide +kernel
theorem d_Md_readVarint_48 : decode b_Md_readVarint 48 = .ok (.iload_n 1, 1) := by decide +kernel
theorem d_Md_readVarint_49 : decode b_Md_readVarint 49 = .ok (.istore_n 1, 1) := by decide +kernel
theorem d_Md_readVarint_50 : decode b_Md_readVarint 50 = .ok (.iinc 2 (-1), 3) := by decide +kernel
theorem d_Md_readVarint_53 : decode b_Md_readVarint 53 = .ok (.goto (-48), 3) := by decide +kernel
theorem d_Md_readVarint_56 : decode b_Md_readVarint 56 = .ok (.iload_n 1, 1) := by decide +kernel
theorem d_Md_readVarint_57 : decode b_Md_readVarint 57 = .ok (.ifCond .ge (5), 3) := by decide +kernel
theorem d_Md_readVarint_60 : decode b_Md_readVarint 60 = .ok (.iconst 0, 1) := by decide +kernel
theorem d_Md_readVarint_61 : decode b_Md_readVarint 61 = .ok (.ireturn, 1) := by decide +kernel
theorem d_Md_readVarint_62 : decode b_Md_readVarint 62 = .ok (.aload_n 0, 1) := by decide +kernel
theorem d_Md_readVarint_63 : decode b_Md_readVarint 63 = .ok (.lconst 0, 1) := by decide +kernel
theorem d_Md_readVarint_64 : decode b_Md_readVarint 64 = .ok (.putfield 137, 3) := by decide +kernel
theorem d_Md_readVarint_67 : decode b_Md_readVarint 67 = .ok (.iload_n 1, 1) := by decide +kernel
theorem d_Md_readVarint_68 : decode b_Md_readVarint 68 = .ok (.istore_n 2, 1) := by decide +kernel
theorem d_Md_readVarint_69 : decode b_Md_readVarint 69 = .ok (.iload_n 2, 1) := by decide +kernel
theorem d_Md_readVarint_70 : decode b_Md_readVarint 70 = .ok (.aload_n 0, 1) := by decide +kernel
theorem d_Md_readVarint_71 : decode b_Md_readVarint 71 = .ok (.getfield 134, 3) := by decide +kernel
theorem d_Md_readVarint_74 : decode b_Md_readVarint 74 = .ok (.if_icmp .lt (32), 3) := by decide +kernel
theorem d_Md_readVarint_77 : decode b_Md_readVarint 77 = .ok (.aload_n 0, 1) := by decide +kernel
theorem d_Md_readVarint_78 : decode b_Md_readVarint 78 = .ok (.aload_n 0, 1) := by decide +kernel
theorem d_Md_readVarint_79 : decode b_Md_readVarint 79 = .ok (.getfield 137, 3) := by decide +kernel
theorem d_Md_readVarint_82 : decode b_Md_readVarint 82 = .ok (.ldc2_w 93, 3) := by decide +kernel
theorem d_Md_readVarint_85 : decode b_Md_readVarint 85 = .ok (.lmul, 1) := by decide +kernel
theorem d_Md_readVarint_86 : decode b_Md_readVarint 86 = .ok (.aload_n 0, 1) := by decide +kernel
theorem d_Md_readVarint_87 : decode b_Md_readVarint 87 = .ok (.getfield 26, 3) := by decide +kernel
theorem d_Md_readVarint_90 : decode b_Md_readVarint 90 = .ok (.iload_n 2, 1) := by decide +kernel
theorem d_Md_readVarint_91 : decode b_Md_readVarint 91 = .ok (.iaload, 1) := by decide +kernel
theorem d_Md_readVarint_92 : decode b_Md_readVarint 92 = .ok (.bipush 127, 2) := by decide +kernel
theorem d_Md_readVarint_94 : decode b_Md_readVarint 94 = .ok (.iand, 1) := by decide +kernel
theorem d_Md_readVarint_95 : decode b_Md_readVarint 95 = .ok (.i2l, 1) := by decide +kernel
theorem d_Md_readVarint_96 : decode b_Md_readVarint 96 = .ok (.ladd, 1) := by decide +kernel
theorem d_Md_readVarint_97 : decode b_Md_readVarint 97 = .ok (.putfield 137, 3) := by decide +kernel
theorem d_Md_readVarint_100 : decode b_Md_readVarint 100 = .ok (.iinc 2 (-1), 3) := by decide +kernel
theorem d_Md_readVarint_103 : decode b_Md_readVarint 103 = .ok (.goto (-34), 3) := by decide +kernel
theorem d_Md_readVarint_106 : decode b_Md_readVarint 106 = .ok (.aload_n 0, 1) := by decide +kernel
theorem d_Md_readVarint_107 : decode b_Md_readVarint 107 = .ok (.iload_n 1, 1) := by decide +kernel
theorem d_Md_readVarint_108 : decode b_Md_readVarint 108 = .ok (.iconst 1, 1) := by decide +kernel
theorem d_Md_readVarint_109 : decode b_Md_readVarint 109 = .ok (.iadd, 1) := by decide +kernel
theorem d_Md_readVarint_110 : decode b_Md_readVarint 110 = .ok (.putfield 134, 3) := by decide +kernel
theorem d_Md_readVarint_113 : decode b_Md_readVarint 113 = .ok (.iconst 1, 1) := by decide +kernel
theorem d_Md_readVarint_114 : decode b_Md_readVarint 114 = .ok (.ireturn, 1) := by decide +kernel
theorem d_Md_fieldOf_0 : decode b_Md_fieldOf 0 = .ok (.iconst 0, 1) := by decide +kernel
theorem d_Md_fieldOf_1 : decode b_Md_fieldOf 1 = .ok (.istore_n 3, 1) := by decide +kernel
theorem d_Md_fieldOf_2 : decode b_Md_fieldOf 2 = .ok (.iload_n 3, 1) := by decide +kernel
theorem d_Md_fieldOf_3 : decode b_Md_fieldOf 3 = .ok (.aload_n 0, 1) := by decide +kernel
theorem d_Md_fieldOf_4 : decode b_Md_fieldOf 4 = .ok (.getfield 75, 3) := by decide +kernel
theorem d_Md_fieldOf_7 : decode b_Md_fieldOf 7 = .ok (.if_icmp .ge (40), 3) := by decide +kernel
theorem d_Md_fieldOf_10 : decode b_Md_fieldOf 10 = .ok (.aload_n 0, 1) := by decide +kernel
theorem d_Md_fieldOf_11 : decode b_Md_fieldOf 11 = .ok (.getfield 7, 3) := by decide +kernel
theorem d_Md_fieldOf_14 : decode b_Md_fieldOf 14 = .ok (.iload_n 3, 1) := by decide +kernel
theorem d_Md_fieldOf_15 : decode b_Md_fieldOf 15 = .ok (.iaload, 1) := by decide +kernel
theorem d_Md_fieldOf_16 : decode b_Md_fieldOf 16 = .ok (.iload_n 1, 1) := by decide +kernel
theorem d_Md_fieldOf_17 : decode b_Md_fieldOf 17 = .ok (.if_icmp .ne (24), 3) := by decide +kernel
theorem d_Md_fieldOf_20 : decode b_Md_fieldOf 20 = .ok (.aload_n 0, 1) := by decide +kernel
theorem d_Md_fieldOf_21 : decode b_Md_fieldOf 21 = .ok (.getfield 13, 3) := by decide +kernel
theorem d_Md_fieldOf_24 : decode b_Md_fieldOf 24 = .ok (.iload_n 3, 1) := by decide +kernel
theorem d_Md_fieldOf_25 : decode b_Md_fieldOf 25 = .ok (.iaload, 1) := by decide +kernel
theorem d_Md_fieldOf_26 : decode b_Md_fieldOf 26 = .ok (.iconst 2, 1) := by decide +kernel
theorem d_Md_fieldOf_27 : decode b_Md_fieldOf 27 = .ok (.if_icmp .ne (7), 3) := by decide +kernel
theorem d_Md_fieldOf_30 : decode b_Md_fieldOf 30 = .ok (.iconst 5, 1) := by decide +kernel
theorem d_Md_fieldOf_31 : decode b_Md_fieldOf 31 = .ok (.goto (4), 3) := by decide +kernel
theorem d_Md_fieldOf_34 : decode b_Md_fieldOf 34 = .ok (.iconst 0, 1) := by decide +kernel
theorem d_Md_fieldOf_35 : decode b_Md_fieldOf 35 = .ok (.iload_n 2, 1) := by decide +kernel
theorem d_Md_fieldOf_36 : decode b_Md_fieldOf 36 = .ok (.if_icmp .ne (5), 3) := by decide +kernel
theorem d_Md_fieldOf_39 : decode b_Md_fieldOf 39 = .ok (.iload_n 3, 1) := by decide +kernel
theorem d_Md_fieldOf_40 : decode b_Md_fieldOf 40 = .ok (.ireturn, 1) := by decide +kernel
theorem d_Md_fieldOf_41 : decode b_Md_fieldOf 41 = .ok (.iinc 3 (1), 3) := by decide +kernel
theorem d_Md_fieldOf_44 : decode b_Md_fieldOf 44 = .ok (.goto (-42), 3) := by decide +kernel
theorem d_Md_fieldOf_47 : decode b_Md_fieldOf 47 = .ok (.iconst (-1), 1) := by decide +kernel
theorem d_Md_fieldOf_48 : decode b_Md_fieldOf 48 = .ok (.ireturn, 1) := by decide +kernel
theorem d_Md_meant_0 : decode b_Md_meant 0 = .ok (.aload_n 0, 1) := by decide +kernel
theorem d_Md_meant_1 : decode b_Md_meant 1 = .ok (.getfield 137, 3) := by decide +kernel
theorem d_Md_meant_4 : decode b_Md_meant 4 = .ok (.ldc2_w 141, 3) := by decide +kernel
theorem d_Md_meant_7 : decode b_Md_meant 7 = .ok (.land, 1) := by decide +kernel
theorem d_Md_meant_8 : decode b_Md_meant 8 = .ok (.lstore_n 2, 1) := by decide +kernel
theorem d_Md_meant_9 : decode b_Md_meant 9 = .ok (.iload_n 1, 1) := by decide +kernel
theorem d_Md_meant_10 : decode b_Md_meant 10 = .ok (.iconst 3, 1) := by decide +kernel
theorem d_Md_meant_11 : decode b_Md_meant 11 = .ok (.if_icmp .ne (18), 3) := by decide +kernel
theorem d_Md_meant_14 : decode b_Md_meant 14 = .ok (.aload_n 0, 1) := by decide +kernel
theorem d_Md_meant_15 : decode b_Md_meant 15 = .ok (.getfield 137, 3) := by decide +kernel
theorem d_Md_meant_18 : decode b_Md_meant 18 = .ok (.lconst 0, 1) := by decide +kernel
theorem d_Md_meant_19 : decode b_Md_meant 19 = .ok (.lcmp, 1) := by decide +kernel
theorem d_Md_meant_20 : decode b_Md_meant 20 = .ok (.ifCond .ne (7), 3) := by decide +kernel
theorem d_Md_meant_23 : decode b_Md_meant 23 = .ok (.iconst 0, 1) := by decide +kernel
theorem d_Md_meant_24 : decode b_Md_meant 24 = .ok (.goto (4), 3) := by decide +kernel
theorem d_Md_meant_27 : decode b_Md_meant 27 = .ok (.iconst 1, 1) := by decide +kernel
theorem d_Md_meant_28 : decode b_Md_meant 28 = .ok (.ireturn, 1) := by decide +kernel
theorem d_Md_meant_29 : decode b_Md_meant 29 = .ok (.iload_n 1, 1) := by decide +kernel
theorem d_Md_meant_30 : decode b_Md_meant 30 = .ok (.iconst 1, 1) := by decide +kernel
theorem d_Md_meant_31 : decode b_Md_meant 31 = .ok (.if_icmp .ne (32), 3) := by decide +kernel
theorem d_Md_meant_34 : decode b_Md_meant 34 = .ok (.lload_n 2, 1) := by decide +kernel
theorem d_Md_meant_35 : decode b_Md_meant 35 = .ok (.ldc2_w 107, 3) := by decide +kernel
theorem d_Md_meant_38 : decode b_Md_meant 38 = .ok (.lrem, 1) := by decide +kernel
theorem d_Md_meant_39 : decode b_Md_meant 39 = .ok (.lconst 0, 1) := by decide +kernel
theorem d_Md_meant_40 : decode b_Md_meant 40 = .ok (.lcmp, 1) := by decide +kernel
theorem d_Md_meant_41 : decode b_Md_meant 41 = .ok (.ifCond .ne (12), 3) := by decide +kernel
theorem d_Md_meant_44 : decode b_Md_meant 44 = .ok (.lload_n 2, 1) := by decide +kernel
theorem d_Md_meant_45 : decode b_Md_meant 45 = .ok (.ldc2_w 107, 3) := by decide +kernel
theorem d_Md_meant_48 : decode b_Md_meant 48 = .ok (.ldiv, 1) := by decide +kernel
theorem d_Md_meant_49 : decode b_Md_meant 49 = .ok (.l2i, 1) := by decide +kernel
theorem d_Md_meant_50 : decode b_Md_meant 50 = .ok (.goto (12), 3) := by decide +kernel
theorem d_Md_meant_53 : decode b_Md_meant 53 = .ok (.lload_n 2, 1) := by decide +kernel
theorem d_Md_meant_54 : decode b_Md_meant 54 = .ok (.ldc2_w 107, 3) := by decide +kernel
theorem d_Md_meant_57 : decode b_Md_meant 57 = .ok (.ldiv, 1) := by decide +kernel
theorem d_Md_meant_58 : decode b_Md_meant 58 = .ok (.lneg, 1) := by decide +kernel
theorem d_Md_meant_59 : decode b_Md_meant 59 = .ok (.lconst 1, 1) := by decide +kernel
theorem d_Md_meant_60 : decode b_Md_meant 60 = .ok (.lsub, 1) := by decide +kernel
theorem d_Md_meant_61 : decode b_Md_meant 61 = .ok (.l2i, 1) := by decide +kernel
theorem d_Md_meant_62 : decode b_Md_meant 62 = .ok (.ireturn, 1) := by decide +kernel
theorem d_Md_meant_63 : decode b_Md_meant 63 = .ok (.lload_n 2, 1) := by decide +kernel
theorem d_Md_meant_64 : decode b_Md_meant 64 = .ok (.l2i, 1) := by decide +kernel
theorem d_Md_meant_65 : decode b_Md_meant 65 = .ok (.ireturn, 1) := by decide +kernel
theorem d_Md_readTagged_0 : decode b_Md_readTagged 0 = .ok (.aload_n 0, 1) := by decide +kernel
theorem d_Md_readTagged_1 : decode b_Md_readTagged 1 = .ok (.invokevirtual 143, 3) := by decide +kernel
theorem d_Md_readTagged_4 : decode b_Md_readTagged 4 = .ok (.ifCond .eq (25), 3) := by decide +kernel
theorem d_Md_readTagged_7 : decode b_Md_readTagged 7 = .ok (.aload_n 0, 1) := by decide +kernel
theorem d_Md_readTagged_8 : decode b_Md_readTagged 8 = .ok (.getfield 137, 3) := by decide +kernel
theorem d_Md_readTagged_11 : decode b_Md_readTagged 11 = .ok (.ldc2_w 95, 3) := by decide +kernel
theorem d_Md_readTagged_14 : decode b_Md_readTagged 14 = .ok (.lcmp, 1) := by decide +kernel
theorem d_Md_readTagged_15 : decode b_Md_readTagged 15 = .ok (.ifCond .lt (14), 3) := by decide +kernel
theorem d_Md_readTagged_18 : decode b_Md_readTagged 18 = .ok (.aload_n 0, 1) := by decide +kernel
theorem d_Md_readTagged_19 : decode b_Md_readTagged 19 = .ok (.getfield 137, 3) := by decide +kernel
theorem d_Md_readTagged_22 : decode b_Md_readTagged 22 = .ok (.ldc2_w 141, 3) := by decide +kernel
theorem d_Md_readTagged_25 : decode b_Md_readTagged 25 = .ok (.lcmp, 1) := by decide +kernel
theorem d_Md_readTagged_26 : decode b_Md_readTagged 26 = .ok (.ifCond .le (5), 3) := by decide +kernel
theorem d_Md_readTagged_29 : decode b_Md_readTagged 29 = .ok (.iconst 0, 1) := by decide +kernel
theorem d_Md_readTagged_30 : decode b_Md_readTagged 30 = .ok (.ireturn, 1) := by decide +kernel
theorem d_Md_readTagged_31 : decode b_Md_readTagged 31 = .ok (.aload_n 0, 1) := by decide +kernel
theorem d_Md_readTagged_32 : decode b_Md_readTagged 32 = .ok (.getfield 137, 3) := by decide +kernel
theorem d_Md_readTagged_35 : decode b_Md_readTagged 35 = .ok (.ldc2_w 95, 3) := by decide +kernel
theorem d_Md_readTagged_38 : decode b_Md_readTagged 38 = .ok (.lrem, 1) := by decide +kernel
theorem d_Md_readTagged_39 : decode b_Md_readTagged 39 = .ok (.l2i, 1) := by decide +kernel
theorem d_Md_readTagged_40 : decode b_Md_readTagged 40 = .ok (.istore_n 1, 1) := by decide +kernel
theorem d_Md_readTagged_41 : decode b_Md_readTagged 41 = .ok (.aload_n 0, 1) := by decide +kernel
theorem d_Md_readTagged_42 : decode b_Md_readTagged 42 = .ok (.aload_n 0, 1) := by decide +kernel
theorem d_Md_readTagged_43 : decode b_Md_readTagged 43 = .ok (.getfield 137, 3) := by decide +kernel
theorem d_Md_readTagged_46 : decode b_Md_readTagged 46 = .ok (.ldc2_w 95, 3) := by decide +kernel
theorem d_Md_readTagged_49 : decode b_Md_readTagged 49 = .ok (.ldiv, 1) := by decide +kernel
theorem d_Md_readTagged_50 : decode b_Md_readTagged 50 = .ok (.l2i, 1) := by decide +kernel
theorem d_Md_readTagged_51 : decode b_Md_readTagged 51 = .ok (.iload_n 1, 1) := by decide +kernel
theorem d_Md_readTagged_52 : decode b_Md_readTagged 52 = .ok (.invokevirtual 147, 3) := by decide +kernel
theorem d_Md_readTagged_55 : decode b_Md_readTagged 55 = .ok (.istore_n 2, 1) := by decide +kernel
theorem d_Md_readTagged_56 : decode b_Md_readTagged 56 = .ok (.iload_n 1, 1) := by decide +kernel
theorem d_Md_readTagged_57 : decode b_Md_readTagged 57 = .ok (.ifCond .ne (40), 3) := by decide +kernel
theorem d_Md_readTagged_60 : decode b_Md_readTagged 60 = .ok (.aload_n 0, 1) := by decide +kernel
theorem d_Md_readTagged_61 : decode b_Md_readTagged 61 = .ok (.invokevirtual 143, 3) := by decide +kernel
theorem d_Md_readTagged_64 : decode b_Md_readTagged 64 = .ok (.ifCond .eq (31), 3) := by decide +kernel
theorem d_Md_readTagged_67 : decode b_Md_readTagged 67 = .ok (.iload_n 2, 1) := by decide +kernel
theorem d_Md_readTagged_68 : decode b_Md_readTagged 68 = .ok (.ifCond .lt (23), 3) := by decide +kernel
theorem d_Md_readTagged_71 : decode b_Md_readTagged 71 = .ok (.aload_n 0, 1) := by decide +kernel
theorem d_Md_readTagged_72 : decode b_Md_readTagged 72 = .ok (.iconst 4, 1) := by decide +kernel
theorem d_Md_readTagged_73 : decode b_Md_readTagged 73 = .ok (.iload_n 2, 1) := by decide +kernel
theorem d_Md_readTagged_74 : decode b_Md_readTagged 74 = .ok (.iadd, 1) := by decide +kernel
theorem d_Md_readTagged_75 : decode b_Md_readTagged 75 = .ok (.aload_n 0, 1) := by decide +kernel
theorem d_Md_readTagged_76 : decode b_Md_readTagged 76 = .ok (.aload_n 0, 1) := by decide +kernel
theorem d_Md_readTagged_77 : decode b_Md_readTagged 77 = .ok (.getfield 13, 3) := by decide +kernel
theorem d_Md_readTagged_80 : decode b_Md_readTagged 80 = .ok (.iload_n 2, 1) := by decide +kernel
theorem d_Md_readTagged_81 : decode b_Md_readTagged 81 = .ok (.iaload, 1) := by decide +kernel
theorem d_Md_readTagged_82 : decode b_Md_readTagged 82 = .ok (.invokevirtual 151, 3) := by decide +kernel
theorem d_Md_readTagged_85 : decode b_Md_readTagged 85 = .ok (.invokevirtual 83, 3) := by decide +kernel
theorem d_Md_readTagged_88 : decode b_Md_readTagged 88 = .ok (.ifCond .eq (7), 3) := by decide +kernel
theorem d_Md_readTagged_91 : decode b_Md_readTagged 91 = .ok (.iconst 1, 1) := by decide +kernel
theorem d_Md_readTagged_92 : decode b_Md_readTagged 92 = .ok (.goto (4), 3) := by decide +kernel
theorem d_Md_readTagged_95 : decode b_Md_readTagged 95 = .ok (.iconst 0, 1) := by decide +kernel
theorem d_Md_readTagged_96 : decode b_Md_readTagged 96 = .ok (.ireturn, 1) := by decide +kernel
theorem d_Md_readTagged_97 : decode b_Md_readTagged 97 = .ok (.iload_n 1, 1) := by decide +kernel
theorem d_Md_readTagged_98 : decode b_Md_readTagged 98 = .ok (.iconst 2, 1) := by decide +kernel
theorem d_Md_readTagged_99 : decode b_Md_readTagged 99 = .ok (.if_icmp .ne (12), 3) := by decide +kernel
theorem d_Md_readTagged_102 : decode b_Md_readTagged 102 = .ok (.aload_n 0, 1) := by decide +kernel
theorem d_Md_readTagged_103 : decode b_Md_readTagged 103 = .ok (.invokevirtual 143, 3) := by decide +kernel
theorem d_Md_readTagged_106 : decode b_Md_readTagged 106 = .ok (.ifCond .ne (5), 3) := by decide +kernel
theorem d_Md_readTagged_109 : decode b_Md_readTagged 109 = .ok (.iconst 0, 1) := by decide +kernel
theorem d_Md_readTagged_110 : decode b_Md_readTagged 110 = .ok (.ireturn, 1) := by decide +kernel
theorem d_Md_readTagged_111 : decode b_Md_readTagged 111 = .ok (.iload_n 1, 1) := by decide +kernel
theorem d_Md_readTagged_112 : decode b_Md_readTagged 112 = .ok (.iconst 1, 1) := by decide +kernel
theorem d_Md_readTagged_113 : decode b_Md_readTagged 113 = .ok (.if_icmp .eq (15), 3) := by decide +kernel
theorem d_Md_readTagged_116 : decode b_Md_readTagged 116 = .ok (.iload_n 1, 1) := by decide +kernel
theorem d_Md_readTagged_117 : decode b_Md_readTagged 117 = .ok (.iconst 2, 1) := by decide +kernel
theorem d_Md_readTagged_118 : decode b_Md_readTagged 118 = .ok (.if_icmp .eq (10), 3) := by decide +kernel
theorem d_Md_readTagged_121 : decode b_Md_readTagged 121 = .ok (.iload_n 1, 1) := by decide +kernel
theorem d_Md_readTagged_122 : decode b_Md_readTagged 122 = .ok (.iconst 5, 1) := by decide +kernel
theorem d_Md_readTagged_123 : decode b_Md_readTagged 123 = .ok (.if_icmp .eq (5), 3) := by decide +kernel
theorem d_Md_readTagged_126 : decode b_Md_readTagged 126 = .ok (.iconst 0, 1) := by decide +kernel
theorem d_Md_readTagged_127 : decode b_Md_readTagged 127 = .ok (.ireturn, 1) := by decide +kernel
theorem d_Md_readTagged_128 : decode b_Md_readTagged 128 = .ok (.iload_n 1, 1) := by decide +kernel
theorem d_Md_readTagged_129 : decode b_Md_readTagged 129 = .ok (.iconst 1, 1) := by decide +kernel
theorem d_Md_readTagged_130 : decode b_Md_readTagged 130 = .ok (.if_icmp .ne (9), 3) := by decide +kernel
theorem d_Md_readTagged_133 : decode b_Md_readTagged 133 = .ok (.ldc2_w 95, 3) := by decide +kernel
theorem d_Md_readTagged_136 : decode b_Md_readTagged 136 = .ok (.goto (18), 3) := by decide +kernel
theorem d_Md_readTagged_139 : decode b_Md_readTagged 139 = .ok (.iload_n 1, 1) := by decide +kernel
theorem d_Md_readTagged_140 : decode b_Md_readTagged 140 = .ok (.iconst 5, 1) := by decide +kernel
theorem d_Md_readTagged_141 : decode b_Md_readTagged 141 = .ok (.if_icmp .ne (9), 3) := by decide +kernel
theorem d_Md_readTagged_144 : decode b_Md_readTagged 144 = .ok (.ldc2_w 155, 3) := by decide +kernel
theorem d_Md_readTagged_147 : decode b_Md_readTagged 147 = .ok (.goto (7), 3) := by decide +kernel
theorem d_Md_readTagged_150 : decode b_Md_readTagged 150 = .ok (.aload_n 0, 1) := by decide +kernel
theorem d_Md_readTagged_151 : decode b_Md_readTagged 151 = .ok (.getfield 137, 3) := by decide +kernel
theorem d_Md_readTagged_154 : decode b_Md_readTagged 154 = .ok (.lstore_n 3, 1) := by decide +kernel
theorem d_Md_readTagged_155 : decode b_Md_readTagged 155 = .ok (.lload_n 3, 1) := by decide +kernel
theorem d_Md_readTagged_156 : decode b_Md_readTagged 156 = .ok (.lconst 0, 1) := by decide +kernel
theorem d_Md_readTagged_157 : decode b_Md_readTagged 157 = .ok (.lcmp, 1) := by decide +kernel
theorem d_Md_readTagged_158 : decode b_Md_readTagged 158 = .ok (.ifCond .lt (18), 3) := by decide +kernel
theorem d_Md_readTagged_161 : decode b_Md_readTagged 161 = .ok (.lload_n 3, 1) := by decide +kernel
theorem d_Md_readTagged_162 : decode b_Md_readTagged 162 = .ok (.aload_n 0, 1) := by decide +kernel
theorem d_Md_readTagged_163 : decode b_Md_readTagged 163 = .ok (.getfield 87, 3) := by decide +kernel
theorem d_Md_readTagged_166 : decode b_Md_readTagged 166 = .ok (.aload_n 0, 1) := by decide +kernel
theorem d_Md_readTagged_167 : decode b_Md_readTagged 167 = .ok (.getfield 134, 3) := by decide +kernel
theorem d_Md_readTagged_170 : decode b_Md_readTagged 170 = .ok (.isub, 1) := by decide +kernel
theorem d_Md_readTagged_171 : decode b_Md_readTagged 171 = .ok (.i2l, 1) := by decide +kernel
theorem d_Md_readTagged_172 : decode b_Md_readTagged 172 = .ok (.lcmp, 1) := by decide +kernel
theorem d_Md_readTagged_173 : decode b_Md_readTagged 173 = .ok (.ifCond .le (5), 3) := by decide +kernel
theorem d_Md_readTagged_176 : decode b_Md_readTagged 176 = .ok (.iconst 0, 1) := by decide +kernel
theorem d_Md_readTagged_177 : decode b_Md_readTagged 177 = .ok (.ireturn, 1) := by decide +kernel
theorem d_Md_readTagged_178 : decode b_Md_readTagged 178 = .ok (.lload_n 3, 1) := by decide +kernel
theorem d_Md_readTagged_179 : decode b_Md_readTagged 179 = .ok (.ldc2_w 155, 3) := by decide +kernel
theorem d_Md_readTagged_182 : decode b_Md_readTagged 182 = .ok (.lcmp, 1) := by decide +kernel
theorem d_Md_readTagged_183 : decode b_Md_readTagged 183 = .ok (.ifCond .lt (60), 3) := by decide +kernel
theorem d_Md_readTagged_186 : decode b_Md_readTagged 186 = .ok (.aload_n 0, 1) := by decide +kernel
theorem d_Md_readTagged_187 : decode b_Md_readTagged 187 = .ok (.getfield 26, 3) := by decide +kernel
theorem d_Md_readTagged_190 : decode b_Md_readTagged 190 = .ok (.aload_n 0, 1) := by decide +kernel
theorem d_Md_readTagged_191 : decode b_Md_readTagged 191 = .ok (.getfield 134, 3) := by decide +kernel
theorem d_Md_readTagged_194 : decode b_Md_readTagged 194 = .ok (.iconst 3, 1) := by decide +kernel
theorem d_Md_readTagged_195 : decode b_Md_readTagged 195 = .ok (.iadd, 1) := by decide +kernel
theorem d_Md_readTagged_196 : decode b_Md_readTagged 196 = .ok (.iaload, 1) := by decide +kernel
theorem d_Md_readTagged_197 : decode b_Md_readTagged 197 = .ok (.bipush 24, 2) := by decide +kernel
theorem d_Md_readTagged_199 : decode b_Md_readTagged 199 = .ok (.ishl, 1) := by decide +kernel
theorem d_Md_readTagged_200 : decode b_Md_readTagged 200 = .ok (.aload_n 0, 1) := by decide +kernel
theorem d_Md_readTagged_201 : decode b_Md_readTagged 201 = .ok (.getfield 26, 3) := by decide +kernel
theorem d_Md_readTagged_204 : decode b_Md_readTagged 204 = .ok (.aload_n 0, 1) := by decide +kernel
theorem d_Md_readTagged_205 : decode b_Md_readTagged 205 = .ok (.getfield 134, 3) := by decide +kernel
theorem d_Md_readTagged_208 : decode b_Md_readTagged 208 = .ok (.iconst 2, 1) := by decide +kernel
theorem d_Md_readTagged_209 : decode b_Md_readTagged 209 = .ok (.iadd, 1) := by decide +kernel
theorem d_Md_readTagged_210 : decode b_Md_readTagged 210 = .ok (.iaload, 1) := by decide +kernel
theorem d_Md_readTagged_211 : decode b_Md_readTagged 211 = .ok (.bipush 16, 2) := by decide +kernel
theorem d_Md_readTagged_213 : decode b_Md_readTagged 213 = .ok (.ishl, 1) := by decide +kernel
theorem d_Md_readTagged_214 : decode b_Md_readTagged 214 = .ok (.ior, 1) := by decide +kernel
theorem d_Md_readTagged_215 : decode b_Md_readTagged 215 = .ok (.aload_n 0, 1) := by decide +kernel
theorem d_Md_readTagged_216 : decode b_Md_readTagged 216 = .ok (.getfield 26, 3) := by decide +kernel
theorem d_Md_readTagged_219 : decode b_Md_readTagged 219 = .ok (.aload_n 0, 1) := by decide +kernel
theorem d_Md_readTagged_220 : decode b_Md_readTagged 220 = .ok (.getfield 134, 3) := by decide +kernel
theorem d_Md_readTagged_223 : decode b_Md_readTagged 223 = .ok (.iconst 1, 1) := by decide +kernel
theorem d_Md_readTagged_224 : decode b_Md_readTagged 224 = .ok (.iadd, 1) := by decide +kernel
theorem d_Md_readTagged_225 : decode b_Md_readTagged 225 = .ok (.iaload, 1) := by decide +kernel
theorem d_Md_readTagged_226 : decode b_Md_readTagged 226 = .ok (.bipush 8, 2) := by decide +kernel
theorem d_Md_readTagged_228 : decode b_Md_readTagged 228 = .ok (.ishl, 1) := by decide +kernel
theorem d_Md_readTagged_229 : decode b_Md_readTagged 229 = .ok (.ior, 1) := by decide +kernel
theorem d_Md_readTagged_230 : decode b_Md_readTagged 230 = .ok (.aload_n 0, 1) := by decide +kernel
theorem d_Md_readTagged_231 : decode b_Md_readTagged 231 = .ok (.getfield 26, 3) := by decide +kernel
theorem d_Md_readTagged_234 : decode b_Md_readTagged 234 = .ok (.aload_n 0, 1) := by decide +kernel
theorem d_Md_readTagged_235 : decode b_Md_readTagged 235 = .ok (.getfield 134, 3) := by decide +kernel
theorem d_Md_readTagged_238 : decode b_Md_readTagged 238 = .ok (.iaload, 1) := by decide +kernel
theorem d_Md_readTagged_239 : decode b_Md_readTagged 239 = .ok (.ior, 1) := by decide +kernel
theorem d_Md_readTagged_240 : decode b_Md_readTagged 240 = .ok (.goto (4), 3) := by decide +kernel
theorem d_Md_readTagged_243 : decode b_Md_readTagged 243 = .ok (.iconst 0, 1) := by decide +kernel
theorem d_Md_readTagged_244 : decode b_Md_readTagged 244 = .ok (.istore 5, 2) := by decide +kernel
theorem d_Md_readTagged_246 : decode b_Md_readTagged 246 = .ok (.aload_n 0, 1) := by decide +kernel
theorem d_Md_readTagged_247 : decode b_Md_readTagged 247 = .ok (.aload_n 0, 1) := by decide +kernel
theorem d_Md_readTagged_248 : decode b_Md_readTagged 248 = .ok (.getfield 134, 3) := by decide +kernel
theorem d_Md_readTagged_251 : decode b_Md_readTagged 251 = .ok (.lload_n 3, 1) := by decide +kernel
theorem d_Md_readTagged_252 : decode b_Md_readTagged 252 = .ok (.l2i, 1) := by decide +kernel
theorem d_Md_readTagged_253 : decode b_Md_readTagged 253 = .ok (.iadd, 1) := by decide +kernel
theorem d_Md_readTagged_254 : decode b_Md_readTagged 254 = .ok (.putfield 134, 3) := by decide +kernel
theorem d_Md_readTagged_257 : decode b_Md_readTagged 257 = .ok (.iload_n 2, 1) := by decide +kernel
theorem d_Md_readTagged_258 : decode b_Md_readTagged 258 = .ok (.ifCond .lt (15), 3) := by decide +kernel
theorem d_Md_readTagged_261 : decode b_Md_readTagged 261 = .ok (.aload_n 0, 1) := by decide +kernel
theorem d_Md_readTagged_262 : decode b_Md_readTagged 262 = .ok (.iconst 4, 1) := by decide +kernel
theorem d_Md_readTagged_263 : decode b_Md_readTagged 263 = .ok (.iload_n 2, 1) := by decide +kernel
theorem d_Md_readTagged_264 : decode b_Md_readTagged 264 = .ok (.iadd, 1) := by decide +kernel
theorem d_Md_readTagged_265 : decode b_Md_readTagged 265 = .ok (.iload 5, 2) := by decide +kernel
theorem d_Md_readTagged_267 : decode b_Md_readTagged 267 = .ok (.invokevirtual 83, 3) := by decide +kernel
theorem d_Md_readTagged_270 : decode b_Md_readTagged 270 = .ok (.ifCond .eq (7), 3) := by decide +kernel
theorem d_Md_readTagged_273 : decode b_Md_readTagged 273 = .ok (.iconst 1, 1) := by decide +kernel
theorem d_Md_readTagged_274 : decode b_Md_readTagged 274 = .ok (.goto (4), 3) := by decide +kernel
theorem d_Md_readTagged_277 : decode b_Md_readTagged 277 = .ok (.iconst 0, 1) := by decide +kernel
theorem d_Md_readTagged_278 : decode b_Md_readTagged 278 = .ok (.ireturn, 1) := by decide +kernel
theorem d_Md_readTaggedBody_0 : decode b_Md_readTaggedBody 0 = .ok (.aload_n 0, 1) := by decide +kernel
theorem d_Md_readTaggedBody_1 : decode b_Md_readTaggedBody 1 = .ok (.getfield 134, 3) := by decide +kernel
theorem d_Md_readTaggedBody_4 : decode b_Md_readTaggedBody 4 = .ok (.aload_n 0, 1) := by decide +kernel
theorem d_Md_readTaggedBody_5 : decode b_Md_readTaggedBody 5 = .ok (.getfield 87, 3) := by decide +kernel
theorem d_Md_readTaggedBody_8 : decode b_Md_readTaggedBody 8 = .ok (.if_icmp .ge (12), 3) := by decide +kernel
theorem d_Md_readTaggedBody_11 : decode b_Md_readTaggedBody 11 = .ok (.aload_n 0, 1) := by decide +kernel
theorem d_Md_readTaggedBody_12 : decode b_Md_readTaggedBody 12 = .ok (.invokevirtual 157, 3) := by decide +kernel
theorem d_Md_readTaggedBody_15 : decode b_Md_readTaggedBody 15 = .ok (.ifCond .ne (-15), 3) := by decide +kernel
theorem d_Md_readTaggedBody_18 : decode b_Md_readTaggedBody 18 = .ok (.iconst 0, 1) := by decide +kernel
theorem d_Md_readTaggedBody_19 : decode b_Md_readTaggedBody 19 = .ok (.ireturn, 1) := by decide +kernel
theorem d_Md_readTaggedBody_20 : decode b_Md_readTaggedBody 20 = .ok (.iconst 1, 1) := by decide +kernel
theorem d_Md_readTaggedBody_21 : decode b_Md_readTaggedBody 21 = .ok (.ireturn, 1) := by decide +kernel
theorem d_Md_readWords_0 : decode b_Md_readWords 0 = .ok (.iconst 0, 1) := by decide +kernel
theorem d_Md_readWords_1 : decode b_Md_readWords 1 = .ok (.istore_n 1, 1) := by decide +kernel
theorem d_Md_readWords_2 : decode b_Md_readWords 2 = .ok (.iload_n 1, 1) := by decide +kernel
theorem d_Md_readWords_3 : decode b_Md_readWords 3 = .ok (.aload_n 0, 1) := by decide +kernel
theorem d_Md_readWords_4 : decode b_Md_readWords 4 = .ok (.getfield 75, 3) := by decide +kernel
theorem d_Md_readWords_7 : decode b_Md_readWords 7 = .ok (.if_icmp .ge (156), 3) := by decide +kernel
theorem d_Md_readWords_10 : decode b_Md_readWords 10 = .ok (.iconst 1, 1) := by decide +kernel
theorem d_Md_readWords_11 : decode b_Md_readWords 11 = .ok (.istore_n 2, 1) := by decide +kernel
theorem d_Md_readWords_12 : decode b_Md_readWords 12 = .ok (.aload_n 0, 1) := by decide +kernel
theorem d_Md_readWords_13 : decode b_Md_readWords 13 = .ok (.getfield 16, 3) := by decide +kernel
theorem d_Md_readWords_16 : decode b_Md_readWords 16 = .ok (.iload_n 1, 1) := by decide +kernel
theorem d_Md_readWords_17 : decode b_Md_readWords 17 = .ok (.baload, 1) := by decide +kernel
theorem d_Md_readWords_18 : decode b_Md_readWords 18 = .ok (.ifCond .eq (39), 3) := by decide +kernel
theorem d_Md_readWords_21 : decode b_Md_readWords 21 = .ok (.aload_n 0, 1) := by decide +kernel
theorem d_Md_readWords_22 : decode b_Md_readWords 22 = .ok (.getfield 87, 3) := by decide +kernel
theorem d_Md_readWords_25 : decode b_Md_readWords 25 = .ok (.aload_n 0, 1) := by decide +kernel
theorem d_Md_readWords_26 : decode b_Md_readWords 26 = .ok (.getfield 134, 3) := by decide +kernel
theorem d_Md_readWords_29 : decode b_Md_readWords 29 = .ok (.isub, 1) := by decide +kernel
theorem d_Md_readWords_30 : decode b_Md_readWords 30 = .ok (.iconst 4, 1) := by decide +kernel
theorem d_Md_readWords_31 : decode b_Md_readWords 31 = .ok (.if_icmp .ge (7), 3) := by decide +kernel
theorem d_Md_readWords_34 : decode b_Md_readWords 34 = .ok (.iconst (-1), 1) := by decide +kernel
theorem d_Md_readWords_35 : decode b_Md_readWords 35 = .ok (.goto (11), 3) := by decide +kernel
theorem d_Md_readWords_38 : decode b_Md_readWords 38 = .ok (.aload_n 0, 1) := by decide +kernel
theorem d_Md_readWords_39 : decode b_Md_readWords 39 = .ok (.aload_n 0, 1) := by decide +kernel
theorem d_Md_readWords_40 : decode b_Md_readWords 40 = .ok (.getfield 134, 3) := by decide +kernel
theorem d_Md_readWords_43 : decode b_Md_readWords 43 = .ok (.invokevirtual 160, 3) := by decide +kernel
theorem d_Md_readWords_46 : decode b_Md_readWords 46 = .ok (.istore_n 2, 1) := by decide +kernel
theorem d_Md_readWords_47 : decode b_Md_readWords 47 = .ok (.aload_n 0, 1) := by decide +kernel
theorem d_Md_readWords_48 : decode b_Md_readWords 48 = .ok (.aload_n 0, 1) := by decide +kernel
theorem d_Md_readWords_49 : decode b_Md_readWords 49 = .ok (.getfield 134, 3) := by decide +kernel
theorem d_Md_readWords_52 : decode b_Md_readWords 52 = .ok (.iconst 4, 1) := by decide +kernel
theorem d_Md_readWords_53 : decode b_Md_readWords 53 = .ok (.iadd, 1) := by decide +kernel
theorem d_Md_readWords_54 : decode b_Md_readWords 54 = .ok (.putfield 134, 3) := by decide +kernel
theorem d_Md_readWords_57 : decode b_Md_readWords 57 = .ok (.iload_n 2, 1) := by decide +kernel
theorem d_Md_readWords_58 : decode b_Md_readWords 58 = .ok (.ifCond .lt (8), 3) := by decide +kernel
theorem d_Md_readWords_61 : decode b_Md_readWords 61 = .ok (.iload_n 2, 1) := by decide +kernel
theorem d_Md_readWords_62 : decode b_Md_readWords 62 = .ok (.iconst 4, 1) := by decide +kernel
theorem d_Md_readWords_63 : decode b_Md_readWords 63 = .ok (.if_icmp .le (5), 3) := by decide +kernel
theorem d_Md_readWords_66 : decode b_Md_readWords 66 = .ok (.iconst 0, 1) := by decide +kernel
theorem d_Md_readWords_67 : decode b_Md_readWords 67 = .ok (.ireturn, 1) := by decide +kernel
theorem d_Md_readWords_68 : decode b_Md_readWords 68 = .ok (.iconst 0, 1) := by decide +kernel
theorem d_Md_readWords_69 : decode b_Md_readWords 69 = .ok (.istore_n 3, 1) := by decide +kernel
theorem d_Md_readWords_70 : decode b_Md_readWords 70 = .ok (.iload_n 3, 1) := by decide +kernel
theorem d_Md_readWords_71 : decode b_Md_readWords 71 = .ok (.iload_n 2, 1) := by decide +kernel
theorem d_Md_readWords_72 : decode b_Md_readWords 72 = .ok (.if_icmp .ge (85), 3) := by decide +kernel
theorem d_Md_readWords_75 : decode b_Md_readWords 75 = .ok (.aload_n 0, 1) := by decide +kernel
theorem d_Md_readWords_76 : decode b_Md_readWords 76 = .ok (.getfield 87, 3) := by decide +kernel
theorem d_Md_readWords_79 : decode b_Md_readWords 79 = .ok (.aload_n 0, 1) := by decide +kernel
theorem d_Md_readWords_80 : decode b_Md_readWords 80 = .ok (.getfield 134, 3) := by decide +kernel
theorem d_Md_readWords_83 : decode b_Md_readWords 83 = .ok (.isub, 1) := by decide +kernel
theorem d_Md_readWords_84 : decode b_Md_readWords 84 = .ok (.iconst 4, 1) := by decide +kernel
theorem d_Md_readWords_85 : decode b_Md_readWords 85 = .ok (.if_icmp .ge (5), 3) := by decide +kernel
theorem d_Md_readWords_88 : decode b_Md_readWords 88 = .ok (.iconst 0, 1) := by decide +kernel
theorem d_Md_readWords_89 : decode b_Md_readWords 89 = .ok (.ireturn, 1) := by decide +kernel
theorem d_Md_readWords_90 : decode b_Md_readWords 90 = .ok (.aload_n 0, 1) := by decide +kernel
theorem d_Md_readWords_91 : decode b_Md_readWords 91 = .ok (.aload_n 0, 1) := by decide +kernel
theorem d_Md_readWords_92 : decode b_Md_readWords 92 = .ok (.getfield 134, 3) := by decide +kernel
theorem d_Md_readWords_95 : decode b_Md_readWords 95 = .ok (.invokevirtual 160, 3) := by decide +kernel
theorem d_Md_readWords_98 : decode b_Md_readWords 98 = .ok (.istore 4, 2) := by decide +kernel
theorem d_Md_readWords_100 : decode b_Md_readWords 100 = .ok (.aload_n 0, 1) := by decide +kernel
theorem d_Md_readWords_101 : decode b_Md_readWords 101 = .ok (.aload_n 0, 1) := by decide +kernel
theorem d_Md_readWords_102 : decode b_Md_readWords 102 = .ok (.getfield 134, 3) := by decide +kernel
theorem d_Md_readWords_105 : decode b_Md_readWords 105 = .ok (.iconst 4, 1) := by decide +kernel
theorem d_Md_readWords_106 : decode b_Md_readWords 106 = .ok (.iadd, 1) := by decide +kernel
theorem d_Md_readWords_107 : decode b_Md_readWords 107 = .ok (.putfield 134, 3) := by decide +kernel
theorem d_Md_readWords_110 : decode b_Md_readWords 110 = .ok (.aload_n 0, 1) := by decide +kernel
theorem d_Md_readWords_111 : decode b_Md_readWords 111 = .ok (.getfield 13, 3) := by decide +kernel
theorem d_Md_readWords_114 : decode b_Md_readWords 114 = .ok (.iload_n 1, 1) := by decide +kernel
theorem d_Md_readWords_115 : decode b_Md_readWords 115 = .ok (.iaload, 1) := by decide +kernel
theorem d_Md_readWords_116 : decode b_Md_readWords 116 = .ok (.iconst 3, 1) := by decide +kernel
theorem d_Md_readWords_117 : decode b_Md_readWords 117 = .ok (.if_icmp .ne (16), 3) := by decide +kernel
theorem d_Md_readWords_120 : decode b_Md_readWords 120 = .ok (.iload 4, 2) := by decide +kernel
theorem d_Md_readWords_122 : decode b_Md_readWords 122 = .ok (.ifCond .eq (11), 3) := by decide +kernel
theorem d_Md_readWords_125 : decode b_Md_readWords 125 = .ok (.iload 4, 2) := by decide +kernel
theorem d_Md_readWords_127 : decode b_Md_readWords 127 = .ok (.iconst 1, 1) := by decide +kernel
theorem d_Md_readWords_128 : decode b_Md_readWords 128 = .ok (.if_icmp .eq (5), 3) := by decide +kernel
theorem d_Md_readWords_131 : decode b_Md_readWords 131 = .ok (.iconst 0, 1) := by decide +kernel
theorem d_Md_readWords_132 : decode b_Md_readWords 132 = .ok (.ireturn, 1) := by decide +kernel
theorem d_Md_readWords_133 : decode b_Md_readWords 133 = .ok (.aload_n 0, 1) := by decide +kernel
theorem d_Md_readWords_134 : decode b_Md_readWords 134 = .ok (.iconst 4, 1) := by decide +kernel
theorem d_Md_readWords_135 : decode b_Md_readWords 135 = .ok (.iload_n 1, 1) := by decide +kernel
theorem d_Md_readWords_136 : decode b_Md_readWords 136 = .ok (.iadd, 1) := by decide +kernel
theorem d_Md_readWords_137 : decode b_Md_readWords 137 = .ok (.iload 4, 2) := by decide +kernel
theorem d_Md_readWords_139 : decode b_Md_readWords 139 = .ok (.invokevirtual 83, 3) := by decide +kernel
theorem d_Md_readWords_142 : decode b_Md_readWords 142 = .ok (.istore 5, 2) := by decide +kernel
theorem d_Md_readWords_144 : decode b_Md_readWords 144 = .ok (.iload 5, 2) := by decide +kernel
theorem d_Md_readWords_146 : decode b_Md_readWords 146 = .ok (.ifCond .ne (5), 3) := by decide +kernel
theorem d_Md_readWords_149 : decode b_Md_readWords 149 = .ok (.iconst 0, 1) := by decide +kernel
theorem d_Md_readWords_150 : decode b_Md_readWords 150 = .ok (.ireturn, 1) := by decide +kernel
theorem d_Md_readWords_151 : decode b_Md_readWords 151 = .ok (.iinc 3 (1), 3) := by decide +kernel
theorem d_Md_readWords_154 : decode b_Md_readWords 154 = .ok (.goto (-84), 3) := by decide +kernel
theorem d_Md_readWords_157 : decode b_Md_readWords 157 = .ok (.iinc 1 (1), 3) := by decide +kernel
theorem d_Md_readWords_160 : decode b_Md_readWords 160 = .ok (.goto (-158), 3) := by decide +kernel
theorem d_Md_readWords_163 : decode b_Md_readWords 163 = .ok (.aload_n 0, 1) := by decide +kernel
theorem d_Md_readWords_164 : decode b_Md_readWords 164 = .ok (.getfield 134, 3) := by decide +kernel
theorem d_Md_readWords_167 : decode b_Md_readWords 167 = .ok (.aload_n 0, 1) := by decide +kernel
theorem d_Md_readWords_168 : decode b_Md_readWords 168 = .ok (.getfield 87, 3) := by decide +kernel
theorem d_Md_readWords_171 : decode b_Md_readWords 171 = .ok (.if_icmp .ne (7), 3) := by decide +kernel
theorem d_Md_readWords_174 : decode b_Md_readWords 174 = .ok (.iconst 1, 1) := by decide +kernel
theorem d_Md_readWords_175 : decode b_Md_readWords 175 = .ok (.goto (4), 3) := by decide +kernel
theorem d_Md_readWords_178 : decode b_Md_readWords 178 = .ok (.iconst 0, 1) := by decide +kernel
theorem d_Md_readWords_179 : decode b_Md_readWords 179 = .ok (.ireturn, 1) := by decide +kernel
theorem d_Md_readBody_0 : decode b_Md_readBody 0 = .ok (.iconst 0, 1) := by decide +kernel
theorem d_Md_readBody_1 : decode b_Md_readBody 1 = .ok (.istore_n 1, 1) := by decide +kernel
theorem d_Md_readBody_2 : decode b_Md_readBody 2 = .ok (.iload_n 1, 1) := by decide +kernel
theorem d_Md_readBody_3 : decode b_Md_readBody 3 = .ok (.aload_n 0, 1) := by decide +kernel
theorem d_Md_readBody_4 : decode b_Md_readBody 4 = .ok (.getfield 75, 3) := by decide +kernel
theorem d_Md_readBody_7 : decode b_Md_readBody 7 = .ok (.if_icmp .ge (16), 3) := by decide +kernel
theorem d_Md_readBody_10 : decode b_Md_readBody 10 = .ok (.aload_n 0, 1) := by decide +kernel
theorem d_Md_readBody_11 : decode b_Md_readBody 11 = .ok (.iconst 4, 1) := by decide +kernel
theorem d_Md_readBody_12 : decode b_Md_readBody 12 = .ok (.iload_n 1, 1) := by decide +kernel
theorem d_Md_readBody_13 : decode b_Md_readBody 13 = .ok (.iadd, 1) := by decide +kernel
theorem d_Md_readBody_14 : decode b_Md_readBody 14 = .ok (.invokevirtual 79, 3) := by decide +kernel
theorem d_Md_readBody_17 : decode b_Md_readBody 17 = .ok (.iinc 1 (1), 3) := by decide +kernel
theorem d_Md_readBody_20 : decode b_Md_readBody 20 = .ok (.goto (-18), 3) := by decide +kernel
theorem d_Md_readBody_23 : decode b_Md_readBody 23 = .ok (.aload_n 0, 1) := by decide +kernel
theorem d_Md_readBody_24 : decode b_Md_readBody 24 = .ok (.bipush 12, 2) := by decide +kernel
theorem d_Md_readBody_26 : decode b_Md_readBody 26 = .ok (.putfield 134, 3) := by decide +kernel
theorem d_Md_readBody_29 : decode b_Md_readBody 29 = .ok (.aload_n 0, 1) := by decide +kernel
theorem d_Md_readBody_30 : decode b_Md_readBody 30 = .ok (.getfield 71, 3) := by decide +kernel
theorem d_Md_readBody_33 : decode b_Md_readBody 33 = .ok (.ifCond .eq (10), 3) := by decide +kernel
theorem d_Md_readBody_36 : decode b_Md_readBody 36 = .ok (.aload_n 0, 1) := by decide +kernel
theorem d_Md_readBody_37 : decode b_Md_readBody 37 = .ok (.invokevirtual 163, 3) := by decide +kernel
theorem d_Md_readBody_40 : decode b_Md_readBody 40 = .ok (.goto (7), 3) := by decide +kernel
theorem d_Md_readBody_43 : decode b_Md_readBody 43 = .ok (.aload_n 0, 1) := by decide +kernel
theorem d_Md_readBody_44 : decode b_Md_readBody 44 = .ok (.invokevirtual 166, 3) := by decide +kernel
theorem d_Md_readBody_47 : decode b_Md_readBody 47 = .ok (.ireturn, 1) := by decide +kernel
theorem d_Md_sendReply_0 : decode b_Md_sendReply 0 = .ok (.aload_n 0, 1) := by decide +kernel
theorem d_Md_sendReply_1 : decode b_Md_sendReply 1 = .ok (.iconst 0, 1) := by decide +kernel
theorem d_Md_sendReply_2 : decode b_Md_sendReply 2 = .ok (.putfield 87, 3) := by decide +kernel
theorem d_Md_sendReply_5 : decode b_Md_sendReply 5 = .ok (.aload_n 0, 1) := by decide +kernel
theorem d_Md_sendReply_6 : decode b_Md_sendReply 6 = .ok (.iload_n 1, 1) := by decide +kernel
theorem d_Md_sendReply_7 : decode b_Md_sendReply 7 = .ok (.invokevirtual 109, 3) := by decide +kernel
theorem d_Md_sendReply_10 : decode b_Md_sendReply 10 = .ok (.aload_n 0, 1) := by decide +kernel
theorem d_Md_sendReply_11 : decode b_Md_sendReply 11 = .ok (.iconst 1, 1) := by decide +kernel
theorem d_Md_sendReply_12 : decode b_Md_sendReply 12 = .ok (.invokevirtual 109, 3) := by decide +kernel
theorem d_Md_sendReply_15 : decode b_Md_sendReply 15 = .ok (.aload_n 0, 1) := by decide +kernel
theorem d_Md_sendReply_16 : decode b_Md_sendReply 16 = .ok (.iload_n 2, 1) := by decide +kernel
theorem d_Md_sendReply_17 : decode b_Md_sendReply 17 = .ok (.invokevirtual 109, 3) := by decide +kernel
theorem d_Md_sendReply_20 : decode b_Md_sendReply 20 = .ok (.iload_n 2, 1) := by decide +kernel
theorem d_Md_sendReply_21 : decode b_Md_sendReply 21 = .ok (.ifCond .ne (8), 3) := by decide +kernel
theorem d_Md_sendReply_24 : decode b_Md_sendReply 24 = .ok (.aload_n 0, 1) := by decide +kernel
theorem d_Md_sendReply_25 : decode b_Md_sendReply 25 = .ok (.iload_n 3, 1) := by decide +kernel
theorem d_Md_sendReply_26 : decode b_Md_sendReply 26 = .ok (.invokevirtual 109, 3) := by decide +kernel
theorem d_Md_sendReply_29 : decode b_Md_sendReply 29 = .ok (.aload_n 0, 1) := by decide +kernel
theorem d_Md_sendReply_30 : decode b_Md_sendReply 30 = .ok (.invokevirtual 169, 3) := by decide +kernel
theorem d_Md_sendReply_33 : decode b_Md_sendReply 33 = .ok (.aload_n 0, 1) := by decide +kernel
theorem d_Md_sendReply_34 : decode b_Md_sendReply 34 = .ok (.iconst 1, 1) := by decide +kernel
theorem d_Md_sendReply_35 : decode b_Md_sendReply 35 = .ok (.invokevirtual 129, 3) := by decide +kernel
theorem d_Md_sendReply_38 : decode b_Md_sendReply 38 = .ok (.return_, 1) := by decide +kernel
theorem d_Md_run_0 : decode b_Md_run 0 = .ok (.aload_n 0, 1) := by decide +kernel
theorem d_Md_run_1 : decode b_Md_run 1 = .ok (.getfield 172, 3) := by decide +kernel
theorem d_Md_run_4 : decode b_Md_run 4 = .ok (.istore_n 2, 1) := by decide +kernel
theorem d_Md_run_5 : decode b_Md_run 5 = .ok (.aload_n 0, 1) := by decide +kernel
theorem d_Md_run_6 : decode b_Md_run 6 = .ok (.invokevirtual 175, 3) := by decide +kernel
theorem d_Md_run_9 : decode b_Md_run 9 = .ok (.istore_n 3, 1) := by decide +kernel
theorem d_Md_run_10 : decode b_Md_run 10 = .ok (.aload_n 0, 1) := by decide +kernel
theorem d_Md_run_11 : decode b_Md_run 11 = .ok (.dup, 1) := by decide +kernel
theorem d_Md_run_12 : decode b_Md_run 12 = .ok (.getfield 179, 3) := by decide +kernel
theorem d_Md_run_15 : decode b_Md_run 15 = .ok (.iconst 1, 1) := by decide +kernel
theorem d_Md_run_16 : decode b_Md_run 16 = .ok (.iadd, 1) := by decide +kernel
theorem d_Md_run_17 : decode b_Md_run 17 = .ok (.putfield 179, 3) := by decide +kernel
theorem d_Md_run_20 : decode b_Md_run 20 = .ok (.aload_n 0, 1) := by decide +kernel
theorem d_Md_run_21 : decode b_Md_run 21 = .ok (.iload_n 1, 1) := by decide +kernel
theorem d_Md_run_22 : decode b_Md_run 22 = .ok (.iconst 1, 1) := by decide +kernel
theorem d_Md_run_23 : decode b_Md_run 23 = .ok (.if_icmp .ne (12), 3) := by decide +kernel
theorem d_Md_run_26 : decode b_Md_run 26 = .ok (.aload_n 0, 1) := by decide +kernel
theorem d_Md_run_27 : decode b_Md_run 27 = .ok (.getfield 172, 3) := by decide +kernel
theorem d_Md_run_30 : decode b_Md_run 30 = .ok (.iload_n 3, 1) := by decide +kernel
theorem d_Md_run_31 : decode b_Md_run 31 = .ok (.iadd, 1) := by decide +kernel
theorem d_Md_run_32 : decode b_Md_run 32 = .ok (.goto (16), 3) := by decide +kernel
theorem d_Md_run_35 : decode b_Md_run 35 = .ok (.iload_n 1, 1) := by decide +kernel
theorem d_Md_run_36 : decode b_Md_run 36 = .ok (.iconst 2, 1) := by decide +kernel
theorem d_Md_run_37 : decode b_Md_run 37 = .ok (.if_icmp .ne (7), 3) := by decide +kernel
theorem d_Md_run_40 : decode b_Md_run 40 = .ok (.iload_n 3, 1) := by decide +kernel
theorem d_Md_run_41 : decode b_Md_run 41 = .ok (.goto (7), 3) := by decide +kernel
theorem d_Md_run_44 : decode b_Md_run 44 = .ok (.aload_n 0, 1) := by decide +kernel
theorem d_Md_run_45 : decode b_Md_run 45 = .ok (.getfield 172, 3) := by decide +kernel
theorem d_Md_run_48 : decode b_Md_run 48 = .ok (.putfield 172, 3) := by decide +kernel
theorem d_Md_run_51 : decode b_Md_run 51 = .ok (.iload_n 1, 1) := by decide +kernel
theorem d_Md_run_52 : decode b_Md_run 52 = .ok (.ifCond .ne (7), 3) := by decide +kernel
theorem d_Md_run_55 : decode b_Md_run 55 = .ok (.iconst 0, 1) := by decide +kernel
theorem d_Md_run_56 : decode b_Md_run 56 = .ok (.goto (16), 3) := by decide +kernel
theorem d_Md_run_59 : decode b_Md_run 59 = .ok (.iload_n 1, 1) := by decide +kernel
theorem d_Md_run_60 : decode b_Md_run 60 = .ok (.iconst 2, 1) := by decide +kernel
theorem d_Md_run_61 : decode b_Md_run 61 = .ok (.if_icmp .ne (7), 3) := by decide +kernel
theorem d_Md_run_64 : decode b_Md_run 64 = .ok (.iload_n 2, 1) := by decide +kernel
theorem d_Md_run_65 : decode b_Md_run 65 = .ok (.goto (7), 3) := by decide +kernel
theorem d_Md_run_68 : decode b_Md_run 68 = .ok (.aload_n 0, 1) := by decide +kernel
theorem d_Md_run_69 : decode b_Md_run 69 = .ok (.getfield 172, 3) := by decide +kernel
theorem d_Md_run_72 : decode b_Md_run 72 = .ok (.ireturn, 1) := by decide +kernel
theorem d_Md_remember_0 : decode b_Md_remember 0 = .ok (.aload_n 0, 1) := by decide +kernel
theorem d_Md_remember_1 : decode b_Md_remember 1 = .ok (.getfield 182, 3) := by decide +kernel
theorem d_Md_remember_4 : decode b_Md_remember 4 = .ok (.iconst 4, 1) := by decide +kernel
theorem d_Md_remember_5 : decode b_Md_remember 5 = .ok (.if_icmp .ne (71), 3) := by decide +kernel
theorem d_Md_remember_8 : decode b_Md_remember 8 = .ok (.iconst 0, 1) := by decide +kernel
theorem d_Md_remember_9 : decode b_Md_remember 9 = .ok (.istore 4, 2) := by decide +kernel
theorem d_Md_remember_11 : decode b_Md_remember 11 = .ok (.iload 4, 2) := by decide +kernel
theorem d_Md_remember_13 : decode b_Md_remember 13 = .ok (.iconst 3, 1) := by decide +kernel
theorem d_Md_remember_14 : decode b_Md_remember 14 = .ok (.if_icmp .ge (57), 3) := by decide +kernel
theorem d_Md_remember_17 : decode b_Md_remember 17 = .ok (.aload_n 0, 1) := by decide +kernel
theorem d_Md_remember_18 : decode b_Md_remember 18 = .ok (.getfield 44, 3) := by decide +kernel
theorem d_Md_remember_21 : decode b_Md_remember 21 = .ok (.iload 4, 2) := by decide +kernel
theorem d_Md_remember_23 : decode b_Md_remember 23 = .ok (.aload_n 0, 1) := by decide +kernel
theorem d_Md_remember_24 : decode b_Md_remember 24 = .ok (.getfield 44, 3) := by decide +kernel
theorem d_Md_remember_27 : decode b_Md_remember 27 = .ok (.iload 4, 2) := by decide +kernel
theorem d_Md_remember_29 : decode b_Md_remember 29 = .ok (.iconst 1, 1) := by decide +kernel
theorem d_Md_remember_30 : decode b_Md_remember 30 = .ok (.iadd, 1) := by decide +kernel
theorem d_Md_remember_31 : decode b_Md_remember 31 = .ok (.iaload, 1) := by decide +kernel
theorem d_Md_remember_32 : decode b_Md_remember 32 = .ok (.iastore, 1) := by decide +kernel
theorem d_Md_remember_33 : decode b_Md_remember 33 = .ok (.aload_n 0, 1) := by decide +kernel
theorem d_Md_remember_34 : decode b_Md_remember 34 = .ok (.getfield 47, 3) := by decide +kernel
theorem d_Md_remember_37 : decode b_Md_remember 37 = .ok (.iload 4, 2) := by decide +kernel
theorem d_Md_remember_39 : decode b_Md_remember 39 = .ok (.aload_n 0, 1) := by decide +kernel
theorem d_Md_remember_40 : decode b_Md_remember 40 = .ok (.getfield 47, 3) := by decide +kernel
theorem d_Md_remember_43 : decode b_Md_remember 43 = .ok (.iload 4, 2) := by decide +kernel
theorem d_Md_remember_45 : decode b_Md_remember 45 = .ok (.iconst 1, 1) := by decide +kernel
theorem d_Md_remember_46 : decode b_Md_remember 46 = .ok (.iadd, 1) := by decide +kernel
theorem d_Md_remember_47 : decode b_Md_remember 47 = .ok (.iaload, 1) := by decide +kernel
theorem d_Md_remember_48 : decode b_Md_remember 48 = .ok (.iastore, 1) := by decide +kernel
theorem d_Md_remember_49 : decode b_Md_remember 49 = .ok (.aload_n 0, 1) := by decide +kernel
theorem d_Md_remember_50 : decode b_Md_remember 50 = .ok (.getfield 50, 3) := by decide +kernel
theorem d_Md_remember_53 : decode b_Md_remember 53 = .ok (.iload 4, 2) := by decide +kernel
theorem d_Md_remember_55 : decode b_Md_remember 55 = .ok (.aload_n 0, 1) := by decide +kernel
theorem d_Md_remember_56 : decode b_Md_remember 56 = .ok (.getfield 50, 3) := by decide +kernel
theorem d_Md_remember_59 : decode b_Md_remember 59 = .ok (.iload 4, 2) := by decide +kernel
theorem d_Md_remember_61 : decode b_Md_remember 61 = .ok (.iconst 1, 1) := by decide +kernel
theorem d_Md_remember_62 : decode b_Md_remember 62 = .ok (.iadd, 1) := by decide +kernel
theorem d_Md_remember_63 : decode b_Md_remember 63 = .ok (.iaload, 1) := by decide +kernel
theorem d_Md_remember_64 : decode b_Md_remember 64 = .ok (.iastore, 1) := by decide +kernel
theorem d_Md_remember_65 : decode b_Md_remember 65 = .ok (.iinc 4 (1), 3) := by decide +kernel
theorem d_Md_remember_68 : decode b_Md_remember 68 = .ok (.goto (-57), 3) := by decide +kernel
theorem d_Md_remember_71 : decode b_Md_remember 71 = .ok (.aload_n 0, 1) := by decide +kernel
theorem d_Md_remember_72 : decode b_Md_remember 72 = .ok (.iconst 3, 1) := by decide +kernel
theorem d_Md_remember_73 : decode b_Md_remember 73 = .ok (.putfield 182, 3) := by decide +kernel
theorem d_Md_remember_76 : decode b_Md_remember 76 = .ok (.aload_n 0, 1) := by decide +kernel
theorem d_Md_remember_77 : decode b_Md_remember 77 = .ok (.getfield 44, 3) := by decide +kernel
theorem d_Md_remember_80 : decode b_Md_remember 80 = .ok (.aload_n 0, 1) := by decide +kernel
theorem d_Md_remember_81 : decode b_Md_remember 81 = .ok (.getfield 182, 3) := by decide +kernel
theorem d_Md_remember_84 : decode b_Md_remember 84 = .ok (.iload_n 1, 1) := by decide +kernel
theorem d_Md_remember_85 : decode b_Md_remember 85 = .ok (.iastore, 1) := by decide +kernel
theorem d_Md_remember_86 : decode b_Md_remember 86 = .ok (.aload_n 0, 1) := by decide +kernel
theorem d_Md_remember_87 : decode b_Md_remember 87 = .ok (.getfield 47, 3) := by decide +kernel
theorem d_Md_remember_90 : decode b_Md_remember 90 = .ok (.aload_n 0, 1) := by decide +kernel
theorem d_Md_remember_91 : decode b_Md_remember 91 = .ok (.getfield 182, 3) := by decide +kernel
theorem d_Md_remember_94 : decode b_Md_remember 94 = .ok (.iload_n 2, 1) := by decide +kernel
theorem d_Md_remember_95 : decode b_Md_remember 95 = .ok (.iastore, 1) := by decide +kernel
theorem d_Md_remember_96 : decode b_Md_remember 96 = .ok (.aload_n 0, 1) := by decide +kernel
theorem d_Md_remember_97 : decode b_Md_remember 97 = .ok (.getfield 50, 3) := by decide +kernel
theorem d_Md_remember_100 : decode b_Md_remember 100 = .ok (.aload_n 0, 1) := by decide +kernel
theorem d_Md_remember_101 : decode b_Md_remember 101 = .ok (.getfield 182, 3) := by decide +kernel
theorem d_Md_remember_104 : decode b_Md_remember 104 = .ok (.iload_n 3, 1) := by decide +kernel
theorem d_Md_remember_105 : decode b_Md_remember 105 = .ok (.iastore, 1) := by decide +kernel
theorem d_Md_remember_106 : decode b_Md_remember 106 = .ok (.aload_n 0, 1) := by decide +kernel
theorem d_Md_remember_107 : decode b_Md_remember 107 = .ok (.dup, 1) := by decide +kernel
theorem d_Md_remember_108 : decode b_Md_remember 108 = .ok (.getfield 182, 3) := by decide +kernel
theorem d_Md_remember_111 : decode b_Md_remember 111 = .ok (.iconst 1, 1) := by decide +kernel
theorem d_Md_remember_112 : decode b_Md_remember 112 = .ok (.iadd, 1) := by decide +kernel
theorem d_Md_remember_113 : decode b_Md_remember 113 = .ok (.putfield 182, 3) := by decide +kernel
theorem d_Md_remember_116 : decode b_Md_remember 116 = .ok (.return_, 1) := by decide +kernel
end
section
theorem d_Md_serve_0 : decode b_Md_serve 0 = .ok (.aload_n 0, 1) := by decide +kernel
theorem d_Md_serve_1 : decode b_Md_serve 1 = .ok (.invokevirtual 185, 3) := by decide +kernel
theorem d_Md_serve_4 : decode b_Md_serve 4 = .ok (.ifCond .eq (12), 3) := by decide +kernel
theorem d_Md_serve_7 : decode b_Md_serve 7 = .ok (.aload_n 0, 1) := by decide +kernel
theorem d_Md_serve_8 : decode b_Md_serve 8 = .ok (.getfield 87, 3) := by decide +kernel
theorem d_Md_serve_11 : decode b_Md_serve 11 = .ok (.bipush 12, 2) := by decide +kernel
theorem d_Md_serve_13 : decode b_Md_serve 13 = .ok (.if_icmp .ge (6), 3) := by decide +kernel
theorem d_Md_serve_16 : decode b_Md_serve 16 = .ok (.bipush (-2), 2) := by decide +kernel
theorem d_Md_serve_18 : decode b_Md_serve 18 = .ok (.ireturn, 1) := by decide +kernel
theorem d_Md_serve_19 : decode b_Md_serve 19 = .ok (.aload_n 0, 1) := by decide +kernel
theorem d_Md_serve_20 : decode b_Md_serve 20 = .ok (.iconst 4, 1) := by decide +kernel
theorem d_Md_serve_21 : decode b_Md_serve 21 = .ok (.invokevirtual 160, 3) := by decide +kernel
theorem d_Md_serve_24 : decode b_Md_serve 24 = .ok (.ifCond .eq (6), 3) := by decide +kernel
theorem d_Md_serve_27 : decode b_Md_serve 27 = .ok (.bipush (-3), 2) := by decide +kernel
theorem d_Md_serve_29 : decode b_Md_serve 29 = .ok (.ireturn, 1) := by decide +kernel
theorem d_Md_serve_30 : decode b_Md_serve 30 = .ok (.aload_n 0, 1) := by decide +kernel
theorem d_Md_serve_31 : decode b_Md_serve 31 = .ok (.iconst 0, 1) := by decide +kernel
theorem d_Md_serve_32 : decode b_Md_serve 32 = .ok (.invokevirtual 160, 3) := by decide +kernel
theorem d_Md_serve_35 : decode b_Md_serve 35 = .ok (.istore_n 1, 1) := by decide +kernel
theorem d_Md_serve_36 : decode b_Md_serve 36 = .ok (.iconst 0, 1) := by decide +kernel
theorem d_Md_serve_37 : decode b_Md_serve 37 = .ok (.istore_n 2, 1) := by decide +kernel
theorem d_Md_serve_38 : decode b_Md_serve 38 = .ok (.iload_n 2, 1) := by decide +kernel
theorem d_Md_serve_39 : decode b_Md_serve 39 = .ok (.aload_n 0, 1) := by decide +kernel
theorem d_Md_serve_40 : decode b_Md_serve 40 = .ok (.getfield 182, 3) := by decide +kernel
theorem d_Md_serve_43 : decode b_Md_serve 43 = .ok (.if_icmp .ge (38), 3) := by decide +kernel
theorem d_Md_serve_46 : decode b_Md_serve 46 = .ok (.aload_n 0, 1) := by decide +kernel
theorem d_Md_serve_47 : decode b_Md_serve 47 = .ok (.getfield 44, 3) := by decide +kernel
theorem d_Md_serve_50 : decode b_Md_serve 50 = .ok (.iload_n 2, 1) := by decide +kernel
theorem d_Md_serve_51 : decode b_Md_serve 51 = .ok (.iaload, 1) := by decide +kernel
theorem d_Md_serve_52 : decode b_Md_serve 52 = .ok (.iload_n 1, 1) := by decide +kernel
theorem d_Md_serve_53 : decode b_Md_serve 53 = .ok (.if_icmp .ne (22), 3) := by decide +kernel
theorem d_Md_serve_56 : decode b_Md_serve 56 = .ok (.aload_n 0, 1) := by decide +kernel
theorem d_Md_serve_57 : decode b_Md_serve 57 = .ok (.iload_n 1, 1) := by decide +kernel
theorem d_Md_serve_58 : decode b_Md_serve 58 = .ok (.aload_n 0, 1) := by decide +kernel
theorem d_Md_serve_59 : decode b_Md_serve 59 = .ok (.getfield 47, 3) := by decide +kernel
theorem d_Md_serve_62 : decode b_Md_serve 62 = .ok (.iload_n 2, 1) := by decide +kernel
theorem d_Md_serve_63 : decode b_Md_serve 63 = .ok (.iaload, 1) := by decide +kernel
theorem d_Md_serve_64 : decode b_Md_serve 64 = .ok (.aload_n 0, 1) := by decide +kernel
theorem d_Md_serve_65 : decode b_Md_serve 65 = .ok (.getfield 50, 3) := by decide +kernel
theorem d_Md_serve_68 : decode b_Md_serve 68 = .ok (.iload_n 2, 1) := by decide +kernel
theorem d_Md_serve_69 : decode b_Md_serve 69 = .ok (.iaload, 1) := by decide +kernel
theorem d_Md_serve_70 : decode b_Md_serve 70 = .ok (.invokevirtual 188, 3) := by decide +kernel
theorem d_Md_serve_73 : decode b_Md_serve 73 = .ok (.iconst 1, 1) := by decide +kernel
theorem d_Md_serve_74 : decode b_Md_serve 74 = .ok (.ireturn, 1) := by decide +kernel
theorem d_Md_serve_75 : decode b_Md_serve 75 = .ok (.iinc 2 (1), 3) := by decide +kernel
theorem d_Md_serve_78 : decode b_Md_serve 78 = .ok (.goto (-40), 3) := by decide +kernel
theorem d_Md_serve_81 : decode b_Md_serve 81 = .ok (.aload_n 0, 1) := by decide +kernel
theorem d_Md_serve_82 : decode b_Md_serve 82 = .ok (.bipush 8, 2) := by decide +kernel
theorem d_Md_serve_84 : decode b_Md_serve 84 = .ok (.invokevirtual 160, 3) := by decide +kernel
theorem d_Md_serve_87 : decode b_Md_serve 87 = .ok (.istore_n 2, 1) := by decide +kernel
theorem d_Md_serve_88 : decode b_Md_serve 88 = .ok (.iload_n 2, 1) := by decide +kernel
theorem d_Md_serve_89 : decode b_Md_serve 89 = .ok (.ifCond .lt (8), 3) := by decide +kernel
theorem d_Md_serve_92 : decode b_Md_serve 92 = .ok (.iload_n 2, 1) := by decide +kernel
theorem d_Md_serve_93 : decode b_Md_serve 93 = .ok (.iconst 3, 1) := by decide +kernel
theorem d_Md_serve_94 : decode b_Md_serve 94 = .ok (.if_icmp .le (7), 3) := by decide +kernel
theorem d_Md_serve_97 : decode b_Md_serve 97 = .ok (.iconst 1, 1) := by decide +kernel
theorem d_Md_serve_98 : decode b_Md_serve 98 = .ok (.goto (15), 3) := by decide +kernel
theorem d_Md_serve_101 : decode b_Md_serve 101 = .ok (.aload_n 0, 1) := by decide +kernel
theorem d_Md_serve_102 : decode b_Md_serve 102 = .ok (.invokevirtual 192, 3) := by decide +kernel
theorem d_Md_serve_105 : decode b_Md_serve 105 = .ok (.ifCond .eq (7), 3) := by decide +kernel
theorem d_Md_serve_108 : decode b_Md_serve 108 = .ok (.iconst 0, 1) := by decide +kernel
theorem d_Md_serve_109 : decode b_Md_serve 109 = .ok (.goto (4), 3) := by decide +kernel
theorem d_Md_serve_112 : decode b_Md_serve 112 = .ok (.iconst 2, 1) := by decide +kernel
theorem d_Md_serve_113 : decode b_Md_serve 113 = .ok (.istore_n 3, 1) := by decide +kernel
theorem d_Md_serve_114 : decode b_Md_serve 114 = .ok (.iload_n 3, 1) := by decide +kernel
theorem d_Md_serve_115 : decode b_Md_serve 115 = .ok (.ifCond .ne (11), 3) := by decide +kernel
theorem d_Md_serve_118 : decode b_Md_serve 118 = .ok (.aload_n 0, 1) := by decide +kernel
theorem d_Md_serve_119 : decode b_Md_serve 119 = .ok (.iload_n 2, 1) := by decide +kernel
theorem d_Md_serve_120 : decode b_Md_serve 120 = .ok (.invokevirtual 195, 3) := by decide +kernel
theorem d_Md_serve_123 : decode b_Md_serve 123 = .ok (.goto (4), 3) := by decide +kernel
theorem d_Md_serve_126 : decode b_Md_serve 126 = .ok (.iconst 0, 1) := by decide +kernel
theorem d_Md_serve_127 : decode b_Md_serve 127 = .ok (.istore 4, 2) := by decide +kernel
theorem d_Md_serve_129 : decode b_Md_serve 129 = .ok (.aload_n 0, 1) := by decide +kernel
theorem d_Md_serve_130 : decode b_Md_serve 130 = .ok (.iload_n 1, 1) := by decide +kernel
theorem d_Md_serve_131 : decode b_Md_serve 131 = .ok (.iload_n 3, 1) := by decide +kernel
theorem d_Md_serve_132 : decode b_Md_serve 132 = .ok (.iload 4, 2) := by decide +kernel
theorem d_Md_serve_134 : decode b_Md_serve 134 = .ok (.invokevirtual 198, 3) := by decide +kernel
theorem d_Md_serve_137 : decode b_Md_serve 137 = .ok (.aload_n 0, 1) := by decide +kernel
theorem d_Md_serve_138 : decode b_Md_serve 138 = .ok (.iload_n 1, 1) := by decide +kernel
theorem d_Md_serve_139 : decode b_Md_serve 139 = .ok (.iload_n 3, 1) := by decide +kernel
theorem d_Md_serve_140 : decode b_Md_serve 140 = .ok (.iload 4, 2) := by decide +kernel
theorem d_Md_serve_142 : decode b_Md_serve 142 = .ok (.invokevirtual 188, 3) := by decide +kernel
theorem d_Md_serve_145 : decode b_Md_serve 145 = .ok (.iload_n 3, 1) := by decide +kernel
theorem d_Md_serve_146 : decode b_Md_serve 146 = .ok (.ifCond .ne (7), 3) := by decide +kernel
theorem d_Md_serve_149 : decode b_Md_serve 149 = .ok (.iconst 0, 1) := by decide +kernel
theorem d_Md_serve_150 : decode b_Md_serve 150 = .ok (.goto (13), 3) := by decide +kernel
theorem d_Md_serve_153 : decode b_Md_serve 153 = .ok (.iload_n 3, 1) := by decide +kernel
theorem d_Md_serve_154 : decode b_Md_serve 154 = .ok (.iconst 1, 1) := by decide +kernel
theorem d_Md_serve_155 : decode b_Md_serve 155 = .ok (.if_icmp .ne (7), 3) := by decide +kernel
theorem d_Md_serve_158 : decode b_Md_serve 158 = .ok (.iconst 2, 1) := by decide +kernel
theorem d_Md_serve_159 : decode b_Md_serve 159 = .ok (.goto (4), 3) := by decide +kernel
theorem d_Md_serve_162 : decode b_Md_serve 162 = .ok (.iconst 3, 1) := by decide +kernel
theorem d_Md_serve_163 : decode b_Md_serve 163 = .ok (.ireturn, 1) := by decide +kernel
theorem d_Md_accept_0 : decode b_Md_accept 0 = .ok (.aload_n 0, 1) := by decide +kernel
theorem d_Md_accept_1 : decode b_Md_accept 1 = .ok (.invokevirtual 185, 3) := by decide +kernel
theorem d_Md_accept_4 : decode b_Md_accept 4 = .ok (.ifCond .eq (12), 3) := by decide +kernel
theorem d_Md_accept_7 : decode b_Md_accept 7 = .ok (.aload_n 0, 1) := by decide +kernel
theorem d_Md_accept_8 : decode b_Md_accept 8 = .ok (.getfield 87, 3) := by decide +kernel
theorem d_Md_accept_11 : decode b_Md_accept 11 = .ok (.bipush 12, 2) := by decide +kernel
theorem d_Md_accept_13 : decode b_Md_accept 13 = .ok (.if_icmp .ge (6), 3) := by decide +kernel
theorem d_Md_accept_16 : decode b_Md_accept 16 = .ok (.bipush (-2), 2) := by decide +kernel
theorem d_Md_accept_18 : decode b_Md_accept 18 = .ok (.ireturn, 1) := by decide +kernel
theorem d_Md_accept_19 : decode b_Md_accept 19 = .ok (.aload_n 0, 1) := by decide +kernel
theorem d_Md_accept_20 : decode b_Md_accept 20 = .ok (.iconst 4, 1) := by decide +kernel
theorem d_Md_accept_21 : decode b_Md_accept 21 = .ok (.invokevirtual 160, 3) := by decide +kernel
theorem d_Md_accept_24 : decode b_Md_accept 24 = .ok (.iconst 1, 1) := by decide +kernel
theorem d_Md_accept_25 : decode b_Md_accept 25 = .ok (.if_icmp .eq (6), 3) := by decide +kernel
theorem d_Md_accept_28 : decode b_Md_accept 28 = .ok (.bipush (-3), 2) := by decide +kernel
theorem d_Md_accept_30 : decode b_Md_accept 30 = .ok (.ireturn, 1) := by decide +kernel
theorem d_Md_accept_31 : decode b_Md_accept 31 = .ok (.aload_n 0, 1) := by decide +kernel
theorem d_Md_accept_32 : decode b_Md_accept 32 = .ok (.bipush 8, 2) := by decide +kernel
theorem d_Md_accept_34 : decode b_Md_accept 34 = .ok (.invokevirtual 160, 3) := by decide +kernel
theorem d_Md_accept_37 : decode b_Md_accept 37 = .ok (.istore_n 1, 1) := by decide +kernel
theorem d_Md_accept_38 : decode b_Md_accept 38 = .ok (.iload_n 1, 1) := by decide +kernel
theorem d_Md_accept_39 : decode b_Md_accept 39 = .ok (.ifCond .lt (26), 3) := by decide +kernel
theorem d_Md_accept_42 : decode b_Md_accept 42 = .ok (.iload_n 1, 1) := by decide +kernel
theorem d_Md_accept_43 : decode b_Md_accept 43 = .ok (.iconst 2, 1) := by decide +kernel
theorem d_Md_accept_44 : decode b_Md_accept 44 = .ok (.if_icmp .gt (21), 3) := by decide +kernel
theorem d_Md_accept_47 : decode b_Md_accept 47 = .ok (.aload_n 0, 1) := by decide +kernel
theorem d_Md_accept_48 : decode b_Md_accept 48 = .ok (.getfield 87, 3) := by decide +kernel
theorem d_Md_accept_51 : decode b_Md_accept 51 = .ok (.iload_n 1, 1) := by decide +kernel
theorem d_Md_accept_52 : decode b_Md_accept 52 = .ok (.ifCond .ne (8), 3) := by decide +kernel
theorem d_Md_accept_55 : decode b_Md_accept 55 = .ok (.bipush 16, 2) := by decide +kernel
theorem d_Md_accept_57 : decode b_Md_accept 57 = .ok (.goto (5), 3) := by decide +kernel
theorem d_Md_accept_60 : decode b_Md_accept 60 = .ok (.bipush 12, 2) := by decide +kernel
theorem d_Md_accept_62 : decode b_Md_accept 62 = .ok (.if_icmp .eq (6), 3) := by decide +kernel
theorem d_Md_accept_65 : decode b_Md_accept 65 = .ok (.bipush (-2), 2) := by decide +kernel
theorem d_Md_accept_67 : decode b_Md_accept 67 = .ok (.ireturn, 1) := by decide +kernel
theorem d_Md_accept_68 : decode b_Md_accept 68 = .ok (.aload_n 0, 1) := by decide +kernel
theorem d_Md_accept_69 : decode b_Md_accept 69 = .ok (.iconst 0, 1) := by decide +kernel
theorem d_Md_accept_70 : decode b_Md_accept 70 = .ok (.invokevirtual 160, 3) := by decide +kernel
theorem d_Md_accept_73 : decode b_Md_accept 73 = .ok (.istore_n 2, 1) := by decide +kernel
theorem d_Md_accept_74 : decode b_Md_accept 74 = .ok (.iload_n 2, 1) := by decide +kernel
theorem d_Md_accept_75 : decode b_Md_accept 75 = .ok (.ifCond .lt (21), 3) := by decide +kernel
theorem d_Md_accept_78 : decode b_Md_accept 78 = .ok (.iload_n 2, 1) := by decide +kernel
theorem d_Md_accept_79 : decode b_Md_accept 79 = .ok (.aload_n 0, 1) := by decide +kernel
theorem d_Md_accept_80 : decode b_Md_accept 80 = .ok (.getfield 201, 3) := by decide +kernel
theorem d_Md_accept_83 : decode b_Md_accept 83 = .ok (.if_icmp .ge (13), 3) := by decide +kernel
theorem d_Md_accept_86 : decode b_Md_accept 86 = .ok (.aload_n 0, 1) := by decide +kernel
theorem d_Md_accept_87 : decode b_Md_accept 87 = .ok (.getfield 53, 3) := by decide +kernel
theorem d_Md_accept_90 : decode b_Md_accept 90 = .ok (.iload_n 2, 1) := by decide +kernel
theorem d_Md_accept_91 : decode b_Md_accept 91 = .ok (.iaload, 1) := by decide +kernel
theorem d_Md_accept_92 : decode b_Md_accept 92 = .ok (.iconst 3, 1) := by decide +kernel
theorem d_Md_accept_93 : decode b_Md_accept 93 = .ok (.if_icmp .eq (5), 3) := by decide +kernel
theorem d_Md_accept_96 : decode b_Md_accept 96 = .ok (.iconst 5, 1) := by decide +kernel
theorem d_Md_accept_97 : decode b_Md_accept 97 = .ok (.ireturn, 1) := by decide +kernel
theorem d_Md_accept_98 : decode b_Md_accept 98 = .ok (.aload_n 0, 1) := by decide +kernel
theorem d_Md_accept_99 : decode b_Md_accept 99 = .ok (.getfield 53, 3) := by decide +kernel
theorem d_Md_accept_102 : decode b_Md_accept 102 = .ok (.iload_n 2, 1) := by decide +kernel
theorem d_Md_accept_103 : decode b_Md_accept 103 = .ok (.iload_n 1, 1) := by decide +kernel
theorem d_Md_accept_104 : decode b_Md_accept 104 = .ok (.iastore, 1) := by decide +kernel
theorem d_Md_accept_105 : decode b_Md_accept 105 = .ok (.aload_n 0, 1) := by decide +kernel
theorem d_Md_accept_106 : decode b_Md_accept 106 = .ok (.getfield 56, 3) := by decide +kernel
theorem d_Md_accept_109 : decode b_Md_accept 109 = .ok (.iload_n 2, 1) := by decide +kernel
theorem d_Md_accept_110 : decode b_Md_accept 110 = .ok (.iload_n 1, 1) := by decide +kernel
theorem d_Md_accept_111 : decode b_Md_accept 111 = .ok (.ifCond .ne (12), 3) := by decide +kernel
theorem d_Md_accept_114 : decode b_Md_accept 114 = .ok (.aload_n 0, 1) := by decide +kernel
theorem d_Md_accept_115 : decode b_Md_accept 115 = .ok (.bipush 12, 2) := by decide +kernel
theorem d_Md_accept_117 : decode b_Md_accept 117 = .ok (.invokevirtual 160, 3) := by decide +kernel
theorem d_Md_accept_120 : decode b_Md_accept 120 = .ok (.goto (4), 3) := by decide +kernel
theorem d_Md_accept_123 : decode b_Md_accept 123 = .ok (.iconst 0, 1) := by decide +kernel
theorem d_Md_accept_124 : decode b_Md_accept 124 = .ok (.iastore, 1) := by decide +kernel
theorem d_Md_accept_125 : decode b_Md_accept 125 = .ok (.iconst 0, 1) := by decide +kernel
theorem d_Md_accept_126 : decode b_Md_accept 126 = .ok (.istore_n 3, 1) := by decide +kernel
theorem d_Md_accept_127 : decode b_Md_accept 127 = .ok (.iload_n 3, 1) := by decide +kernel
theorem d_Md_accept_128 : decode b_Md_accept 128 = .ok (.bipush 8, 2) := by decide +kernel
theorem d_Md_accept_130 : decode b_Md_accept 130 = .ok (.if_icmp .ge (35), 3) := by decide +kernel
theorem d_Md_accept_133 : decode b_Md_accept 133 = .ok (.aload_n 0, 1) := by decide +kernel
theorem d_Md_accept_134 : decode b_Md_accept 134 = .ok (.getfield 68, 3) := by decide +kernel
theorem d_Md_accept_137 : decode b_Md_accept 137 = .ok (.iload_n 3, 1) := by decide +kernel
theorem d_Md_accept_138 : decode b_Md_accept 138 = .ok (.aload_n 0, 1) := by decide +kernel
theorem d_Md_accept_139 : decode b_Md_accept 139 = .ok (.getfield 68, 3) := by decide +kernel
theorem d_Md_accept_142 : decode b_Md_accept 142 = .ok (.iload_n 3, 1) := by decide +kernel
theorem d_Md_accept_143 : decode b_Md_accept 143 = .ok (.iaload, 1) := by decide +kernel
theorem d_Md_accept_144 : decode b_Md_accept 144 = .ok (.iload_n 2, 1) := by decide +kernel
theorem d_Md_accept_145 : decode b_Md_accept 145 = .ok (.if_icmp .ne (7), 3) := by decide +kernel
theorem d_Md_accept_148 : decode b_Md_accept 148 = .ok (.iconst (-1), 1) := by decide +kernel
theorem d_Md_accept_149 : decode b_Md_accept 149 = .ok (.goto (9), 3) := by decide +kernel
theorem d_Md_accept_152 : decode b_Md_accept 152 = .ok (.aload_n 0, 1) := by decide +kernel
theorem d_Md_accept_153 : decode b_Md_accept 153 = .ok (.getfield 68, 3) := by decide +kernel
theorem d_Md_accept_156 : decode b_Md_accept 156 = .ok (.iload_n 3, 1) := by decide +kernel
theorem d_Md_accept_157 : decode b_Md_accept 157 = .ok (.iaload, 1) := by decide +kernel
theorem d_Md_accept_158 : decode b_Md_accept 158 = .ok (.iastore, 1) := by decide +kernel
theorem d_Md_accept_159 : decode b_Md_accept 159 = .ok (.iinc 3 (1), 3) := by decide +kernel
theorem d_Md_accept_162 : decode b_Md_accept 162 = .ok (.goto (-35), 3) := by decide +kernel
theorem d_Md_accept_165 : decode b_Md_accept 165 = .ok (.iconst 4, 1) := by decide +kernel
theorem d_Md_accept_166 : decode b_Md_accept 166 = .ok (.ireturn, 1) := by decide +kernel
theorem d_Md_slotOf_0 : decode b_Md_slotOf 0 = .ok (.iconst 0, 1) := by decide +kernel
theorem d_Md_slotOf_1 : decode b_Md_slotOf 1 = .ok (.istore_n 2, 1) := by decide +kernel
theorem d_Md_slotOf_2 : decode b_Md_slotOf 2 = .ok (.iload_n 2, 1) := by decide +kernel
theorem d_Md_slotOf_3 : decode b_Md_slotOf 3 = .ok (.bipush 8, 2) := by decide +kernel
theorem d_Md_slotOf_5 : decode b_Md_slotOf 5 = .ok (.if_icmp .ge (19), 3) := by decide +kernel
theorem d_Md_slotOf_8 : decode b_Md_slotOf 8 = .ok (.aload_n 0, 1) := by decide +kernel
theorem d_Md_slotOf_9 : decode b_Md_slotOf 9 = .ok (.getfield 68, 3) := by decide +kernel
theorem d_Md_slotOf_12 : decode b_Md_slotOf 12 = .ok (.iload_n 2, 1) := by decide +kernel
theorem d_Md_slotOf_13 : decode b_Md_slotOf 13 = .ok (.iaload, 1) := by decide +kernel
theorem d_Md_slotOf_14 : decode b_Md_slotOf 14 = .ok (.iload_n 1, 1) := by decide +kernel
theorem d_Md_slotOf_15 : decode b_Md_slotOf 15 = .ok (.if_icmp .eq (9), 3) := by decide +kernel
theorem d_Md_slotOf_18 : decode b_Md_slotOf 18 = .ok (.iinc 2 (1), 3) := by decide +kernel
theorem d_Md_slotOf_21 : decode b_Md_slotOf 21 = .ok (.goto (-19), 3) := by decide +kernel
theorem d_Md_slotOf_24 : decode b_Md_slotOf 24 = .ok (.iload_n 2, 1) := by decide +kernel
theorem d_Md_slotOf_25 : decode b_Md_slotOf 25 = .ok (.ireturn, 1) := by decide +kernel
theorem d_Md_call_0 : decode b_Md_call 0 = .ok (.iload_n 1, 1) := by decide +kernel
theorem d_Md_call_1 : decode b_Md_call 1 = .ok (.ifCond .lt (10), 3) := by decide +kernel
theorem d_Md_call_4 : decode b_Md_call 4 = .ok (.iload_n 1, 1) := by decide +kernel
theorem d_Md_call_5 : decode b_Md_call 5 = .ok (.sipush 255, 3) := by decide +kernel
theorem d_Md_call_8 : decode b_Md_call 8 = .ok (.if_icmp .le (6), 3) := by decide +kernel
theorem d_Md_call_11 : decode b_Md_call 11 = .ok (.bipush (-4), 2) := by decide +kernel
theorem d_Md_call_13 : decode b_Md_call 13 = .ok (.ireturn, 1) := by decide +kernel
theorem d_Md_call_14 : decode b_Md_call 14 = .ok (.aload_n 0, 1) := by decide +kernel
theorem d_Md_call_15 : decode b_Md_call 15 = .ok (.iconst (-1), 1) := by decide +kernel
theorem d_Md_call_16 : decode b_Md_call 16 = .ok (.invokevirtual 204, 3) := by decide +kernel
theorem d_Md_call_19 : decode b_Md_call 19 = .ok (.istore_n 2, 1) := by decide +kernel
theorem d_Md_call_20 : decode b_Md_call 20 = .ok (.iload_n 2, 1) := by decide +kernel
theorem d_Md_call_21 : decode b_Md_call 21 = .ok (.bipush 8, 2) := by decide +kernel
theorem d_Md_call_23 : decode b_Md_call 23 = .ok (.if_icmp .eq (12), 3) := by decide +kernel
theorem d_Md_call_26 : decode b_Md_call 26 = .ok (.aload_n 0, 1) := by decide +kernel
theorem d_Md_call_27 : decode b_Md_call 27 = .ok (.getfield 201, 3) := by decide +kernel
theorem d_Md_call_30 : decode b_Md_call 30 = .ok (.bipush 100, 2) := by decide +kernel
theorem d_Md_call_32 : decode b_Md_call 32 = .ok (.if_icmp .ne (6), 3) := by decide +kernel
theorem d_Md_call_35 : decode b_Md_call 35 = .ok (.bipush (-5), 2) := by decide +kernel
theorem d_Md_call_37 : decode b_Md_call 37 = .ok (.ireturn, 1) := by decide +kernel
theorem d_Md_call_38 : decode b_Md_call 38 = .ok (.aload_n 0, 1) := by decide +kernel
theorem d_Md_call_39 : decode b_Md_call 39 = .ok (.iconst 0, 1) := by decide +kernel
theorem d_Md_call_40 : decode b_Md_call 40 = .ok (.putfield 87, 3) := by decide +kernel
theorem d_Md_call_43 : decode b_Md_call 43 = .ok (.aload_n 0, 1) := by decide +kernel
theorem d_Md_call_44 : decode b_Md_call 44 = .ok (.aload_n 0, 1) := by decide +kernel
theorem d_Md_call_45 : decode b_Md_call 45 = .ok (.getfield 201, 3) := by decide +kernel
theorem d_Md_call_48 : decode b_Md_call 48 = .ok (.invokevirtual 109, 3) := by decide +kernel
theorem d_Md_call_51 : decode b_Md_call 51 = .ok (.aload_n 0, 1) := by decide +kernel
theorem d_Md_call_52 : decode b_Md_call 52 = .ok (.iconst 0, 1) := by decide +kernel
theorem d_Md_call_53 : decode b_Md_call 53 = .ok (.invokevirtual 109, 3) := by decide +kernel
theorem d_Md_call_56 : decode b_Md_call 56 = .ok (.aload_n 0, 1) := by decide +kernel
theorem d_Md_call_57 : decode b_Md_call 57 = .ok (.iload_n 1, 1) := by decide +kernel
theorem d_Md_call_58 : decode b_Md_call 58 = .ok (.invokevirtual 109, 3) := by decide +kernel
theorem d_Md_call_61 : decode b_Md_call 61 = .ok (.aload_n 0, 1) := by decide +kernel
theorem d_Md_call_62 : decode b_Md_call 62 = .ok (.invokevirtual 207, 3) := by decide +kernel
theorem d_Md_call_65 : decode b_Md_call 65 = .ok (.aload_n 0, 1) := by decide +kernel
theorem d_Md_call_66 : decode b_Md_call 66 = .ok (.invokevirtual 169, 3) := by decide +kernel
theorem d_Md_call_69 : decode b_Md_call 69 = .ok (.iconst 0, 1) := by decide +kernel
theorem d_Md_call_70 : decode b_Md_call 70 = .ok (.istore_n 3, 1) := by decide +kernel
theorem d_Md_call_71 : decode b_Md_call 71 = .ok (.iload_n 3, 1) := by decide +kernel
theorem d_Md_call_72 : decode b_Md_call 72 = .ok (.aload_n 0, 1) := by decide +kernel
theorem d_Md_call_73 : decode b_Md_call 73 = .ok (.getfield 116, 3) := by decide +kernel
theorem d_Md_call_76 : decode b_Md_call 76 = .ok (.if_icmp .ge (27), 3) := by decide +kernel
theorem d_Md_call_79 : decode b_Md_call 79 = .ok (.aload_n 0, 1) := by decide +kernel
theorem d_Md_call_80 : decode b_Md_call 80 = .ok (.getfield 62, 3) := by decide +kernel
theorem d_Md_call_83 : decode b_Md_call 83 = .ok (.sipush 160, 3) := by decide +kernel
theorem d_Md_call_86 : decode b_Md_call 86 = .ok (.iload_n 2, 1) := by decide +kernel
theorem d_Md_call_87 : decode b_Md_call 87 = .ok (.imul, 1) := by decide +kernel
theorem d_Md_call_88 : decode b_Md_call 88 = .ok (.iload_n 3, 1) := by decide +kernel
theorem d_Md_call_89 : decode b_Md_call 89 = .ok (.iadd, 1) := by decide +kernel
theorem d_Md_call_90 : decode b_Md_call 90 = .ok (.aload_n 0, 1) := by decide +kernel
theorem d_Md_call_91 : decode b_Md_call 91 = .ok (.getfield 29, 3) := by decide +kernel
theorem d_Md_call_94 : decode b_Md_call 94 = .ok (.iload_n 3, 1) := by decide +kernel
theorem d_Md_call_95 : decode b_Md_call 95 = .ok (.iaload, 1) := by decide +kernel
theorem d_Md_call_96 : decode b_Md_call 96 = .ok (.iastore, 1) := by decide +kernel
theorem d_Md_call_97 : decode b_Md_call 97 = .ok (.iinc 3 (1), 3) := by decide +kernel
theorem d_Md_call_100 : decode b_Md_call 100 = .ok (.goto (-29), 3) := by decide +kernel
theorem d_Md_call_103 : decode b_Md_call 103 = .ok (.aload_n 0, 1) := by decide +kernel
theorem d_Md_call_104 : decode b_Md_call 104 = .ok (.getfield 65, 3) := by decide +kernel
theorem d_Md_call_107 : decode b_Md_call 107 = .ok (.iload_n 2, 1) := by decide +kernel
theorem d_Md_call_108 : decode b_Md_call 108 = .ok (.aload_n 0, 1) := by decide +kernel
theorem d_Md_call_109 : decode b_Md_call 109 = .ok (.getfield 116, 3) := by decide +kernel
theorem d_Md_call_112 : decode b_Md_call 112 = .ok (.iastore, 1) := by decide +kernel
theorem d_Md_call_113 : decode b_Md_call 113 = .ok (.aload_n 0, 1) := by decide +kernel
theorem d_Md_call_114 : decode b_Md_call 114 = .ok (.getfield 68, 3) := by decide +kernel
theorem d_Md_call_117 : decode b_Md_call 117 = .ok (.iload_n 2, 1) := by decide +kernel
theorem d_Md_call_118 : decode b_Md_call 118 = .ok (.aload_n 0, 1) := by decide +kernel
theorem d_Md_call_119 : decode b_Md_call 119 = .ok (.getfield 201, 3) := by decide +kernel
theorem d_Md_call_122 : decode b_Md_call 122 = .ok (.iastore, 1) := by decide +kernel
theorem d_Md_call_123 : decode b_Md_call 123 = .ok (.aload_n 0, 1) := by decide +kernel
theorem d_Md_call_124 : decode b_Md_call 124 = .ok (.getfield 53, 3) := by decide +kernel
theorem d_Md_call_127 : decode b_Md_call 127 = .ok (.aload_n 0, 1) := by decide +kernel
theorem d_Md_call_128 : decode b_Md_call 128 = .ok (.getfield 201, 3) := by decide +kernel
theorem d_Md_call_131 : decode b_Md_call 131 = .ok (.iconst 3, 1) := by decide +kernel
theorem d_Md_call_132 : decode b_Md_call 132 = .ok (.iastore, 1) := by decide +kernel
theorem d_Md_call_133 : decode b_Md_call 133 = .ok (.aload_n 0, 1) := by decide +kernel
theorem d_Md_call_134 : decode b_Md_call 134 = .ok (.getfield 59, 3) := by decide +kernel
theorem d_Md_call_137 : decode b_Md_call 137 = .ok (.aload_n 0, 1) := by decide +kernel
theorem d_Md_call_138 : decode b_Md_call 138 = .ok (.getfield 201, 3) := by decide +kernel
theorem d_Md_call_141 : decode b_Md_call 141 = .ok (.iconst 0, 1) := by decide +kernel
theorem d_Md_call_142 : decode b_Md_call 142 = .ok (.iastore, 1) := by decide +kernel
theorem d_Md_call_143 : decode b_Md_call 143 = .ok (.aload_n 0, 1) := by decide +kernel
theorem d_Md_call_144 : decode b_Md_call 144 = .ok (.iconst 0, 1) := by decide +kernel
theorem d_Md_call_145 : decode b_Md_call 145 = .ok (.invokevirtual 129, 3) := by decide +kernel
theorem d_Md_call_148 : decode b_Md_call 148 = .ok (.aload_n 0, 1) := by decide +kernel
theorem d_Md_call_149 : decode b_Md_call 149 = .ok (.dup, 1) := by decide +kernel
theorem d_Md_call_150 : decode b_Md_call 150 = .ok (.getfield 201, 3) := by decide +kernel
theorem d_Md_call_153 : decode b_Md_call 153 = .ok (.iconst 1, 1) := by decide +kernel
theorem d_Md_call_154 : decode b_Md_call 154 = .ok (.iadd, 1) := by decide +kernel
theorem d_Md_call_155 : decode b_Md_call 155 = .ok (.putfield 201, 3) := by decide +kernel
theorem d_Md_call_158 : decode b_Md_call 158 = .ok (.aload_n 0, 1) := by decide +kernel
theorem d_Md_call_159 : decode b_Md_call 159 = .ok (.getfield 201, 3) := by decide +kernel
theorem d_Md_call_162 : decode b_Md_call 162 = .ok (.iconst 1, 1) := by decide +kernel
theorem d_Md_call_163 : decode b_Md_call 163 = .ok (.isub, 1) := by decide +kernel
theorem d_Md_call_164 : decode b_Md_call 164 = .ok (.ireturn, 1) := by decide +kernel
theorem d_Md_tick_0 : decode b_Md_tick 0 = .ok (.iconst 0, 1) := by decide +kernel
theorem d_Md_tick_1 : decode b_Md_tick 1 = .ok (.istore_n 1, 1) := by decide +kernel
theorem d_Md_tick_2 : decode b_Md_tick 2 = .ok (.iconst 0, 1) := by decide +kernel
theorem d_Md_tick_3 : decode b_Md_tick 3 = .ok (.istore_n 2, 1) := by decide +kernel
theorem d_Md_tick_4 : decode b_Md_tick 4 = .ok (.iload_n 2, 1) := by decide +kernel
theorem d_Md_tick_5 : decode b_Md_tick 5 = .ok (.aload_n 0, 1) := by decide +kernel
theorem d_Md_tick_6 : decode b_Md_tick 6 = .ok (.getfield 201, 3) := by decide +kernel
theorem d_Md_tick_9 : decode b_Md_tick 9 = .ok (.if_icmp .ge (54), 3) := by decide +kernel
theorem d_Md_tick_12 : decode b_Md_tick 12 = .ok (.aload_n 0, 1) := by decide +kernel
theorem d_Md_tick_13 : decode b_Md_tick 13 = .ok (.getfield 53, 3) := by decide +kernel
theorem d_Md_tick_16 : decode b_Md_tick 16 = .ok (.iload_n 2, 1) := by decide +kernel
theorem d_Md_tick_17 : decode b_Md_tick 17 = .ok (.iaload, 1) := by decide +kernel
theorem d_Md_tick_18 : decode b_Md_tick 18 = .ok (.iconst 3, 1) := by decide +kernel
theorem d_Md_tick_19 : decode b_Md_tick 19 = .ok (.if_icmp .ne (38), 3) := by decide +kernel
theorem d_Md_tick_22 : decode b_Md_tick 22 = .ok (.aload_n 0, 1) := by decide +kernel
theorem d_Md_tick_23 : decode b_Md_tick 23 = .ok (.getfield 59, 3) := by decide +kernel
theorem d_Md_tick_26 : decode b_Md_tick 26 = .ok (.iload_n 2, 1) := by decide +kernel
theorem d_Md_tick_27 : decode b_Md_tick 27 = .ok (.dup2, 1) := by decide +kernel
theorem d_Md_tick_28 : decode b_Md_tick 28 = .ok (.iaload, 1) := by decide +kernel
theorem d_Md_tick_29 : decode b_Md_tick 29 = .ok (.iconst 1, 1) := by decide +kernel
theorem d_Md_tick_30 : decode b_Md_tick 30 = .ok (.iadd, 1) := by decide +kernel
theorem d_Md_tick_31 : decode b_Md_tick 31 = .ok (.iastore, 1) := by decide +kernel
theorem d_Md_tick_32 : decode b_Md_tick 32 = .ok (.aload_n 0, 1) := by decide +kernel
theorem d_Md_tick_33 : decode b_Md_tick 33 = .ok (.getfield 59, 3) := by decide +kernel
theorem d_Md_tick_36 : decode b_Md_tick 36 = .ok (.iload_n 2, 1) := by decide +kernel
theorem d_Md_tick_37 : decode b_Md_tick 37 = .ok (.iaload, 1) := by decide +kernel
theorem d_Md_tick_38 : decode b_Md_tick 38 = .ok (.iconst 3, 1) := by decide +kernel
theorem d_Md_tick_39 : decode b_Md_tick 39 = .ok (.if_icmp .ne (18), 3) := by decide +kernel
theorem d_Md_tick_42 : decode b_Md_tick 42 = .ok (.aload_n 0, 1) := by decide +kernel
theorem d_Md_tick_43 : decode b_Md_tick 43 = .ok (.getfield 59, 3) := by decide +kernel
theorem d_Md_tick_46 : decode b_Md_tick 46 = .ok (.iload_n 2, 1) := by decide +kernel
theorem d_Md_tick_47 : decode b_Md_tick 47 = .ok (.iconst 0, 1) := by decide +kernel
theorem d_Md_tick_48 : decode b_Md_tick 48 = .ok (.iastore, 1) := by decide +kernel
theorem d_Md_tick_49 : decode b_Md_tick 49 = .ok (.iinc 1 (1), 3) := by decide +kernel
theorem d_Md_tick_52 : decode b_Md_tick 52 = .ok (.aload_n 0, 1) := by decide +kernel
theorem d_Md_tick_53 : decode b_Md_tick 53 = .ok (.iload_n 2, 1) := by decide +kernel
theorem d_Md_tick_54 : decode b_Md_tick 54 = .ok (.invokevirtual 210, 3) := by decide +kernel
theorem d_Md_tick_57 : decode b_Md_tick 57 = .ok (.iinc 2 (1), 3) := by decide +kernel
theorem d_Md_tick_60 : decode b_Md_tick 60 = .ok (.goto (-56), 3) := by decide +kernel
theorem d_Md_tick_63 : decode b_Md_tick 63 = .ok (.iload_n 1, 1) := by decide +kernel
theorem d_Md_tick_64 : decode b_Md_tick 64 = .ok (.ireturn, 1) := by decide +kernel
theorem d_Md_sendKept_0 : decode b_Md_sendKept 0 = .ok (.aload_n 0, 1) := by decide +kernel
theorem d_Md_sendKept_1 : decode b_Md_sendKept 1 = .ok (.iload_n 1, 1) := by decide +kernel
theorem d_Md_sendKept_2 : decode b_Md_sendKept 2 = .ok (.invokevirtual 204, 3) := by decide +kernel
theorem d_Md_sendKept_5 : decode b_Md_sendKept 5 = .ok (.istore_n 2, 1) := by decide +kernel
theorem d_Md_sendKept_6 : decode b_Md_sendKept 6 = .ok (.aload_n 0, 1) := by decide +kernel
theorem d_Md_sendKept_7 : decode b_Md_sendKept 7 = .ok (.aload_n 0, 1) := by decide +kernel
theorem d_Md_sendKept_8 : decode b_Md_sendKept 8 = .ok (.getfield 65, 3) := by decide +kernel
theorem d_Md_sendKept_11 : decode b_Md_sendKept 11 = .ok (.iload_n 2, 1) := by decide +kernel
theorem d_Md_sendKept_12 : decode b_Md_sendKept 12 = .ok (.iaload, 1) := by decide +kernel
theorem d_Md_sendKept_13 : decode b_Md_sendKept 13 = .ok (.putfield 116, 3) := by decide +kernel
theorem d_Md_sendKept_16 : decode b_Md_sendKept 16 = .ok (.iconst 0, 1) := by decide +kernel
theorem d_Md_sendKept_17 : decode b_Md_sendKept 17 = .ok (.istore_n 3, 1) := by decide +kernel
theorem d_Md_sendKept_18 : decode b_Md_sendKept 18 = .ok (.iload_n 3, 1) := by decide +kernel
theorem d_Md_sendKept_19 : decode b_Md_sendKept 19 = .ok (.aload_n 0, 1) := by decide +kernel
theorem d_Md_sendKept_20 : decode b_Md_sendKept 20 = .ok (.getfield 116, 3) := by decide +kernel
theorem d_Md_sendKept_23 : decode b_Md_sendKept 23 = .ok (.if_icmp .ge (27), 3) := by decide +kernel
theorem d_Md_sendKept_26 : decode b_Md_sendKept 26 = .ok (.aload_n 0, 1) := by decide +kernel
theorem d_Md_sendKept_27 : decode b_Md_sendKept 27 = .ok (.getfield 29, 3) := by decide +kernel
theorem d_Md_sendKept_30 : decode b_Md_sendKept 30 = .ok (.iload_n 3, 1) := by decide +kernel
theorem d_Md_sendKept_31 : decode b_Md_sendKept 31 = .ok (.aload_n 0, 1) := by decide +kernel
theorem d_Md_sendKept_32 : decode b_Md_sendKept 32 = .ok (.getfield 62, 3) := by decide +kernel
theorem d_Md_sendKept_35 : decode b_Md_sendKept 35 = .ok (.sipush 160, 3) := by decide +kernel
theorem d_Md_sendKept_38 : decode b_Md_sendKept 38 = .ok (.iload_n 2, 1) := by decide +kernel
theorem d_Md_sendKept_39 : decode b_Md_sendKept 39 = .ok (.imul, 1) := by decide +kernel
theorem d_Md_sendKept_40 : decode b_Md_sendKept 40 = .ok (.iload_n 3, 1) := by decide +kernel
theorem d_Md_sendKept_41 : decode b_Md_sendKept 41 = .ok (.iadd, 1) := by decide +kernel
theorem d_Md_sendKept_42 : decode b_Md_sendKept 42 = .ok (.iaload, 1) := by decide +kernel
theorem d_Md_sendKept_43 : decode b_Md_sendKept 43 = .ok (.iastore, 1) := by decide +kernel
theorem d_Md_sendKept_44 : decode b_Md_sendKept 44 = .ok (.iinc 3 (1), 3) := by decide +kernel
theorem d_Md_sendKept_47 : decode b_Md_sendKept 47 = .ok (.goto (-29), 3) := by decide +kernel
theorem d_Md_sendKept_50 : decode b_Md_sendKept 50 = .ok (.aload_n 0, 1) := by decide +kernel
theorem d_Md_sendKept_51 : decode b_Md_sendKept 51 = .ok (.iconst 0, 1) := by decide +kernel
theorem d_Md_sendKept_52 : decode b_Md_sendKept 52 = .ok (.invokevirtual 129, 3) := by decide +kernel
theorem d_Md_sendKept_55 : decode b_Md_sendKept 55 = .ok (.return_, 1) := by decide +kernel
theorem d_Md_deliver_0 : decode b_Md_deliver 0 = .ok (.aload_n 0, 1) := by decide +kernel
theorem d_Md_deliver_1 : decode b_Md_deliver 1 = .ok (.iload_n 1, 1) := by decide +kernel
theorem d_Md_deliver_2 : decode b_Md_deliver 2 = .ok (.invokevirtual 122, 3) := by decide +kernel
theorem d_Md_deliver_5 : decode b_Md_deliver 5 = .ok (.ifCond .ne (5), 3) := by decide +kernel
theorem d_Md_deliver_8 : decode b_Md_deliver 8 = .ok (.iconst (-1), 1) := by decide +kernel
theorem d_Md_deliver_9 : decode b_Md_deliver 9 = .ok (.ireturn, 1) := by decide +kernel
theorem d_Md_deliver_10 : decode b_Md_deliver 10 = .ok (.aload_n 0, 1) := by decide +kernel
theorem d_Md_deliver_11 : decode b_Md_deliver 11 = .ok (.getfield 38, 3) := by decide +kernel
theorem d_Md_deliver_14 : decode b_Md_deliver 14 = .ok (.iload_n 1, 1) := by decide +kernel
theorem d_Md_deliver_15 : decode b_Md_deliver 15 = .ok (.baload, 1) := by decide +kernel
theorem d_Md_deliver_16 : decode b_Md_deliver 16 = .ok (.istore_n 2, 1) := by decide +kernel
theorem d_Md_deliver_17 : decode b_Md_deliver 17 = .ok (.aload_n 0, 1) := by decide +kernel
theorem d_Md_deliver_18 : decode b_Md_deliver 18 = .ok (.iload_n 1, 1) := by decide +kernel
theorem d_Md_deliver_19 : decode b_Md_deliver 19 = .ok (.invokevirtual 126, 3) := by decide +kernel
theorem d_Md_deliver_22 : decode b_Md_deliver 22 = .ok (.aload_n 0, 1) := by decide +kernel
theorem d_Md_deliver_23 : decode b_Md_deliver 23 = .ok (.iload_n 1, 1) := by decide +kernel
theorem d_Md_deliver_24 : decode b_Md_deliver 24 = .ok (.invokevirtual 213, 3) := by decide +kernel
theorem d_Md_deliver_27 : decode b_Md_deliver 27 = .ok (.pop, 1) := by decide +kernel
theorem d_Md_deliver_28 : decode b_Md_deliver 28 = .ok (.iload_n 2, 1) := by decide +kernel
theorem d_Md_deliver_29 : decode b_Md_deliver 29 = .ok (.ifCond .eq (10), 3) := by decide +kernel
theorem d_Md_deliver_32 : decode b_Md_deliver 32 = .ok (.aload_n 0, 1) := by decide +kernel
theorem d_Md_deliver_33 : decode b_Md_deliver 33 = .ok (.invokevirtual 216, 3) := by decide +kernel
theorem d_Md_deliver_36 : decode b_Md_deliver 36 = .ok (.goto (7), 3) := by decide +kernel
theorem d_Md_deliver_39 : decode b_Md_deliver 39 = .ok (.aload_n 0, 1) := by decide +kernel
theorem d_Md_deliver_40 : decode b_Md_deliver 40 = .ok (.invokevirtual 219, 3) := by decide +kernel
theorem d_Md_deliver_43 : decode b_Md_deliver 43 = .ok (.ireturn, 1) := by decide +kernel
theorem d_Md_add_0 : decode b_Md_add 0 = .ok (.iload_n 1, 1) := by decide +kernel
theorem d_Md_add_1 : decode b_Md_add 1 = .ok (.ifCond .lt (20), 3) := by decide +kernel
theorem d_Md_add_4 : decode b_Md_add 4 = .ok (.iload_n 1, 1) := by decide +kernel
theorem d_Md_add_5 : decode b_Md_add 5 = .ok (.sipush 255, 3) := by decide +kernel
theorem d_Md_add_8 : decode b_Md_add 8 = .ok (.if_icmp .gt (13), 3) := by decide +kernel
theorem d_Md_add_11 : decode b_Md_add 11 = .ok (.aload_n 0, 1) := by decide +kernel
theorem d_Md_add_12 : decode b_Md_add 12 = .ok (.getfield 222, 3) := by decide +kernel
theorem d_Md_add_15 : decode b_Md_add 15 = .ok (.sipush 200, 3) := by decide +kernel
theorem d_Md_add_18 : decode b_Md_add 18 = .ok (.if_icmp .ne (5), 3) := by decide +kernel
theorem d_Md_add_21 : decode b_Md_add 21 = .ok (.iconst 0, 1) := by decide +kernel
theorem d_Md_add_22 : decode b_Md_add 22 = .ok (.ireturn, 1) := by decide +kernel
theorem d_Md_add_23 : decode b_Md_add 23 = .ok (.aload_n 0, 1) := by decide +kernel
theorem d_Md_add_24 : decode b_Md_add 24 = .ok (.getfield 41, 3) := by decide +kernel
theorem d_Md_add_27 : decode b_Md_add 27 = .ok (.aload_n 0, 1) := by decide +kernel
theorem d_Md_add_28 : decode b_Md_add 28 = .ok (.getfield 222, 3) := by decide +kernel
theorem d_Md_add_31 : decode b_Md_add 31 = .ok (.iload_n 1, 1) := by decide +kernel
theorem d_Md_add_32 : decode b_Md_add 32 = .ok (.iastore, 1) := by decide +kernel
theorem d_Md_add_33 : decode b_Md_add 33 = .ok (.aload_n 0, 1) := by decide +kernel
theorem d_Md_add_34 : decode b_Md_add 34 = .ok (.dup, 1) := by decide +kernel
theorem d_Md_add_35 : decode b_Md_add 35 = .ok (.getfield 222, 3) := by decide +kernel
theorem d_Md_add_38 : decode b_Md_add 38 = .ok (.iconst 1, 1) := by decide +kernel
theorem d_Md_add_39 : decode b_Md_add 39 = .ok (.iadd, 1) := by decide +kernel
theorem d_Md_add_40 : decode b_Md_add 40 = .ok (.putfield 222, 3) := by decide +kernel
theorem d_Md_add_43 : decode b_Md_add 43 = .ok (.iconst 1, 1) := by decide +kernel
theorem d_Md_add_44 : decode b_Md_add 44 = .ok (.ireturn, 1) := by decide +kernel
theorem d_Md_hand_0 : decode b_Md_hand 0 = .ok (.iconst 0, 1) := by decide +kernel
theorem d_Md_hand_1 : decode b_Md_hand 1 = .ok (.istore_n 2, 1) := by decide +kernel
theorem d_Md_hand_2 : decode b_Md_hand 2 = .ok (.iload_n 2, 1) := by decide +kernel
theorem d_Md_hand_3 : decode b_Md_hand 3 = .ok (.aload_n 0, 1) := by decide +kernel
theorem d_Md_hand_4 : decode b_Md_hand 4 = .ok (.getfield 222, 3) := by decide +kernel
theorem d_Md_hand_7 : decode b_Md_hand 7 = .ok (.if_icmp .ge (21), 3) := by decide +kernel
theorem d_Md_hand_10 : decode b_Md_hand 10 = .ok (.aload_n 0, 1) := by decide +kernel
theorem d_Md_hand_11 : decode b_Md_hand 11 = .ok (.getfield 29, 3) := by decide +kernel
theorem d_Md_hand_14 : decode b_Md_hand 14 = .ok (.iload_n 2, 1) := by decide +kernel
theorem d_Md_hand_15 : decode b_Md_hand 15 = .ok (.aload_n 0, 1) := by decide +kernel
theorem d_Md_hand_16 : decode b_Md_hand 16 = .ok (.getfield 41, 3) := by decide +kernel
theorem d_Md_hand_19 : decode b_Md_hand 19 = .ok (.iload_n 2, 1) := by decide +kernel
theorem d_Md_hand_20 : decode b_Md_hand 20 = .ok (.iaload, 1) := by decide +kernel
theorem d_Md_hand_21 : decode b_Md_hand 21 = .ok (.iastore, 1) := by decide +kernel
theorem d_Md_hand_22 : decode b_Md_hand 22 = .ok (.iinc 2 (1), 3) := by decide +kernel
theorem d_Md_hand_25 : decode b_Md_hand 25 = .ok (.goto (-23), 3) := by decide +kernel
theorem d_Md_hand_28 : decode b_Md_hand 28 = .ok (.aload_n 0, 1) := by decide +kernel
theorem d_Md_hand_29 : decode b_Md_hand 29 = .ok (.aload_n 0, 1) := by decide +kernel
theorem d_Md_hand_30 : decode b_Md_hand 30 = .ok (.getfield 222, 3) := by decide +kernel
theorem d_Md_hand_33 : decode b_Md_hand 33 = .ok (.putfield 116, 3) := by decide +kernel
theorem d_Md_hand_36 : decode b_Md_hand 36 = .ok (.aload_n 0, 1) := by decide +kernel
theorem d_Md_hand_37 : decode b_Md_hand 37 = .ok (.iconst 0, 1) := by decide +kernel
theorem d_Md_hand_38 : decode b_Md_hand 38 = .ok (.putfield 222, 3) := by decide +kernel
theorem d_Md_hand_41 : decode b_Md_hand 41 = .ok (.iload_n 1, 1) := by decide +kernel
theorem d_Md_hand_42 : decode b_Md_hand 42 = .ok (.ifCond .eq (10), 3) := by decide +kernel
theorem d_Md_hand_45 : decode b_Md_hand 45 = .ok (.aload_n 0, 1) := by decide +kernel
theorem d_Md_hand_46 : decode b_Md_hand 46 = .ok (.invokevirtual 219, 3) := by decide +kernel
theorem d_Md_hand_49 : decode b_Md_hand 49 = .ok (.goto (7), 3) := by decide +kernel
theorem d_Md_hand_52 : decode b_Md_hand 52 = .ok (.aload_n 0, 1) := by decide +kernel
theorem d_Md_hand_53 : decode b_Md_hand 53 = .ok (.invokevirtual 216, 3) := by decide +kernel
theorem d_Md_hand_56 : decode b_Md_hand 56 = .ok (.ireturn, 1) := by decide +kernel
theorem d_Md_total_0 : decode b_Md_total 0 = .ok (.aload_n 0, 1) := by decide +kernel
theorem d_Md_total_1 : decode b_Md_total 1 = .ok (.getfield 172, 3) := by decide +kernel
theorem d_Md_total_4 : decode b_Md_total 4 = .ok (.ireturn, 1) := by decide +kernel
theorem d_Md_runs_0 : decode b_Md_runs 0 = .ok (.aload_n 0, 1) := by decide +kernel
theorem d_Md_runs_1 : decode b_Md_runs 1 = .ok (.getfield 179, 3) := by decide +kernel
theorem d_Md_runs_4 : decode b_Md_runs 4 = .ok (.ireturn, 1) := by decide +kernel
theorem d_Md_status_0 : decode b_Md_status 0 = .ok (.iload_n 1, 1) := by decide +kernel
theorem d_Md_status_1 : decode b_Md_status 1 = .ok (.ifCond .lt (11), 3) := by decide +kernel
theorem d_Md_status_4 : decode b_Md_status 4 = .ok (.iload_n 1, 1) := by decide +kernel
theorem d_Md_status_5 : decode b_Md_status 5 = .ok (.aload_n 0, 1) := by decide +kernel
theorem d_Md_status_6 : decode b_Md_status 6 = .ok (.getfield 201, 3) := by decide +kernel
theorem d_Md_status_9 : decode b_Md_status 9 = .ok (.if_icmp .lt (7), 3) := by decide +kernel
theorem d_Md_status_12 : decode b_Md_status 12 = .ok (.iconst (-1), 1) := by decide +kernel
theorem d_Md_status_13 : decode b_Md_status 13 = .ok (.goto (9), 3) := by decide +kernel
theorem d_Md_status_16 : decode b_Md_status 16 = .ok (.aload_n 0, 1) := by decide +kernel
theorem d_Md_status_17 : decode b_Md_status 17 = .ok (.getfield 53, 3) := by decide +kernel
theorem d_Md_status_20 : decode b_Md_status 20 = .ok (.iload_n 1, 1) := by decide +kernel
theorem d_Md_status_21 : decode b_Md_status 21 = .ok (.iaload, 1) := by decide +kernel
theorem d_Md_status_22 : decode b_Md_status 22 = .ok (.ireturn, 1) := by decide +kernel
theorem d_Md_result_0 : decode b_Md_result 0 = .ok (.iload_n 1, 1) := by decide +kernel
theorem d_Md_result_1 : decode b_Md_result 1 = .ok (.ifCond .lt (20), 3) := by decide +kernel
theorem d_Md_result_4 : decode b_Md_result 4 = .ok (.iload_n 1, 1) := by decide +kernel
theorem d_Md_result_5 : decode b_Md_result 5 = .ok (.aload_n 0, 1) := by decide +kernel
theorem d_Md_result_6 : decode b_Md_result 6 = .ok (.getfield 201, 3) := by decide +kernel
theorem d_Md_result_9 : decode b_Md_result 9 = .ok (.if_icmp .ge (12), 3) := by decide +kernel
theorem d_Md_result_12 : decode b_Md_result 12 = .ok (.aload_n 0, 1) := by decide +kernel
theorem d_Md_result_13 : decode b_Md_result 13 = .ok (.getfield 53, 3) := by decide +kernel
theorem d_Md_result_16 : decode b_Md_result 16 = .ok (.iload_n 1, 1) := by decide +kernel
theorem d_Md_result_17 : decode b_Md_result 17 = .ok (.iaload, 1) := by decide +kernel
theorem d_Md_result_18 : decode b_Md_result 18 = .ok (.ifCond .eq (7), 3) := by decide +kernel
theorem d_Md_result_21 : decode b_Md_result 21 = .ok (.iconst 0, 1) := by decide +kernel
theorem d_Md_result_22 : decode b_Md_result 22 = .ok (.goto (9), 3) := by decide +kernel
theorem d_Md_result_25 : decode b_Md_result 25 = .ok (.aload_n 0, 1) := by decide +kernel
theorem d_Md_result_26 : decode b_Md_result 26 = .ok (.getfield 56, 3) := by decide +kernel
theorem d_Md_result_29 : decode b_Md_result 29 = .ok (.iload_n 1, 1) := by decide +kernel
theorem d_Md_result_30 : decode b_Md_result 30 = .ok (.iaload, 1) := by decide +kernel
theorem d_Md_result_31 : decode b_Md_result 31 = .ok (.ireturn, 1) := by decide +kernel
theorem d_Md_flight_0 : decode b_Md_flight 0 = .ok (.aload_n 0, 1) := by decide +kernel
theorem d_Md_flight_1 : decode b_Md_flight 1 = .ok (.getfield 119, 3) := by decide +kernel
theorem d_Md_flight_4 : decode b_Md_flight 4 = .ok (.ireturn, 1) := by decide +kernel
theorem d_Md_size_0 : decode b_Md_size 0 = .ok (.aload_n 0, 1) := by decide +kernel
theorem d_Md_size_1 : decode b_Md_size 1 = .ok (.iload_n 1, 1) := by decide +kernel
theorem d_Md_size_2 : decode b_Md_size 2 = .ok (.invokevirtual 122, 3) := by decide +kernel
theorem d_Md_size_5 : decode b_Md_size 5 = .ok (.ifCond .eq (12), 3) := by decide +kernel
theorem d_Md_size_8 : decode b_Md_size 8 = .ok (.aload_n 0, 1) := by decide +kernel
theorem d_Md_size_9 : decode b_Md_size 9 = .ok (.getfield 35, 3) := by decide +kernel
theorem d_Md_size_12 : decode b_Md_size 12 = .ok (.iload_n 1, 1) := by decide +kernel
theorem d_Md_size_13 : decode b_Md_size 13 = .ok (.iaload, 1) := by decide +kernel
theorem d_Md_size_14 : decode b_Md_size 14 = .ok (.goto (4), 3) := by decide +kernel
theorem d_Md_size_17 : decode b_Md_size 17 = .ok (.iconst (-1), 1) := by decide +kernel
theorem d_Md_size_18 : decode b_Md_size 18 = .ok (.ireturn, 1) := by decide +kernel
theorem d_Md_byteAt_0 : decode b_Md_byteAt 0 = .ok (.aload_n 0, 1) := by decide +kernel
theorem d_Md_byteAt_1 : decode b_Md_byteAt 1 = .ok (.iload_n 1, 1) := by decide +kernel
theorem d_Md_byteAt_2 : decode b_Md_byteAt 2 = .ok (.invokevirtual 122, 3) := by decide +kernel
theorem d_Md_byteAt_5 : decode b_Md_byteAt 5 = .ok (.ifCond .eq (17), 3) := by decide +kernel
theorem d_Md_byteAt_8 : decode b_Md_byteAt 8 = .ok (.iload_n 2, 1) := by decide +kernel
theorem d_Md_byteAt_9 : decode b_Md_byteAt 9 = .ok (.ifCond .lt (13), 3) := by decide +kernel
theorem d_Md_byteAt_12 : decode b_Md_byteAt 12 = .ok (.iload_n 2, 1) := by decide +kernel
theorem d_Md_byteAt_13 : decode b_Md_byteAt 13 = .ok (.aload_n 0, 1) := by decide +kernel
theorem d_Md_byteAt_14 : decode b_Md_byteAt 14 = .ok (.getfield 35, 3) := by decide +kernel
theorem d_Md_byteAt_17 : decode b_Md_byteAt 17 = .ok (.iload_n 1, 1) := by decide +kernel
theorem d_Md_byteAt_18 : decode b_Md_byteAt 18 = .ok (.iaload, 1) := by decide +kernel
theorem d_Md_byteAt_19 : decode b_Md_byteAt 19 = .ok (.if_icmp .lt (7), 3) := by decide +kernel
theorem d_Md_byteAt_22 : decode b_Md_byteAt 22 = .ok (.iconst (-1), 1) := by decide +kernel
theorem d_Md_byteAt_23 : decode b_Md_byteAt 23 = .ok (.goto (15), 3) := by decide +kernel
theorem d_Md_byteAt_26 : decode b_Md_byteAt 26 = .ok (.aload_n 0, 1) := by decide +kernel
theorem d_Md_byteAt_27 : decode b_Md_byteAt 27 = .ok (.getfield 32, 3) := by decide +kernel
theorem d_Md_byteAt_30 : decode b_Md_byteAt 30 = .ok (.sipush 160, 3) := by decide +kernel
theorem d_Md_byteAt_33 : decode b_Md_byteAt 33 = .ok (.iload_n 1, 1) := by decide +kernel
theorem d_Md_byteAt_34 : decode b_Md_byteAt 34 = .ok (.imul, 1) := by decide +kernel
theorem d_Md_byteAt_35 : decode b_Md_byteAt 35 = .ok (.iload_n 2, 1) := by decide +kernel
theorem d_Md_byteAt_36 : decode b_Md_byteAt 36 = .ok (.iadd, 1) := by decide +kernel
theorem d_Md_byteAt_37 : decode b_Md_byteAt 37 = .ok (.iaload, 1) := by decide +kernel
theorem d_Md_byteAt_38 : decode b_Md_byteAt 38 = .ok (.ireturn, 1) := by decide +kernel
theorem d_Lw_cell_0 : decode b_Lw_cell 0 = .ok (.iload_n 1, 1) := by decide +kernel
theorem d_Lw_cell_1 : decode b_Lw_cell 1 = .ok (.aload_n 0, 1) := by decide +kernel
theorem d_Lw_cell_2 : decode b_Lw_cell 2 = .ok (.arraylength, 1) := by decide +kernel
theorem d_Lw_cell_3 : decode b_Lw_cell 3 = .ok (.if_icmp .ge (9), 3) := by decide +kernel
theorem d_Lw_cell_6 : decode b_Lw_cell 6 = .ok (.aload_n 0, 1) := by decide +kernel
theorem d_Lw_cell_7 : decode b_Lw_cell 7 = .ok (.iload_n 1, 1) := by decide +kernel
theorem d_Lw_cell_8 : decode b_Lw_cell 8 = .ok (.iaload, 1) := by decide +kernel
theorem d_Lw_cell_9 : decode b_Lw_cell 9 = .ok (.goto (4), 3) := by decide +kernel
theorem d_Lw_cell_12 : decode b_Lw_cell 12 = .ok (.iconst 0, 1) := by decide +kernel
theorem d_Lw_cell_13 : decode b_Lw_cell 13 = .ok (.ireturn, 1) := by decide +kernel
theorem d_Lw_law_0 : decode b_Lw_law 0 = .ok (.new 7, 3) := by decide +kernel
theorem d_Lw_law_3 : decode b_Lw_law 3 = .ok (.dup, 1) := by decide +kernel
theorem d_Lw_law_4 : decode b_Lw_law 4 = .ok (.aload_n 0, 1) := by decide +kernel
theorem d_Lw_law_5 : decode b_Lw_law 5 = .ok (.iconst 0, 1) := by decide +kernel
theorem d_Lw_law_6 : decode b_Lw_law 6 = .ok (.invokestatic 9, 3) := by decide +kernel
theorem d_Lw_law_9 : decode b_Lw_law 9 = .ok (.invokespecial 15, 3) := by decide +kernel
theorem d_Lw_law_12 : decode b_Lw_law 12 = .ok (.astore_n 1, 1) := by decide +kernel
theorem d_Lw_law_13 : decode b_Lw_law 13 = .ok (.new 18, 3) := by decide +kernel
theorem d_Lw_law_16 : decode b_Lw_law 16 = .ok (.dup, 1) := by decide +kernel
theorem d_Lw_law_17 : decode b_Lw_law 17 = .ok (.aload_n 0, 1) := by decide +kernel
theorem d_Lw_law_18 : decode b_Lw_law 18 = .ok (.iconst 0, 1) := by decide +kernel
theorem d_Lw_law_19 : decode b_Lw_law 19 = .ok (.invokestatic 9, 3) := by decide +kernel
theorem d_Lw_law_22 : decode b_Lw_law 22 = .ok (.invokespecial 20, 3) := by decide +kernel
theorem d_Lw_law_25 : decode b_Lw_law 25 = .ok (.astore_n 2, 1) := by decide +kernel
theorem d_Lw_law_26 : decode b_Lw_law 26 = .ok (.iconst 1, 1) := by decide +kernel
theorem d_Lw_law_27 : decode b_Lw_law 27 = .ok (.istore_n 3, 1) := by decide +kernel
theorem d_Lw_law_28 : decode b_Lw_law 28 = .ok (.iload_n 3, 1) := by decide +kernel
theorem d_Lw_law_29 : decode b_Lw_law 29 = .ok (.aload_n 0, 1) := by decide +kernel
theorem d_Lw_law_30 : decode b_Lw_law 30 = .ok (.arraylength, 1) := by decide +kernel
theorem d_Lw_law_31 : decode b_Lw_law 31 = .ok (.iconst 4, 1) := by decide +kernel
theorem d_Lw_law_32 : decode b_Lw_law 32 = .ok (.isub, 1) := by decide +kernel
theorem d_Lw_law_33 : decode b_Lw_law 33 = .ok (.if_icmp .gt (508), 3) := by decide +kernel
theorem d_Lw_law_36 : decode b_Lw_law 36 = .ok (.aload_n 0, 1) := by decide +kernel
theorem d_Lw_law_37 : decode b_Lw_law 37 = .ok (.iload_n 3, 1) := by decide +kernel
theorem d_Lw_law_38 : decode b_Lw_law 38 = .ok (.iaload, 1) := by decide +kernel
theorem d_Lw_law_39 : decode b_Lw_law 39 = .ok (.bipush 31, 2) := by decide +kernel
theorem d_Lw_law_41 : decode b_Lw_law 41 = .ok (.iand, 1) := by decide +kernel
theorem d_Lw_law_42 : decode b_Lw_law 42 = .ok (.tableswitch (493) (0) (16) #[(82), (141), (174), (185), (208), (221), (244), (267), (290), (313), (352), (365), (378), (401), (424), (437), (460)], 82) := by decide +kernel
theorem d_Lw_law_124 : decode b_Lw_law 124 = .ok (.aload_n 1, 1) := by decide +kernel
theorem d_Lw_law_125 : decode b_Lw_law 125 = .ok (.aload_n 0, 1) := by decide +kernel
theorem d_Lw_law_126 : decode b_Lw_law 126 = .ok (.iload_n 3, 1) := by decide +kernel
theorem d_Lw_law_127 : decode b_Lw_law 127 = .ok (.iconst 1, 1) := by decide +kernel
theorem d_Lw_law_128 : decode b_Lw_law 128 = .ok (.iadd, 1) := by decide +kernel
theorem d_Lw_law_129 : decode b_Lw_law 129 = .ok (.iaload, 1) := by decide +kernel
theorem d_Lw_law_130 : decode b_Lw_law 130 = .ok (.aload_n 0, 1) := by decide +kernel
theorem d_Lw_law_131 : decode b_Lw_law 131 = .ok (.iload_n 3, 1) := by decide +kernel
theorem d_Lw_law_132 : decode b_Lw_law 132 = .ok (.iconst 2, 1) := by decide +kernel
theorem d_Lw_law_133 : decode b_Lw_law 133 = .ok (.iadd, 1) := by decide +kernel
theorem d_Lw_law_134 : decode b_Lw_law 134 = .ok (.iaload, 1) := by decide +kernel
theorem d_Lw_law_135 : decode b_Lw_law 135 = .ok (.aload_n 0, 1) := by decide +kernel
theorem d_Lw_law_136 : decode b_Lw_law 136 = .ok (.iload_n 3, 1) := by decide +kernel
theorem d_Lw_law_137 : decode b_Lw_law 137 = .ok (.iconst 3, 1) := by decide +kernel
theorem d_Lw_law_138 : decode b_Lw_law 138 = .ok (.iadd, 1) := by decide +kernel
theorem d_Lw_law_139 : decode b_Lw_law 139 = .ok (.iaload, 1) := by decide +kernel
theorem d_Lw_law_140 : decode b_Lw_law 140 = .ok (.ifCond .eq (7), 3) := by decide +kernel
theorem d_Lw_law_143 : decode b_Lw_law 143 = .ok (.iconst 1, 1) := by decide +kernel
theorem d_Lw_law_144 : decode b_Lw_law 144 = .ok (.goto (4), 3) := by decide +kernel
theorem d_Lw_law_147 : decode b_Lw_law 147 = .ok (.iconst 0, 1) := by decide +kernel
theorem d_Lw_law_148 : decode b_Lw_law 148 = .ok (.invokevirtual 21, 3) := by decide +kernel
theorem d_Lw_law_151 : decode b_Lw_law 151 = .ok (.aload_n 2, 1) := by decide +kernel
theorem d_Lw_law_152 : decode b_Lw_law 152 = .ok (.aload_n 0, 1) := by decide +kernel
theorem d_Lw_law_153 : decode b_Lw_law 153 = .ok (.iload_n 3, 1) := by decide +kernel
theorem d_Lw_law_154 : decode b_Lw_law 154 = .ok (.iconst 1, 1) := by decide +kernel
theorem d_Lw_law_155 : decode b_Lw_law 155 = .ok (.iadd, 1) := by decide +kernel
theorem d_Lw_law_156 : decode b_Lw_law 156 = .ok (.iaload, 1) := by decide +kernel
theorem d_Lw_law_157 : decode b_Lw_law 157 = .ok (.aload_n 0, 1) := by decide +kernel
theorem d_Lw_law_158 : decode b_Lw_law 158 = .ok (.iload_n 3, 1) := by decide +kernel
theorem d_Lw_law_159 : decode b_Lw_law 159 = .ok (.iconst 2, 1) := by decide +kernel
theorem d_Lw_law_160 : decode b_Lw_law 160 = .ok (.iadd, 1) := by decide +kernel
theorem d_Lw_law_161 : decode b_Lw_law 161 = .ok (.iaload, 1) := by decide +kernel
theorem d_Lw_law_162 : decode b_Lw_law 162 = .ok (.aload_n 0, 1) := by decide +kernel
theorem d_Lw_law_163 : decode b_Lw_law 163 = .ok (.iload_n 3, 1) := by decide +kernel
theorem d_Lw_law_164 : decode b_Lw_law 164 = .ok (.iconst 3, 1) := by decide +kernel
theorem d_Lw_law_165 : decode b_Lw_law 165 = .ok (.iadd, 1) := by decide +kernel
theorem d_Lw_law_166 : decode b_Lw_law 166 = .ok (.iaload, 1) := by decide +kernel
theorem d_Lw_law_167 : decode b_Lw_law 167 = .ok (.ifCond .eq (7), 3) := by decide +kernel
theorem d_Lw_law_170 : decode b_Lw_law 170 = .ok (.iconst 1, 1) := by decide +kernel
theorem d_Lw_law_171 : decode b_Lw_law 171 = .ok (.goto (4), 3) := by decide +kernel
theorem d_Lw_law_174 : decode b_Lw_law 174 = .ok (.iconst 0, 1) := by decide +kernel
theorem d_Lw_law_175 : decode b_Lw_law 175 = .ok (.invokevirtual 25, 3) := by decide +kernel
theorem d_Lw_law_178 : decode b_Lw_law 178 = .ok (.if_icmp .eq (357), 3) := by decide +kernel
theorem d_Lw_law_181 : decode b_Lw_law 181 = .ok (.iconst 0, 1) := by decide +kernel
theorem d_Lw_law_182 : decode b_Lw_law 182 = .ok (.ireturn, 1) := by decide +kernel
theorem d_Lw_law_183 : decode b_Lw_law 183 = .ok (.aload_n 1, 1) := by decide +kernel
theorem d_Lw_law_184 : decode b_Lw_law 184 = .ok (.aload_n 0, 1) := by decide +kernel
theorem d_Lw_law_185 : decode b_Lw_law 185 = .ok (.iload_n 3, 1) := by decide +kernel
theorem d_Lw_law_186 : decode b_Lw_law 186 = .ok (.iconst 1, 1) := by decide +kernel
theorem d_Lw_law_187 : decode b_Lw_law 187 = .ok (.iadd, 1) := by decide +kernel
theorem d_Lw_law_188 : decode b_Lw_law 188 = .ok (.iaload, 1) := by decide +kernel
theorem d_Lw_law_189 : decode b_Lw_law 189 = .ok (.aload_n 0, 1) := by decide +kernel
theorem d_Lw_law_190 : decode b_Lw_law 190 = .ok (.iload_n 3, 1) := by decide +kernel
theorem d_Lw_law_191 : decode b_Lw_law 191 = .ok (.iconst 2, 1) := by decide +kernel
theorem d_Lw_law_192 : decode b_Lw_law 192 = .ok (.iadd, 1) := by decide +kernel
theorem d_Lw_law_193 : decode b_Lw_law 193 = .ok (.iaload, 1) := by decide +kernel
theorem d_Lw_law_194 : decode b_Lw_law 194 = .ok (.invokevirtual 26, 3) := by decide +kernel
theorem d_Lw_law_197 : decode b_Lw_law 197 = .ok (.aload_n 2, 1) := by decide +kernel
theorem d_Lw_law_198 : decode b_Lw_law 198 = .ok (.aload_n 0, 1) := by decide +kernel
theorem d_Lw_law_199 : decode b_Lw_law 199 = .ok (.iload_n 3, 1) := by decide +kernel
theorem d_Lw_law_200 : decode b_Lw_law 200 = .ok (.iconst 1, 1) := by decide +kernel
theorem d_Lw_law_201 : decode b_Lw_law 201 = .ok (.iadd, 1) := by decide +kernel
theorem d_Lw_law_202 : decode b_Lw_law 202 = .ok (.iaload, 1) := by decide +kernel
theorem d_Lw_law_203 : decode b_Lw_law 203 = .ok (.aload_n 0, 1) := by decide +kernel
theorem d_Lw_law_204 : decode b_Lw_law 204 = .ok (.iload_n 3, 1) := by decide +kernel
theorem d_Lw_law_205 : decode b_Lw_law 205 = .ok (.iconst 2, 1) := by decide +kernel
theorem d_Lw_law_206 : decode b_Lw_law 206 = .ok (.iadd, 1) := by decide +kernel
theorem d_Lw_law_207 : decode b_Lw_law 207 = .ok (.iaload, 1) := by decide +kernel
theorem d_Lw_law_208 : decode b_Lw_law 208 = .ok (.invokevirtual 30, 3) := by decide +kernel
theorem d_Lw_law_211 : decode b_Lw_law 211 = .ok (.if_icmp .eq (324), 3) := by decide +kernel
theorem d_Lw_law_214 : decode b_Lw_law 214 = .ok (.iconst 0, 1) := by decide +kernel
theorem d_Lw_law_215 : decode b_Lw_law 215 = .ok (.ireturn, 1) := by decide +kernel
theorem d_Lw_law_216 : decode b_Lw_law 216 = .ok (.aload_n 1, 1) := by decide +kernel
theorem d_Lw_law_217 : decode b_Lw_law 217 = .ok (.invokevirtual 31, 3) := by decide +kernel
theorem d_Lw_law_220 : decode b_Lw_law 220 = .ok (.aload_n 2, 1) := by decide +kernel
theorem d_Lw_law_221 : decode b_Lw_law 221 = .ok (.invokevirtual 34, 3) := by decide +kernel
theorem d_Lw_law_224 : decode b_Lw_law 224 = .ok (.goto (311), 3) := by decide +kernel
theorem d_Lw_law_227 : decode b_Lw_law 227 = .ok (.aload_n 1, 1) := by decide +kernel
theorem d_Lw_law_228 : decode b_Lw_law 228 = .ok (.aload_n 0, 1) := by decide +kernel
theorem d_Lw_law_229 : decode b_Lw_law 229 = .ok (.iload_n 3, 1) := by decide +kernel
theorem d_Lw_law_230 : decode b_Lw_law 230 = .ok (.iconst 1, 1) := by decide +kernel
theorem d_Lw_law_231 : decode b_Lw_law 231 = .ok (.iadd, 1) := by decide +kernel
theorem d_Lw_law_232 : decode b_Lw_law 232 = .ok (.iaload, 1) := by decide +kernel
theorem d_Lw_law_233 : decode b_Lw_law 233 = .ok (.invokevirtual 35, 3) := by decide +kernel
theorem d_Lw_law_236 : decode b_Lw_law 236 = .ok (.aload_n 2, 1) := by decide +kernel
theorem d_Lw_law_237 : decode b_Lw_law 237 = .ok (.aload_n 0, 1) := by decide +kernel
theorem d_Lw_law_238 : decode b_Lw_law 238 = .ok (.iload_n 3, 1) := by decide +kernel
theorem d_Lw_law_239 : decode b_Lw_law 239 = .ok (.iconst 1, 1) := by decide +kernel
theorem d_Lw_law_240 : decode b_Lw_law 240 = .ok (.iadd, 1) := by decide +kernel
theorem d_Lw_law_241 : decode b_Lw_law 241 = .ok (.iaload, 1) := by decide +kernel
theorem d_Lw_law_242 : decode b_Lw_law 242 = .ok (.invokevirtual 39, 3) := by decide +kernel
theorem d_Lw_law_245 : decode b_Lw_law 245 = .ok (.if_icmp .eq (290), 3) := by decide +kernel
theorem d_Lw_law_248 : decode b_Lw_law 248 = .ok (.iconst 0, 1) := by decide +kernel
theorem d_Lw_law_249 : decode b_Lw_law 249 = .ok (.ireturn, 1) := by decide +kernel
theorem d_Lw_law_250 : decode b_Lw_law 250 = .ok (.aload_n 1, 1) := by decide +kernel
theorem d_Lw_law_251 : decode b_Lw_law 251 = .ok (.invokevirtual 40, 3) := by decide +kernel
theorem d_Lw_law_254 : decode b_Lw_law 254 = .ok (.aload_n 2, 1) := by decide +kernel
theorem d_Lw_law_255 : decode b_Lw_law 255 = .ok (.invokevirtual 44, 3) := by decide +kernel
theorem d_Lw_law_258 : decode b_Lw_law 258 = .ok (.if_icmp .eq (277), 3) := by decide +kernel
theorem d_Lw_law_261 : decode b_Lw_law 261 = .ok (.iconst 0, 1) := by decide +kernel
theorem d_Lw_law_262 : decode b_Lw_law 262 = .ok (.ireturn, 1) := by decide +kernel
theorem d_Lw_law_263 : decode b_Lw_law 263 = .ok (.aload_n 1, 1) := by decide +kernel
theorem d_Lw_law_264 : decode b_Lw_law 264 = .ok (.aload_n 0, 1) := by decide +kernel
theorem d_Lw_law_265 : decode b_Lw_law 265 = .ok (.iload_n 3, 1) := by decide +kernel
theorem d_Lw_law_266 : decode b_Lw_law 266 = .ok (.iconst 1, 1) := by decide +kernel
theorem d_Lw_law_267 : decode b_Lw_law 267 = .ok (.iadd, 1) := by decide +kernel
theorem d_Lw_law_268 : decode b_Lw_law 268 = .ok (.iaload, 1) := by decide +kernel
theorem d_Lw_law_269 : decode b_Lw_law 269 = .ok (.invokevirtual 45, 3) := by decide +kernel
theorem d_Lw_law_272 : decode b_Lw_law 272 = .ok (.aload_n 2, 1) := by decide +kernel
theorem d_Lw_law_273 : decode b_Lw_law 273 = .ok (.aload_n 0, 1) := by decide +kernel
theorem d_Lw_law_274 : decode b_Lw_law 274 = .ok (.iload_n 3, 1) := by decide +kernel
theorem d_Lw_law_275 : decode b_Lw_law 275 = .ok (.iconst 1, 1) := by decide +kernel
theorem d_Lw_law_276 : decode b_Lw_law 276 = .ok (.iadd, 1) := by decide +kernel
theorem d_Lw_law_277 : decode b_Lw_law 277 = .ok (.iaload, 1) := by decide +kernel
theorem d_Lw_law_278 : decode b_Lw_law 278 = .ok (.invokevirtual 48, 3) := by decide +kernel
theorem d_Lw_law_281 : decode b_Lw_law 281 = .ok (.if_icmp .eq (254), 3) := by decide +kernel
theorem d_Lw_law_284 : decode b_Lw_law 284 = .ok (.iconst 0, 1) := by decide +kernel
theorem d_Lw_law_285 : decode b_Lw_law 285 = .ok (.ireturn, 1) := by decide +kernel
theorem d_Lw_law_286 : decode b_Lw_law 286 = .ok (.aload_n 1, 1) := by decide +kernel
theorem d_Lw_law_287 : decode b_Lw_law 287 = .ok (.aload_n 0, 1) := by decide +kernel
theorem d_Lw_law_288 : decode b_Lw_law 288 = .ok (.iload_n 3, 1) := by decide +kernel
theorem d_Lw_law_289 : decode b_Lw_law 289 = .ok (.iconst 1, 1) := by decide +kernel
theorem d_Lw_law_290 : decode b_Lw_law 290 = .ok (.iadd, 1) := by decide +kernel
theorem d_Lw_law_291 : decode b_Lw_law 291 = .ok (.iaload, 1) := by decide +kernel
theorem d_Lw_law_292 : decode b_Lw_law 292 = .ok (.invokevirtual 49, 3) := by decide +kernel
theorem d_Lw_law_295 : decode b_Lw_law 295 = .ok (.aload_n 2, 1) := by decide +kernel
theorem d_Lw_law_296 : decode b_Lw_law 296 = .ok (.aload_n 0, 1) := by decide +kernel
theorem d_Lw_law_297 : decode b_Lw_law 297 = .ok (.iload_n 3, 1) := by decide +kernel
theorem d_Lw_law_298 : decode b_Lw_law 298 = .ok (.iconst 1, 1) := by decide +kernel
theorem d_Lw_law_299 : decode b_Lw_law 299 = .ok (.iadd, 1) := by decide +kernel
theorem d_Lw_law_300 : decode b_Lw_law 300 = .ok (.iaload, 1) := by decide +kernel
theorem d_Lw_law_301 : decode b_Lw_law 301 = .ok (.invokevirtual 53, 3) := by decide +kernel
theorem d_Lw_law_304 : decode b_Lw_law 304 = .ok (.if_icmp .eq (231), 3) := by decide +kernel
theorem d_Lw_law_307 : decode b_Lw_law 307 = .ok (.iconst 0, 1) := by decide +kernel
theorem d_Lw_law_308 : decode b_Lw_law 308 = .ok (.ireturn, 1) := by decide +kernel
theorem d_Lw_law_309 : decode b_Lw_law 309 = .ok (.aload_n 1, 1) := by decide +kernel
theorem d_Lw_law_310 : decode b_Lw_law 310 = .ok (.aload_n 0, 1) := by decide +kernel
theorem d_Lw_law_311 : decode b_Lw_law 311 = .ok (.iload_n 3, 1) := by decide +kernel
theorem d_Lw_law_312 : decode b_Lw_law 312 = .ok (.iconst 1, 1) := by decide +kernel
theorem d_Lw_law_313 : decode b_Lw_law 313 = .ok (.iadd, 1) := by decide +kernel
theorem d_Lw_law_314 : decode b_Lw_law 314 = .ok (.iaload, 1) := by decide +kernel
theorem d_Lw_law_315 : decode b_Lw_law 315 = .ok (.invokevirtual 54, 3) := by decide +kernel
theorem d_Lw_law_318 : decode b_Lw_law 318 = .ok (.aload_n 2, 1) := by decide +kernel
theorem d_Lw_law_319 : decode b_Lw_law 319 = .ok (.aload_n 0, 1) := by decide +kernel
theorem d_Lw_law_320 : decode b_Lw_law 320 = .ok (.iload_n 3, 1) := by decide +kernel
theorem d_Lw_law_321 : decode b_Lw_law 321 = .ok (.iconst 1, 1) := by decide +kernel
theorem d_Lw_law_322 : decode b_Lw_law 322 = .ok (.iadd, 1) := by decide +kernel
theorem d_Lw_law_323 : decode b_Lw_law 323 = .ok (.iaload, 1) := by decide +kernel
theorem d_Lw_law_324 : decode b_Lw_law 324 = .ok (.invokevirtual 57, 3) := by decide +kernel
theorem d_Lw_law_327 : decode b_Lw_law 327 = .ok (.if_icmp .eq (208), 3) := by decide +kernel
theorem d_Lw_law_330 : decode b_Lw_law 330 = .ok (.iconst 0, 1) := by decide +kernel
theorem d_Lw_law_331 : decode b_Lw_law 331 = .ok (.ireturn, 1) := by decide +kernel
theorem d_Lw_law_332 : decode b_Lw_law 332 = .ok (.aload_n 1, 1) := by decide +kernel
theorem d_Lw_law_333 : decode b_Lw_law 333 = .ok (.aload_n 0, 1) := by decide +kernel
theorem d_Lw_law_334 : decode b_Lw_law 334 = .ok (.iload_n 3, 1) := by decide +kernel
theorem d_Lw_law_335 : decode b_Lw_law 335 = .ok (.iconst 1, 1) := by decide +kernel
theorem d_Lw_law_336 : decode b_Lw_law 336 = .ok (.iadd, 1) := by decide +kernel
theorem d_Lw_law_337 : decode b_Lw_law 337 = .ok (.iaload, 1) := by decide +kernel
theorem d_Lw_law_338 : decode b_Lw_law 338 = .ok (.invokevirtual 58, 3) := by decide +kernel
theorem d_Lw_law_341 : decode b_Lw_law 341 = .ok (.aload_n 2, 1) := by decide +kernel
theorem d_Lw_law_342 : decode b_Lw_law 342 = .ok (.aload_n 0, 1) := by decide +kernel
theorem d_Lw_law_343 : decode b_Lw_law 343 = .ok (.iload_n 3, 1) := by decide +kernel
theorem d_Lw_law_344 : decode b_Lw_law 344 = .ok (.iconst 1, 1) := by decide +kernel
theorem d_Lw_law_345 : decode b_Lw_law 345 = .ok (.iadd, 1) := by decide +kernel
theorem d_Lw_law_346 : decode b_Lw_law 346 = .ok (.iaload, 1) := by decide +kernel
theorem d_Lw_law_347 : decode b_Lw_law 347 = .ok (.invokevirtual 61, 3) := by decide +kernel
theorem d_Lw_law_350 : decode b_Lw_law 350 = .ok (.if_icmp .eq (185), 3) := by decide +kernel
theorem d_Lw_law_353 : decode b_Lw_law 353 = .ok (.iconst 0, 1) := by decide +kernel
theorem d_Lw_law_354 : decode b_Lw_law 354 = .ok (.ireturn, 1) := by decide +kernel
theorem d_Lw_law_355 : decode b_Lw_law 355 = .ok (.aload_n 1, 1) := by decide +kernel
theorem d_Lw_law_356 : decode b_Lw_law 356 = .ok (.aload_n 0, 1) := by decide +kernel
theorem d_Lw_law_357 : decode b_Lw_law 357 = .ok (.iload_n 3, 1) := by decide +kernel
theorem d_Lw_law_358 : decode b_Lw_law 358 = .ok (.iconst 1, 1) := by decide +kernel
theorem d_Lw_law_359 : decode b_Lw_law 359 = .ok (.iadd, 1) := by decide +kernel
theorem d_Lw_law_360 : decode b_Lw_law 360 = .ok (.iaload, 1) := by decide +kernel
theorem d_Lw_law_361 : decode b_Lw_law 361 = .ok (.ifCond .eq (7), 3) := by decide +kernel
theorem d_Lw_law_364 : decode b_Lw_law 364 = .ok (.iconst 1, 1) := by decide +kernel
theorem d_Lw_law_365 : decode b_Lw_law 365 = .ok (.goto (4), 3) := by decide +kernel
theorem d_Lw_law_368 : decode b_Lw_law 368 = .ok (.iconst 0, 1) := by decide +kernel
theorem d_Lw_law_369 : decode b_Lw_law 369 = .ok (.invokevirtual 62, 3) := by decide +kernel
theorem d_Lw_law_372 : decode b_Lw_law 372 = .ok (.aload_n 2, 1) := by decide +kernel
theorem d_Lw_law_373 : decode b_Lw_law 373 = .ok (.aload_n 0, 1) := by decide +kernel
theorem d_Lw_law_374 : decode b_Lw_law 374 = .ok (.iload_n 3, 1) := by decide +kernel
theorem d_Lw_law_375 : decode b_Lw_law 375 = .ok (.iconst 1, 1) := by decide +kernel
theorem d_Lw_law_376 : decode b_Lw_law 376 = .ok (.iadd, 1) := by decide +kernel
theorem d_Lw_law_377 : decode b_Lw_law 377 = .ok (.iaload, 1) := by decide +kernel
theorem d_Lw_law_378 : decode b_Lw_law 378 = .ok (.ifCond .eq (7), 3) := by decide +kernel
theorem d_Lw_law_381 : decode b_Lw_law 381 = .ok (.iconst 1, 1) := by decide +kernel
theorem d_Lw_law_382 : decode b_Lw_law 382 = .ok (.goto (4), 3) := by decide +kernel
theorem d_Lw_law_385 : decode b_Lw_law 385 = .ok (.iconst 0, 1) := by decide +kernel
theorem d_Lw_law_386 : decode b_Lw_law 386 = .ok (.invokevirtual 66, 3) := by decide +kernel
theorem d_Lw_law_389 : decode b_Lw_law 389 = .ok (.if_icmp .eq (146), 3) := by decide +kernel
theorem d_Lw_law_392 : decode b_Lw_law 392 = .ok (.iconst 0, 1) := by decide +kernel
theorem d_Lw_law_393 : decode b_Lw_law 393 = .ok (.ireturn, 1) := by decide +kernel
theorem d_Lw_law_394 : decode b_Lw_law 394 = .ok (.aload_n 1, 1) := by decide +kernel
theorem d_Lw_law_395 : decode b_Lw_law 395 = .ok (.invokevirtual 67, 3) := by decide +kernel
theorem d_Lw_law_398 : decode b_Lw_law 398 = .ok (.aload_n 2, 1) := by decide +kernel
theorem d_Lw_law_399 : decode b_Lw_law 399 = .ok (.invokevirtual 70, 3) := by decide +kernel
theorem d_Lw_law_402 : decode b_Lw_law 402 = .ok (.if_icmp .eq (133), 3) := by decide +kernel
theorem d_Lw_law_405 : decode b_Lw_law 405 = .ok (.iconst 0, 1) := by decide +kernel
theorem d_Lw_law_406 : decode b_Lw_law 406 = .ok (.ireturn, 1) := by decide +kernel
theorem d_Lw_law_407 : decode b_Lw_law 407 = .ok (.aload_n 1, 1) := by decide +kernel
theorem d_Lw_law_408 : decode b_Lw_law 408 = .ok (.invokevirtual 71, 3) := by decide +kernel
theorem d_Lw_law_411 : decode b_Lw_law 411 = .ok (.aload_n 2, 1) := by decide +kernel
theorem d_Lw_law_412 : decode b_Lw_law 412 = .ok (.invokevirtual 74, 3) := by decide +kernel
theorem d_Lw_law_415 : decode b_Lw_law 415 = .ok (.if_icmp .eq (120), 3) := by decide +kernel
theorem d_Lw_law_418 : decode b_Lw_law 418 = .ok (.iconst 0, 1) := by decide +kernel
theorem d_Lw_law_419 : decode b_Lw_law 419 = .ok (.ireturn, 1) := by decide +kernel
theorem d_Lw_law_420 : decode b_Lw_law 420 = .ok (.aload_n 1, 1) := by decide +kernel
theorem d_Lw_law_421 : decode b_Lw_law 421 = .ok (.aload_n 0, 1) := by decide +kernel
theorem d_Lw_law_422 : decode b_Lw_law 422 = .ok (.iload_n 3, 1) := by decide +kernel
theorem d_Lw_law_423 : decode b_Lw_law 423 = .ok (.iconst 1, 1) := by decide +kernel
theorem d_Lw_law_424 : decode b_Lw_law 424 = .ok (.iadd, 1) := by decide +kernel
theorem d_Lw_law_425 : decode b_Lw_law 425 = .ok (.iaload, 1) := by decide +kernel
theorem d_Lw_law_426 : decode b_Lw_law 426 = .ok (.invokevirtual 75, 3) := by decide +kernel
theorem d_Lw_law_429 : decode b_Lw_law 429 = .ok (.aload_n 2, 1) := by decide +kernel
theorem d_Lw_law_430 : decode b_Lw_law 430 = .ok (.aload_n 0, 1) := by decide +kernel
theorem d_Lw_law_431 : decode b_Lw_law 431 = .ok (.iload_n 3, 1) := by decide +kernel
theorem d_Lw_law_432 : decode b_Lw_law 432 = .ok (.iconst 1, 1) := by decide +kernel
theorem d_Lw_law_433 : decode b_Lw_law 433 = .ok (.iadd, 1) := by decide +kernel
theorem d_Lw_law_434 : decode b_Lw_law 434 = .ok (.iaload, 1) := by decide +kernel
theorem d_Lw_law_435 : decode b_Lw_law 435 = .ok (.invokevirtual 78, 3) := by decide +kernel
theorem d_Lw_law_438 : decode b_Lw_law 438 = .ok (.if_icmp .eq (97), 3) := by decide +kernel
theorem d_Lw_law_441 : decode b_Lw_law 441 = .ok (.iconst 0, 1) := by decide +kernel
theorem d_Lw_law_442 : decode b_Lw_law 442 = .ok (.ireturn, 1) := by decide +kernel
theorem d_Lw_law_443 : decode b_Lw_law 443 = .ok (.aload_n 1, 1) := by decide +kernel
theorem d_Lw_law_444 : decode b_Lw_law 444 = .ok (.aload_n 0, 1) := by decide +kernel
theorem d_Lw_law_445 : decode b_Lw_law 445 = .ok (.iload_n 3, 1) := by decide +kernel
theorem d_Lw_law_446 : decode b_Lw_law 446 = .ok (.iconst 1, 1) := by decide +kernel
theorem d_Lw_law_447 : decode b_Lw_law 447 = .ok (.iadd, 1) := by decide +kernel
theorem d_Lw_law_448 : decode b_Lw_law 448 = .ok (.iaload, 1) := by decide +kernel
theorem d_Lw_law_449 : decode b_Lw_law 449 = .ok (.invokevirtual 79, 3) := by decide +kernel
theorem d_Lw_law_452 : decode b_Lw_law 452 = .ok (.aload_n 2, 1) := by decide +kernel
theorem d_Lw_law_453 : decode b_Lw_law 453 = .ok (.aload_n 0, 1) := by decide +kernel
theorem d_Lw_law_454 : decode b_Lw_law 454 = .ok (.iload_n 3, 1) := by decide +kernel
theorem d_Lw_law_455 : decode b_Lw_law 455 = .ok (.iconst 1, 1) := by decide +kernel
theorem d_Lw_law_456 : decode b_Lw_law 456 = .ok (.iadd, 1) := by decide +kernel
theorem d_Lw_law_457 : decode b_Lw_law 457 = .ok (.iaload, 1) := by decide +kernel
theorem d_Lw_law_458 : decode b_Lw_law 458 = .ok (.invokevirtual 82, 3) := by decide +kernel
theorem d_Lw_law_461 : decode b_Lw_law 461 = .ok (.if_icmp .eq (74), 3) := by decide +kernel
theorem d_Lw_law_464 : decode b_Lw_law 464 = .ok (.iconst 0, 1) := by decide +kernel
theorem d_Lw_law_465 : decode b_Lw_law 465 = .ok (.ireturn, 1) := by decide +kernel
theorem d_Lw_law_466 : decode b_Lw_law 466 = .ok (.aload_n 1, 1) := by decide +kernel
theorem d_Lw_law_467 : decode b_Lw_law 467 = .ok (.invokevirtual 83, 3) := by decide +kernel
theorem d_Lw_law_470 : decode b_Lw_law 470 = .ok (.aload_n 2, 1) := by decide +kernel
theorem d_Lw_law_471 : decode b_Lw_law 471 = .ok (.invokevirtual 86, 3) := by decide +kernel
theorem d_Lw_law_474 : decode b_Lw_law 474 = .ok (.if_icmp .eq (61), 3) := by decide +kernel
theorem d_Lw_law_477 : decode b_Lw_law 477 = .ok (.iconst 0, 1) := by decide +kernel
theorem d_Lw_law_478 : decode b_Lw_law 478 = .ok (.ireturn, 1) := by decide +kernel
theorem d_Lw_law_479 : decode b_Lw_law 479 = .ok (.aload_n 1, 1) := by decide +kernel
theorem d_Lw_law_480 : decode b_Lw_law 480 = .ok (.aload_n 0, 1) := by decide +kernel
theorem d_Lw_law_481 : decode b_Lw_law 481 = .ok (.iload_n 3, 1) := by decide +kernel
theorem d_Lw_law_482 : decode b_Lw_law 482 = .ok (.iconst 1, 1) := by decide +kernel
theorem d_Lw_law_483 : decode b_Lw_law 483 = .ok (.iadd, 1) := by decide +kernel
theorem d_Lw_law_484 : decode b_Lw_law 484 = .ok (.iaload, 1) := by decide +kernel
theorem d_Lw_law_485 : decode b_Lw_law 485 = .ok (.invokevirtual 87, 3) := by decide +kernel
theorem d_Lw_law_488 : decode b_Lw_law 488 = .ok (.aload_n 2, 1) := by decide +kernel
theorem d_Lw_law_489 : decode b_Lw_law 489 = .ok (.aload_n 0, 1) := by decide +kernel
theorem d_Lw_law_490 : decode b_Lw_law 490 = .ok (.iload_n 3, 1) := by decide +kernel
theorem d_Lw_law_491 : decode b_Lw_law 491 = .ok (.iconst 1, 1) := by decide +kernel
theorem d_Lw_law_492 : decode b_Lw_law 492 = .ok (.iadd, 1) := by decide +kernel
theorem d_Lw_law_493 : decode b_Lw_law 493 = .ok (.iaload, 1) := by decide +kernel
theorem d_Lw_law_494 : decode b_Lw_law 494 = .ok (.invokevirtual 90, 3) := by decide +kernel
theorem d_Lw_law_497 : decode b_Lw_law 497 = .ok (.if_icmp .eq (38), 3) := by decide +kernel
theorem d_Lw_law_500 : decode b_Lw_law 500 = .ok (.iconst 0, 1) := by decide +kernel
theorem d_Lw_law_501 : decode b_Lw_law 501 = .ok (.ireturn, 1) := by decide +kernel
theorem d_Lw_law_502 : decode b_Lw_law 502 = .ok (.aload_n 1, 1) := by decide +kernel
theorem d_Lw_law_503 : decode b_Lw_law 503 = .ok (.aload_n 0, 1) := by decide +kernel
theorem d_Lw_law_504 : decode b_Lw_law 504 = .ok (.iload_n 3, 1) := by decide +kernel
theorem d_Lw_law_505 : decode b_Lw_law 505 = .ok (.iconst 1, 1) := by decide +kernel
theorem d_Lw_law_506 : decode b_Lw_law 506 = .ok (.iadd, 1) := by decide +kernel
theorem d_Lw_law_507 : decode b_Lw_law 507 = .ok (.iaload, 1) := by decide +kernel
theorem d_Lw_law_508 : decode b_Lw_law 508 = .ok (.aload_n 0, 1) := by decide +kernel
theorem d_Lw_law_509 : decode b_Lw_law 509 = .ok (.iload_n 3, 1) := by decide +kernel
theorem d_Lw_law_510 : decode b_Lw_law 510 = .ok (.iconst 2, 1) := by decide +kernel
theorem d_Lw_law_511 : decode b_Lw_law 511 = .ok (.iadd, 1) := by decide +kernel
theorem d_Lw_law_512 : decode b_Lw_law 512 = .ok (.iaload, 1) := by decide +kernel
theorem d_Lw_law_513 : decode b_Lw_law 513 = .ok (.invokevirtual 91, 3) := by decide +kernel
theorem d_Lw_law_516 : decode b_Lw_law 516 = .ok (.aload_n 2, 1) := by decide +kernel
theorem d_Lw_law_517 : decode b_Lw_law 517 = .ok (.aload_n 0, 1) := by decide +kernel
theorem d_Lw_law_518 : decode b_Lw_law 518 = .ok (.iload_n 3, 1) := by decide +kernel
theorem d_Lw_law_519 : decode b_Lw_law 519 = .ok (.iconst 1, 1) := by decide +kernel
theorem d_Lw_law_520 : decode b_Lw_law 520 = .ok (.iadd, 1) := by decide +kernel
theorem d_Lw_law_521 : decode b_Lw_law 521 = .ok (.iaload, 1) := by decide +kernel
theorem d_Lw_law_522 : decode b_Lw_law 522 = .ok (.aload_n 0, 1) := by decide +kernel
theorem d_Lw_law_523 : decode b_Lw_law 523 = .ok (.iload_n 3, 1) := by decide +kernel
theorem d_Lw_law_524 : decode b_Lw_law 524 = .ok (.iconst 2, 1) := by decide +kernel
theorem d_Lw_law_525 : decode b_Lw_law 525 = .ok (.iadd, 1) := by decide +kernel
theorem d_Lw_law_526 : decode b_Lw_law 526 = .ok (.iaload, 1) := by decide +kernel
theorem d_Lw_law_527 : decode b_Lw_law 527 = .ok (.invokevirtual 95, 3) := by decide +kernel
theorem d_Lw_law_530 : decode b_Lw_law 530 = .ok (.if_icmp .eq (5), 3) := by decide +kernel
theorem d_Lw_law_533 : decode b_Lw_law 533 = .ok (.iconst 0, 1) := by decide +kernel
theorem d_Lw_law_534 : decode b_Lw_law 534 = .ok (.ireturn, 1) := by decide +kernel
theorem d_Lw_law_535 : decode b_Lw_law 535 = .ok (.iinc 3 (4), 3) := by decide +kernel
theorem d_Lw_law_538 : decode b_Lw_law 538 = .ok (.goto (-510), 3) := by decide +kernel
theorem d_Lw_law_541 : decode b_Lw_law 541 = .ok (.iconst 1, 1) := by decide +kernel
theorem d_Lw_law_542 : decode b_Lw_law 542 = .ok (.ireturn, 1) := by decide +kernel
end
section
/-! More rows of the abstract layer. -/
section Mo
variable {μ : aM} {R : Room} {Z : aZ} {pc : Nat} {L : List (Nat × Value)} {S : List Value} {n : Nat} {h : aH} {cells slots : Nat}
/-- fewer locals -/
theorem T_loc {L' : List (Nat × Value)} (ks : List Nat) (hl : lv_pick L ks = L') (k : Tri μ R Z pc L' S n h cells slots) : Tri μ R Z pc L S n h cells slots := by
  intro p l e s m args below meth c κ D b bs X0 H locs ls C T V
  refine k p l e s m args below meth c κ D b bs X0 H locs ls C T ⟨V.1, V.2.1, fun q hq => ?_⟩
  rw [← hl] at hq
  obtain ⟨q0, h0, rfl⟩ := List.mem_map.mp hq
  obtain ⟨k0, -, hk⟩ := List.mem_filterMap.mp h0
  exact V.2.2 _ (List.mem_map.mpr ⟨q0, List.mem_of_getElem? hk, rfl⟩)
/-- a computed int on top gets a plainer form -/
theorem T_top {x y : Int32} (e : x = y) (k : Tri μ R Z pc L (.int y :: S) n h cells slots) : Tri μ R Z pc L (.int x :: S) n h cells slots := by
  subst e
  exact k
end Mo
end
section
/-! OnceWire$Bytes: a row of bytes as a list. -/
/-- at a: a row that holds l, with room for cap -/
def By (h : aH) (a cap : Nat) (l : List Int32) : Prop := ∃ f : Nat → Int32, h a = some (.inr (1, [.ref (a + 1), .int (nI l.length)])) ∧ h (a + 1) = some (.inl (.int, cap, .inl f)) ∧ l.length ≤ cap ∧ ∀ i, i < l.length → l[i]? = some (f i)
theorem By.le {h : aH} {a cap : Nat} {l : List Int32} (hb : By h a cap l) : l.length ≤ cap := by
  obtain ⟨f, _, _, hl, _⟩ := hb
  exact hl
theorem By.same {h h' : aH} {a cap : Nat} {l : List Int32} (hb : By h a cap l) (h1 : h' a = h a) (h2 : h' (a + 1) = h (a + 1)) : By h' a cap l := by
  obtain ⟨f, q1, q2, q3, q4⟩ := hb
  exact ⟨f, h1.trans q1, h2.trans q2, q3, q4⟩
set_option maxRecDepth 100000 in
set_option maxHeartbeats 4000000 in
theorem c_Bytes_clear {n a cap : Nat} {h : aH} {l : List Int32} (hb : By h a cap l) : Con M_Bytes_clear 0 0 0 n [.ref a] h (fun r h' => r = none ∧ By h' a cap [] ∧ ∀ q, q ≠ a → h' q = h q) := by
  obtain ⟨f, hB, hA, hl, hf⟩ := hb
  have ne : a + 1 ≠ a := by omega
  refine Con.of rfl (Nat.le_of_ble_eq_true rfl) ?_
  refine T_aload_n (pc := 0) d_Bytes_clear_0 rfl ?_
  refine T_iconst (v := 0) (pc := 1) d_Bytes_clear_1 rfl ?_
  refine T_put (pc := 2) d_Bytes_clear_2 sF_Bytes_15_Bytes hB (Nat.le_of_ble_eq_true rfl) (a_fit_i _) (T_up (fun h2x1 g2x1 o2x1 => ?_))
  have hA_2x1 := (o2x1 (a + 1) ne).trans hA
  refine T_vret (pc := 5) d_Bytes_clear_5 rfl rfl (Nat.le_refl _) ?_
  exact ⟨rfl, ⟨f, g2x1, hA_2x1, Nat.zero_le _, fun i hi => absurd hi (Nat.not_lt_zero i)⟩, o2x1⟩
set_option maxRecDepth 100000 in
set_option maxHeartbeats 4000000 in
theorem c_Bytes_append {n a cap : Nat} {h : aH} {x : Int32} {l : List Int32} (hb : By h a cap l) (hc : cap < 2 ^ 31) : Con M_Bytes_append 0 0 0 n [.ref a, .int x] h (fun r h' => if l.length < cap then r = some (.int 1) ∧ By h' a cap (l ++ [x]) ∧ (∀ q, q ≠ a → q ≠ a + 1 → h' q = h q) else r = some (.int 0) ∧ h' = h) := by
  obtain ⟨f, hB, hA, hl, hf⟩ := hb
  have ne : a + 1 ≠ a := by omega
  refine Con.of rfl (Nat.le_of_ble_eq_true rfl) ?_
  refine T_aload_n (pc := 0) d_Bytes_append_0 rfl ?_
  refine T_get (pc := 1) d_Bytes_append_1 sF_Bytes_15_Bytes hB rfl ?_
  refine T_aload_n (pc := 4) d_Bytes_append_4 rfl ?_
  refine T_get (pc := 5) d_Bytes_append_5 sF_Bytes_9_Bytes hB rfl ?_
  refine T_alen (pc := 8) d_Bytes_append_8 hA (Or.inl rfl) ?_
  refine T_icmp_lt (tgt := 14) (pc := 9) d_Bytes_append_9 (by decide) (fun q9 => ?_) (fun q9 => ?_)
  · have ql : l.length < cap := (nI_ltI (by omega) hc).mp q9
    refine T_aload_n (pc := 14) d_Bytes_append_14 rfl ?_
    refine T_get (pc := 15) d_Bytes_append_15 sF_Bytes_9_Bytes hB rfl ?_
    refine T_aload_n (pc := 18) d_Bytes_append_18 rfl ?_
    refine T_get (pc := 19) d_Bytes_append_19 sF_Bytes_15_Bytes hB rfl ?_
    refine T_iload_n (pc := 22) d_Bytes_append_22 rfl ?_
    refine T_iast (pc := 23) d_Bytes_append_23 (Nat.succ_ne_zero a) hA (vp_in_nI ql hc) (T_up (fun h23x1 g23x1 o23x1 => ?_))
    have hB_23x1 := (o23x1 a (Ne.symm ne)).trans hB
    refine T_aload_n (pc := 24) d_Bytes_append_24 rfl ?_
    refine T_dup (pc := 25) d_Bytes_append_25 rfl ?_
    refine T_get (pc := 26) d_Bytes_append_26 sF_Bytes_15_Bytes hB_23x1 rfl ?_
    refine T_iconst (v := 1) (pc := 29) d_Bytes_append_29 rfl ?_
    refine T_iadd (pc := 30) d_Bytes_append_30 ?_
    refine T_put (pc := 31) d_Bytes_append_31 sF_Bytes_15_Bytes hB_23x1 (Nat.le_of_ble_eq_true rfl) (a_fit_i _) (T_up (fun h31x2 g31x2 o31x2 => ?_))
    have g23x1_31x2 := (o31x2 (a + 1) ne).trans g23x1
    refine T_iconst (v := 1) (pc := 34) d_Bytes_append_34 rfl ?_
    refine T_zret (pc := 35) d_Bytes_append_35 rfl (by decide) rfl (Nat.le_refl _) ?_
    rw [if_pos ql]
    have g31x2' : h31x2 a = some (.inr (1, [.ref (a + 1), .int (nI (l ++ [x]).length)])) := by
      rw [g31x2, nI_1, List.length_append]
      rfl
    refine ⟨rfl, ⟨_, g31x2', g23x1_31x2, by rw [List.length_append]; exact ql, fun i hi => ?_⟩, fun q h1 h2 => (o31x2 q h1).trans (o23x1 q h2)⟩
    rw [nI_clamp (by omega)]
    rw [List.length_append] at hi
    by_cases hi2 : i = l.length
    · subst hi2
      rw [pk_us]
      simp
    · rw [pk_un hi2, List.getElem?_append_left (by simp at hi; omega)]
      exact hf i (by simp at hi; omega)
  · refine T_iconst (v := 0) (pc := 12) d_Bytes_append_12 rfl ?_
    refine T_zret (pc := 13) d_Bytes_append_13 rfl (by decide) rfl (Nat.le_refl _) ?_
    rw [if_neg (fun q => q9 (nI_lt q hc))]
    exact ⟨rfl, rfl⟩
theorem By.obj {h : aH} {a cap : Nat} {l : List Int32} (hb : By h a cap l) : h a = some (.inr (1, [.ref (a + 1), .int (nI l.length)])) := by
  obtain ⟨f, q1, _⟩ := hb
  exact q1
/-- two rows are apart -/
theorem By.apart {h : aH} {a a2 cap cap2 : Nat} {l l2 : List Int32} (hb : By h a cap l) (hb2 : By h a2 cap2 l2) (hne : a2 ≠ a) : a2 ≠ a + 1 ∧ a2 + 1 ≠ a ∧ a2 + 1 ≠ a + 1 := by
  obtain ⟨f, q1, q2, _⟩ := hb
  obtain ⟨f2, r1, r2, _⟩ := hb2
  refine ⟨fun e => ?_, fun e => ?_, by omega⟩
  · rw [e, q2] at r1
    cases r1
  · rw [e, q1] at r2
    cases r2
/-- the four bytes of a word -/
def wby (w : Int32) : List Int32 := [(w.toUInt32 >>> (Int32.toUInt32 24 &&& Int32.toUInt32 31)).toInt32 &&& 255, (w.toUInt32 >>> (Int32.toUInt32 16 &&& Int32.toUInt32 31)).toInt32 &&& 255, (w.toUInt32 >>> (Int32.toUInt32 8 &&& Int32.toUInt32 31)).toInt32 &&& 255, w &&& 255]
set_option maxRecDepth 100000 in
set_option maxHeartbeats 4000000 in
theorem c_Bytes_appendWord {n a cap : Nat} {h : aH} {x : Int32} {l : List Int32} (hb : By h a cap l) (hc : cap < 2 ^ 31) (hr : l.length + 4 ≤ cap) : Con M_Bytes_appendWord 1 0 0 n [.ref a, .int x] h (fun r h' => r = none ∧ By h' a cap (l ++ wby x) ∧ ∀ q, q ≠ a → q ≠ a + 1 → h' q = h q) := by
  refine Con.of rfl (Nat.le_of_ble_eq_true rfl) ?_
  refine T_aload_n (pc := 0) d_Bytes_appendWord_0 rfl ?_
  refine T_iload_n (pc := 1) d_Bytes_appendWord_1 rfl ?_
  refine T_bipush (v := 24) (pc := 2) d_Bytes_appendWord_2 rfl ?_
  refine T_iushr (pc := 4) d_Bytes_appendWord_4 ?_
  refine T_sipush (v := 255) (pc := 5) d_Bytes_appendWord_5 rfl ?_
  refine T_iand (pc := 8) d_Bytes_appendWord_8 ?_
  refine T_ivV (pc := 9) d_Bytes_appendWord_9 sI_Bytes_19 (c_Bytes_append hb hc) (By.obj hb) rfl rfl ⟨(Nat.le_of_ble_eq_true rfl), (Nat.le_of_ble_eq_true rfl)⟩ ⟨(Nat.le_of_ble_eq_true rfl), (Nat.le_of_ble_eq_true rfl)⟩ (Nat.le_of_ble_eq_true rfl) (fun r1 h1 q1 => ?_)
  rw [if_pos (by omega)] at q1
  obtain ⟨rfl, hb1, o1⟩ := q1
  refine T_pop (pc := 12) d_Bytes_appendWord_12 rfl ?_
  refine T_aload_n (pc := 13) d_Bytes_appendWord_13 rfl ?_
  refine T_iload_n (pc := 14) d_Bytes_appendWord_14 rfl ?_
  refine T_bipush (v := 16) (pc := 15) d_Bytes_appendWord_15 rfl ?_
  refine T_iushr (pc := 17) d_Bytes_appendWord_17 ?_
  refine T_sipush (v := 255) (pc := 18) d_Bytes_appendWord_18 rfl ?_
  refine T_iand (pc := 21) d_Bytes_appendWord_21 ?_
  refine T_ivV (pc := 22) d_Bytes_appendWord_22 sI_Bytes_19 (c_Bytes_append hb1 hc) (By.obj hb1) rfl rfl ⟨(Nat.le_of_ble_eq_true rfl), (Nat.le_of_ble_eq_true rfl)⟩ ⟨(Nat.le_of_ble_eq_true rfl), (Nat.le_of_ble_eq_true rfl)⟩ (Nat.le_of_ble_eq_true rfl) (fun r2 h2 q2 => ?_)
  rw [if_pos (by simp; omega)] at q2
  obtain ⟨rfl, hb2, o2⟩ := q2
  refine T_pop (pc := 25) d_Bytes_appendWord_25 rfl ?_
  refine T_aload_n (pc := 26) d_Bytes_appendWord_26 rfl ?_
  refine T_iload_n (pc := 27) d_Bytes_appendWord_27 rfl ?_
  refine T_bipush (v := 8) (pc := 28) d_Bytes_appendWord_28 rfl ?_
  refine T_iushr (pc := 30) d_Bytes_appendWord_30 ?_
  refine T_sipush (v := 255) (pc := 31) d_Bytes_appendWord_31 rfl ?_
  refine T_iand (pc := 34) d_Bytes_appendWord_34 ?_
  refine T_ivV (pc := 35) d_Bytes_appendWord_35 sI_Bytes_19 (c_Bytes_append hb2 hc) (By.obj hb2) rfl rfl ⟨(Nat.le_of_ble_eq_true rfl), (Nat.le_of_ble_eq_true rfl)⟩ ⟨(Nat.le_of_ble_eq_true rfl), (Nat.le_of_ble_eq_true rfl)⟩ (Nat.le_of_ble_eq_true rfl) (fun r3 h3 q3 => ?_)
  rw [if_pos (by simp; omega)] at q3
  obtain ⟨rfl, hb3, o3⟩ := q3
  refine T_pop (pc := 38) d_Bytes_appendWord_38 rfl ?_
  refine T_aload_n (pc := 39) d_Bytes_appendWord_39 rfl ?_
  refine T_iload_n (pc := 40) d_Bytes_appendWord_40 rfl ?_
  refine T_sipush (v := 255) (pc := 41) d_Bytes_appendWord_41 rfl ?_
  refine T_iand (pc := 44) d_Bytes_appendWord_44 ?_
  refine T_ivV (pc := 45) d_Bytes_appendWord_45 sI_Bytes_19 (c_Bytes_append hb3 hc) (By.obj hb3) rfl rfl ⟨(Nat.le_of_ble_eq_true rfl), (Nat.le_of_ble_eq_true rfl)⟩ ⟨(Nat.le_of_ble_eq_true rfl), (Nat.le_of_ble_eq_true rfl)⟩ (Nat.le_of_ble_eq_true rfl) (fun r4 h4 q4 => ?_)
  rw [if_pos (by simp; omega)] at q4
  obtain ⟨rfl, hb4, o4⟩ := q4
  refine T_pop (pc := 48) d_Bytes_appendWord_48 rfl ?_
  refine T_vret (pc := 49) d_Bytes_appendWord_49 rfl rfl (Nat.le_refl _) ?_
  refine ⟨rfl, ?_, fun q h1 h2 => (o4 q h1 h2).trans ((o3 q h1 h2).trans ((o2 q h1 h2).trans (o1 q h1 h2)))⟩
  simpa [wby] using hb4
set_option maxRecDepth 100000 in
set_option maxHeartbeats 4000000 in
theorem c_Bytes_appendPart_loop {n a a2 cap cap2 e : Nat} {l2 : List Int32} {x3 x2 : Int32} {Q : aQ} (hc : cap < 2 ^ 31) (hc2 : cap2 < 2 ^ 31) (hne : a2 ≠ a) (he : e ≤ l2.length) : ∀ (k i : Nat) (h : aH) (l : List Int32), i + k = e → By h a cap l → By h a2 cap2 l2 → l.length + k ≤ cap → (∀ h', By h' a cap (l ++ (l2.drop i).take k) → (∀ q, q ≠ a → q ≠ a + 1 → h' q = h q) → Q none h') → Tri M_Bytes_appendPart (a_rm 1 0 0) (a_Z 0 0 Q) 19 [(5, .int (nI i)), (4, .int (nI e)), (0, .ref a), (1, .ref a2), (2, .int x2), (3, .int x3)] [] n h 0 0 := by
  intro k
  induction k with
  | zero =>
    intro i h l hik hb hb2 hr hQ
    have hle := hb2.le
    refine T_iload (pc := 19) d_Bytes_appendPart_19 rfl ?_
    refine T_iload (pc := 21) d_Bytes_appendPart_21 rfl ?_
    refine T_icmp_ge (tgt := 44) (pc := 23) d_Bytes_appendPart_23 (by decide) (fun q23 => ?_) (fun q23 => ?_)
    · refine T_vret (pc := 44) d_Bytes_appendPart_44 rfl rfl (Nat.le_refl _) ?_
      refine hQ h ?_ (fun q _ _ => rfl)
      simpa using hb
    · exact absurd (nI_le (by omega) (by omega)) q23
  | succ k ih =>
    intro i h l hik hb hb2 hr hQ
    have hle := hb2.le
    have n1 := hb.apart hb2 hne
    obtain ⟨f2, hB2, hA2, hl2, hf2⟩ := id hb2
    refine T_iload (pc := 19) d_Bytes_appendPart_19 rfl ?_
    refine T_iload (pc := 21) d_Bytes_appendPart_21 rfl ?_
    refine T_icmp_ge (tgt := 44) (pc := 23) d_Bytes_appendPart_23 (by decide) (fun q23 => ?_) (fun q23 => ?_)
    · exact absurd q23 (nI_ge (by omega) (by omega))
    · refine T_aload_n (pc := 26) d_Bytes_appendPart_26 rfl ?_
      refine T_aload_n (pc := 27) d_Bytes_appendPart_27 rfl ?_
      refine T_get (pc := 28) d_Bytes_appendPart_28 sF_Bytes_9_Bytes hB2 rfl ?_
      refine T_iload (pc := 31) d_Bytes_appendPart_31 rfl ?_
      refine T_iald (pc := 33) d_Bytes_appendPart_33 hA2 (vp_in_nI (by omega) hc2) ?_
      refine T_ivV (pc := 34) d_Bytes_appendPart_34 sI_Bytes_19 (c_Bytes_append hb hc) (By.obj hb) rfl rfl ⟨(Nat.le_of_ble_eq_true rfl), (Nat.le_of_ble_eq_true rfl)⟩ ⟨(Nat.le_of_ble_eq_true rfl), (Nat.le_of_ble_eq_true rfl)⟩ (Nat.le_of_ble_eq_true rfl) (fun r1 h1 q1 => ?_)
      rw [if_pos (by omega)] at q1
      obtain ⟨rfl, hb1, o1⟩ := q1
      refine T_pop (pc := 37) d_Bytes_appendPart_37 rfl ?_
      refine T_iinc (pc := 38) d_Bytes_appendPart_38 rfl (nI_1 i) (Nat.le_of_ble_eq_true rfl) rfl ?_
      refine T_goto (tgt := 19) (pc := 41) d_Bytes_appendPart_41 (by decide) ?_
      rw [nI_clamp (by omega)] at hb1
      have e1 : l2.drop i = f2 i :: l2.drop (i + 1) := by
        have hi2 : i < l2.length := by omega
        have e3 := hf2 i hi2
        rw [List.getElem?_eq_getElem hi2] at e3
        rw [List.drop_eq_getElem_cons hi2, Option.some.inj e3]
      exact ih (i + 1) h1 (l ++ [f2 i]) (by omega) hb1 (hb2.same (o1 a2 hne n1.1) (o1 (a2 + 1) n1.2.1 n1.2.2)) (by simp; omega) (fun h' g' o' => hQ h' (by rw [List.append_assoc] at g'; rw [e1, List.take_succ_cons]; exact g') (fun q h2 h3 => (o' q h2 h3).trans (o1 q h2 h3)))
end
section
/-! OnceWire$Bytes: the rest. -/
/-- four bytes as a word -/
def wat (l : List Int32) (i : Nat) : Int32 := (((l.getD i 0) <<< ((24 : Int32) &&& 31) ||| (l.getD (i + 1) 0) <<< ((16 : Int32) &&& 31)) ||| (l.getD (i + 2) 0) <<< ((8 : Int32) &&& 31)) ||| l.getD (i + 3) 0
/-- a word's bytes in the other order -/
def swp (w : Int32) : Int32 := ((w <<< ((24 : Int32) &&& 31) ||| (w &&& 65280) <<< ((8 : Int32) &&& 31)) ||| ((w.toUInt32 >>> (Int32.toUInt32 8 &&& Int32.toUInt32 31)).toInt32 &&& 65280)) ||| (w.toUInt32 >>> (Int32.toUInt32 24 &&& Int32.toUInt32 31)).toInt32
set_option maxRecDepth 100000 in
set_option maxHeartbeats 4000000 in
theorem c_Bytes_appendPart {n a a2 cap cap2 st ct : Nat} {h : aH} {l l2 : List Int32} (hb : By h a cap l) (hb2 : By h a2 cap2 l2) (hc : cap < 2 ^ 31) (hc2 : cap2 < 2 ^ 31) (hne : a2 ≠ a) (hr2 : st + ct ≤ l2.length) (hr : l.length + ct ≤ cap) : Con M_Bytes_appendPart 1 0 0 n [.ref a, .ref a2, .int (nI st), .int (nI ct)] h (fun r h' => r = none ∧ By h' a cap (l ++ (l2.drop st).take ct) ∧ ∀ q, q ≠ a → q ≠ a + 1 → h' q = h q) := by
  have hle := hb2.le
  refine Con.of rfl (Nat.le_of_ble_eq_true rfl) ?_
  refine T_iload_n (pc := 0) d_Bytes_appendPart_0 rfl ?_
  refine T_iload_n (pc := 1) d_Bytes_appendPart_1 rfl ?_
  refine T_iadd (pc := 2) d_Bytes_appendPart_2 ?_
  refine T_aload_n (pc := 3) d_Bytes_appendPart_3 rfl ?_
  refine T_get (pc := 4) d_Bytes_appendPart_4 sF_Bytes_15_Bytes (By.obj hb2) rfl ?_
  refine T_min (pc := 7) d_Bytes_appendPart_7 sI_Bytes_23 ⟨(Nat.le_of_ble_eq_true rfl), (Nat.le_of_ble_eq_true rfl)⟩ ⟨(Nat.le_of_ble_eq_true rfl), (Nat.le_of_ble_eq_true rfl)⟩ (Nat.le_of_ble_eq_true rfl) ?_
  refine T_istore (pc := 10) d_Bytes_appendPart_10 (Nat.le_of_ble_eq_true rfl) rfl ?_
  refine T_iload_n (pc := 12) d_Bytes_appendPart_12 rfl ?_
  refine T_iconst (v := 0) (pc := 13) d_Bytes_appendPart_13 rfl ?_
  refine T_max (pc := 14) d_Bytes_appendPart_14 sI_Bytes_29 ⟨(Nat.le_of_ble_eq_true rfl), (Nat.le_of_ble_eq_true rfl)⟩ ⟨(Nat.le_of_ble_eq_true rfl), (Nat.le_of_ble_eq_true rfl)⟩ (Nat.le_of_ble_eq_true rfl) ?_
  refine T_istore (pc := 17) d_Bytes_appendPart_17 (Nat.le_of_ble_eq_true rfl) rfl ?_
  have e1 : (if nI l2.length < nI st + nI ct then nI l2.length else nI st + nI ct) = nI (st + ct) := by
    rw [nI_add, if_neg (by rw [nI_ltI (by omega) (by omega)]; omega)]
  have e2 : (if nI st < (0 : Int32) then (0 : Int32) else nI st) = nI st := if_neg (nI_pos (by omega))
  rw [e1, e2]
  exact c_Bytes_appendPart_loop hc hc2 hne hr2 ct st h l rfl hb hb2 hr (fun h' g o => ⟨rfl, g, o⟩)
set_option maxRecDepth 100000 in
set_option maxHeartbeats 4000000 in
theorem c_Bytes_wordAt {n a cap k : Nat} {h : aH} {l : List Int32} (hb : By h a cap l) (hc : cap < 2 ^ 31) (hk : k + 4 ≤ l.length) : Con M_Bytes_wordAt 0 0 0 n [.ref a, .int (nI k)] h (fun r h' => r = some (.int (wat l k)) ∧ h' = h) := by
  obtain ⟨f, hB, hA, hl, hf⟩ := hb
  have ne : a + 1 ≠ a := by omega
  refine Con.of rfl (Nat.le_of_ble_eq_true rfl) ?_
  refine T_iload_n (pc := 0) d_Bytes_wordAt_0 rfl ?_
  refine T_if_lt (tgt := 14) (pc := 1) d_Bytes_wordAt_1 (by decide) (fun q1 => ?_) (fun q1 => ?_)
  · first | exact absurd q1 (nI_pos (by omega)) | exact absurd (by rw [show nI l.length - 4 = nI (l.length - 4) from pk_sub (b := 4) (by omega)]; exact nI_le (by omega) (by omega)) q11
  · refine T_iload_n (pc := 4) d_Bytes_wordAt_4 rfl ?_
    refine T_aload_n (pc := 5) d_Bytes_wordAt_5 rfl ?_
    refine T_get (pc := 6) d_Bytes_wordAt_6 sF_Bytes_15_Bytes hB rfl ?_
    refine T_iconst (v := 4) (pc := 9) d_Bytes_wordAt_9 rfl ?_
    refine T_isub (pc := 10) d_Bytes_wordAt_10 ?_
    refine T_icmp_le (tgt := 16) (pc := 11) d_Bytes_wordAt_11 (by decide) (fun q11 => ?_) (fun q11 => ?_)
    · refine T_aload_n (pc := 16) d_Bytes_wordAt_16 rfl ?_
      refine T_get (pc := 17) d_Bytes_wordAt_17 sF_Bytes_9_Bytes hB rfl ?_
      refine T_iload_n (pc := 20) d_Bytes_wordAt_20 rfl ?_
      refine T_iald (pc := 21) d_Bytes_wordAt_21 hA (vp_in_nI (by omega) hc) ?_
      refine T_bipush (v := 24) (pc := 22) d_Bytes_wordAt_22 rfl ?_
      refine T_ishl (pc := 24) d_Bytes_wordAt_24 ?_
      refine T_aload_n (pc := 25) d_Bytes_wordAt_25 rfl ?_
      refine T_get (pc := 26) d_Bytes_wordAt_26 sF_Bytes_9_Bytes hB rfl ?_
      refine T_iload_n (pc := 29) d_Bytes_wordAt_29 rfl ?_
      refine T_iconst (v := 1) (pc := 30) d_Bytes_wordAt_30 rfl ?_
      refine T_iadd (pc := 31) d_Bytes_wordAt_31 ?_
      refine T_iald (pc := 32) d_Bytes_wordAt_32 hA (by rw [nI_1]; exact vp_in_nI (by omega) hc) ?_
      refine T_bipush (v := 16) (pc := 33) d_Bytes_wordAt_33 rfl ?_
      refine T_ishl (pc := 35) d_Bytes_wordAt_35 ?_
      refine T_ior (pc := 36) d_Bytes_wordAt_36 ?_
      refine T_aload_n (pc := 37) d_Bytes_wordAt_37 rfl ?_
      refine T_get (pc := 38) d_Bytes_wordAt_38 sF_Bytes_9_Bytes hB rfl ?_
      refine T_iload_n (pc := 41) d_Bytes_wordAt_41 rfl ?_
      refine T_iconst (v := 2) (pc := 42) d_Bytes_wordAt_42 rfl ?_
      refine T_iadd (pc := 43) d_Bytes_wordAt_43 ?_
      refine T_iald (pc := 44) d_Bytes_wordAt_44 hA (by rw [show nI k + 2 = nI (k + 2) from nI_add k 2]; exact vp_in_nI (by omega) hc) ?_
      refine T_bipush (v := 8) (pc := 45) d_Bytes_wordAt_45 rfl ?_
      refine T_ishl (pc := 47) d_Bytes_wordAt_47 ?_
      refine T_ior (pc := 48) d_Bytes_wordAt_48 ?_
      refine T_aload_n (pc := 49) d_Bytes_wordAt_49 rfl ?_
      refine T_get (pc := 50) d_Bytes_wordAt_50 sF_Bytes_9_Bytes hB rfl ?_
      refine T_iload_n (pc := 53) d_Bytes_wordAt_53 rfl ?_
      refine T_iconst (v := 3) (pc := 54) d_Bytes_wordAt_54 rfl ?_
      refine T_iadd (pc := 55) d_Bytes_wordAt_55 ?_
      refine T_iald (pc := 56) d_Bytes_wordAt_56 hA (by rw [show nI k + 3 = nI (k + 3) from nI_add k 3]; exact vp_in_nI (by omega) hc) ?_
      refine T_ior (pc := 57) d_Bytes_wordAt_57 ?_
      refine T_iret (pc := 58) d_Bytes_wordAt_58 rfl rfl (Nat.le_refl _) ?_
      refine ⟨?_, rfl⟩
      have c0 := hf k (by omega)
      have c1 := hf (k + 1) (by omega)
      have c2 := hf (k + 2) (by omega)
      have c3 := hf (k + 3) (by omega)
      have i1 : (nI k + 1).toNatClampNeg = k + 1 := by rw [nI_1]; exact nI_clamp (by omega)
      have i2 : (nI k + 2).toNatClampNeg = k + 2 := by rw [show nI k + 2 = nI (k + 2) from nI_add k 2]; exact nI_clamp (by omega)
      have i3 : (nI k + 3).toNatClampNeg = k + 3 := by rw [show nI k + 3 = nI (k + 3) from nI_add k 3]; exact nI_clamp (by omega)
      rw [nI_clamp (by omega), i1, i2, i3]
      simp only [wat, List.getD_eq_getElem?_getD, c0, c1, c2, c3, Option.getD_some]
    · first | exact absurd q1 (nI_pos (by omega)) | exact absurd (by rw [show nI l.length - 4 = nI (l.length - 4) from pk_sub (b := 4) (by omega)]; exact nI_le (by omega) (by omega)) q11
set_option maxRecDepth 100000 in
set_option maxHeartbeats 4000000 in
theorem c_Bytes_swapped {n : Nat} {h : aH} {x : Int32} : Con M_Bytes_swapped 0 0 0 n [.int x] h (fun r h' => r = some (.int (swp x)) ∧ h' = h) := by
  refine Con.of rfl (Nat.le_of_ble_eq_true rfl) ?_
  refine T_iload_n (pc := 0) d_Bytes_swapped_0 rfl ?_
  refine T_bipush (v := 24) (pc := 1) d_Bytes_swapped_1 rfl ?_
  refine T_ishl (pc := 3) d_Bytes_swapped_3 ?_
  refine T_iload_n (pc := 4) d_Bytes_swapped_4 rfl ?_
  refine T_ldc (pc := 5) d_Bytes_swapped_5 (Ws_at (i := 5) (k := 45) rfl rfl) ?_
  refine T_iand (pc := 7) d_Bytes_swapped_7 ?_
  refine T_bipush (v := 8) (pc := 8) d_Bytes_swapped_8 rfl ?_
  refine T_ishl (pc := 10) d_Bytes_swapped_10 ?_
  refine T_ior (pc := 11) d_Bytes_swapped_11 ?_
  refine T_iload_n (pc := 12) d_Bytes_swapped_12 rfl ?_
  refine T_bipush (v := 8) (pc := 13) d_Bytes_swapped_13 rfl ?_
  refine T_iushr (pc := 15) d_Bytes_swapped_15 ?_
  refine T_ldc (pc := 16) d_Bytes_swapped_16 (Ws_at (i := 5) (k := 45) rfl rfl) ?_
  refine T_iand (pc := 18) d_Bytes_swapped_18 ?_
  refine T_ior (pc := 19) d_Bytes_swapped_19 ?_
  refine T_iload_n (pc := 20) d_Bytes_swapped_20 rfl ?_
  refine T_bipush (v := 24) (pc := 21) d_Bytes_swapped_21 rfl ?_
  refine T_iushr (pc := 23) d_Bytes_swapped_23 ?_
  refine T_ior (pc := 24) d_Bytes_swapped_24 ?_
  refine T_iret (pc := 25) d_Bytes_swapped_25 rfl rfl (Nat.le_refl _) ?_
  exact ⟨rfl, rfl⟩
end
section
/-! OnceWire$Bytes: made, copied, read, moved. -/
set_option maxRecDepth 100000 in
set_option maxHeartbeats 4000000 in
theorem c_Bytes_init {a cap : Nat} {h : aH} (hB : h a = some (.inr (1, [.null, .int 0]))) (hc : cap ≤ 100000) : Con M_Bytes_init 1 1 cap a [.ref a, .int (nI cap)] h (fun r h' => r = none ∧ By h' a cap [] ∧ ∀ q, q ≠ a → q ≠ a + 1 → h' q = h q) := by
  have ne : a + 1 ≠ a := by omega
  refine Con.of rfl (Nat.le_of_ble_eq_true rfl) ?_
  refine T_aload_n (pc := 0) d_Bytes_init_0 rfl ?_
  refine T_objInit (pc := 1) d_Bytes_init_1 sI_Bytes_3 ⟨(Nat.le_of_ble_eq_true rfl), (Nat.le_of_ble_eq_true rfl)⟩ (Nat.le_of_ble_eq_true rfl) ?_
  refine T_aload_n (pc := 4) d_Bytes_init_4 rfl ?_
  refine T_iload_n (pc := 5) d_Bytes_init_5 rfl ?_
  refine T_newi (pc := 6) d_Bytes_init_6 (Ws_at (i := 5) (k := 30) rfl rfl) (nI_pos (by omega)) (nI_clamp (by omega)) hc (Nat.le_of_ble_eq_true rfl) (by show 0 + cap ≤ cap; omega) (T_up (fun h6x1 g6x1 o6x1 => ?_))
  have hB_6x1 := (o6x1 a (Ne.symm ne)).trans hB
  refine T_putF (pc := 8) d_Bytes_init_8 sFF_Bytes_9_Bytes rfl hB_6x1 (Nat.le_of_ble_eq_true rfl) (a_fit_a _ _) (T_up (fun h8x2 g8x2 o8x2 => ?_))
  have g6x1_8x2 := (o8x2 (a + 1) ne).trans g6x1
  refine T_aload_n (pc := 11) d_Bytes_init_11 rfl ?_
  refine T_iconst (v := 0) (pc := 12) d_Bytes_init_12 rfl ?_
  refine T_put (pc := 13) d_Bytes_init_13 sF_Bytes_15_Bytes g8x2 (Nat.le_of_ble_eq_true rfl) (a_fit_i _) (T_up (fun h13x3 g13x3 o13x3 => ?_))
  have g6x1_13x3 := (o13x3 (a + 1) ne).trans g6x1_8x2
  refine T_vret (pc := 16) d_Bytes_init_16 rfl rfl (by omega) ?_
  exact ⟨rfl, ⟨_, g13x3, g6x1_13x3, Nat.zero_le _, fun i hi => absurd hi (Nat.not_lt_zero i)⟩, fun q h1 h2 => (o13x3 q h1).trans ((o8x2 q h1).trans (o6x1 q h2))⟩
set_option maxRecDepth 100000 in
set_option maxHeartbeats 4000000 in
theorem c_Bytes_at {n a cap : Nat} {h : aH} {i : Int32} {l : List Int32} (hb : By h a cap l) (hc : cap < 2 ^ 31) : Con M_Bytes_at 0 0 0 n [.ref a, .int i] h (fun r h' => r = some (.int (if 0 ≤ i ∧ i < nI l.length then l.getD i.toNatClampNeg 0 else -1)) ∧ h' = h) := by
  obtain ⟨f, hB, hA, hl, hf⟩ := hb
  refine Con.of rfl (Nat.le_of_ble_eq_true rfl) ?_
  refine T_iload_n (pc := 0) d_Bytes_at_0 rfl ?_
  refine T_if_lt (tgt := 21) (pc := 1) d_Bytes_at_1 (by decide) (fun q1 => ?_) (fun q1 => ?_)
  · refine T_iconst (v := -1) (pc := 21) d_Bytes_at_21 rfl ?_
    refine T_iret (pc := 22) d_Bytes_at_22 rfl rfl (Nat.le_refl _) ?_
    refine ⟨?_, rfl⟩
    first
      | rw [if_neg (fun q => absurd q.1 (Int32.not_le.mpr q1))]
      | rw [if_neg (fun q => absurd q.2 (Int32.not_lt.mpr q9))]
      | (rw [if_pos ⟨Int32.not_lt.mp q1, Int32.not_le.mp q9⟩, List.getD_eq_getElem?_getD, hf _ hlt]; rfl)
  · refine T_iload_n (pc := 4) d_Bytes_at_4 rfl ?_
    refine T_aload_n (pc := 5) d_Bytes_at_5 rfl ?_
    refine T_get (pc := 6) d_Bytes_at_6 sF_Bytes_15_Bytes hB rfl ?_
    refine T_icmp_ge (tgt := 21) (pc := 9) d_Bytes_at_9 (by decide) (fun q9 => ?_) (fun q9 => ?_)
    · refine T_iconst (v := -1) (pc := 21) d_Bytes_at_21 rfl ?_
      refine T_iret (pc := 22) d_Bytes_at_22 rfl rfl (Nat.le_refl _) ?_
      refine ⟨?_, rfl⟩
      first
        | rw [if_neg (fun q => absurd q.1 (Int32.not_le.mpr q1))]
        | rw [if_neg (fun q => absurd q.2 (Int32.not_lt.mpr q9))]
        | (rw [if_pos ⟨Int32.not_lt.mp q1, Int32.not_le.mp q9⟩, List.getD_eq_getElem?_getD, hf _ hlt]; rfl)
    · have hlt : i.toNatClampNeg < l.length := by
        obtain ⟨j, hj, rfl⟩ := (pk_ix i (n := l.length) (by omega)).resolve_left q1 |>.resolve_left q9
        rw [nI_clamp (by omega)]
        exact hj
      refine T_aload_n (pc := 12) d_Bytes_at_12 rfl ?_
      refine T_get (pc := 13) d_Bytes_at_13 sF_Bytes_9_Bytes hB rfl ?_
      refine T_iload_n (pc := 16) d_Bytes_at_16 rfl ?_
      refine T_iald (pc := 17) d_Bytes_at_17 hA (fun q => q.elim q1 (fun q => absurd q (by omega))) ?_
      refine T_goto (tgt := 22) (pc := 18) d_Bytes_at_18 (by decide) ?_
      refine T_iret (pc := 22) d_Bytes_at_22 rfl rfl (Nat.le_refl _) ?_
      refine ⟨?_, rfl⟩
      first
        | rw [if_neg (fun q => absurd q.1 (Int32.not_le.mpr q1))]
        | rw [if_neg (fun q => absurd q.2 (Int32.not_lt.mpr q9))]
        | (rw [if_pos ⟨Int32.not_lt.mp q1, Int32.not_le.mp q9⟩, List.getD_eq_getElem?_getD, hf _ hlt]; rfl)
set_option maxRecDepth 100000 in
set_option maxHeartbeats 4000000 in
theorem c_Bytes_become {n a a2 cap cap2 : Nat} {h : aH} {l l2 : List Int32} (hb : By h a cap l) (hb2 : By h a2 cap2 l2) (hc : cap < 2 ^ 31) (hc2 : cap2 < 2 ^ 31) (hne : a2 ≠ a) (hr : l2.length ≤ cap) : Con M_Bytes_become 1 0 0 n [.ref a, .ref a2] h (fun r h' => r = none ∧ By h' a cap l2 ∧ ∀ q, q ≠ a → q ≠ a + 1 → h' q = h q) := by
  have ne : a + 1 ≠ a := by omega
  have n1 := hb.apart hb2 hne
  have hle := hb2.le
  obtain ⟨f, hB, hA, hl, hf⟩ := hb
  obtain ⟨f2, hB2, hA2, hl2, hf2⟩ := hb2
  refine Con.of rfl (Nat.le_of_ble_eq_true rfl) ?_
  refine T_aload_n (pc := 0) d_Bytes_become_0 rfl ?_
  refine T_aload_n (pc := 1) d_Bytes_become_1 rfl ?_
  refine T_get (pc := 2) d_Bytes_become_2 sF_Bytes_15_Bytes hB2 rfl ?_
  refine T_aload_n (pc := 5) d_Bytes_become_5 rfl ?_
  refine T_get (pc := 6) d_Bytes_become_6 sF_Bytes_9_Bytes hB rfl ?_
  refine T_alen (pc := 9) d_Bytes_become_9 hA (Or.inl rfl) ?_
  refine T_min (pc := 10) d_Bytes_become_10 sI_Bytes_23 ⟨(Nat.le_of_ble_eq_true rfl), (Nat.le_of_ble_eq_true rfl)⟩ ⟨(Nat.le_of_ble_eq_true rfl), (Nat.le_of_ble_eq_true rfl)⟩ (Nat.le_of_ble_eq_true rfl) ?_
  rw [if_neg (show ¬ nI cap < nI l2.length from nI_nlt hr (by omega))]
  refine T_put (pc := 13) d_Bytes_become_13 sF_Bytes_15_Bytes hB (Nat.le_of_ble_eq_true rfl) (a_fit_i _) (T_up (fun h13x1 g13x1 o13x1 => ?_))
  have hA_13x1 := (o13x1 (a + 1) ne).trans hA
  have hB2_13x1 := (o13x1 a2 hne).trans hB2
  have hA2_13x1 := (o13x1 (a2 + 1) n1.2.1).trans hA2
  refine T_aload_n (pc := 16) d_Bytes_become_16 rfl ?_
  refine T_get (pc := 17) d_Bytes_become_17 sF_Bytes_9_Bytes hB2_13x1 rfl ?_
  refine T_iconst (v := 0) (pc := 20) d_Bytes_become_20 rfl ?_
  refine T_aload_n (pc := 21) d_Bytes_become_21 rfl ?_
  refine T_get (pc := 22) d_Bytes_become_22 sF_Bytes_9_Bytes g13x1 rfl ?_
  refine T_iconst (v := 0) (pc := 25) d_Bytes_become_25 rfl ?_
  refine T_aload_n (pc := 26) d_Bytes_become_26 rfl ?_
  refine T_get (pc := 27) d_Bytes_become_27 sF_Bytes_15_Bytes g13x1 rfl ?_
  refine T_copy (pc := 30) d_Bytes_become_30 sI_Bytes_32 (Nat.succ_ne_zero _) (Nat.succ_ne_zero _) hA2_13x1 hA_13x1 (by decide) (by decide) (nI_pos (by omega)) (by rw [nI_clamp (by omega)]; show 0 + _ ≤ _; omega) (by rw [nI_clamp (by omega)]; show 0 + _ ≤ _; omega) ⟨(Nat.le_of_ble_eq_true rfl), (Nat.le_of_ble_eq_true rfl)⟩ (Nat.le_of_ble_eq_true rfl) (T_up (fun h3 g3 o3 => ?_))
  have hB3 := (o3 a (Ne.symm ne)).trans g13x1
  refine T_vret (pc := 33) d_Bytes_become_33 rfl rfl (Nat.le_refl _) ?_
  refine ⟨rfl, ⟨_, hB3, g3, hr, fun i hi => ?_⟩, fun q h1 h2 => (o3 q h2).trans (o13x1 q h1)⟩
  have e0 : (0 : Int32).toNatClampNeg = 0 := rfl
  rw [nI_clamp (by omega), e0, sb_cpy0 hi]
  exact hf2 i hi
end
section
/-! OnceWire$Bytes.moveToEnd: a row of rows. -/
def mvG (g : Nat → Option Nat) (k i : Nat) : Nat → Option Nat := fun j => if k ≤ j ∧ j < i then g (j + 1) else g j
theorem mvG_0 (g : Nat → Option Nat) (k : Nat) : mvG g k k = g := by
  funext j
  unfold mvG
  rw [if_neg (by omega)]
theorem mvG_s (g : Nat → Option Nat) {k i : Nat} (h : k ≤ i) : va_up (mvG g k i) i (g (i + 1)) = mvG g k (i + 1) := by
  funext j
  by_cases hj : j = i
  · subst hj
    rw [va_up_self]
    unfold mvG
    rw [if_pos (by omega)]
  · rw [va_up_ne _ _ hj]
    unfold mvG
    by_cases h2 : k ≤ j ∧ j < i
    · rw [if_pos h2, if_pos (by omega)]
    · rw [if_neg h2, if_neg (by omega)]
theorem mvG_e {ads : List Nat} {k q0 : Nat} (hk : ads[k]? = some q0) : va_up (mvG (fun i => ads[i]?) k (ads.length - 1)) (ads.length - 1) (some q0) = fun i => (ads.eraseIdx k ++ [q0])[i]? := by
  have hkl : k < ads.length := (List.getElem?_eq_some_iff.mp hk).1
  have hel : (ads.eraseIdx k).length = ads.length - 1 := List.length_eraseIdx_of_lt hkl
  funext j
  by_cases hj : j = ads.length - 1
  · subst hj
    rw [va_up_self, List.getElem?_append_right (by omega), hel, Nat.sub_self]
    rfl
  · rw [va_up_ne _ _ hj]
    unfold mvG
    by_cases h1 : j < ads.length - 1
    · rw [List.getElem?_append_left (by omega), List.getElem?_eraseIdx]
      by_cases h2 : k ≤ j
      · rw [if_pos ⟨h2, h1⟩, if_neg (by omega)]
      · rw [if_neg (by omega), if_pos (by omega)]
    · rw [if_neg (by omega), List.getElem?_eq_none (l := ads.eraseIdx k ++ [q0]) (by rw [List.length_append, hel]; simp; omega)]
      exact List.getElem?_eq_none (by omega)
set_option maxRecDepth 100000 in
set_option maxHeartbeats 4000000 in
theorem c_Bytes_moveToEnd_loop {n r N k q0 : Nat} {fs0 : List Value} {h0 : aH} {g : Nat → Option Nat} {Q : aQ} (hN : N < 2 ^ 31) (hq0r : q0 ≠ r) (hq0h : h0 q0 = some (.inr (1, fs0))) (hg : ∀ i, i < N → ∃ q fs, g i = some q ∧ h0 q = some (.inr (1, fs))) (hR0 : h0 r = some (.inl (a_tB, N, .inr g))) (hQ : ∀ h', h' r = some (.inl (a_tB, N, .inr (va_up (mvG g k (N - 1)) (N - 1) (some q0)))) → (∀ q, q ≠ r → h' q = h0 q) → Q none h') : ∀ (t i : Nat) (h : aH), i + t + 1 = N → k ≤ i → h r = some (.inl (a_tB, N, .inr (mvG g k i))) → (∀ q, q ≠ r → h q = h0 q) → Tri M_Bytes_moveToEnd (a_rm 0 0 0) (a_Z 0 0 Q) 17 [(3, .int (nI i)), (2, .ref q0), (0, .ref r), (1, .int (nI k))] [] n h 0 0 := by
  intro t
  induction t with
  | zero =>
    intro i h hiN hki hR hO
    have e1 : nI N - 1 = nI (N - 1) := pk_sub (b := 1) (by omega)
    refine T_iload_n (pc := 17) d_Bytes_moveToEnd_17 rfl ?_
    refine T_aload_n (pc := 18) d_Bytes_moveToEnd_18 rfl ?_
    refine T_alen (pc := 19) d_Bytes_moveToEnd_19 hR (Or.inr (Or.inr rfl)) ?_
    refine T_iconst (v := 1) (pc := 20) d_Bytes_moveToEnd_20 rfl ?_
    refine T_isub (pc := 21) d_Bytes_moveToEnd_21 ?_
    refine T_icmp_ge (tgt := 39) (pc := 22) d_Bytes_moveToEnd_22 (by decide) (fun q22 => ?_) (fun q22 => ?_)
    · have hq9 : h q0 = some (.inr (1, fs0)) := (hO q0 hq0r).trans hq0h
      refine T_aload_n (pc := 39) d_Bytes_moveToEnd_39 rfl ?_
      refine T_aload_n (pc := 40) d_Bytes_moveToEnd_40 rfl ?_
      refine T_alen (pc := 41) d_Bytes_moveToEnd_41 hR (Or.inr (Or.inr rfl)) ?_
      refine T_iconst (v := 1) (pc := 42) d_Bytes_moveToEnd_42 rfl ?_
      refine T_isub (pc := 43) d_Bytes_moveToEnd_43 ?_
      refine T_aload_n (pc := 44) d_Bytes_moveToEnd_44 rfl ?_
      refine T_aast (pc := 45) d_Bytes_moveToEnd_45 hR hq9 rfl rfl (by rw [e1]; exact vp_in_nI (by omega) hN) (T_up (fun h45x1 g45x1 o45x1 => ?_))
      have hq9_45x1 := (o45x1 q0 hq0r).trans hq9
      refine T_vret (pc := 46) d_Bytes_moveToEnd_46 rfl rfl (Nat.le_refl _) ?_
      rw [show nI N - 1 = nI (N - 1) from pk_sub (b := 1) (by omega), nI_clamp (by omega)] at g45x1
      rw [show i = N - 1 from by omega] at g45x1
      exact hQ _ g45x1 (fun q hq => (o45x1 q hq).trans (hO q hq))
    · exact absurd (by rw [e1]; exact nI_le (by omega) (by omega)) q22
  | succ t ih =>
    intro i h hiN hki hR hO
    have e1 : nI N - 1 = nI (N - 1) := pk_sub (b := 1) (by omega)
    refine T_iload_n (pc := 17) d_Bytes_moveToEnd_17 rfl ?_
    refine T_aload_n (pc := 18) d_Bytes_moveToEnd_18 rfl ?_
    refine T_alen (pc := 19) d_Bytes_moveToEnd_19 hR (Or.inr (Or.inr rfl)) ?_
    refine T_iconst (v := 1) (pc := 20) d_Bytes_moveToEnd_20 rfl ?_
    refine T_isub (pc := 21) d_Bytes_moveToEnd_21 ?_
    refine T_icmp_ge (tgt := 39) (pc := 22) d_Bytes_moveToEnd_22 (by decide) (fun q22 => ?_) (fun q22 => ?_)
    · exact absurd q22 (by rw [e1]; exact nI_ge (by omega) (by omega))
    · obtain ⟨q1, fs1, hq1, hq1h⟩ := hg (i + 1) (by omega)
      have hq1r : q1 ≠ r := fun e => by
        rw [e, hR0] at hq1h
        cases hq1h
      have hq2 : h q1 = some (.inr (1, fs1)) := (hO q1 hq1r).trans hq1h
      refine T_aload_n (pc := 25) d_Bytes_moveToEnd_25 rfl ?_
      refine T_iload_n (pc := 26) d_Bytes_moveToEnd_26 rfl ?_
      refine T_aload_n (pc := 27) d_Bytes_moveToEnd_27 rfl ?_
      refine T_iload_n (pc := 28) d_Bytes_moveToEnd_28 rfl ?_
      refine T_iconst (v := 1) (pc := 29) d_Bytes_moveToEnd_29 rfl ?_
      refine T_iadd (pc := 30) d_Bytes_moveToEnd_30 ?_
      refine T_aald (pc := 31) d_Bytes_moveToEnd_31 hR (by rw [nI_1]; exact vp_in_nI (by omega) hN) (by rw [nI_1, nI_clamp (by omega)]; unfold mvG; rw [if_neg (by omega)]; exact hq1) ?_
      refine T_aast (pc := 32) d_Bytes_moveToEnd_32 hR hq2 rfl rfl (vp_in_nI (by omega) hN) (T_up (fun h32x1 g32x1 o32x1 => ?_))
      have hq2_32x1 := (o32x1 q1 hq1r).trans hq2
      refine T_iinc (pc := 33) d_Bytes_moveToEnd_33 rfl (nI_1 i) (Nat.le_of_ble_eq_true rfl) rfl ?_
      refine T_goto (tgt := 17) (pc := 36) d_Bytes_moveToEnd_36 (by decide) ?_
      rw [nI_clamp (by omega)] at g32x1
      rw [← hq1, mvG_s g hki] at g32x1
      exact ih (i + 1) _ (by omega) (by omega) g32x1 (fun q hq => (o32x1 q hq).trans (hO q hq))
set_option maxRecDepth 100000 in
set_option maxHeartbeats 4000000 in
theorem c_Bytes_moveToEnd {n r k q0 : Nat} {h : aH} {ads : List Nat} (hN : ads.length < 2 ^ 31) (hk : ads[k]? = some q0) (hR : h r = some (.inl (a_tB, ads.length, .inr (fun i => ads[i]?)))) (hads : ∀ q, q ∈ ads → ∃ fs, h q = some (.inr (1, fs))) : Con M_Bytes_moveToEnd 0 0 0 n [.ref r, .int (nI k)] h (fun r' h' => r' = none ∧ h' r = some (.inl (a_tB, ads.length, .inr (fun i => (ads.eraseIdx k ++ [q0])[i]?))) ∧ ∀ q, q ≠ r → h' q = h q) := by
  have hkl : k < ads.length := (List.getElem?_eq_some_iff.mp hk).1
  obtain ⟨fs0, hq0h⟩ := hads q0 (List.mem_of_getElem? hk)
  have hq0r : q0 ≠ r := fun e => by
    rw [e, hR] at hq0h
    cases hq0h
  have hg : ∀ i, i < ads.length → ∃ q fs, (fun i => ads[i]?) i = some q ∧ h q = some (.inr (1, fs)) := fun i hi => by
    obtain ⟨fs, hfs⟩ := hads ads[i] (List.getElem_mem hi)
    exact ⟨ads[i], fs, List.getElem?_eq_getElem hi, hfs⟩
  refine Con.of rfl (Nat.le_of_ble_eq_true rfl) ?_
  refine T_iload_n (pc := 0) d_Bytes_moveToEnd_0 rfl ?_
  refine T_if_lt (tgt := 10) (pc := 1) d_Bytes_moveToEnd_1 (by decide) (fun q1 => ?_) (fun q1 => ?_)
  · first | exact absurd q1 (nI_pos (by omega)) | exact absurd (nI_lt hkl hN) q7
  · refine T_iload_n (pc := 4) d_Bytes_moveToEnd_4 rfl ?_
    refine T_aload_n (pc := 5) d_Bytes_moveToEnd_5 rfl ?_
    refine T_alen (pc := 6) d_Bytes_moveToEnd_6 hR (Or.inr (Or.inr rfl)) ?_
    refine T_icmp_lt (tgt := 11) (pc := 7) d_Bytes_moveToEnd_7 (by decide) (fun q7 => ?_) (fun q7 => ?_)
    · refine T_aload_n (pc := 11) d_Bytes_moveToEnd_11 rfl ?_
      refine T_iload_n (pc := 12) d_Bytes_moveToEnd_12 rfl ?_
      refine T_aald (pc := 13) d_Bytes_moveToEnd_13 hR (vp_in_nI hkl hN) (by rw [nI_clamp (by omega)]; exact hk) ?_
      refine T_astore_n (pc := 14) d_Bytes_moveToEnd_14 rfl (Nat.le_of_ble_eq_true rfl) rfl ?_
      refine T_iload_n (pc := 15) d_Bytes_moveToEnd_15 rfl ?_
      refine T_istore_n (pc := 16) d_Bytes_moveToEnd_16 rfl (Nat.le_of_ble_eq_true rfl) rfl ?_
      refine c_Bytes_moveToEnd_loop (N := ads.length) (k := k) (g := fun i => ads[i]?) hN hq0r hq0h hg hR (fun h' g' o' => ⟨rfl, by rw [g', mvG_e hk], o'⟩) (ads.length - 1 - k) k h (by omega) (Nat.le_refl _) ?_ (fun _ _ => rfl)
      rw [mvG_0]
      exact hR
    · first | exact absurd q1 (nI_pos (by omega)) | exact absurd (nI_lt hkl hN) q7
end
section
/-! OnceWire$Fragments: a record in fragments, and back. -/
def wrapL : Nat → List Int32 → List Int32
  | 0, _ => []
  | k + 1, l => if l.length = 0 then [] else if l.length ≤ 16 then wby (nI l.length + (-2147483648)) ++ l else wby 16 ++ (l.take 16 ++ wrapL k (l.drop 16))
theorem wby_len (w : Int32) : (wby w).length = 4 := rfl
theorem min16 {len s : Nat} (h : s ≤ len) (hl : len < 2 ^ 30) : (if nI len - nI s < 16 then nI len - nI s else 16) = nI (min (len - s) 16) := by
  rw [pk_sub h]
  by_cases q : len - s < 16
  · rw [if_pos (show nI (len - s) < 16 from nI_lt (b := 16) q (by decide)), Nat.min_eq_left (by omega)]
  · rw [if_neg (show ¬ nI (len - s) < 16 from nI_nlt (a := len - s) (b := 16) (by omega) (by omega)), Nat.min_eq_right (by omega)]
    rfl
theorem wrapL_nil (k : Nat) : wrapL k [] = [] := by cases k <;> rfl
set_option maxRecDepth 100000 in
set_option maxHeartbeats 4000000 in
theorem c_Fragments_wrap_loop {n a a2 cap cap2 : Nat} {l2 : List Int32} {Q : aQ} (hc : cap < 2 ^ 31) (hc2 : cap2 < 2 ^ 30) (hne : a2 ≠ a) : ∀ (k i : Nat) (h : aH) (l : List Int32), l2.length ≤ i + 16 * k → By h a cap l → By h a2 cap2 l2 → l.length + (wrapL k (l2.drop i)).length ≤ cap → i ≤ l2.length + 16 → (∀ h', By h' a cap (l ++ wrapL k (l2.drop i)) → (∀ q, q ≠ a → q ≠ a + 1 → h' q = h q) → Q none h') → Tri M_Fragments_wrap (a_rm 2 0 0) (a_Z 0 0 Q) 6 [(2, .int (nI i)), (0, .ref a2), (1, .ref a)] [] n h 0 0 := by
  intro k
  induction k with
  | zero =>
    intro i h l hk hb hb2 hr hi hQ
    have hle := hb2.le
    refine T_iload_n (pc := 6) d_Fragments_wrap_6 rfl ?_
    refine T_aload_n (pc := 7) d_Fragments_wrap_7 rfl ?_
    refine T_get (pc := 8) d_Fragments_wrap_8 sF_Fragments_12_Bytes (By.obj hb2) rfl ?_
    refine T_icmp_ge (tgt := 73) (pc := 11) d_Fragments_wrap_11 (by decide) (fun q11 => ?_) (fun q11 => ?_)
    · refine T_vret (pc := 73) d_Fragments_wrap_73 rfl rfl (Nat.le_refl _) ?_
      refine hQ h ?_ (fun _ _ _ => rfl)
      simpa [wrapL] using hb
    · exact absurd (nI_le (by omega) (by omega)) q11
  | succ k ih =>
    intro i h l hk hb hb2 hr hi hQ
    have hle := hb2.le
    have n1 := hb.apart hb2 hne
    have e3 : (l2.drop i).length = l2.length - i := List.length_drop
    by_cases c0 : l2.length ≤ i
    · refine T_iload_n (pc := 6) d_Fragments_wrap_6 rfl ?_
      refine T_aload_n (pc := 7) d_Fragments_wrap_7 rfl ?_
      refine T_get (pc := 8) d_Fragments_wrap_8 sF_Fragments_12_Bytes (By.obj hb2) rfl ?_
      refine T_icmp_ge (tgt := 73) (pc := 11) d_Fragments_wrap_11 (by decide) (fun q11 => ?_) (fun q11 => ?_)
      · refine T_vret (pc := 73) d_Fragments_wrap_73 rfl rfl (Nat.le_refl _) ?_
        refine hQ h ?_ (fun _ _ _ => rfl)
        rw [List.drop_eq_nil_of_le c0, wrapL_nil, List.append_nil]
        exact hb
      · exact absurd (nI_le c0 (by omega)) q11
    · by_cases c1 : l2.length ≤ i + 16
      · have e4 : wrapL (k + 1) (l2.drop i) = wby (nI (l2.length - i) + (-2147483648)) ++ l2.drop i := by
          rw [wrapL, if_neg (by omega), if_pos (by omega), e3]
        rw [e4] at hr
        simp only [List.length_append, wby_len, e3] at hr
        refine T_iload_n (pc := 6) d_Fragments_wrap_6 rfl ?_
        refine T_aload_n (pc := 7) d_Fragments_wrap_7 rfl ?_
        refine T_get (pc := 8) d_Fragments_wrap_8 sF_Fragments_12_Bytes (By.obj hb2) rfl ?_
        refine T_icmp_ge (tgt := 73) (pc := 11) d_Fragments_wrap_11 (by decide) (fun q11 => ?_) (fun q11 => ?_)
        · exact absurd q11 (nI_ge (by omega) (by omega))
        · refine T_bipush (v := 16) (pc := 14) d_Fragments_wrap_14 rfl ?_
          refine T_aload_n (pc := 16) d_Fragments_wrap_16 rfl ?_
          refine T_get (pc := 17) d_Fragments_wrap_17 sF_Fragments_12_Bytes (By.obj hb2) rfl ?_
          refine T_iload_n (pc := 20) d_Fragments_wrap_20 rfl ?_
          refine T_isub (pc := 21) d_Fragments_wrap_21 ?_
          refine T_min (pc := 22) d_Fragments_wrap_22 sI_Fragments_18 ⟨(Nat.le_of_ble_eq_true rfl), (Nat.le_of_ble_eq_true rfl)⟩ ⟨(Nat.le_of_ble_eq_true rfl), (Nat.le_of_ble_eq_true rfl)⟩ (Nat.le_of_ble_eq_true rfl) ?_
          rw [min16 (by omega) (by omega), Nat.min_eq_left (by omega)]
          refine T_istore_n (pc := 25) d_Fragments_wrap_25 rfl (Nat.le_of_ble_eq_true rfl) rfl ?_
          refine T_iload_n (pc := 26) d_Fragments_wrap_26 rfl ?_
          refine T_iload_n (pc := 27) d_Fragments_wrap_27 rfl ?_
          refine T_iadd (pc := 28) d_Fragments_wrap_28 ?_
          refine T_aload_n (pc := 29) d_Fragments_wrap_29 rfl ?_
          refine T_get (pc := 30) d_Fragments_wrap_30 sF_Fragments_12_Bytes (By.obj hb2) rfl ?_
          refine T_icmp_ne (tgt := 40) (pc := 33) d_Fragments_wrap_33 (by decide) (fun q33 => ?_) (fun q33 => ?_)
          · exact absurd (by rw [nI_add]; congr 1; omega) q33
          · refine T_iconst (v := 1) (pc := 36) d_Fragments_wrap_36 rfl ?_
            refine T_goto (tgt := 41) (pc := 37) d_Fragments_wrap_37 (by decide) ?_
            refine T_istore (pc := 41) d_Fragments_wrap_41 (Nat.le_of_ble_eq_true rfl) rfl ?_
            refine T_aload_n (pc := 43) d_Fragments_wrap_43 rfl ?_
            refine T_iload (pc := 44) d_Fragments_wrap_44 rfl ?_
            refine T_if_eq (tgt := 56) (pc := 46) d_Fragments_wrap_46 (by decide) (fun q46 => ?_) (fun q46 => ?_)
            · exact absurd q46 (by decide)
            · refine T_iload_n (pc := 49) d_Fragments_wrap_49 rfl ?_
              refine T_ldc (pc := 50) d_Fragments_wrap_50 (Ws_at (i := 6) (k := 14) rfl rfl) ?_
              refine T_iadd (pc := 52) d_Fragments_wrap_52 ?_
              refine T_goto (tgt := 57) (pc := 53) d_Fragments_wrap_53 (by decide) ?_
              refine T_ivV (pc := 57) d_Fragments_wrap_57 sI_Fragments_25 (c_Bytes_appendWord (x := (nI (l2.length - i) + (-2147483648))) hb hc (by omega)) (By.obj hb) rfl rfl ⟨(Nat.le_of_ble_eq_true rfl), (Nat.le_of_ble_eq_true rfl)⟩ ⟨(Nat.le_of_ble_eq_true rfl), (Nat.le_of_ble_eq_true rfl)⟩ (Nat.le_of_ble_eq_true rfl) (fun r1 h1 q1 => ?_)
              obtain ⟨rfl, hb1, o1⟩ := q1
              have hb21 := hb2.same (o1 a2 hne n1.1) (o1 (a2 + 1) n1.2.1 n1.2.2)
              refine T_aload_n (pc := 60) d_Fragments_wrap_60 rfl ?_
              refine T_aload_n (pc := 61) d_Fragments_wrap_61 rfl ?_
              refine T_iload_n (pc := 62) d_Fragments_wrap_62 rfl ?_
              refine T_iload_n (pc := 63) d_Fragments_wrap_63 rfl ?_
              refine T_ivV (pc := 64) d_Fragments_wrap_64 sI_Fragments_29 (c_Bytes_appendPart (st := i) (ct := (l2.length - i)) hb1 hb21 hc (by omega) hne (by omega) (by rw [List.length_append, wby_len]; omega)) (By.obj hb1) rfl rfl ⟨(Nat.le_of_ble_eq_true rfl), (Nat.le_of_ble_eq_true rfl)⟩ ⟨(Nat.le_of_ble_eq_true rfl), (Nat.le_of_ble_eq_true rfl)⟩ (Nat.le_of_ble_eq_true rfl) (fun r2 h2 q2 => ?_)
              obtain ⟨rfl, hb3, o2⟩ := q2
              have hb23 := hb21.same (o2 a2 hne n1.1) (o2 (a2 + 1) n1.2.1 n1.2.2)
              refine T_iinc (pc := 67) d_Fragments_wrap_67 rfl (nI_add i 16) (Nat.le_of_ble_eq_true rfl) rfl ?_
              refine T_goto (tgt := 6) (pc := 70) d_Fragments_wrap_70 (by decide) (T_loc (L' := [(2, .int (nI (i + 16))), (0, .ref a2), (1, .ref a)]) [0, 3, 4] rfl ?_)
              rw [List.append_assoc, List.take_of_length_le (by rw [List.length_drop]; omega)] at hb3
              have e5 : l2.drop (i + 16) = [] := List.drop_eq_nil_of_le (by omega)
              refine ih (i + 16) h2 _ (by omega) hb3 hb23 ?_ (by omega) (fun h' g' o' => hQ h' ?_ (fun q h3 h4 => (o' q h3 h4).trans ((o2 q h3 h4).trans (o1 q h3 h4))))
              · rw [e5, wrapL_nil]
                simp only [List.length_append, wby_len, List.length_drop, List.length_nil]
                omega
              · rw [e5, wrapL_nil, List.append_nil] at g'
                rw [e4]
                exact g'
      · have e4 : wrapL (k + 1) (l2.drop i) = wby 16 ++ ((l2.drop i).take 16 ++ wrapL k (l2.drop (i + 16))) := by
          rw [wrapL, if_neg (by omega), if_neg (by omega), List.drop_drop]
        have hr0 := hr
        rw [e4] at hr
        simp only [List.length_append, wby_len, List.length_take, e3] at hr
        refine T_iload_n (pc := 6) d_Fragments_wrap_6 rfl ?_
        refine T_aload_n (pc := 7) d_Fragments_wrap_7 rfl ?_
        refine T_get (pc := 8) d_Fragments_wrap_8 sF_Fragments_12_Bytes (By.obj hb2) rfl ?_
        refine T_icmp_ge (tgt := 73) (pc := 11) d_Fragments_wrap_11 (by decide) (fun q11 => ?_) (fun q11 => ?_)
        · exact absurd q11 (nI_ge (by omega) (by omega))
        · refine T_bipush (v := 16) (pc := 14) d_Fragments_wrap_14 rfl ?_
          refine T_aload_n (pc := 16) d_Fragments_wrap_16 rfl ?_
          refine T_get (pc := 17) d_Fragments_wrap_17 sF_Fragments_12_Bytes (By.obj hb2) rfl ?_
          refine T_iload_n (pc := 20) d_Fragments_wrap_20 rfl ?_
          refine T_isub (pc := 21) d_Fragments_wrap_21 ?_
          refine T_min (pc := 22) d_Fragments_wrap_22 sI_Fragments_18 ⟨(Nat.le_of_ble_eq_true rfl), (Nat.le_of_ble_eq_true rfl)⟩ ⟨(Nat.le_of_ble_eq_true rfl), (Nat.le_of_ble_eq_true rfl)⟩ (Nat.le_of_ble_eq_true rfl) ?_
          rw [min16 (by omega) (by omega), Nat.min_eq_right (by omega)]
          refine T_istore_n (pc := 25) d_Fragments_wrap_25 rfl (Nat.le_of_ble_eq_true rfl) rfl ?_
          refine T_iload_n (pc := 26) d_Fragments_wrap_26 rfl ?_
          refine T_iload_n (pc := 27) d_Fragments_wrap_27 rfl ?_
          refine T_iadd (pc := 28) d_Fragments_wrap_28 ?_
          refine T_aload_n (pc := 29) d_Fragments_wrap_29 rfl ?_
          refine T_get (pc := 30) d_Fragments_wrap_30 sF_Fragments_12_Bytes (By.obj hb2) rfl ?_
          refine T_icmp_ne (tgt := 40) (pc := 33) d_Fragments_wrap_33 (by decide) (fun q33 => ?_) (fun q33 => ?_)
          · refine T_iconst (v := 0) (pc := 40) d_Fragments_wrap_40 rfl ?_
            refine T_istore (pc := 41) d_Fragments_wrap_41 (Nat.le_of_ble_eq_true rfl) rfl ?_
            refine T_aload_n (pc := 43) d_Fragments_wrap_43 rfl ?_
            refine T_iload (pc := 44) d_Fragments_wrap_44 rfl ?_
            refine T_if_eq (tgt := 56) (pc := 46) d_Fragments_wrap_46 (by decide) (fun q46 => ?_) (fun q46 => ?_)
            · refine T_iload_n (pc := 56) d_Fragments_wrap_56 rfl ?_
              refine T_ivV (pc := 57) d_Fragments_wrap_57 sI_Fragments_25 (c_Bytes_appendWord (x := (nI 16)) hb hc (by omega)) (By.obj hb) rfl rfl ⟨(Nat.le_of_ble_eq_true rfl), (Nat.le_of_ble_eq_true rfl)⟩ ⟨(Nat.le_of_ble_eq_true rfl), (Nat.le_of_ble_eq_true rfl)⟩ (Nat.le_of_ble_eq_true rfl) (fun r1 h1 q1 => ?_)
              obtain ⟨rfl, hb1, o1⟩ := q1
              have hb21 := hb2.same (o1 a2 hne n1.1) (o1 (a2 + 1) n1.2.1 n1.2.2)
              refine T_aload_n (pc := 60) d_Fragments_wrap_60 rfl ?_
              refine T_aload_n (pc := 61) d_Fragments_wrap_61 rfl ?_
              refine T_iload_n (pc := 62) d_Fragments_wrap_62 rfl ?_
              refine T_iload_n (pc := 63) d_Fragments_wrap_63 rfl ?_
              refine T_ivV (pc := 64) d_Fragments_wrap_64 sI_Fragments_29 (c_Bytes_appendPart (st := i) (ct := 16) hb1 hb21 hc (by omega) hne (by omega) (by rw [List.length_append, wby_len]; omega)) (By.obj hb1) rfl rfl ⟨(Nat.le_of_ble_eq_true rfl), (Nat.le_of_ble_eq_true rfl)⟩ ⟨(Nat.le_of_ble_eq_true rfl), (Nat.le_of_ble_eq_true rfl)⟩ (Nat.le_of_ble_eq_true rfl) (fun r2 h2 q2 => ?_)
              obtain ⟨rfl, hb3, o2⟩ := q2
              have hb23 := hb21.same (o2 a2 hne n1.1) (o2 (a2 + 1) n1.2.1 n1.2.2)
              refine T_iinc (pc := 67) d_Fragments_wrap_67 rfl (nI_add i 16) (Nat.le_of_ble_eq_true rfl) rfl ?_
              refine T_goto (tgt := 6) (pc := 70) d_Fragments_wrap_70 (by decide) (T_loc (L' := [(2, .int (nI (i + 16))), (0, .ref a2), (1, .ref a)]) [0, 3, 4] rfl ?_)
              rw [List.append_assoc] at hb3
              refine ih (i + 16) h2 _ (by omega) hb3 hb23 ?_ (by omega) (fun h' g' o' => hQ h' ?_ (fun q h3 h4 => (o' q h3 h4).trans ((o2 q h3 h4).trans (o1 q h3 h4))))
              · simp only [List.length_append, wby_len, List.length_take, e3]
                omega
              · rw [e4]
                rw [List.append_assoc, List.append_assoc] at g'
                exact g'
            · exact absurd rfl q46
          · exact absurd q33 (fun e => absurd ((nI_eq (by omega) (by omega)).mp (show nI (i + 16) = nI l2.length by rw [← nI_add]; exact e)) (by omega))
set_option maxRecDepth 100000 in
set_option maxHeartbeats 4000000 in
theorem c_Fragments_wrap {n a a2 cap cap2 : Nat} {h : aH} {l l2 : List Int32} (hb : By h a cap l) (hb2 : By h a2 cap2 l2) (hc : cap < 2 ^ 31) (hc2 : cap2 < 2 ^ 30) (hne : a2 ≠ a) (hr : (wrapL l2.length l2).length ≤ cap) : Con M_Fragments_wrap 2 0 0 n [.ref a2, .ref a] h (fun r h' => r = none ∧ By h' a cap (wrapL l2.length l2) ∧ ∀ q, q ≠ a → q ≠ a + 1 → h' q = h q) := by
  have n1 := hb.apart hb2 hne
  refine Con.of rfl (Nat.le_of_ble_eq_true rfl) ?_
  refine T_aload_n (pc := 0) d_Fragments_wrap_0 rfl ?_
  refine T_ivV (pc := 1) d_Fragments_wrap_1 sI_Fragments_7 (c_Bytes_clear hb) (By.obj hb) rfl rfl ⟨(Nat.le_of_ble_eq_true rfl), (Nat.le_of_ble_eq_true rfl)⟩ ⟨(Nat.le_of_ble_eq_true rfl), (Nat.le_of_ble_eq_true rfl)⟩ (Nat.le_of_ble_eq_true rfl) (fun r0 h0 q0 => ?_)
  obtain ⟨rfl, hb0, o0⟩ := q0
  have hb20 := hb2.same (o0 a2 hne) (o0 (a2 + 1) n1.2.1)
  refine T_iconst (v := 0) (pc := 4) d_Fragments_wrap_4 rfl ?_
  refine T_istore_n (pc := 5) d_Fragments_wrap_5 rfl (Nat.le_of_ble_eq_true rfl) rfl ?_
  exact c_Fragments_wrap_loop hc hc2 hne l2.length 0 h0 [] (by omega) hb0 hb20 (by simpa using hr) (by omega) (fun h' g' o' => ⟨rfl, by simpa using g', fun q h1 h2 => (o' q h1 h2).trans (o0 q h1)⟩)
end
section
/-! OnceWire$Fragments.unwrap. -/
/-- a fragment's count -/
def fcn (w : Int32) : Nat := w.toBitVec.toNat % 2 ^ 31
def uw : Nat → List Int32 → Option (List Int32)
  | 0, _ => none
  | k + 1, l => if l.length < 4 then none else if l.length < 4 + fcn (wat l 0) then none else if wat l 0 < 0 then (if 4 + fcn (wat l 0) = l.length then some ((l.drop 4).take (fcn (wat l 0))) else none) else (uw k (l.drop (4 + fcn (wat l 0)))).map (fun r => (l.drop 4).take (fcn (wat l 0)) ++ r)
theorem fcn_lt (w : Int32) : fcn w < 2 ^ 31 := Nat.mod_lt _ (by decide)
theorem fcn_and (w : Int32) : w &&& 2147483647 = nI (fcn w) := pk_and w 31 (by decide)
theorem wat_drop (l : List Int32) (p : Nat) : wat (l.drop p) 0 = wat l p := by
  simp only [wat, List.getD_eq_getElem?_getD, List.getElem?_drop, Nat.add_zero, Nat.zero_add]
theorem nle_sub {a b c : Nat} (ha : a < 2 ^ 30) (hb : b < 2 ^ 30) (hc : c < 2 ^ 31) : (nI c ≤ nI a - nI b) ↔ b + c ≤ a := by
  rw [Int32.le_iff_toInt_le, pk_sub_toInt ha hb, nI_toInt hc]
  omega
theorem nlt_sub {a b c : Nat} (ha : a < 2 ^ 30) (hb : b < 2 ^ 30) (hc : c < 2 ^ 31) : (nI a - nI b < nI c) ↔ a < b + c := by
  rw [Int32.lt_iff_toInt_lt, pk_sub_toInt ha hb, nI_toInt hc]
  omega
set_option maxRecDepth 100000 in
set_option maxHeartbeats 4000000 in
theorem c_Fragments_unwrap_loop {n a a2 cap cap2 : Nat} {l2 : List Int32} {Q : aQ} (hc : cap < 2 ^ 31) (hc2 : cap2 < 2 ^ 29) (hne : a2 ≠ a) : ∀ (k j p : Nat) (h : aH) (l : List Int32), j + k = l2.length → By h a cap l → By h a2 cap2 l2 → l.length + (l2.length - p) ≤ cap → p ≤ l2.length → (∀ h' x, uw k (l2.drop p) = some x → By h' a cap (l ++ x) → (∀ q, q ≠ a → q ≠ a + 1 → h' q = h q) → Q (some (.int 1)) h') → (∀ h' l', uw k (l2.drop p) = none → By h' a cap l' → (∀ q, q ≠ a → q ≠ a + 1 → h' q = h q) → Q (some (.int 0)) h') → Tri M_Fragments_unwrap (a_rm 2 0 0) (a_Z 0 0 Q) 8 [(3, .int (nI j)), (2, .int (nI p)), (0, .ref a2), (1, .ref a)] [] n h 0 0 := by
  intro k
  induction k with
  | zero =>
    intro j p h l hk hb hb2 hr hp hQ1 hQ0
    have hle := hb2.le
    refine T_iload_n (pc := 8) d_Fragments_unwrap_8 rfl ?_
    refine T_aload_n (pc := 9) d_Fragments_unwrap_9 rfl ?_
    refine T_get (pc := 10) d_Fragments_unwrap_10 sF_Fragments_12_Bytes (By.obj hb2) rfl ?_
    refine T_icmp_ge (tgt := 94) (pc := 13) d_Fragments_unwrap_13 (by decide) (fun q13 => ?_) (fun q13 => ?_)
    · refine T_iconst (v := 0) (pc := 94) d_Fragments_unwrap_94 rfl ?_
      refine T_zret (pc := 95) d_Fragments_unwrap_95 rfl (by decide) rfl (Nat.le_refl _) ?_
      exact hQ0 h l rfl hb (fun _ _ _ => rfl)
    · exact absurd (nI_le (by omega) (by omega)) q13
  | succ k ih =>
    intro j p h l hk hb hb2 hr hp hQ1 hQ0
    have hle := hb2.le
    have n1 := hb.apart hb2 hne
    have e3 : (l2.drop p).length = l2.length - p := List.length_drop
    have e4 := wat_drop l2 p
    have hu : uw (k + 1) (l2.drop p) = if l2.length - p < 4 then none else if l2.length - p < 4 + fcn (wat l2 p) then none else if wat l2 p < 0 then (if 4 + fcn (wat l2 p) = l2.length - p then some ((l2.drop (p + 4)).take (fcn (wat l2 p))) else none) else (uw k (l2.drop (p + (4 + fcn (wat l2 p))))).map (fun r => (l2.drop (p + 4)).take (fcn (wat l2 p)) ++ r) := by
      rw [uw, e3, e4, List.drop_drop, List.drop_drop]
    have hj : ¬ nI l2.length ≤ nI j := nI_ge (by omega) (by omega)
    refine T_iload_n (pc := 8) d_Fragments_unwrap_8 rfl ?_
    refine T_aload_n (pc := 9) d_Fragments_unwrap_9 rfl ?_
    refine T_get (pc := 10) d_Fragments_unwrap_10 sF_Fragments_12_Bytes (By.obj hb2) rfl ?_
    refine T_icmp_ge (tgt := 94) (pc := 13) d_Fragments_unwrap_13 (by decide) (fun q13 => ?_) (fun q13 => ?_)
    · exact absurd q13 hj
    · refine T_iload_n (pc := 16) d_Fragments_unwrap_16 rfl ?_
      refine T_aload_n (pc := 17) d_Fragments_unwrap_17 rfl ?_
      refine T_get (pc := 18) d_Fragments_unwrap_18 sF_Fragments_12_Bytes (By.obj hb2) rfl ?_
      refine T_iconst (v := 4) (pc := 21) d_Fragments_unwrap_21 rfl ?_
      refine T_isub (pc := 22) d_Fragments_unwrap_22 ?_
      refine T_icmp_gt (tgt := 94) (pc := 23) d_Fragments_unwrap_23 (by decide) (fun q23 => ?_) (fun q23 => ?_)
      · refine T_iconst (v := 0) (pc := 94) d_Fragments_unwrap_94 rfl ?_
        refine T_zret (pc := 95) d_Fragments_unwrap_95 rfl (by decide) rfl (Nat.le_refl _) ?_
        refine hQ0 h l ?_ hb (fun _ _ _ => rfl)
        rw [hu, if_pos (show l2.length - p < 4 from ?_)]
        have := (nlt_sub (a := l2.length) (b := 4) (c := p) (by omega) (by decide) (by omega)).mp q23
        omega
      · refine T_aload_n (pc := 26) d_Fragments_unwrap_26 rfl ?_
        refine T_iload_n (pc := 27) d_Fragments_unwrap_27 rfl ?_
        have c0 : p + 4 ≤ l2.length := by
          have := mt (nlt_sub (a := l2.length) (b := 4) (c := p) (by omega) (by decide) (by omega)).mpr q23
          omega
        rw [if_neg (show ¬ l2.length - p < 4 by omega)] at hu
        refine T_ivV (pc := 28) d_Fragments_unwrap_28 sI_Fragments_33 (c_Bytes_wordAt hb2 (by omega) c0) (By.obj hb2) rfl rfl ⟨(Nat.le_of_ble_eq_true rfl), (Nat.le_of_ble_eq_true rfl)⟩ ⟨(Nat.le_of_ble_eq_true rfl), (Nat.le_of_ble_eq_true rfl)⟩ (Nat.le_of_ble_eq_true rfl) (fun r1 h1 q1 => ?_)
        obtain ⟨rfl, e1⟩ := q1
        rw [e1]
        refine T_istore (pc := 31) d_Fragments_unwrap_31 (Nat.le_of_ble_eq_true rfl) rfl ?_
        refine T_iload (pc := 33) d_Fragments_unwrap_33 rfl ?_
        refine T_ldc (pc := 35) d_Fragments_unwrap_35 (Ws_at (i := 6) (k := 19) rfl rfl) ?_
        refine T_iand (pc := 37) d_Fragments_unwrap_37 (T_top (fcn_and _) ?_)
        generalize hw : wat l2 p = w at hu ⊢
        have hf := fcn_lt w
        refine T_istore (pc := 38) d_Fragments_unwrap_38 (Nat.le_of_ble_eq_true rfl) rfl ?_
        refine T_iinc (pc := 40) d_Fragments_unwrap_40 rfl (nI_add p 4) (Nat.le_of_ble_eq_true rfl) rfl ?_
        refine T_iload (pc := 43) d_Fragments_unwrap_43 rfl ?_
        refine T_aload_n (pc := 45) d_Fragments_unwrap_45 rfl ?_
        refine T_get (pc := 46) d_Fragments_unwrap_46 sF_Fragments_12_Bytes (By.obj hb2) rfl ?_
        refine T_iload_n (pc := 49) d_Fragments_unwrap_49 rfl ?_
        refine T_isub (pc := 50) d_Fragments_unwrap_50 ?_
        refine T_icmp_le (tgt := 56) (pc := 51) d_Fragments_unwrap_51 (by decide) (fun q51 => ?_) (fun q51 => ?_)
        · refine T_aload_n (pc := 56) d_Fragments_unwrap_56 rfl ?_
          refine T_aload_n (pc := 57) d_Fragments_unwrap_57 rfl ?_
          refine T_iload_n (pc := 58) d_Fragments_unwrap_58 rfl ?_
          refine T_iload (pc := 59) d_Fragments_unwrap_59 rfl ?_
          have c1 : p + 4 + fcn w ≤ l2.length := (nle_sub (by omega) (by omega) hf).mp q51
          rw [if_neg (show ¬ l2.length - p < 4 + fcn w by omega)] at hu
          refine T_ivV (pc := 61) d_Fragments_unwrap_61 sI_Fragments_29 (c_Bytes_appendPart (st := p + 4) (ct := fcn w) hb hb2 hc (by omega) hne c1 (by omega)) (By.obj hb) rfl rfl ⟨(Nat.le_of_ble_eq_true rfl), (Nat.le_of_ble_eq_true rfl)⟩ ⟨(Nat.le_of_ble_eq_true rfl), (Nat.le_of_ble_eq_true rfl)⟩ (Nat.le_of_ble_eq_true rfl) (fun r2 h2 q2 => ?_)
          obtain ⟨rfl, hb3, o2⟩ := q2
          have hb23 := hb2.same (o2 a2 hne n1.1) (o2 (a2 + 1) n1.2.1 n1.2.2)
          refine T_iload_n (pc := 64) d_Fragments_unwrap_64 rfl ?_
          refine T_iload (pc := 65) d_Fragments_unwrap_65 rfl ?_
          refine T_iadd (pc := 67) d_Fragments_unwrap_67 (T_top (nI_add (p + 4) (fcn w)) ?_)
          refine T_istore_n (pc := 68) d_Fragments_unwrap_68 rfl (Nat.le_of_ble_eq_true rfl) rfl ?_
          refine T_iload (pc := 69) d_Fragments_unwrap_69 rfl ?_
          refine T_if_ge (tgt := 88) (pc := 71) d_Fragments_unwrap_71 (by decide) (fun q71 => ?_) (fun q71 => ?_)
          · rw [if_neg (Int32.not_lt.mpr q71)] at hu
            refine T_iinc (pc := 88) d_Fragments_unwrap_88 rfl (nI_1 j) (Nat.le_of_ble_eq_true rfl) rfl ?_
            refine T_goto (tgt := 8) (pc := 91) d_Fragments_unwrap_91 (by decide) (T_loc (L' := [(3, .int (nI (j + 1))), (2, .int (nI (p + 4 + fcn w))), (0, .ref a2), (1, .ref a)]) [0, 1, 4, 5] rfl ?_)
            rw [← Nat.add_assoc] at hu
            refine ih (j + 1) (p + 4 + fcn w) h2 _ (by omega) hb3 hb23 (by rw [List.length_append, List.length_take, List.length_drop]; omega) c1 (fun h' x hx g' o' => hQ1 h' _ (by rw [hu, hx]; rfl) (by rw [← List.append_assoc]; exact g') (fun q h3 h4 => (o' q h3 h4).trans (o2 q h3 h4))) (fun h' l' hx g' o' => hQ0 h' l' (by rw [hu, hx]; rfl) g' (fun q h3 h4 => (o' q h3 h4).trans (o2 q h3 h4)))
          · rw [if_pos (Int32.not_le.mp q71)] at hu
            refine T_iload_n (pc := 74) d_Fragments_unwrap_74 rfl ?_
            refine T_aload_n (pc := 75) d_Fragments_unwrap_75 rfl ?_
            refine T_get (pc := 76) d_Fragments_unwrap_76 sF_Fragments_12_Bytes (By.obj hb23) rfl ?_
            refine T_icmp_ne (tgt := 86) (pc := 79) d_Fragments_unwrap_79 (by decide) (fun q79 => ?_) (fun q79 => ?_)
            · refine T_iconst (v := 0) (pc := 86) d_Fragments_unwrap_86 rfl ?_
              refine T_zret (pc := 87) d_Fragments_unwrap_87 rfl (by decide) rfl (Nat.le_refl _) ?_
              first
                | (have e9 : p + 4 + fcn w = l2.length := (nI_eq (by omega) (by omega)).mp q79
                   exact hQ1 h2 _ (by rw [hu, if_pos (by omega)]) hb3 o2)
                | (have e9 : ¬ p + 4 + fcn w = l2.length := fun e => q79 (by rw [e])
                   exact hQ0 h2 _ (by rw [hu, if_neg (by omega)]) hb3 o2)
            · refine T_iconst (v := 1) (pc := 82) d_Fragments_unwrap_82 rfl ?_
              refine T_goto (tgt := 87) (pc := 83) d_Fragments_unwrap_83 (by decide) ?_
              refine T_zret (pc := 87) d_Fragments_unwrap_87 rfl (by decide) rfl (Nat.le_refl _) ?_
              first
                | (have e9 : p + 4 + fcn w = l2.length := (nI_eq (by omega) (by omega)).mp q79
                   exact hQ1 h2 _ (by rw [hu, if_pos (by omega)]) hb3 o2)
                | (have e9 : ¬ p + 4 + fcn w = l2.length := fun e => q79 (by rw [e])
                   exact hQ0 h2 _ (by rw [hu, if_neg (by omega)]) hb3 o2)
        · refine T_iconst (v := 0) (pc := 54) d_Fragments_unwrap_54 rfl ?_
          refine T_zret (pc := 55) d_Fragments_unwrap_55 rfl (by decide) rfl (Nat.le_refl _) ?_
          refine hQ0 h l ?_ hb (fun _ _ _ => rfl)
          rw [hu, if_pos (show l2.length - p < 4 + fcn w from ?_)]
          have := mt (nle_sub (a := l2.length) (b := p + 4) (c := fcn w) (by omega) (by omega) hf).mpr q51
          omega
set_option maxRecDepth 100000 in
set_option maxHeartbeats 4000000 in
theorem c_Fragments_unwrap {n a a2 cap cap2 : Nat} {h : aH} {l l2 : List Int32} (hb : By h a cap l) (hb2 : By h a2 cap2 l2) (hc : cap < 2 ^ 31) (hc2 : cap2 < 2 ^ 29) (hne : a2 ≠ a) (hr : l2.length ≤ cap) : Con M_Fragments_unwrap 2 0 0 n [.ref a2, .ref a] h (fun r h' => (∀ q, q ≠ a → q ≠ a + 1 → h' q = h q) ∧ match uw l2.length l2 with | some x => r = some (.int 1) ∧ By h' a cap x | none => r = some (.int 0) ∧ ∃ l', By h' a cap l') := by
  have n1 := hb.apart hb2 hne
  refine Con.of rfl (Nat.le_of_ble_eq_true rfl) ?_
  refine T_aload_n (pc := 0) d_Fragments_unwrap_0 rfl ?_
  refine T_ivV (pc := 1) d_Fragments_unwrap_1 sI_Fragments_7 (c_Bytes_clear hb) (By.obj hb) rfl rfl ⟨(Nat.le_of_ble_eq_true rfl), (Nat.le_of_ble_eq_true rfl)⟩ ⟨(Nat.le_of_ble_eq_true rfl), (Nat.le_of_ble_eq_true rfl)⟩ (Nat.le_of_ble_eq_true rfl) (fun r0 h0 q0 => ?_)
  obtain ⟨rfl, hb0, o0⟩ := q0
  have hb20 := hb2.same (o0 a2 hne) (o0 (a2 + 1) n1.2.1)
  refine T_iconst (v := 0) (pc := 4) d_Fragments_unwrap_4 rfl ?_
  refine T_istore_n (pc := 5) d_Fragments_unwrap_5 rfl (Nat.le_of_ble_eq_true rfl) rfl ?_
  refine T_iconst (v := 0) (pc := 6) d_Fragments_unwrap_6 rfl ?_
  refine T_istore_n (pc := 7) d_Fragments_unwrap_7 rfl (Nat.le_of_ble_eq_true rfl) rfl ?_
  refine c_Fragments_unwrap_loop hc hc2 hne l2.length 0 0 h0 [] (by omega) hb0 hb20 (by simpa using hr) (by omega) (fun h' x hx g' o' => ?_) (fun h' l' hx g' o' => ?_)
  · refine ⟨fun q h1 h2 => (o' q h1 h2).trans (o0 q h1), ?_⟩
    rw [List.drop_zero] at hx
    rw [hx]
    exact ⟨rfl, g'⟩
  · refine ⟨fun q h1 h2 => (o' q h1 h2).trans (o0 q h1), ?_⟩
    rw [List.drop_zero] at hx
    rw [hx]
    exact ⟨rfl, l', g'⟩
end
section
/-! OnceWire$Schema: a list of fields (number, kind, repeated). -/
abbrev Sf : Type := Nat × Nat × Bool
def keyN (t : Sf) : Nat := 8 * t.1 + (if t.2.1 = 2 then 5 else 0)
def bI (b : Bool) : Int32 := if b then 1 else 0
theorem bI_01 (b : Bool) : bI b = 0 ∨ bI b = 1 := by cases b <;> simp [bI]
def oI (o : Option Nat) : Int32 := match o with
  | some i => nI i
  | none => -1
def Sc (h : aH) (a : Nat) (ns : List Sf) : Prop := ∃ fn fk fe fr : Nat → Int32, h a = some (.inr (5, [.ref (a + 1), .ref (a + 2), .ref (a + 3), .ref (a + 4), .int (nI ns.length)])) ∧ h (a + 1) = some (.inl (.int, 4, .inl fn)) ∧ h (a + 2) = some (.inl (.int, 4, .inl fk)) ∧ h (a + 3) = some (.inl (.int, 4, .inl fe)) ∧ h (a + 4) = some (.inl (.boolean, 4, .inl fr)) ∧ ns.length ≤ 4 ∧ ∀ i t, ns[i]? = some t → fn i = nI t.1 ∧ fk i = nI t.2.1 ∧ fe i = nI (keyN t) ∧ fr i = bI t.2.2 ∧ 1 ≤ t.1 ∧ t.1 ≤ 30 ∧ t.2.1 ≤ 3
theorem Sc.le {h : aH} {a : Nat} {ns : List Sf} (hs : Sc h a ns) : ns.length ≤ 4 := by
  obtain ⟨_, _, _, _, _, _, _, _, _, q, _⟩ := hs
  exact q
theorem Sc.obj {h : aH} {a : Nat} {ns : List Sf} (hs : Sc h a ns) : h a = some (.inr (5, [.ref (a + 1), .ref (a + 2), .ref (a + 3), .ref (a + 4), .int (nI ns.length)])) := by
  obtain ⟨_, _, _, _, q, _⟩ := hs
  exact q
theorem Sc.rng {h : aH} {a : Nat} {ns : List Sf} (hs : Sc h a ns) {i : Nat} {t : Sf} (ht : ns[i]? = some t) : 1 ≤ t.1 ∧ t.1 ≤ 30 ∧ t.2.1 ≤ 3 := by
  obtain ⟨_, _, _, _, _, _, _, _, _, _, q⟩ := hs
  exact (q i t ht).2.2.2.2
theorem Sc.same {h h' : aH} {a : Nat} {ns : List Sf} (hs : Sc h a ns) (o : ∀ q, a ≤ q → q ≤ a + 4 → h' q = h q) : Sc h' a ns := by
  obtain ⟨f1, f2, f3, f4, q0, q1, q2, q3, q4, q5, q6⟩ := hs
  exact ⟨f1, f2, f3, f4, (o a (by omega) (by omega)).trans q0, (o _ (by omega) (by omega)).trans q1, (o _ (by omega) (by omega)).trans q2, (o _ (by omega) (by omega)).trans q3, (o _ (by omega) (by omega)).trans q4, q5, q6⟩
/-- the first field of that number -/
def ixF (x : Int32) : List Sf → Nat → Option Nat
  | [], _ => none
  | t :: ts, i => if nI t.1 = x then some i else ixF x ts (i + 1)
def dcl (ns : List Sf) (x k : Int32) (r : Bool) : Int32 × List Sf := if x < 1 ∨ 30 < x ∨ k < 0 ∨ 3 < k then (-4, ns) else if ixF x ns 0 ≠ none then (-4, ns) else if 4 ≤ ns.length then (-5, ns) else (nI ns.length, ns ++ [(x.toNatClampNeg, k.toNatClampNeg, r)])
set_option maxRecDepth 100000 in
set_option maxHeartbeats 4000000 in
theorem c_Schema_init {a : Nat} {h : aH} (hS : h a = some (.inr (5, [.null, .null, .null, .null, .int 0]))) : Con M_Schema_init 1 4 16 a [.ref a] h (fun r h' => r = none ∧ Sc h' a [] ∧ ∀ q, q < a ∨ a + 4 < q → h' q = h q) := by
  refine Con.of rfl (Nat.le_of_ble_eq_true rfl) ?_
  refine T_aload_n (pc := 0) d_Schema_init_0 rfl ?_
  refine T_objInit (pc := 1) d_Schema_init_1 sI_Schema_3 ⟨(Nat.le_of_ble_eq_true rfl), (Nat.le_of_ble_eq_true rfl)⟩ (Nat.le_of_ble_eq_true rfl) ?_
  refine T_aload_n (pc := 4) d_Schema_init_4 rfl ?_
  refine T_iconst (v := 4) (pc := 5) d_Schema_init_5 rfl ?_
  refine T_newi (pc := 6) d_Schema_init_6 (Ws_at (i := 5) (k := 30) rfl rfl) (by decide) rfl (by decide) (Nat.le_of_ble_eq_true rfl) (Nat.le_of_ble_eq_true rfl) (T_up (fun h6x1 g6x1 o6x1 => ?_))
  have hS_6x1 := (o6x1 a (by omega)).trans hS
  refine T_putF (pc := 8) d_Schema_init_8 sFF_Schema_11_Schema rfl hS_6x1 (Nat.le_of_ble_eq_true rfl) (a_fit_a _ _) (T_up (fun h8x2 g8x2 o8x2 => ?_))
  have g6x1_8x2 := (o8x2 (a + 1) (by omega)).trans g6x1
  refine T_aload_n (pc := 11) d_Schema_init_11 rfl ?_
  refine T_iconst (v := 4) (pc := 12) d_Schema_init_12 rfl ?_
  refine T_newi (pc := 13) d_Schema_init_13 (Ws_at (i := 5) (k := 30) rfl rfl) (by decide) rfl (by decide) (Nat.le_of_ble_eq_true rfl) (Nat.le_of_ble_eq_true rfl) (T_up (fun h13x3 g13x3 o13x3 => ?_))
  have g8x2_13x3 := (o13x3 a (by omega)).trans g8x2
  have g6x1_13x3 := (o13x3 (a + 1) (by omega)).trans g6x1_8x2
  refine T_putF (pc := 15) d_Schema_init_15 sFF_Schema_15_Schema rfl g8x2_13x3 (Nat.le_of_ble_eq_true rfl) (a_fit_a _ _) (T_up (fun h15x4 g15x4 o15x4 => ?_))
  have g6x1_15x4 := (o15x4 (a + 1) (by omega)).trans g6x1_13x3
  have g13x3_15x4 := (o15x4 (a + 2) (by omega)).trans g13x3
  refine T_aload_n (pc := 18) d_Schema_init_18 rfl ?_
  refine T_iconst (v := 4) (pc := 19) d_Schema_init_19 rfl ?_
  refine T_newi (pc := 20) d_Schema_init_20 (Ws_at (i := 5) (k := 30) rfl rfl) (by decide) rfl (by decide) (Nat.le_of_ble_eq_true rfl) (Nat.le_of_ble_eq_true rfl) (T_up (fun h20x5 g20x5 o20x5 => ?_))
  have g15x4_20x5 := (o20x5 a (by omega)).trans g15x4
  have g6x1_20x5 := (o20x5 (a + 1) (by omega)).trans g6x1_15x4
  have g13x3_20x5 := (o20x5 (a + 2) (by omega)).trans g13x3_15x4
  refine T_putF (pc := 22) d_Schema_init_22 sFF_Schema_18_Schema rfl g15x4_20x5 (Nat.le_of_ble_eq_true rfl) (a_fit_a _ _) (T_up (fun h22x6 g22x6 o22x6 => ?_))
  have g6x1_22x6 := (o22x6 (a + 1) (by omega)).trans g6x1_20x5
  have g13x3_22x6 := (o22x6 (a + 2) (by omega)).trans g13x3_20x5
  have g20x5_22x6 := (o22x6 (a + 3) (by omega)).trans g20x5
  refine T_aload_n (pc := 25) d_Schema_init_25 rfl ?_
  refine T_iconst (v := 4) (pc := 26) d_Schema_init_26 rfl ?_
  refine T_newz (pc := 27) d_Schema_init_27 (Ws_at (i := 6) (k := 23) rfl rfl) (by decide) rfl (by decide) (Nat.le_of_ble_eq_true rfl) (Nat.le_of_ble_eq_true rfl) (T_up (fun h27x7 g27x7 o27x7 => ?_))
  have g22x6_27x7 := (o27x7 a (by omega)).trans g22x6
  have g6x1_27x7 := (o27x7 (a + 1) (by omega)).trans g6x1_22x6
  have g13x3_27x7 := (o27x7 (a + 2) (by omega)).trans g13x3_22x6
  have g20x5_27x7 := (o27x7 (a + 3) (by omega)).trans g20x5_22x6
  refine T_putF (pc := 29) d_Schema_init_29 sFF_Schema_21_Schema rfl g22x6_27x7 (Nat.le_of_ble_eq_true rfl) (a_fit_a _ _) (T_up (fun h29x8 g29x8 o29x8 => ?_))
  have g6x1_29x8 := (o29x8 (a + 1) (by omega)).trans g6x1_27x7
  have g13x3_29x8 := (o29x8 (a + 2) (by omega)).trans g13x3_27x7
  have g20x5_29x8 := (o29x8 (a + 3) (by omega)).trans g20x5_27x7
  have g27x7_29x8 := (o29x8 (a + 4) (by omega)).trans g27x7
  refine T_aload_n (pc := 32) d_Schema_init_32 rfl ?_
  refine T_iconst (v := 0) (pc := 33) d_Schema_init_33 rfl ?_
  refine T_put (pc := 34) d_Schema_init_34 sF_Schema_25_Schema g29x8 (Nat.le_of_ble_eq_true rfl) (a_fit_i _) (T_up (fun h34x9 g34x9 o34x9 => ?_))
  have g6x1_34x9 := (o34x9 (a + 1) (by omega)).trans g6x1_29x8
  have g13x3_34x9 := (o34x9 (a + 2) (by omega)).trans g13x3_29x8
  have g20x5_34x9 := (o34x9 (a + 3) (by omega)).trans g20x5_29x8
  have g27x7_34x9 := (o34x9 (a + 4) (by omega)).trans g27x7_29x8
  refine T_vret (pc := 37) d_Schema_init_37 rfl rfl (Nat.le_refl _) ?_
  refine ⟨rfl, ⟨_, _, _, _, g34x9, g6x1_34x9, g13x3_34x9, g20x5_34x9, g27x7_34x9, by decide, fun i t ht => by simp at ht⟩, fun q hq => ?_⟩
  rw [o34x9 q (by omega), o29x8 q (by omega), o27x7 q (by omega), o22x6 q (by omega), o20x5 q (by omega), o15x4 q (by omega), o13x3 q (by omega), o8x2 q (by omega), o6x1 q (by omega)]
set_option maxRecDepth 100000 in
set_option maxHeartbeats 4000000 in
theorem c_Schema_has {n a : Nat} {h : aH} {f : Int32} {ns : List Sf} (hs : Sc h a ns) : Con M_Schema_has 0 0 0 n [.ref a, .int f] h (fun r h' => r = some (.int (if 0 ≤ f ∧ f < nI ns.length then 1 else 0)) ∧ h' = h) := by
  refine Con.of rfl (Nat.le_of_ble_eq_true rfl) ?_
  refine T_iload_n (pc := 0) d_Schema_has_0 rfl ?_
  refine T_if_lt (tgt := 16) (pc := 1) d_Schema_has_1 (by decide) (fun q1 => ?_) (fun q1 => ?_)
  · refine T_iconst (v := 0) (pc := 16) d_Schema_has_16 rfl ?_
    refine T_zret (pc := 17) d_Schema_has_17 rfl (by decide) rfl (Nat.le_refl _) ?_
    refine ⟨?_, rfl⟩
    first
      | rw [if_neg (fun q => absurd q.1 (Int32.not_le.mpr q1))]
      | rw [if_neg (fun q => absurd q.2 (Int32.not_lt.mpr q9))]
      | rw [if_pos ⟨Int32.not_lt.mp q1, Int32.not_le.mp q9⟩]
  · refine T_iload_n (pc := 4) d_Schema_has_4 rfl ?_
    refine T_aload_n (pc := 5) d_Schema_has_5 rfl ?_
    refine T_get (pc := 6) d_Schema_has_6 sF_Schema_25_Schema hs.obj rfl ?_
    refine T_icmp_ge (tgt := 16) (pc := 9) d_Schema_has_9 (by decide) (fun q9 => ?_) (fun q9 => ?_)
    · refine T_iconst (v := 0) (pc := 16) d_Schema_has_16 rfl ?_
      refine T_zret (pc := 17) d_Schema_has_17 rfl (by decide) rfl (Nat.le_refl _) ?_
      refine ⟨?_, rfl⟩
      first
        | rw [if_neg (fun q => absurd q.1 (Int32.not_le.mpr q1))]
        | rw [if_neg (fun q => absurd q.2 (Int32.not_lt.mpr q9))]
        | rw [if_pos ⟨Int32.not_lt.mp q1, Int32.not_le.mp q9⟩]
    · refine T_iconst (v := 1) (pc := 12) d_Schema_has_12 rfl ?_
      refine T_goto (tgt := 17) (pc := 13) d_Schema_has_13 (by decide) ?_
      refine T_zret (pc := 17) d_Schema_has_17 rfl (by decide) rfl (Nat.le_refl _) ?_
      refine ⟨?_, rfl⟩
      first
        | rw [if_neg (fun q => absurd q.1 (Int32.not_le.mpr q1))]
        | rw [if_neg (fun q => absurd q.2 (Int32.not_lt.mpr q9))]
        | rw [if_pos ⟨Int32.not_lt.mp q1, Int32.not_le.mp q9⟩]
theorem in_has {i L : Nat} (h : i < L) (hL : L < 2 ^ 31) : 0 ≤ nI i ∧ nI i < nI L := ⟨nI_pos' (by omega), nI_lt h hL⟩
theorem ge_lt {l : List Sf} {i : Nat} {t : Sf} (h : l[i]? = some t) : i < l.length := (List.getElem?_eq_some_iff.mp h).1
set_option maxRecDepth 100000 in
set_option maxHeartbeats 4000000 in
theorem c_Schema_kindOf {n a i : Nat} {h : aH} {ns : List Sf} {t : Sf} (hs : Sc h a ns) (ht : ns[i]? = some t) : Con M_Schema_kindOf 1 0 0 n [.ref a, .int (nI i)] h (fun r h' => r = some (.int (nI t.2.1)) ∧ h' = h) := by
  have hi := ge_lt ht
  have hle := hs.le
  obtain ⟨fn, fk, fe, fr, hS, hN, hK, hE, hR, hl, hf⟩ := id hs
  have ht1 := hf i t ht
  refine Con.of rfl (Nat.le_of_ble_eq_true rfl) ?_
  refine T_aload_n (pc := 0) d_Schema_kindOf_0 rfl ?_
  refine T_iload_n (pc := 1) d_Schema_kindOf_1 rfl ?_
  refine T_ivV (pc := 2) d_Schema_kindOf_2 sI_Schema_33 (c_Schema_has hs) hs.obj rfl rfl ⟨(Nat.le_of_ble_eq_true rfl), (Nat.le_of_ble_eq_true rfl)⟩ ⟨(Nat.le_of_ble_eq_true rfl), (Nat.le_of_ble_eq_true rfl)⟩ (Nat.le_of_ble_eq_true rfl) (fun r1 h1 q1 => ?_)
  obtain ⟨rfl, e1⟩ := q1
  rw [e1, if_pos (in_has hi (by omega))]
  refine T_if_eq (tgt := 17) (pc := 5) d_Schema_kindOf_5 (by decide) (fun q5 => ?_) (fun q5 => ?_)
  · exact absurd q5 (by decide)
  · refine T_aload_n (pc := 8) d_Schema_kindOf_8 rfl ?_
    refine T_get (pc := 9) d_Schema_kindOf_9 sF_Schema_15_Schema hS rfl ?_
    refine T_iload_n (pc := 12) d_Schema_kindOf_12 rfl ?_
    refine T_iald (pc := 13) d_Schema_kindOf_13 hK (vp_in_nI (by omega) (by decide)) ?_
    refine T_goto (tgt := 18) (pc := 14) d_Schema_kindOf_14 (by decide) ?_
    refine T_iret (pc := 18) d_Schema_kindOf_18 rfl rfl (Nat.le_refl _) ?_
    refine ⟨?_, rfl⟩
    rw [nI_clamp (by omega), ht1.2.1]
set_option maxRecDepth 100000 in
set_option maxHeartbeats 4000000 in
theorem c_Schema_keyOf {n a i : Nat} {h : aH} {ns : List Sf} {t : Sf} (hs : Sc h a ns) (ht : ns[i]? = some t) : Con M_Schema_keyOf 1 0 0 n [.ref a, .int (nI i)] h (fun r h' => r = some (.int (nI (keyN t))) ∧ h' = h) := by
  have hi := ge_lt ht
  have hle := hs.le
  obtain ⟨fn, fk, fe, fr, hS, hN, hK, hE, hR, hl, hf⟩ := id hs
  have ht1 := hf i t ht
  refine Con.of rfl (Nat.le_of_ble_eq_true rfl) ?_
  refine T_aload_n (pc := 0) d_Schema_keyOf_0 rfl ?_
  refine T_iload_n (pc := 1) d_Schema_keyOf_1 rfl ?_
  refine T_ivV (pc := 2) d_Schema_keyOf_2 sI_Schema_33 (c_Schema_has hs) hs.obj rfl rfl ⟨(Nat.le_of_ble_eq_true rfl), (Nat.le_of_ble_eq_true rfl)⟩ ⟨(Nat.le_of_ble_eq_true rfl), (Nat.le_of_ble_eq_true rfl)⟩ (Nat.le_of_ble_eq_true rfl) (fun r1 h1 q1 => ?_)
  obtain ⟨rfl, e1⟩ := q1
  rw [e1, if_pos (in_has hi (by omega))]
  refine T_if_eq (tgt := 17) (pc := 5) d_Schema_keyOf_5 (by decide) (fun q5 => ?_) (fun q5 => ?_)
  · exact absurd q5 (by decide)
  · refine T_aload_n (pc := 8) d_Schema_keyOf_8 rfl ?_
    refine T_get (pc := 9) d_Schema_keyOf_9 sF_Schema_18_Schema hS rfl ?_
    refine T_iload_n (pc := 12) d_Schema_keyOf_12 rfl ?_
    refine T_iald (pc := 13) d_Schema_keyOf_13 hE (vp_in_nI (by omega) (by decide)) ?_
    refine T_goto (tgt := 18) (pc := 14) d_Schema_keyOf_14 (by decide) ?_
    refine T_iret (pc := 18) d_Schema_keyOf_18 rfl rfl (Nat.le_refl _) ?_
    refine ⟨?_, rfl⟩
    rw [nI_clamp (by omega), ht1.2.2.1]
set_option maxRecDepth 100000 in
set_option maxHeartbeats 4000000 in
theorem c_Schema_isRepeated {n a i : Nat} {h : aH} {ns : List Sf} {t : Sf} (hs : Sc h a ns) (ht : ns[i]? = some t) : Con M_Schema_isRepeated 1 0 0 n [.ref a, .int (nI i)] h (fun r h' => r = some (.int (bI t.2.2)) ∧ h' = h) := by
  have hi := ge_lt ht
  have hle := hs.le
  obtain ⟨fn, fk, fe, fr, hS, hN, hK, hE, hR, hl, hf⟩ := id hs
  have ht1 := hf i t ht
  refine Con.of rfl (Nat.le_of_ble_eq_true rfl) ?_
  refine T_aload_n (pc := 0) d_Schema_isRepeated_0 rfl ?_
  refine T_iload_n (pc := 1) d_Schema_isRepeated_1 rfl ?_
  refine T_ivV (pc := 2) d_Schema_isRepeated_2 sI_Schema_33 (c_Schema_has hs) hs.obj rfl rfl ⟨(Nat.le_of_ble_eq_true rfl), (Nat.le_of_ble_eq_true rfl)⟩ ⟨(Nat.le_of_ble_eq_true rfl), (Nat.le_of_ble_eq_true rfl)⟩ (Nat.le_of_ble_eq_true rfl) (fun r1 h1 q1 => ?_)
  obtain ⟨rfl, e1⟩ := q1
  rw [e1, if_pos (in_has hi (by omega))]
  refine T_if_eq (tgt := 21) (pc := 5) d_Schema_isRepeated_5 (by decide) (fun q5 => ?_) (fun q5 => ?_)
  · refine T_iconst (v := 0) (pc := 21) d_Schema_isRepeated_21 rfl ?_
    refine T_zret (pc := 22) d_Schema_isRepeated_22 rfl (by decide) rfl (Nat.le_refl _) ?_
    first
      | exact absurd q5 (by decide)
      | (rw [nI_clamp (by omega), ht1.2.2.2.1] at q14
         rcases bI_01 t.2.2 with e | e
         · first | exact absurd e q14 | (refine ⟨?_, rfl⟩; rw [e]; done)
         · first | exact absurd (e.symm.trans q14) (by decide) | (refine ⟨?_, rfl⟩; rw [e]; done))
  · refine T_aload_n (pc := 8) d_Schema_isRepeated_8 rfl ?_
    refine T_get (pc := 9) d_Schema_isRepeated_9 sF_Schema_21_Schema hS rfl ?_
    refine T_iload_n (pc := 12) d_Schema_isRepeated_12 rfl ?_
    refine T_zald (pc := 13) d_Schema_isRepeated_13 hR (vp_in_nI (by omega) (by decide)) ?_
    refine T_if_eq (tgt := 21) (pc := 14) d_Schema_isRepeated_14 (by decide) (fun q14 => ?_) (fun q14 => ?_)
    · refine T_iconst (v := 0) (pc := 21) d_Schema_isRepeated_21 rfl ?_
      refine T_zret (pc := 22) d_Schema_isRepeated_22 rfl (by decide) rfl (Nat.le_refl _) ?_
      first
        | exact absurd q5 (by decide)
        | (rw [nI_clamp (by omega), ht1.2.2.2.1] at q14
           rcases bI_01 t.2.2 with e | e
           · first | exact absurd e q14 | (refine ⟨?_, rfl⟩; rw [e]; done)
           · first | exact absurd (e.symm.trans q14) (by decide) | (refine ⟨?_, rfl⟩; rw [e]; done))
    · refine T_iconst (v := 1) (pc := 17) d_Schema_isRepeated_17 rfl ?_
      refine T_goto (tgt := 22) (pc := 18) d_Schema_isRepeated_18 (by decide) ?_
      refine T_zret (pc := 22) d_Schema_isRepeated_22 rfl (by decide) rfl (Nat.le_refl _) ?_
      first
        | exact absurd q5 (by decide)
        | (rw [nI_clamp (by omega), ht1.2.2.2.1] at q14
           rcases bI_01 t.2.2 with e | e
           · first | exact absurd e q14 | (refine ⟨?_, rfl⟩; rw [e]; done)
           · first | exact absurd (e.symm.trans q14) (by decide) | (refine ⟨?_, rfl⟩; rw [e]; done))
set_option maxRecDepth 100000 in
set_option maxHeartbeats 4000000 in
theorem c_Schema_allows {n a i : Nat} {h : aH} {v : Int32} {ns : List Sf} {t : Sf} (hs : Sc h a ns) (ht : ns[i]? = some t) : Con M_Schema_allows 2 0 0 n [.ref a, .int (nI i), .int v] h (fun r h' => r = some (.int (if t.2.1 = 3 ∧ v ≠ 0 ∧ v ≠ 1 then 0 else 1)) ∧ h' = h) := by
  refine Con.of rfl (Nat.le_of_ble_eq_true rfl) ?_
  refine T_aload_n (pc := 0) d_Schema_allows_0 rfl ?_
  refine T_iload_n (pc := 1) d_Schema_allows_1 rfl ?_
  refine T_ivV (pc := 2) d_Schema_allows_2 sI_Schema_37 (c_Schema_kindOf hs ht) hs.obj rfl rfl ⟨(Nat.le_of_ble_eq_true rfl), (Nat.le_of_ble_eq_true rfl)⟩ ⟨(Nat.le_of_ble_eq_true rfl), (Nat.le_of_ble_eq_true rfl)⟩ (Nat.le_of_ble_eq_true rfl) (fun r1 h1 q1 => ?_)
  obtain ⟨rfl, e1⟩ := q1
  rw [e1]
  refine T_iconst (v := 3) (pc := 5) d_Schema_allows_5 rfl ?_
  refine T_icmp_ne (tgt := 18) (pc := 6) d_Schema_allows_6 (by decide) (fun q6 => ?_) (fun q6 => ?_)
  · refine T_iconst (v := 1) (pc := 18) d_Schema_allows_18 rfl ?_
    refine T_goto (tgt := 23) (pc := 19) d_Schema_allows_19 (by decide) ?_
    refine T_zret (pc := 23) d_Schema_allows_23 rfl (by decide) rfl (Nat.le_refl _) ?_
    refine ⟨?_, rfl⟩
    have e3 : (nI t.2.1 = 3) ↔ t.2.1 = 3 := nI_eq (b := 3) (by have := hs.rng ht; omega) (by decide)
    first
      | (have q6' := mt e3.mpr q6; simp [q6']; done)
      | (simp [q10]; done)
      | (simp [q15]; done)
      | (have q6' := e3.mp q6; simp [q6', q10, q15]; done)
  · refine T_iload_n (pc := 9) d_Schema_allows_9 rfl ?_
    refine T_if_eq (tgt := 18) (pc := 10) d_Schema_allows_10 (by decide) (fun q10 => ?_) (fun q10 => ?_)
    · refine T_iconst (v := 1) (pc := 18) d_Schema_allows_18 rfl ?_
      refine T_goto (tgt := 23) (pc := 19) d_Schema_allows_19 (by decide) ?_
      refine T_zret (pc := 23) d_Schema_allows_23 rfl (by decide) rfl (Nat.le_refl _) ?_
      refine ⟨?_, rfl⟩
      have e3 : (nI t.2.1 = 3) ↔ t.2.1 = 3 := nI_eq (b := 3) (by have := hs.rng ht; omega) (by decide)
      first
        | (have q6' := mt e3.mpr q6; simp [q6']; done)
        | (simp [q10]; done)
        | (simp [q15]; done)
        | (have q6' := e3.mp q6; simp [q6', q10, q15]; done)
    · refine T_iload_n (pc := 13) d_Schema_allows_13 rfl ?_
      refine T_iconst (v := 1) (pc := 14) d_Schema_allows_14 rfl ?_
      refine T_icmp_ne (tgt := 22) (pc := 15) d_Schema_allows_15 (by decide) (fun q15 => ?_) (fun q15 => ?_)
      · refine T_iconst (v := 0) (pc := 22) d_Schema_allows_22 rfl ?_
        refine T_zret (pc := 23) d_Schema_allows_23 rfl (by decide) rfl (Nat.le_refl _) ?_
        refine ⟨?_, rfl⟩
        have e3 : (nI t.2.1 = 3) ↔ t.2.1 = 3 := nI_eq (b := 3) (by have := hs.rng ht; omega) (by decide)
        first
          | (have q6' := mt e3.mpr q6; simp [q6']; done)
          | (simp [q10]; done)
          | (simp [q15]; done)
          | (have q6' := e3.mp q6; simp [q6', q10, q15]; done)
      · refine T_iconst (v := 1) (pc := 18) d_Schema_allows_18 rfl ?_
        refine T_goto (tgt := 23) (pc := 19) d_Schema_allows_19 (by decide) ?_
        refine T_zret (pc := 23) d_Schema_allows_23 rfl (by decide) rfl (Nat.le_refl _) ?_
        refine ⟨?_, rfl⟩
        have e3 : (nI t.2.1 = 3) ↔ t.2.1 = 3 := nI_eq (b := 3) (by have := hs.rng ht; omega) (by decide)
        first
          | (have q6' := mt e3.mpr q6; simp [q6']; done)
          | (simp [q10]; done)
          | (simp [q15]; done)
          | (have q6' := e3.mp q6; simp [q6', q10, q15]; done)
set_option maxRecDepth 100000 in
set_option maxHeartbeats 4000000 in
theorem c_Schema_indexOf_loop {n a : Nat} {h : aH} {x : Int32} {ns : List Sf} {Q : aQ} (hs : Sc h a ns) : ∀ (ts : List Sf) (i : Nat), ns.drop i = ts → i ≤ ns.length → Q (some (.int (oI (ixF x ts i)))) h → Tri M_Schema_indexOf (a_rm 0 0 0) (a_Z 0 0 Q) 2 [(2, .int (nI i)), (0, .ref a), (1, .int x)] [] n h 0 0 := by
  have hle := hs.le
  obtain ⟨fn, fk, fe, fr, hS, hN, hK, hE, hR, hl, hf⟩ := id hs
  intro ts
  induction ts with
  | nil =>
    intro i hts hi hQ
    have hi2 : ns.length ≤ i := List.drop_eq_nil_iff.mp hts
    refine T_iload_n (pc := 2) d_Schema_indexOf_2 rfl ?_
    refine T_aload_n (pc := 3) d_Schema_indexOf_3 rfl ?_
    refine T_get (pc := 4) d_Schema_indexOf_4 sF_Schema_25_Schema hS rfl ?_
    refine T_icmp_ge (tgt := 28) (pc := 7) d_Schema_indexOf_7 (by decide) (fun q7 => ?_) (fun q7 => ?_)
    · refine T_iconst (v := -1) (pc := 28) d_Schema_indexOf_28 rfl ?_
      refine T_iret (pc := 29) d_Schema_indexOf_29 rfl rfl (Nat.le_refl _) ?_
      exact hQ
    · exact absurd (nI_le hi2 (by omega)) q7
  | cons t ts ih =>
    intro i hts hi hQ
    have hi2 : i < ns.length := by
      have := congrArg List.length hts
      simp at this
      omega
    have ht : ns[i]? = some t := by
      have := congrArg (fun l => l[0]?) hts
      simpa using this
    have ht1 := hf i t ht
    have hts2 : ns.drop (i + 1) = ts := by
      rw [← List.drop_drop, hts]
      rfl
    refine T_iload_n (pc := 2) d_Schema_indexOf_2 rfl ?_
    refine T_aload_n (pc := 3) d_Schema_indexOf_3 rfl ?_
    refine T_get (pc := 4) d_Schema_indexOf_4 sF_Schema_25_Schema hS rfl ?_
    refine T_icmp_ge (tgt := 28) (pc := 7) d_Schema_indexOf_7 (by decide) (fun q7 => ?_) (fun q7 => ?_)
    · exact absurd q7 (nI_ge hi2 (by omega))
    · refine T_aload_n (pc := 10) d_Schema_indexOf_10 rfl ?_
      refine T_get (pc := 11) d_Schema_indexOf_11 sF_Schema_11_Schema hS rfl ?_
      refine T_iload_n (pc := 14) d_Schema_indexOf_14 rfl ?_
      refine T_iald (pc := 15) d_Schema_indexOf_15 hN (vp_in_nI (by omega) (by decide)) ?_
      refine T_iload_n (pc := 16) d_Schema_indexOf_16 rfl ?_
      refine T_icmp_ne (tgt := 22) (pc := 17) d_Schema_indexOf_17 (by decide) (fun q17 => ?_) (fun q17 => ?_)
      · refine T_iinc (pc := 22) d_Schema_indexOf_22 rfl (nI_1 i) (Nat.le_of_ble_eq_true rfl) rfl ?_
        refine T_goto (tgt := 2) (pc := 25) d_Schema_indexOf_25 (by decide) ?_
        rw [nI_clamp (by omega), ht1.1] at q17
        rw [ixF, if_neg q17] at hQ
        exact ih (i + 1) hts2 (by omega) hQ
      · refine T_iload_n (pc := 20) d_Schema_indexOf_20 rfl ?_
        refine T_iret (pc := 21) d_Schema_indexOf_21 rfl rfl (Nat.le_refl _) ?_
        rw [nI_clamp (by omega), ht1.1] at q17
        rw [ixF, if_pos q17] at hQ
        exact hQ
set_option maxRecDepth 100000 in
set_option maxHeartbeats 4000000 in
theorem c_Schema_indexOf {n a : Nat} {h : aH} {x : Int32} {ns : List Sf} (hs : Sc h a ns) : Con M_Schema_indexOf 0 0 0 n [.ref a, .int x] h (fun r h' => r = some (.int (oI (ixF x ns 0))) ∧ h' = h) := by
  refine Con.of rfl (Nat.le_of_ble_eq_true rfl) ?_
  refine T_iconst (v := 0) (pc := 0) d_Schema_indexOf_0 rfl ?_
  refine T_istore_n (pc := 1) d_Schema_indexOf_1 rfl (Nat.le_of_ble_eq_true rfl) rfl ?_
  exact c_Schema_indexOf_loop hs ns 0 (List.drop_zero) (Nat.zero_le _) ⟨rfl, rfl⟩
end
section
/-! OnceWire$Schema.declare. -/
theorem ixF_ge (x : Int32) : ∀ (ts : List Sf) (i j : Nat), ixF x ts i = some j → i ≤ j ∧ j < i + ts.length
  | [], i, j, h => by cases h
  | t :: ts, i, j, h => by
    unfold ixF at h
    split at h
    · cases h
      simp
    · have := ixF_ge x ts (i + 1) j h
      simp
      omega
theorem oI_none {o : Option Nat} (h : ∀ j, o = some j → j < 2 ^ 31) : oI o = -1 ↔ o = none := by
  cases o with
  | none => simp [oI]
  | some j =>
    simp only [oI, reduceCtorEq, iff_false]
    intro e
    have h1 := nI_pos (h j rfl)
    rw [e] at h1
    exact h1 (by decide)
set_option maxRecDepth 100000 in
set_option maxHeartbeats 4000000 in
theorem c_Schema_declare {n a : Nat} {h : aH} {x k : Int32} {r : Bool} {ns : List Sf} (hs : Sc h a ns) : Con M_Schema_declare 1 0 0 n [.ref a, .int x, .int k, .int (bI r)] h (fun r' h' => r' = some (.int (dcl ns x k r).1) ∧ Sc h' a (dcl ns x k r).2 ∧ ∀ q, q < a ∨ a + 4 < q → h' q = h q) := by
  have hle := hs.le
  have hix := oI_none (o := ixF x ns 0) (fun j hj => by have := ixF_ge x ns 0 j hj; omega)
  obtain ⟨fn, fk, fe, fr, hS, hN, hK, hE, hR, hl, hf⟩ := id hs
  refine Con.of rfl (Nat.le_of_ble_eq_true rfl) ?_
  refine T_iload_n (pc := 0) d_Schema_declare_0 rfl ?_
  refine T_iconst (v := 1) (pc := 1) d_Schema_declare_1 rfl ?_
  refine T_icmp_lt (tgt := 20) (pc := 2) d_Schema_declare_2 (by decide) (fun q2 => ?_) (fun q2 => ?_)
  · refine T_bipush (v := -4) (pc := 20) d_Schema_declare_20 rfl ?_
    refine T_iret (pc := 22) d_Schema_declare_22 rfl rfl (Nat.le_refl _) ?_
    refine ⟨?_, ?_, fun _ _ => rfl⟩ <;> rw [dcl, if_pos (by first | exact Or.inl q2 | exact Or.inr (Or.inl q8) | exact Or.inr (Or.inr (Or.inl q12)) | exact Or.inr (Or.inr (Or.inr (Int32.not_le.mp q17))))]
    exact hs
  · refine T_iload_n (pc := 5) d_Schema_declare_5 rfl ?_
    refine T_bipush (v := 30) (pc := 6) d_Schema_declare_6 rfl ?_
    refine T_icmp_gt (tgt := 20) (pc := 8) d_Schema_declare_8 (by decide) (fun q8 => ?_) (fun q8 => ?_)
    · refine T_bipush (v := -4) (pc := 20) d_Schema_declare_20 rfl ?_
      refine T_iret (pc := 22) d_Schema_declare_22 rfl rfl (Nat.le_refl _) ?_
      refine ⟨?_, ?_, fun _ _ => rfl⟩ <;> rw [dcl, if_pos (by first | exact Or.inl q2 | exact Or.inr (Or.inl q8) | exact Or.inr (Or.inr (Or.inl q12)) | exact Or.inr (Or.inr (Or.inr (Int32.not_le.mp q17))))]
      exact hs
    · refine T_iload_n (pc := 11) d_Schema_declare_11 rfl ?_
      refine T_if_lt (tgt := 20) (pc := 12) d_Schema_declare_12 (by decide) (fun q12 => ?_) (fun q12 => ?_)
      · refine T_bipush (v := -4) (pc := 20) d_Schema_declare_20 rfl ?_
        refine T_iret (pc := 22) d_Schema_declare_22 rfl rfl (Nat.le_refl _) ?_
        refine ⟨?_, ?_, fun _ _ => rfl⟩ <;> rw [dcl, if_pos (by first | exact Or.inl q2 | exact Or.inr (Or.inl q8) | exact Or.inr (Or.inr (Or.inl q12)) | exact Or.inr (Or.inr (Or.inr (Int32.not_le.mp q17))))]
        exact hs
      · refine T_iload_n (pc := 15) d_Schema_declare_15 rfl ?_
        refine T_iconst (v := 3) (pc := 16) d_Schema_declare_16 rfl ?_
        refine T_icmp_le (tgt := 23) (pc := 17) d_Schema_declare_17 (by decide) (fun q17 => ?_) (fun q17 => ?_)
        · have hrng : ¬ (x < 1 ∨ 30 < x ∨ k < 0 ∨ 3 < k) := by
            rintro (q | q | q | q)
            · exact q2 q
            · exact q8 q
            · exact q12 q
            · exact absurd q17 (Int32.not_le.mpr q)
          refine T_aload_n (pc := 23) d_Schema_declare_23 rfl ?_
          refine T_iload_n (pc := 24) d_Schema_declare_24 rfl ?_
          refine T_ivV (pc := 25) d_Schema_declare_25 sI_Schema_29 (c_Schema_indexOf hs) hs.obj rfl rfl ⟨(Nat.le_of_ble_eq_true rfl), (Nat.le_of_ble_eq_true rfl)⟩ ⟨(Nat.le_of_ble_eq_true rfl), (Nat.le_of_ble_eq_true rfl)⟩ (Nat.le_of_ble_eq_true rfl) (fun r1 h1 q1 => ?_)
          obtain ⟨rfl, e1⟩ := q1
          rw [e1]
          refine T_iconst (v := -1) (pc := 28) d_Schema_declare_28 rfl ?_
          refine T_icmp_eq (tgt := 35) (pc := 29) d_Schema_declare_29 (by decide) (fun q29 => ?_) (fun q29 => ?_)
          · refine T_aload_n (pc := 35) d_Schema_declare_35 rfl ?_
            refine T_get (pc := 36) d_Schema_declare_36 sF_Schema_25_Schema hS rfl ?_
            refine T_iconst (v := 4) (pc := 39) d_Schema_declare_39 rfl ?_
            refine T_icmp_lt (tgt := 46) (pc := 40) d_Schema_declare_40 (by decide) (fun q40 => ?_) (fun q40 => ?_)
            · refine T_aload_n (pc := 46) d_Schema_declare_46 rfl ?_
              refine T_get (pc := 47) d_Schema_declare_47 sF_Schema_11_Schema hS rfl ?_
              refine T_aload_n (pc := 50) d_Schema_declare_50 rfl ?_
              refine T_get (pc := 51) d_Schema_declare_51 sF_Schema_25_Schema hS rfl ?_
              refine T_iload_n (pc := 54) d_Schema_declare_54 rfl ?_
              refine T_iast (pc := 55) d_Schema_declare_55 (Nat.succ_ne_zero _) hN (vp_in_nI ((nI_ltI (b := 4) (by omega) (by decide)).mp q40) (by decide)) (T_up (fun h55x1 g55x1 o55x1 => ?_))
              have hS_55x1 := (o55x1 a (by omega)).trans hS
              have hK_55x1 := (o55x1 (a + 2) (by omega)).trans hK
              have hE_55x1 := (o55x1 (a + 3) (by omega)).trans hE
              have hR_55x1 := (o55x1 (a + 4) (by omega)).trans hR
              refine T_aload_n (pc := 56) d_Schema_declare_56 rfl ?_
              refine T_get (pc := 57) d_Schema_declare_57 sF_Schema_15_Schema hS_55x1 rfl ?_
              refine T_aload_n (pc := 60) d_Schema_declare_60 rfl ?_
              refine T_get (pc := 61) d_Schema_declare_61 sF_Schema_25_Schema hS_55x1 rfl ?_
              refine T_iload_n (pc := 64) d_Schema_declare_64 rfl ?_
              refine T_iast (pc := 65) d_Schema_declare_65 (Nat.succ_ne_zero _) hK_55x1 (vp_in_nI ((nI_ltI (b := 4) (by omega) (by decide)).mp q40) (by decide)) (T_up (fun h65x2 g65x2 o65x2 => ?_))
              have hS_65x2 := (o65x2 a (by omega)).trans hS_55x1
              have g55x1_65x2 := (o65x2 (a + 1) (by omega)).trans g55x1
              have hE_65x2 := (o65x2 (a + 3) (by omega)).trans hE_55x1
              have hR_65x2 := (o65x2 (a + 4) (by omega)).trans hR_55x1
              refine T_aload_n (pc := 66) d_Schema_declare_66 rfl ?_
              refine T_get (pc := 67) d_Schema_declare_67 sF_Schema_18_Schema hS_65x2 rfl ?_
              refine T_aload_n (pc := 70) d_Schema_declare_70 rfl ?_
              refine T_get (pc := 71) d_Schema_declare_71 sF_Schema_25_Schema hS_65x2 rfl ?_
              refine T_bipush (v := 8) (pc := 74) d_Schema_declare_74 rfl ?_
              refine T_iload_n (pc := 76) d_Schema_declare_76 rfl ?_
              refine T_imul (pc := 77) d_Schema_declare_77 ?_
              refine T_iload_n (pc := 78) d_Schema_declare_78 rfl ?_
              refine T_iconst (v := 2) (pc := 79) d_Schema_declare_79 rfl ?_
              refine T_icmp_ne (tgt := 87) (pc := 80) d_Schema_declare_80 (by decide) (fun q80 => ?_) (fun q80 => ?_)
              · refine T_iconst (v := 0) (pc := 87) d_Schema_declare_87 rfl ?_
                refine T_iadd (pc := 88) d_Schema_declare_88 ?_
                refine T_iast (pc := 89) d_Schema_declare_89 (Nat.succ_ne_zero _) hE_65x2 (vp_in_nI ((nI_ltI (b := 4) (by omega) (by decide)).mp q40) (by decide)) (T_up (fun h89x3 g89x3 o89x3 => ?_))
                have hS_89x3 := (o89x3 a (by omega)).trans hS_65x2
                have g55x1_89x3 := (o89x3 (a + 1) (by omega)).trans g55x1_65x2
                have g65x2_89x3 := (o89x3 (a + 2) (by omega)).trans g65x2
                have hR_89x3 := (o89x3 (a + 4) (by omega)).trans hR_65x2
                refine T_aload_n (pc := 90) d_Schema_declare_90 rfl ?_
                refine T_get (pc := 91) d_Schema_declare_91 sF_Schema_21_Schema hS_89x3 rfl ?_
                refine T_aload_n (pc := 94) d_Schema_declare_94 rfl ?_
                refine T_get (pc := 95) d_Schema_declare_95 sF_Schema_25_Schema hS_89x3 rfl ?_
                refine T_iload_n (pc := 98) d_Schema_declare_98 rfl ?_
                refine T_zast (pc := 99) d_Schema_declare_99 hR_89x3 (vp_in_nI ((nI_ltI (b := 4) (by omega) (by decide)).mp q40) (by decide)) (T_up (fun h99x4 g99x4 o99x4 => ?_))
                have hS_99x4 := (o99x4 a (by omega)).trans hS_89x3
                have g55x1_99x4 := (o99x4 (a + 1) (by omega)).trans g55x1_89x3
                have g65x2_99x4 := (o99x4 (a + 2) (by omega)).trans g65x2_89x3
                have g89x3_99x4 := (o99x4 (a + 3) (by omega)).trans g89x3
                refine T_aload_n (pc := 100) d_Schema_declare_100 rfl ?_
                refine T_dup (pc := 101) d_Schema_declare_101 rfl ?_
                refine T_get (pc := 102) d_Schema_declare_102 sF_Schema_25_Schema hS_99x4 rfl ?_
                refine T_iconst (v := 1) (pc := 105) d_Schema_declare_105 rfl ?_
                refine T_iadd (pc := 106) d_Schema_declare_106 ?_
                refine T_put (pc := 107) d_Schema_declare_107 sF_Schema_25_Schema hS_99x4 (Nat.le_of_ble_eq_true rfl) (a_fit_i _) (T_up (fun h107x5 g107x5 o107x5 => ?_))
                have g55x1_107x5 := (o107x5 (a + 1) (by omega)).trans g55x1_99x4
                have g65x2_107x5 := (o107x5 (a + 2) (by omega)).trans g65x2_99x4
                have g89x3_107x5 := (o107x5 (a + 3) (by omega)).trans g89x3_99x4
                have g99x4_107x5 := (o107x5 (a + 4) (by omega)).trans g99x4
                refine T_aload_n (pc := 110) d_Schema_declare_110 rfl ?_
                refine T_get (pc := 111) d_Schema_declare_111 sF_Schema_25_Schema g107x5 rfl ?_
                refine T_iconst (v := 1) (pc := 114) d_Schema_declare_114 rfl ?_
                refine T_isub (pc := 115) d_Schema_declare_115 ?_
                refine T_iret (pc := 116) d_Schema_declare_116 rfl rfl (Nat.le_refl _) ?_
                have hix2 := hix.mp q29
                have hlen : ns.length < 4 := (nI_ltI (b := 4) (by omega) (by decide)).mp q40
                have hd : dcl ns x k r = (nI ns.length, ns ++ [(x.toNatClampNeg, k.toNatClampNeg, r)]) := by
                  rw [dcl, if_neg hrng, if_neg (by rw [hix2]; simp), if_neg (by omega)]
                obtain ⟨kx, hkx, rfl⟩ : ∃ j : Nat, j < 31 ∧ x = nI j := by
                  rcases pk_ix x (n := 31) (by decide) with q | q | q
                  · exact absurd (Or.inl (Int32.lt_trans q (by decide))) hrng
                  · exact absurd (Or.inr (Or.inl (show 30 < x from Int32.lt_of_lt_of_le (by decide) q))) hrng
                  · exact q
                obtain ⟨kk, hkk, rfl⟩ : ∃ j : Nat, j < 4 ∧ k = nI j := by
                  rcases pk_ix k (n := 4) (by decide) with q | q | q
                  · exact absurd (Or.inr (Or.inr (Or.inl q))) hrng
                  · exact absurd (Or.inr (Or.inr (Or.inr (show 3 < k from Int32.lt_of_lt_of_le (by decide) q)))) hrng
                  · exact q
                have hx1 : 1 ≤ kx := Nat.pos_of_ne_zero (fun e => hrng (Or.inl (by rw [e]; decide)))
                rw [hd]
                refine ⟨?_, ⟨_, _, _, _, ?_, g55x1_107x5, g65x2_107x5, g89x3_107x5, g99x4_107x5, by rw [List.length_append]; simp; omega, fun i t ht => ?_⟩, fun q hq => ?_⟩
                · show some (Value.int (nI ns.length + 1 - 1)) = _
                  rw [nI_1, nI_pred]
                · rw [g107x5, nI_1, List.length_append]
                  rfl
                · simp only [nI_clamp (show ns.length < 2 ^ 31 by omega), nI_clamp (show kx < 2 ^ 31 by omega), nI_clamp (show kk < 2 ^ 31 by omega)] at ht ⊢
                  by_cases hi : i = ns.length
                  · subst hi
                    rw [List.getElem?_append_right (Nat.le_refl _), Nat.sub_self] at ht
                    cases ht
                    rw [pk_us, pk_us, pk_us, pk_us]
                    refine ⟨rfl, rfl, ?_, ?_, hx1, (show kx ≤ 30 by omega), (show kk ≤ 3 by omega)⟩
                    · have e6 : keyN (kx, kk, r) = 8 * kx + (if kk = 2 then 5 else 0) := rfl
                      rw [e6, show (8 : Int32) * nI kx = nI (8 * kx) from pk_mul 8 kx]
                      by_cases hk2 : kk = 2
                      · rw [if_pos hk2]
                        first
                          | exact nI_add _ 5
                          | exact absurd (by rw [hk2]; rfl) q80
                      · rw [if_neg hk2]
                        first
                          | exact absurd ((nI_eq (a := kk) (b := 2) (by omega) (by decide)).mp q80) hk2
                          | exact nI_add _ 0
                    · rcases bI_01 r with e | e <;> rw [e] <;> rfl
                  · have hi2 : i < ns.length := by
                      have := ge_lt ht
                      simp at this
                      omega
                    rw [List.getElem?_append_left hi2] at ht
                    simp only [pk_un hi]
                    exact hf i t ht
                · rw [o107x5 q (by omega), o99x4 q (by omega), o89x3 q (by omega), o65x2 q (by omega), o55x1 q (by omega)]
              · refine T_iconst (v := 5) (pc := 83) d_Schema_declare_83 rfl ?_
                refine T_goto (tgt := 88) (pc := 84) d_Schema_declare_84 (by decide) ?_
                refine T_iadd (pc := 88) d_Schema_declare_88 ?_
                refine T_iast (pc := 89) d_Schema_declare_89 (Nat.succ_ne_zero _) hE_65x2 (vp_in_nI ((nI_ltI (b := 4) (by omega) (by decide)).mp q40) (by decide)) (T_up (fun h89x6 g89x6 o89x6 => ?_))
                have hS_89x6 := (o89x6 a (by omega)).trans hS_65x2
                have g55x1_89x6 := (o89x6 (a + 1) (by omega)).trans g55x1_65x2
                have g65x2_89x6 := (o89x6 (a + 2) (by omega)).trans g65x2
                have hR_89x6 := (o89x6 (a + 4) (by omega)).trans hR_65x2
                refine T_aload_n (pc := 90) d_Schema_declare_90 rfl ?_
                refine T_get (pc := 91) d_Schema_declare_91 sF_Schema_21_Schema hS_89x6 rfl ?_
                refine T_aload_n (pc := 94) d_Schema_declare_94 rfl ?_
                refine T_get (pc := 95) d_Schema_declare_95 sF_Schema_25_Schema hS_89x6 rfl ?_
                refine T_iload_n (pc := 98) d_Schema_declare_98 rfl ?_
                refine T_zast (pc := 99) d_Schema_declare_99 hR_89x6 (vp_in_nI ((nI_ltI (b := 4) (by omega) (by decide)).mp q40) (by decide)) (T_up (fun h99x7 g99x7 o99x7 => ?_))
                have hS_99x7 := (o99x7 a (by omega)).trans hS_89x6
                have g55x1_99x7 := (o99x7 (a + 1) (by omega)).trans g55x1_89x6
                have g65x2_99x7 := (o99x7 (a + 2) (by omega)).trans g65x2_89x6
                have g89x6_99x7 := (o99x7 (a + 3) (by omega)).trans g89x6
                refine T_aload_n (pc := 100) d_Schema_declare_100 rfl ?_
                refine T_dup (pc := 101) d_Schema_declare_101 rfl ?_
                refine T_get (pc := 102) d_Schema_declare_102 sF_Schema_25_Schema hS_99x7 rfl ?_
                refine T_iconst (v := 1) (pc := 105) d_Schema_declare_105 rfl ?_
                refine T_iadd (pc := 106) d_Schema_declare_106 ?_
                refine T_put (pc := 107) d_Schema_declare_107 sF_Schema_25_Schema hS_99x7 (Nat.le_of_ble_eq_true rfl) (a_fit_i _) (T_up (fun h107x8 g107x8 o107x8 => ?_))
                have g55x1_107x8 := (o107x8 (a + 1) (by omega)).trans g55x1_99x7
                have g65x2_107x8 := (o107x8 (a + 2) (by omega)).trans g65x2_99x7
                have g89x6_107x8 := (o107x8 (a + 3) (by omega)).trans g89x6_99x7
                have g99x7_107x8 := (o107x8 (a + 4) (by omega)).trans g99x7
                refine T_aload_n (pc := 110) d_Schema_declare_110 rfl ?_
                refine T_get (pc := 111) d_Schema_declare_111 sF_Schema_25_Schema g107x8 rfl ?_
                refine T_iconst (v := 1) (pc := 114) d_Schema_declare_114 rfl ?_
                refine T_isub (pc := 115) d_Schema_declare_115 ?_
                refine T_iret (pc := 116) d_Schema_declare_116 rfl rfl (Nat.le_refl _) ?_
                have hix2 := hix.mp q29
                have hlen : ns.length < 4 := (nI_ltI (b := 4) (by omega) (by decide)).mp q40
                have hd : dcl ns x k r = (nI ns.length, ns ++ [(x.toNatClampNeg, k.toNatClampNeg, r)]) := by
                  rw [dcl, if_neg hrng, if_neg (by rw [hix2]; simp), if_neg (by omega)]
                obtain ⟨kx, hkx, rfl⟩ : ∃ j : Nat, j < 31 ∧ x = nI j := by
                  rcases pk_ix x (n := 31) (by decide) with q | q | q
                  · exact absurd (Or.inl (Int32.lt_trans q (by decide))) hrng
                  · exact absurd (Or.inr (Or.inl (show 30 < x from Int32.lt_of_lt_of_le (by decide) q))) hrng
                  · exact q
                obtain ⟨kk, hkk, rfl⟩ : ∃ j : Nat, j < 4 ∧ k = nI j := by
                  rcases pk_ix k (n := 4) (by decide) with q | q | q
                  · exact absurd (Or.inr (Or.inr (Or.inl q))) hrng
                  · exact absurd (Or.inr (Or.inr (Or.inr (show 3 < k from Int32.lt_of_lt_of_le (by decide) q)))) hrng
                  · exact q
                have hx1 : 1 ≤ kx := Nat.pos_of_ne_zero (fun e => hrng (Or.inl (by rw [e]; decide)))
                rw [hd]
                refine ⟨?_, ⟨_, _, _, _, ?_, g55x1_107x8, g65x2_107x8, g89x6_107x8, g99x7_107x8, by rw [List.length_append]; simp; omega, fun i t ht => ?_⟩, fun q hq => ?_⟩
                · show some (Value.int (nI ns.length + 1 - 1)) = _
                  rw [nI_1, nI_pred]
                · rw [g107x8, nI_1, List.length_append]
                  rfl
                · simp only [nI_clamp (show ns.length < 2 ^ 31 by omega), nI_clamp (show kx < 2 ^ 31 by omega), nI_clamp (show kk < 2 ^ 31 by omega)] at ht ⊢
                  by_cases hi : i = ns.length
                  · subst hi
                    rw [List.getElem?_append_right (Nat.le_refl _), Nat.sub_self] at ht
                    cases ht
                    rw [pk_us, pk_us, pk_us, pk_us]
                    refine ⟨rfl, rfl, ?_, ?_, hx1, (show kx ≤ 30 by omega), (show kk ≤ 3 by omega)⟩
                    · have e6 : keyN (kx, kk, r) = 8 * kx + (if kk = 2 then 5 else 0) := rfl
                      rw [e6, show (8 : Int32) * nI kx = nI (8 * kx) from pk_mul 8 kx]
                      by_cases hk2 : kk = 2
                      · rw [if_pos hk2]
                        first
                          | exact nI_add _ 5
                          | exact absurd (by rw [hk2]; rfl) q80
                      · rw [if_neg hk2]
                        first
                          | exact absurd ((nI_eq (a := kk) (b := 2) (by omega) (by decide)).mp q80) hk2
                          | exact nI_add _ 0
                    · rcases bI_01 r with e | e <;> rw [e] <;> rfl
                  · have hi2 : i < ns.length := by
                      have := ge_lt ht
                      simp at this
                      omega
                    rw [List.getElem?_append_left hi2] at ht
                    simp only [pk_un hi]
                    exact hf i t ht
                · rw [o107x8 q (by omega), o99x7 q (by omega), o89x6 q (by omega), o65x2 q (by omega), o55x1 q (by omega)]
            · refine T_bipush (v := -5) (pc := 43) d_Schema_declare_43 rfl ?_
              refine T_iret (pc := 45) d_Schema_declare_45 rfl rfl (Nat.le_refl _) ?_
              refine ⟨?_, ?_, fun _ _ => rfl⟩ <;> rw [dcl, if_neg hrng, if_neg (by rw [hix.mp q29]; simp), if_pos (by have := mt (nI_ltI (a := ns.length) (b := 4) (by omega) (by decide)).mpr q40; omega)]
              exact hs
          · refine T_bipush (v := -4) (pc := 32) d_Schema_declare_32 rfl ?_
            refine T_iret (pc := 34) d_Schema_declare_34 rfl rfl (Nat.le_refl _) ?_
            refine ⟨?_, ?_, fun _ _ => rfl⟩ <;> rw [dcl, if_neg hrng, if_pos (mt hix.mpr q29)]
            exact hs
        · refine T_bipush (v := -4) (pc := 20) d_Schema_declare_20 rfl ?_
          refine T_iret (pc := 22) d_Schema_declare_22 rfl rfl (Nat.le_refl _) ?_
          refine ⟨?_, ?_, fun _ _ => rfl⟩ <;> rw [dcl, if_pos (by first | exact Or.inl q2 | exact Or.inr (Or.inl q8) | exact Or.inr (Or.inr (Or.inl q12)) | exact Or.inr (Or.inr (Or.inr (Int32.not_le.mp q17))))]
          exact hs
end
section
/-! OnceWire$Value: a list of ints for each field. -/
def Va (h : aH) (v sa : Nat) (ns : List Sf) (vs : List (List Int32)) : Prop := vs.length = ns.length ∧ ∃ g c : Nat → Int32, h v = some (.inr (8, [.ref sa, .ref (v + 1), .ref (v + 2)])) ∧ h (v + 1) = some (.inl (.int, 16, .inl g)) ∧ h (v + 2) = some (.inl (.int, 4, .inl c)) ∧ (∀ i t w, ns[i]? = some t → vs[i]? = some w → (∀ j, j < w.length → w[j]? = some (g (4 * i + j))) ∧ w.length ≤ 4 ∧ (t.2.2 = true → c i = nI w.length) ∧ (t.2.2 = false → w.length = 1)) ∧ ∀ i, ns.length ≤ i → i < 4 → c i = 0 ∧ g (4 * i) = 0
def vnil (ns : List Sf) : List (List Int32) := ns.map (fun t => if t.2.2 then [] else [0])
theorem Va.obj {h : aH} {v sa : Nat} {ns : List Sf} {vs : List (List Int32)} (hv : Va h v sa ns vs) : h v = some (.inr (8, [.ref sa, .ref (v + 1), .ref (v + 2)])) := by
  obtain ⟨_, _, _, q, _⟩ := hv
  exact q
theorem Va.same {h h' : aH} {v sa : Nat} {ns : List Sf} {vs : List (List Int32)} (hv : Va h v sa ns vs) (o : ∀ q, v ≤ q → q ≤ v + 2 → h' q = h q) : Va h' v sa ns vs := by
  obtain ⟨q0, g, c, q1, q2, q3, q4⟩ := hv
  exact ⟨q0, g, c, (o v (by omega) (by omega)).trans q1, (o _ (by omega) (by omega)).trans q2, (o _ (by omega) (by omega)).trans q3, q4⟩
theorem Va.le4 {h : aH} {v sa : Nat} {ns : List Sf} {vs : List (List Int32)} (hv : Va h v sa ns vs) {i : Nat} {t : Sf} {w : List Int32} (ht : ns[i]? = some t) (hw : vs[i]? = some w) : w.length ≤ 4 := by
  obtain ⟨_, _, _, _, _, _, q, _⟩ := hv
  exact (q i t w ht hw).2.1
/-- a field more: the cells of an untouched one -/
theorem Va.add {h : aH} {v sa : Nat} {ns : List Sf} {vs : List (List Int32)} (hv : Va h v sa ns vs) (t : Sf) (hl : ns.length < 4) : Va h v sa (ns ++ [t]) (vs ++ [if t.2.2 then [] else [0]]) := by
  obtain ⟨q0, g, c, q1, q2, q3, q4, q5⟩ := hv
  refine ⟨by simp [q0], g, c, q1, q2, q3, fun i t' w ht hw => ?_, fun i h1 h2 => q5 i (by simp at h1; omega) h2⟩
  by_cases hi : i < ns.length
  · rw [List.getElem?_append_left hi] at ht
    rw [List.getElem?_append_left (by omega)] at hw
    exact q4 i t' w ht hw
  · have hi2 : i = ns.length := by
      have := (List.getElem?_eq_some_iff.mp ht).1
      simp at this
      omega
    subst hi2
    obtain ⟨z1, z2⟩ := q5 ns.length (Nat.le_refl _) hl
    rw [List.getElem?_append_right (Nat.le_refl _), Nat.sub_self] at ht
    rw [List.getElem?_append_right (by omega), q0, Nat.sub_self] at hw
    cases ht
    cases hw
    cases hb : t.2.2
    · refine ⟨fun j hj => ?_, by simp, fun e => by simp at e, fun _ => by simp⟩
      have hj0 : j = 0 := by simp at hj; omega
      subst hj0
      simp [z2]
    · refine ⟨fun j hj => by simp at hj, by simp, fun _ => by rw [z1]; rfl, fun e => by simp at e⟩
set_option maxRecDepth 100000 in
set_option maxHeartbeats 4000000 in
theorem c_Value_init {v sa : Nat} {h : aH} (hV : h v = some (.inr (8, [.null, .null, .null]))) : Con M_Value_init 1 2 20 v [.ref v, .ref sa] h (fun r h' => r = none ∧ Va h' v sa [] [] ∧ ∀ q, q < v ∨ v + 2 < q → h' q = h q) := by
  refine Con.of rfl (Nat.le_of_ble_eq_true rfl) ?_
  refine T_aload_n (pc := 0) d_Value_init_0 rfl ?_
  refine T_objInit (pc := 1) d_Value_init_1 sI_Value_1 ⟨(Nat.le_of_ble_eq_true rfl), (Nat.le_of_ble_eq_true rfl)⟩ (Nat.le_of_ble_eq_true rfl) ?_
  refine T_aload_n (pc := 4) d_Value_init_4 rfl ?_
  refine T_bipush (v := 16) (pc := 5) d_Value_init_5 rfl ?_
  refine T_newi (pc := 7) d_Value_init_7 (Ws_at (i := 5) (k := 30) rfl rfl) (by decide) rfl (by decide) (Nat.le_of_ble_eq_true rfl) (Nat.le_of_ble_eq_true rfl) (T_up (fun h7x1 g7x1 o7x1 => ?_))
  have hV_7x1 := (o7x1 v (by omega)).trans hV
  refine T_putF (pc := 9) d_Value_init_9 sFF_Value_11_Value rfl hV_7x1 (Nat.le_of_ble_eq_true rfl) (a_fit_a _ _) (T_up (fun h9x2 g9x2 o9x2 => ?_))
  have g7x1_9x2 := (o9x2 (v + 1) (by omega)).trans g7x1
  refine T_aload_n (pc := 12) d_Value_init_12 rfl ?_
  refine T_iconst (v := 4) (pc := 13) d_Value_init_13 rfl ?_
  refine T_newi (pc := 14) d_Value_init_14 (Ws_at (i := 5) (k := 30) rfl rfl) (by decide) rfl (by decide) (Nat.le_of_ble_eq_true rfl) (Nat.le_of_ble_eq_true rfl) (T_up (fun h14x3 g14x3 o14x3 => ?_))
  have g9x2_14x3 := (o14x3 v (by omega)).trans g9x2
  have g7x1_14x3 := (o14x3 (v + 1) (by omega)).trans g7x1_9x2
  refine T_putF (pc := 16) d_Value_init_16 sFF_Value_15_Value rfl g9x2_14x3 (Nat.le_of_ble_eq_true rfl) (a_fit_a _ _) (T_up (fun h16x4 g16x4 o16x4 => ?_))
  have g7x1_16x4 := (o16x4 (v + 1) (by omega)).trans g7x1_14x3
  have g14x3_16x4 := (o16x4 (v + 2) (by omega)).trans g14x3
  refine T_aload_n (pc := 19) d_Value_init_19 rfl ?_
  refine T_aload_n (pc := 20) d_Value_init_20 rfl ?_
  refine T_putF (pc := 21) d_Value_init_21 sFF_Value_18_Value rfl g16x4 (Nat.le_of_ble_eq_true rfl) (a_fit_o _ _) (T_up (fun h21x5 g21x5 o21x5 => ?_))
  have g7x1_21x5 := (o21x5 (v + 1) (by omega)).trans g7x1_16x4
  have g14x3_21x5 := (o21x5 (v + 2) (by omega)).trans g14x3_16x4
  refine T_vret (pc := 24) d_Value_init_24 rfl rfl (Nat.le_refl _) ?_
  refine ⟨rfl, ⟨rfl, _, _, g21x5, g7x1_21x5, g14x3_21x5, fun i t w ht => by simp at ht, fun i _ _ => ⟨rfl, rfl⟩⟩, fun q hq => ?_⟩
  rw [o21x5 q (by omega), o16x4 q (by omega), o14x3 q (by omega), o9x2 q (by omega), o7x1 q (by omega)]
set_option maxRecDepth 100000 in
set_option maxHeartbeats 4000000 in
theorem c_Value_countOf {n v sa i : Nat} {h : aH} {ns : List Sf} {vs : List (List Int32)} {t : Sf} {w : List Int32} (hs : Sc h sa ns) (hv : Va h v sa ns vs) (ht : ns[i]? = some t) (hw : vs[i]? = some w) : Con M_Value_countOf 1 0 0 n [.ref v, .int (nI i)] h (fun r h' => r = some (.int (nI w.length)) ∧ h' = h) := by
  have hi := ge_lt ht
  have hle := hs.le
  obtain ⟨fn, fk, fe, fr, hS, hN, hK, hE, hR, hl, hf⟩ := id hs
  obtain ⟨hvl, g, c, hV, hG, hC, hgc, hz⟩ := id hv
  have ht1 := hf i t ht
  obtain ⟨hw1, hw2, hw3, hw4⟩ := hgc i t w ht hw
  refine Con.of rfl (Nat.le_of_ble_eq_true rfl) ?_
  refine T_aload_n (pc := 0) d_Value_countOf_0 rfl ?_
  refine T_get (pc := 1) d_Value_countOf_1 sF_Value_18_Value hV rfl ?_
  refine T_iload_n (pc := 4) d_Value_countOf_4 rfl ?_
  refine T_ivV (pc := 5) d_Value_countOf_5 sI_Value_22 (c_Schema_has hs) hs.obj rfl rfl ⟨(Nat.le_of_ble_eq_true rfl), (Nat.le_of_ble_eq_true rfl)⟩ ⟨(Nat.le_of_ble_eq_true rfl), (Nat.le_of_ble_eq_true rfl)⟩ (Nat.le_of_ble_eq_true rfl) (fun r1 h1 q1 => ?_)
  obtain ⟨rfl, e1⟩ := q1
  rw [e1, if_pos (in_has hi (by omega))]
  refine T_if_ne (tgt := 13) (pc := 8) d_Value_countOf_8 (by decide) (fun q8 => ?_) (fun q8 => ?_)
  · refine T_aload_n (pc := 13) d_Value_countOf_13 rfl ?_
    refine T_get (pc := 14) d_Value_countOf_14 sF_Value_18_Value hV rfl ?_
    refine T_get (pc := 17) d_Value_countOf_17 sF_Value_26_Schema hS rfl ?_
    refine T_iload_n (pc := 20) d_Value_countOf_20 rfl ?_
    refine T_zald (pc := 21) d_Value_countOf_21 hR (vp_in_nI (by omega) (by decide)) ?_
    refine T_if_eq (tgt := 34) (pc := 22) d_Value_countOf_22 (by decide) (fun q22 => ?_) (fun q22 => ?_)
    · refine T_iconst (v := 1) (pc := 34) d_Value_countOf_34 rfl ?_
      refine T_iret (pc := 35) d_Value_countOf_35 rfl rfl (Nat.le_refl _) ?_
      refine ⟨?_, rfl⟩
      rw [nI_clamp (by omega), ht1.2.2.2.1] at q22
      first
        | (rw [nI_clamp (by omega), hw3 (by cases hb : t.2.2 <;> simp_all [bI])]; done)
        | (rw [hw4 (by cases hb : t.2.2 <;> simp_all [bI])]; rfl)
    · refine T_aload_n (pc := 25) d_Value_countOf_25 rfl ?_
      refine T_get (pc := 26) d_Value_countOf_26 sF_Value_15_Value hV rfl ?_
      refine T_iload_n (pc := 29) d_Value_countOf_29 rfl ?_
      refine T_iald (pc := 30) d_Value_countOf_30 hC (vp_in_nI (by omega) (by decide)) ?_
      refine T_goto (tgt := 35) (pc := 31) d_Value_countOf_31 (by decide) ?_
      refine T_iret (pc := 35) d_Value_countOf_35 rfl rfl (Nat.le_refl _) ?_
      refine ⟨?_, rfl⟩
      rw [nI_clamp (by omega), ht1.2.2.2.1] at q22
      first
        | (rw [nI_clamp (by omega), hw3 (by cases hb : t.2.2 <;> simp_all [bI])]; done)
        | (rw [hw4 (by cases hb : t.2.2 <;> simp_all [bI])]; rfl)
  · exact absurd q8 (by decide)
set_option maxRecDepth 100000 in
set_option maxHeartbeats 4000000 in
theorem c_Value_intOf {n v sa i : Nat} {h : aH} {ns : List Sf} {vs : List (List Int32)} {t : Sf} {w : List Int32} (hs : Sc h sa ns) (hv : Va h v sa ns vs) (ht : ns[i]? = some t) (hw : vs[i]? = some w) {j : Nat} {x : Int32} (hj : w[j]? = some x) : Con M_Value_intOf 2 0 0 n [.ref v, .int (nI i), .int (nI j)] h (fun r h' => r = some (.int x) ∧ h' = h) := by
  have hi := ge_lt ht
  have hle := hs.le
  obtain ⟨fn, fk, fe, fr, hS, hN, hK, hE, hR, hl, hf⟩ := id hs
  obtain ⟨hvl, g, c, hV, hG, hC, hgc, hz⟩ := id hv
  have ht1 := hf i t ht
  obtain ⟨hw1, hw2, hw3, hw4⟩ := hgc i t w ht hw
  have hj1 : j < w.length := (List.getElem?_eq_some_iff.mp hj).1
  have ei : nI i * 4 + nI j = nI (4 * i + j) := by
    rw [show nI i * 4 = nI (i * 4) from pk_mul i 4, nI_add, Nat.mul_comm]
  refine Con.of rfl (Nat.le_of_ble_eq_true rfl) ?_
  refine T_iload_n (pc := 0) d_Value_intOf_0 rfl ?_
  refine T_if_lt (tgt := 26) (pc := 1) d_Value_intOf_1 (by decide) (fun q1 => ?_) (fun q1 => ?_)
  · first | exact absurd q1 (nI_pos (by omega)) | exact absurd q10 (nI_ge hj1 (by omega))
  · refine T_iload_n (pc := 4) d_Value_intOf_4 rfl ?_
    refine T_aload_n (pc := 5) d_Value_intOf_5 rfl ?_
    refine T_iload_n (pc := 6) d_Value_intOf_6 rfl ?_
    refine T_ivV (pc := 7) d_Value_intOf_7 sI_Value_30 (c_Value_countOf hs hv ht hw) hv.obj rfl rfl ⟨(Nat.le_of_ble_eq_true rfl), (Nat.le_of_ble_eq_true rfl)⟩ ⟨(Nat.le_of_ble_eq_true rfl), (Nat.le_of_ble_eq_true rfl)⟩ (Nat.le_of_ble_eq_true rfl) (fun r1 h1 q1 => ?_)
    obtain ⟨rfl, e1⟩ := q1
    rw [e1]
    refine T_icmp_ge (tgt := 26) (pc := 10) d_Value_intOf_10 (by decide) (fun q10 => ?_) (fun q10 => ?_)
    · first | exact absurd q1 (nI_pos (by omega)) | exact absurd q10 (nI_ge hj1 (by omega))
    · refine T_aload_n (pc := 13) d_Value_intOf_13 rfl ?_
      refine T_get (pc := 14) d_Value_intOf_14 sF_Value_11_Value hV rfl ?_
      refine T_iload_n (pc := 17) d_Value_intOf_17 rfl ?_
      refine T_iconst (v := 4) (pc := 18) d_Value_intOf_18 rfl ?_
      refine T_imul (pc := 19) d_Value_intOf_19 ?_
      refine T_iload_n (pc := 20) d_Value_intOf_20 rfl ?_
      refine T_iadd (pc := 21) d_Value_intOf_21 ?_
      refine T_iald (pc := 22) d_Value_intOf_22 hG (by rw [ei]; exact vp_in_nI (by omega) (by decide)) ?_
      refine T_goto (tgt := 27) (pc := 23) d_Value_intOf_23 (by decide) ?_
      refine T_iret (pc := 27) d_Value_intOf_27 rfl rfl (Nat.le_refl _) ?_
      refine ⟨?_, rfl⟩
      rw [ei, nI_clamp (by omega)]
      exact congrArg (fun z => some (Value.int z)) (Option.some.inj ((hw1 j hj1).symm.trans hj))
set_option maxRecDepth 100000 in
set_option maxHeartbeats 4000000 in
theorem c_Value_store {n v sa i : Nat} {h : aH} {ns : List Sf} {vs : List (List Int32)} {t : Sf} {w : List Int32} (hs : Sc h sa ns) (hv : Va h v sa ns vs) (ht : ns[i]? = some t) (hw : vs[i]? = some w) {x : Int32} (hd : sa + 4 < v) : Con M_Value_store 1 0 0 n [.ref v, .int (nI i), .int x] h (fun r h' => (if t.2.2 then (if w.length < 4 then r = some (.int 1) ∧ Va h' v sa ns (vs.set i (w ++ [x])) else r = some (.int 0) ∧ h' = h) else r = some (.int 1) ∧ Va h' v sa ns (vs.set i [x])) ∧ ∀ q, q ≠ v + 1 → q ≠ v + 2 → h' q = h q) := by
  have hi := ge_lt ht
  have hle := hs.le
  obtain ⟨fn, fk, fe, fr, hS, hN, hK, hE, hR, hl, hf⟩ := id hs
  obtain ⟨hvl, g, c, hV, hG, hC, hgc, hz⟩ := id hv
  have ht1 := hf i t ht
  obtain ⟨hw1, hw2, hw3, hw4⟩ := hgc i t w ht hw
  have ei4 : nI i * 4 = nI (4 * i) := by
    rw [show nI i * 4 = nI (i * 4) from pk_mul i 4, Nat.mul_comm]
  refine Con.of rfl (Nat.le_of_ble_eq_true rfl) ?_
  refine T_aload_n (pc := 0) d_Value_store_0 rfl ?_
  refine T_get (pc := 1) d_Value_store_1 sF_Value_18_Value hV rfl ?_
  refine T_iload_n (pc := 4) d_Value_store_4 rfl ?_
  refine T_ivV (pc := 5) d_Value_store_5 sI_Value_22 (c_Schema_has hs) hs.obj rfl rfl ⟨(Nat.le_of_ble_eq_true rfl), (Nat.le_of_ble_eq_true rfl)⟩ ⟨(Nat.le_of_ble_eq_true rfl), (Nat.le_of_ble_eq_true rfl)⟩ (Nat.le_of_ble_eq_true rfl) (fun r1 h1 q1 => ?_)
  obtain ⟨rfl, e1⟩ := q1
  rw [e1, if_pos (in_has hi (by omega))]
  refine T_if_ne (tgt := 13) (pc := 8) d_Value_store_8 (by decide) (fun q8 => ?_) (fun q8 => ?_)
  · refine T_aload_n (pc := 13) d_Value_store_13 rfl ?_
    refine T_get (pc := 14) d_Value_store_14 sF_Value_18_Value hV rfl ?_
    refine T_get (pc := 17) d_Value_store_17 sF_Value_26_Schema hS rfl ?_
    refine T_iload_n (pc := 20) d_Value_store_20 rfl ?_
    refine T_zald (pc := 21) d_Value_store_21 hR (vp_in_nI (by omega) (by decide)) ?_
    refine T_if_ne (tgt := 36) (pc := 22) d_Value_store_22 (by decide) (fun q22 => ?_) (fun q22 => ?_)
    · refine T_aload_n (pc := 36) d_Value_store_36 rfl ?_
      refine T_get (pc := 37) d_Value_store_37 sF_Value_15_Value hV rfl ?_
      refine T_iload_n (pc := 40) d_Value_store_40 rfl ?_
      refine T_iald (pc := 41) d_Value_store_41 hC (vp_in_nI (by omega) (by decide)) ?_
      refine T_iconst (v := 4) (pc := 42) d_Value_store_42 rfl ?_
      refine T_icmp_lt (tgt := 48) (pc := 43) d_Value_store_43 (by decide) (fun q43 => ?_) (fun q43 => ?_)
      · rw [nI_clamp (by omega), ht1.2.2.2.1] at q22
        have hb : t.2.2 = true := by cases hb : t.2.2 <;> simp_all [bI]
        have hw5 : w.length < 4 := by
          rw [nI_clamp (by omega), hw3 hb] at q43
          exact (nI_ltI (b := 4) (by omega) (by decide)).mp q43
        have ei : nI i * 4 + nI w.length = nI (4 * i + w.length) := by
          rw [show nI i * 4 = nI (i * 4) from pk_mul i 4, nI_add, Nat.mul_comm]
        refine T_aload_n (pc := 48) d_Value_store_48 rfl ?_
        refine T_get (pc := 49) d_Value_store_49 sF_Value_11_Value hV rfl ?_
        refine T_iload_n (pc := 52) d_Value_store_52 rfl ?_
        refine T_iconst (v := 4) (pc := 53) d_Value_store_53 rfl ?_
        refine T_imul (pc := 54) d_Value_store_54 ?_
        refine T_aload_n (pc := 55) d_Value_store_55 rfl ?_
        refine T_get (pc := 56) d_Value_store_56 sF_Value_15_Value hV rfl ?_
        refine T_iload_n (pc := 59) d_Value_store_59 rfl ?_
        refine T_iald (pc := 60) d_Value_store_60 hC (vp_in_nI (by omega) (by decide)) ?_
        refine T_iadd (pc := 61) d_Value_store_61 ?_
        refine T_iload_n (pc := 62) d_Value_store_62 rfl ?_
        refine T_iast (pc := 63) d_Value_store_63 (Nat.succ_ne_zero _) hG (by rw [nI_clamp (by omega), hw3 hb, ei]; exact vp_in_nI (by omega) (by decide)) (T_up (fun h63x1 g63x1 o63x1 => ?_))
        have hV_63x1 := (o63x1 v (by omega)).trans hV
        have hC_63x1 := (o63x1 (v + 2) (by omega)).trans hC
        have hS_63x1 := (o63x1 sa (by omega)).trans hS
        have hR_63x1 := (o63x1 (sa + 4) (by omega)).trans hR
        refine T_aload_n (pc := 64) d_Value_store_64 rfl ?_
        refine T_get (pc := 65) d_Value_store_65 sF_Value_15_Value hV_63x1 rfl ?_
        refine T_iload_n (pc := 68) d_Value_store_68 rfl ?_
        refine T_dup2 (pc := 69) d_Value_store_69 rfl rfl ?_
        refine T_iald (pc := 70) d_Value_store_70 hC_63x1 (vp_in_nI (by omega) (by decide)) ?_
        refine T_iconst (v := 1) (pc := 71) d_Value_store_71 rfl ?_
        refine T_iadd (pc := 72) d_Value_store_72 ?_
        refine T_iast (pc := 73) d_Value_store_73 (Nat.succ_ne_zero _) hC_63x1 (vp_in_nI (by omega) (by decide)) (T_up (fun h73x2 g73x2 o73x2 => ?_))
        have hV_73x2 := (o73x2 v (by omega)).trans hV_63x1
        have g63x1_73x2 := (o73x2 (v + 1) (by omega)).trans g63x1
        have hS_73x2 := (o73x2 sa (by omega)).trans hS_63x1
        have hR_73x2 := (o73x2 (sa + 4) (by omega)).trans hR_63x1
        refine T_iconst (v := 1) (pc := 74) d_Value_store_74 rfl ?_
        refine T_zret (pc := 75) d_Value_store_75 rfl (by decide) rfl (Nat.le_refl _) ?_
        refine ⟨?_, fun q h1 h2 => (o73x2 q h2).trans (o63x1 q h1)⟩
        rw [hb, if_pos hw5]
        refine ⟨rfl, by simp [hvl], _, _, hV_73x2, g63x1_73x2, g73x2, fun i' t' w' ht' hw' => ?_, fun i' h1 h2 => ?_⟩
        · rw [nI_clamp (by omega), hw3 hb, ei, nI_clamp (by omega), nI_1]
          by_cases hii : i' = i
          · subst hii
            rw [List.getElem?_set_self (by omega)] at hw'
            cases hw'
            cases ht.symm.trans ht'
            rw [pk_us]
            refine ⟨fun j hj => ?_, by simp; omega, fun _ => by simp, fun e => absurd (hb.symm.trans e) (by decide)⟩
            by_cases hjj : j = w.length
            · subst hjj
              rw [pk_us, List.getElem?_append_right (Nat.le_refl _), Nat.sub_self]
              rfl
            · have hj2 : j < w.length := by simp at hj; omega
              rw [pk_un (by omega), List.getElem?_append_left hj2]
              exact hw1 j hj2
          · rw [List.getElem?_set_ne (Ne.symm hii)] at hw'
            obtain ⟨z1, z2, z3, z4⟩ := hgc i' t' w' ht' hw'
            rw [pk_un hii]
            refine ⟨fun j hj => ?_, z2, z3, z4⟩
            rw [pk_un (by omega)]
            exact z1 j hj
        · rw [nI_clamp (by omega), hw3 hb, ei, nI_clamp (by omega), pk_un (by omega), pk_un (by omega)]
          exact hz i' h1 h2
      · refine T_iconst (v := 0) (pc := 46) d_Value_store_46 rfl ?_
        refine T_zret (pc := 47) d_Value_store_47 rfl (by decide) rfl (Nat.le_refl _) ?_
        refine ⟨?_, fun q h1 h2 => rfl⟩
        rw [nI_clamp (by omega), ht1.2.2.2.1] at q22
        have hb : t.2.2 = true := by cases hb : t.2.2 <;> simp_all [bI]
        rw [nI_clamp (by omega), hw3 hb] at q43
        rw [hb, if_neg (fun q => q43 (nI_lt (b := 4) q (by decide)))]
        exact ⟨rfl, rfl⟩
    · refine T_aload_n (pc := 25) d_Value_store_25 rfl ?_
      refine T_get (pc := 26) d_Value_store_26 sF_Value_11_Value hV rfl ?_
      refine T_iload_n (pc := 29) d_Value_store_29 rfl ?_
      refine T_iconst (v := 4) (pc := 30) d_Value_store_30 rfl ?_
      refine T_imul (pc := 31) d_Value_store_31 ?_
      refine T_iload_n (pc := 32) d_Value_store_32 rfl ?_
      refine T_iast (pc := 33) d_Value_store_33 (Nat.succ_ne_zero _) hG (by rw [ei4]; exact vp_in_nI (by omega) (by decide)) (T_up (fun h33x3 g33x3 o33x3 => ?_))
      have hV_33x3 := (o33x3 v (by omega)).trans hV
      have hC_33x3 := (o33x3 (v + 2) (by omega)).trans hC
      have hS_33x3 := (o33x3 sa (by omega)).trans hS
      have hR_33x3 := (o33x3 (sa + 4) (by omega)).trans hR
      refine T_iconst (v := 1) (pc := 34) d_Value_store_34 rfl ?_
      refine T_zret (pc := 35) d_Value_store_35 rfl (by decide) rfl (Nat.le_refl _) ?_
      refine ⟨?_, fun q h1 h2 => o33x3 q h1⟩
      rw [nI_clamp (by omega), ht1.2.2.2.1] at q22
      have hb : t.2.2 = false := by cases hb : t.2.2 <;> simp_all [bI]
      rw [hb]
      refine ⟨rfl, by simp [hvl], _, _, hV_33x3, g33x3, hC_33x3, fun i' t' w' ht' hw' => ?_, fun i' h1 h2 => ?_⟩
      · rw [ei4, nI_clamp (by omega)]
        by_cases hii : i' = i
        · subst hii
          rw [List.getElem?_set_self (by omega)] at hw'
          cases hw'
          cases ht.symm.trans ht'
          refine ⟨fun j hj => ?_, by simp, fun e => absurd (hb.symm.trans e) (by decide), fun _ => rfl⟩
          have hj0 : j = 0 := by simp at hj; omega
          subst hj0
          rw [Nat.add_zero, pk_us]
          rfl
        · rw [List.getElem?_set_ne (Ne.symm hii)] at hw'
          obtain ⟨z1, z2, z3, z4⟩ := hgc i' t' w' ht' hw'
          refine ⟨fun j hj => ?_, z2, z3, z4⟩
          rw [pk_un (by omega)]
          exact z1 j hj
      · rw [ei4, nI_clamp (by omega), pk_un (by omega)]
        exact hz i' h1 h2
  · exact absurd q8 (by decide)
end
section
/-! OnceWire$Value.clear, digest. -/
set_option maxRecDepth 100000 in
set_option maxHeartbeats 4000000 in
theorem c_Value_clear_1 {n v sa : Nat} {Z : aZ} : ∀ (k i : Nat) (h : aH) (g : Nat → Int32), i + k = 16 → h v = some (.inr (8, [.ref sa, .ref (v + 1), .ref (v + 2)])) → h (v + 1) = some (.inl (.int, 16, .inl g)) → (∀ j, j < i → g j = 0) → (∀ h' g', h' (v + 1) = some (.inl (.int, 16, .inl g')) → (∀ j, j < 16 → g' j = 0) → (∀ q, q ≠ (v + 1) → h' q = h q) → Tri M_Value_clear (a_rm 0 0 0) Z 24 [(1, .int 16), (0, .ref v)] [] n h' 0 0) → Tri M_Value_clear (a_rm 0 0 0) Z 2 [(1, .int (nI i)), (0, .ref v)] [] n h 0 0 := by
  intro k
  induction k with
  | zero =>
    intro i h g hik hV hX hz hK
    have hi : i = 16 := by omega
    subst hi
    refine T_iload_n (pc := 2) d_Value_clear_2 rfl ?_
    refine T_aload_n (pc := 3) d_Value_clear_3 rfl ?_
    refine T_get (pc := 4) d_Value_clear_4 sF_Value_11_Value hV rfl ?_
    refine T_alen (pc := 7) d_Value_clear_7 hX (Or.inl rfl) ?_
    refine T_icmp_ge (tgt := 24) (pc := 8) d_Value_clear_8 (by decide) (fun q8 => ?_) (fun q8 => ?_)
    · exact hK h g hX hz (fun _ _ => rfl)
    · exact absurd (by exact nI_le (a := 16) (b := 16) (Nat.le_refl _) (by decide)) q8
  | succ k ih =>
    intro i h g hik hV hX hz hK
    refine T_iload_n (pc := 2) d_Value_clear_2 rfl ?_
    refine T_aload_n (pc := 3) d_Value_clear_3 rfl ?_
    refine T_get (pc := 4) d_Value_clear_4 sF_Value_11_Value hV rfl ?_
    refine T_alen (pc := 7) d_Value_clear_7 hX (Or.inl rfl) ?_
    refine T_icmp_ge (tgt := 24) (pc := 8) d_Value_clear_8 (by decide) (fun q8 => ?_) (fun q8 => ?_)
    · exact absurd q8 (nI_ge (b := 16) (by omega) (by decide))
    · refine T_aload_n (pc := 11) d_Value_clear_11 rfl ?_
      refine T_get (pc := 12) d_Value_clear_12 sF_Value_11_Value hV rfl ?_
      refine T_iload_n (pc := 15) d_Value_clear_15 rfl ?_
      refine T_iconst (v := 0) (pc := 16) d_Value_clear_16 rfl ?_
      refine T_iast (pc := 17) d_Value_clear_17 (Nat.succ_ne_zero _) hX (vp_in_nI (by omega) (by decide)) (T_up (fun h17x1 g17x1 o17x1 => ?_))
      have hV_17x1 := (o17x1 v (by omega)).trans hV
      refine T_iinc (pc := 18) d_Value_clear_18 rfl (nI_1 i) (Nat.le_of_ble_eq_true rfl) rfl ?_
      refine T_goto (tgt := 2) (pc := 21) d_Value_clear_21 (by decide) ?_
      refine ih (i + 1) _ _ (by omega) hV_17x1 g17x1 (fun j hj => ?_) (fun h' g' k1 k2 k3 => hK h' g' k1 k2 (fun q hq => (k3 q hq).trans (o17x1 q hq)))
      rw [nI_clamp (by omega)]
      by_cases hji : j = i
      · subst hji
        rw [pk_us]
      · rw [pk_un hji]
        exact hz j (by omega)
set_option maxRecDepth 100000 in
set_option maxHeartbeats 4000000 in
theorem c_Value_clear_2 {n v sa : Nat} {Z : aZ} : ∀ (k i : Nat) (h : aH) (g : Nat → Int32), i + k = 4 → h v = some (.inr (8, [.ref sa, .ref (v + 1), .ref (v + 2)])) → h (v + 2) = some (.inl (.int, 4, .inl g)) → (∀ j, j < i → g j = 0) → (∀ h' g', h' (v + 2) = some (.inl (.int, 4, .inl g')) → (∀ j, j < 4 → g' j = 0) → (∀ q, q ≠ (v + 2) → h' q = h q) → Tri M_Value_clear (a_rm 0 0 0) Z 48 [(1, .int 4), (0, .ref v)] [] n h' 0 0) → Tri M_Value_clear (a_rm 0 0 0) Z 26 [(1, .int (nI i)), (0, .ref v)] [] n h 0 0 := by
  intro k
  induction k with
  | zero =>
    intro i h g hik hV hX hz hK
    have hi : i = 4 := by omega
    subst hi
    refine T_iload_n (pc := 26) d_Value_clear_26 rfl ?_
    refine T_aload_n (pc := 27) d_Value_clear_27 rfl ?_
    refine T_get (pc := 28) d_Value_clear_28 sF_Value_15_Value hV rfl ?_
    refine T_alen (pc := 31) d_Value_clear_31 hX (Or.inl rfl) ?_
    refine T_icmp_ge (tgt := 48) (pc := 32) d_Value_clear_32 (by decide) (fun q32 => ?_) (fun q32 => ?_)
    · exact hK h g hX hz (fun _ _ => rfl)
    · exact absurd (by exact nI_le (a := 4) (b := 4) (Nat.le_refl _) (by decide)) q32
  | succ k ih =>
    intro i h g hik hV hX hz hK
    refine T_iload_n (pc := 26) d_Value_clear_26 rfl ?_
    refine T_aload_n (pc := 27) d_Value_clear_27 rfl ?_
    refine T_get (pc := 28) d_Value_clear_28 sF_Value_15_Value hV rfl ?_
    refine T_alen (pc := 31) d_Value_clear_31 hX (Or.inl rfl) ?_
    refine T_icmp_ge (tgt := 48) (pc := 32) d_Value_clear_32 (by decide) (fun q32 => ?_) (fun q32 => ?_)
    · exact absurd q32 (nI_ge (b := 4) (by omega) (by decide))
    · refine T_aload_n (pc := 35) d_Value_clear_35 rfl ?_
      refine T_get (pc := 36) d_Value_clear_36 sF_Value_15_Value hV rfl ?_
      refine T_iload_n (pc := 39) d_Value_clear_39 rfl ?_
      refine T_iconst (v := 0) (pc := 40) d_Value_clear_40 rfl ?_
      refine T_iast (pc := 41) d_Value_clear_41 (Nat.succ_ne_zero _) hX (vp_in_nI (by omega) (by decide)) (T_up (fun h41x1 g41x1 o41x1 => ?_))
      have hV_41x1 := (o41x1 v (by omega)).trans hV
      refine T_iinc (pc := 42) d_Value_clear_42 rfl (nI_1 i) (Nat.le_of_ble_eq_true rfl) rfl ?_
      refine T_goto (tgt := 26) (pc := 45) d_Value_clear_45 (by decide) ?_
      refine ih (i + 1) _ _ (by omega) hV_41x1 g41x1 (fun j hj => ?_) (fun h' g' k1 k2 k3 => hK h' g' k1 k2 (fun q hq => (k3 q hq).trans (o41x1 q hq)))
      rw [nI_clamp (by omega)]
      by_cases hji : j = i
      · subst hji
        rw [pk_us]
      · rw [pk_un hji]
        exact hz j (by omega)
set_option maxRecDepth 100000 in
set_option maxHeartbeats 4000000 in
theorem c_Value_clear {n v sa : Nat} {h : aH} {ns : List Sf} {vs : List (List Int32)} (hv : Va h v sa ns vs) (hn : ns.length ≤ 4) : Con M_Value_clear 0 0 0 n [.ref v] h (fun r h' => r = none ∧ Va h' v sa ns (vnil ns) ∧ ∀ q, q ≠ v + 1 → q ≠ v + 2 → h' q = h q) := by
  obtain ⟨hvl, g, c, hV, hG, hC, hgc, hz⟩ := hv
  refine Con.of rfl (Nat.le_of_ble_eq_true rfl) ?_
  refine T_iconst (v := 0) (pc := 0) d_Value_clear_0 rfl ?_
  refine T_istore_n (pc := 1) d_Value_clear_1 rfl (Nat.le_of_ble_eq_true rfl) rfl ?_
  refine c_Value_clear_1 16 0 h g rfl hV hG (fun j hj => absurd hj (Nat.not_lt_zero j)) (fun h1 g1 k1 k2 k3 => ?_)
  refine T_iconst (v := 0) (pc := 24) d_Value_clear_24 rfl ?_
  refine T_istore_n (pc := 25) d_Value_clear_25 rfl (Nat.le_of_ble_eq_true rfl) rfl ?_
  refine c_Value_clear_2 4 0 h1 c rfl ((k3 v (by omega)).trans hV) ((k3 (v + 2) (by omega)).trans hC) (fun j hj => absurd hj (Nat.not_lt_zero j)) (fun h2 c2 m1 m2 m3 => ?_)
  refine T_vret (pc := 48) d_Value_clear_48 rfl rfl (Nat.le_refl _) ?_
  refine ⟨rfl, ⟨by simp [vnil], g1, c2, (m3 v (by omega)).trans ((k3 v (by omega)).trans hV), (m3 (v + 1) (by omega)).trans k1, m1, fun i t w ht hw => ?_, fun i h3 h4 => ⟨m2 i h4, k2 _ (by omega)⟩⟩, fun q h3 h4 => (m3 q h4).trans (k3 q h3)⟩
  have hi := ge_lt ht
  have hw' : w = if t.2.2 then [] else [0] := by
    simp only [vnil, List.getElem?_map, ht, Option.map_some, Option.some.injEq] at hw
    exact hw.symm
  subst hw'
  cases hb : t.2.2
  · refine ⟨fun j hj => ?_, by simp, fun e => absurd e (by decide), fun _ => by simp⟩
    have hj0 : j = 0 := by simp at hj; omega
    subst hj0
    rw [k2 _ (by omega)]
    rfl
  · exact ⟨fun j hj => by simp at hj, by simp, fun _ => m2 i (by omega), fun e => absurd e (by decide)⟩
def dgI (d : Int32) (w : List Int32) : Int32 := w.foldl (fun d x => 31 * d + x) d
def dgF : List Sf → List (List Int32) → Int32 → Int32
  | t :: ts, w :: us, d => dgF ts us (dgI (if t.2.2 then 31 * d + nI w.length else d) w)
  | _, _, d => d
set_option maxRecDepth 100000 in
set_option maxHeartbeats 4000000 in
theorem c_Value_digest_in {n v sa i : Nat} {h : aH} {ns : List Sf} {vs : List (List Int32)} {t : Sf} {w : List Int32} (hs : Sc h sa ns) (hv : Va h v sa ns vs) (ht : ns[i]? = some t) (hw : vs[i]? = some w) {Z : aZ} : ∀ (us : List Int32) (j : Nat) (d : Int32), w.drop j = us → j ≤ w.length → Tri M_Value_digest (a_rm 3 0 0) Z 67 [(4, .int (nI w.length)), (1, .int (dgI d us)), (3, .int (nI w.length)), (2, .int (nI i)), (0, .ref v)] [] n h 0 0 → Tri M_Value_digest (a_rm 3 0 0) Z 42 [(4, .int (nI j)), (1, .int d), (3, .int (nI w.length)), (2, .int (nI i)), (0, .ref v)] [] n h 0 0 := by
  have hw4 := hv.le4 ht hw
  intro us
  induction us with
  | nil =>
    intro j d hus hj hK
    have hj2 : j = w.length := by
      have := List.drop_eq_nil_iff.mp hus
      omega
    subst hj2
    refine T_iload (pc := 42) d_Value_digest_42 rfl ?_
    refine T_iload_n (pc := 44) d_Value_digest_44 rfl ?_
    refine T_icmp_ge (tgt := 67) (pc := 45) d_Value_digest_45 (by decide) (fun q45 => ?_) (fun q45 => ?_)
    · exact hK
    · exact absurd (nI_le (Nat.le_refl _) (by omega)) q45
  | cons x us ih =>
    intro j d hus hj hK
    have hj2 : j < w.length := by
      have := congrArg List.length hus
      simp at this
      omega
    have hx : w[j]? = some x := by
      have := congrArg (fun l => l[0]?) hus
      simpa using this
    have hus2 : w.drop (j + 1) = us := by
      rw [← List.drop_drop, hus]
      rfl
    refine T_iload (pc := 42) d_Value_digest_42 rfl ?_
    refine T_iload_n (pc := 44) d_Value_digest_44 rfl ?_
    refine T_icmp_ge (tgt := 67) (pc := 45) d_Value_digest_45 (by decide) (fun q45 => ?_) (fun q45 => ?_)
    · exact absurd q45 (nI_ge hj2 (by omega))
    · refine T_bipush (v := 31) (pc := 48) d_Value_digest_48 rfl ?_
      refine T_iload_n (pc := 50) d_Value_digest_50 rfl ?_
      refine T_imul (pc := 51) d_Value_digest_51 ?_
      refine T_aload_n (pc := 52) d_Value_digest_52 rfl ?_
      refine T_iload_n (pc := 53) d_Value_digest_53 rfl ?_
      refine T_iload (pc := 54) d_Value_digest_54 rfl ?_
      refine T_ivV (pc := 56) d_Value_digest_56 sI_Value_41 (c_Value_intOf hs hv ht hw hx) hv.obj rfl rfl ⟨(Nat.le_of_ble_eq_true rfl), (Nat.le_of_ble_eq_true rfl)⟩ ⟨(Nat.le_of_ble_eq_true rfl), (Nat.le_of_ble_eq_true rfl)⟩ (Nat.le_of_ble_eq_true rfl) (fun r1 h1 q1 => ?_)
      obtain ⟨rfl, e1⟩ := q1
      rw [e1]
      refine T_iadd (pc := 59) d_Value_digest_59 ?_
      refine T_istore_n (pc := 60) d_Value_digest_60 rfl (Nat.le_of_ble_eq_true rfl) rfl ?_
      refine T_iinc (pc := 61) d_Value_digest_61 rfl (nI_1 j) (Nat.le_of_ble_eq_true rfl) rfl ?_
      refine T_goto (tgt := 42) (pc := 64) d_Value_digest_64 (by decide) ?_
      exact ih (j + 1) _ hus2 (by omega) hK
set_option maxRecDepth 100000 in
set_option maxHeartbeats 4000000 in
theorem c_Value_digest_out {n v sa : Nat} {h : aH} {ns : List Sf} {vs : List (List Int32)} (hs : Sc h sa ns) (hv : Va h v sa ns vs) {Q : aQ} : ∀ (ts : List Sf) (us : List (List Int32)) (i : Nat) (d : Int32), ns.drop i = ts → vs.drop i = us → i ≤ ns.length → Q (some (.int (dgF ts us d))) h → Tri M_Value_digest (a_rm 3 0 0) (a_Z 0 0 Q) 4 [(2, .int (nI i)), (1, .int d), (0, .ref v)] [] n h 0 0 := by
  have hle := hs.le
  have hvl : vs.length = ns.length := hv.1
  intro ts
  induction ts with
  | nil =>
    intro us i d hts hus hi hQ
    have hi2 : ns.length ≤ i := List.drop_eq_nil_iff.mp hts
    refine T_iload_n (pc := 4) d_Value_digest_4 rfl ?_
    refine T_aload_n (pc := 5) d_Value_digest_5 rfl ?_
    refine T_get (pc := 6) d_Value_digest_6 sF_Value_18_Value hv.obj rfl ?_
    refine T_get (pc := 9) d_Value_digest_9 sF_Value_34_Schema hs.obj rfl ?_
    refine T_icmp_ge (tgt := 73) (pc := 12) d_Value_digest_12 (by decide) (fun q12 => ?_) (fun q12 => ?_)
    · refine T_iload_n (pc := 73) d_Value_digest_73 rfl ?_
      refine T_iret (pc := 74) d_Value_digest_74 rfl rfl (Nat.le_refl _) ?_
      exact hQ
    · exact absurd (nI_le hi2 (by omega)) q12
  | cons t ts ih =>
    intro us i d hts hus hi hQ
    have hi2 : i < ns.length := by
      have := congrArg List.length hts
      simp at this
      omega
    have ht : ns[i]? = some t := by
      have := congrArg (fun l => l[0]?) hts
      simpa using this
    obtain ⟨w, hw⟩ : ∃ w, vs[i]? = some w := ⟨vs[i], List.getElem?_eq_getElem (by omega)⟩
    have hts2 : ns.drop (i + 1) = ts := by
      rw [← List.drop_drop, hts]
      rfl
    have hus2 : us = w :: vs.drop (i + 1) := by
      rw [← hus, List.drop_eq_getElem_cons (by omega)]
      rw [List.getElem?_eq_getElem (by omega)] at hw
      rw [Option.some.inj hw]
    rw [hus2] at hQ
    refine T_iload_n (pc := 4) d_Value_digest_4 rfl ?_
    refine T_aload_n (pc := 5) d_Value_digest_5 rfl ?_
    refine T_get (pc := 6) d_Value_digest_6 sF_Value_18_Value hv.obj rfl ?_
    refine T_get (pc := 9) d_Value_digest_9 sF_Value_34_Schema hs.obj rfl ?_
    refine T_icmp_ge (tgt := 73) (pc := 12) d_Value_digest_12 (by decide) (fun q12 => ?_) (fun q12 => ?_)
    · exact absurd q12 (nI_ge hi2 (by omega))
    · refine T_aload_n (pc := 15) d_Value_digest_15 rfl ?_
      refine T_iload_n (pc := 16) d_Value_digest_16 rfl ?_
      refine T_ivV (pc := 17) d_Value_digest_17 sI_Value_30 (c_Value_countOf hs hv ht hw) hv.obj rfl rfl ⟨(Nat.le_of_ble_eq_true rfl), (Nat.le_of_ble_eq_true rfl)⟩ ⟨(Nat.le_of_ble_eq_true rfl), (Nat.le_of_ble_eq_true rfl)⟩ (Nat.le_of_ble_eq_true rfl) (fun r1 h1 q1 => ?_)
      obtain ⟨rfl, e1⟩ := q1
      rw [e1]
      refine T_istore_n (pc := 20) d_Value_digest_20 rfl (Nat.le_of_ble_eq_true rfl) rfl ?_
      refine T_aload_n (pc := 21) d_Value_digest_21 rfl ?_
      refine T_get (pc := 22) d_Value_digest_22 sF_Value_18_Value hv.obj rfl ?_
      refine T_iload_n (pc := 25) d_Value_digest_25 rfl ?_
      refine T_ivV (pc := 26) d_Value_digest_26 sI_Value_38 (c_Schema_isRepeated hs ht) hs.obj rfl rfl ⟨(Nat.le_of_ble_eq_true rfl), (Nat.le_of_ble_eq_true rfl)⟩ ⟨(Nat.le_of_ble_eq_true rfl), (Nat.le_of_ble_eq_true rfl)⟩ (Nat.le_of_ble_eq_true rfl) (fun r2 h2 q2 => ?_)
      obtain ⟨rfl, e2⟩ := q2
      rw [e2]
      refine T_if_eq (tgt := 39) (pc := 29) d_Value_digest_29 (by decide) (fun q29 => ?_) (fun q29 => ?_)
      · refine T_iconst (v := 0) (pc := 39) d_Value_digest_39 rfl ?_
        refine T_istore (pc := 40) d_Value_digest_40 (Nat.le_of_ble_eq_true rfl) rfl ?_
        have hb : t.2.2 = false := by cases hb : t.2.2 <;> simp_all [bI]
        refine T_loc (L' := [(4, .int (nI 0)), (1, .int (if t.2.2 then 31 * d + nI w.length else d)), (3, .int (nI w.length)), (2, .int (nI i)), (0, .ref v)]) [0, 3, 1, 2, 4] (by rw [hb]; rfl) ?_
        refine c_Value_digest_in hs hv ht hw w 0 _ (List.drop_zero) (Nat.zero_le _) ?_
        refine T_iinc (pc := 67) d_Value_digest_67 rfl (nI_1 i) (Nat.le_of_ble_eq_true rfl) rfl ?_
        refine T_goto (tgt := 4) (pc := 70) d_Value_digest_70 (by decide) (T_loc [0, 2, 4] rfl ?_)
        exact ih _ (i + 1) _ hts2 rfl (by omega) hQ
      · refine T_bipush (v := 31) (pc := 32) d_Value_digest_32 rfl ?_
        refine T_iload_n (pc := 34) d_Value_digest_34 rfl ?_
        refine T_imul (pc := 35) d_Value_digest_35 ?_
        refine T_iload_n (pc := 36) d_Value_digest_36 rfl ?_
        refine T_iadd (pc := 37) d_Value_digest_37 ?_
        refine T_istore_n (pc := 38) d_Value_digest_38 rfl (Nat.le_of_ble_eq_true rfl) rfl ?_
        refine T_iconst (v := 0) (pc := 39) d_Value_digest_39 rfl ?_
        refine T_istore (pc := 40) d_Value_digest_40 (Nat.le_of_ble_eq_true rfl) rfl ?_
        have hb : t.2.2 = true := by cases hb : t.2.2 <;> simp_all [bI]
        refine T_loc (L' := [(4, .int (nI 0)), (1, .int (if t.2.2 then 31 * d + nI w.length else d)), (3, .int (nI w.length)), (2, .int (nI i)), (0, .ref v)]) [0, 1, 2, 3, 4] (by rw [hb]; rfl) ?_
        refine c_Value_digest_in hs hv ht hw w 0 _ (List.drop_zero) (Nat.zero_le _) ?_
        refine T_iinc (pc := 67) d_Value_digest_67 rfl (nI_1 i) (Nat.le_of_ble_eq_true rfl) rfl ?_
        refine T_goto (tgt := 4) (pc := 70) d_Value_digest_70 (by decide) (T_loc [0, 2, 4] rfl ?_)
        exact ih _ (i + 1) _ hts2 rfl (by omega) hQ
set_option maxRecDepth 100000 in
set_option maxHeartbeats 4000000 in
theorem c_Value_digest {n v sa : Nat} {h : aH} {ns : List Sf} {vs : List (List Int32)} (hs : Sc h sa ns) (hv : Va h v sa ns vs) : Con M_Value_digest 3 0 0 n [.ref v] h (fun r h' => r = some (.int (dgF ns vs 0)) ∧ h' = h) := by
  refine Con.of rfl (Nat.le_of_ble_eq_true rfl) ?_
  refine T_iconst (v := 0) (pc := 0) d_Value_digest_0 rfl ?_
  refine T_istore_n (pc := 1) d_Value_digest_1 rfl (Nat.le_of_ble_eq_true rfl) rfl ?_
  refine T_iconst (v := 0) (pc := 2) d_Value_digest_2 rfl ?_
  refine T_istore_n (pc := 3) d_Value_digest_3 rfl (Nat.le_of_ble_eq_true rfl) rfl ?_
  exact c_Value_digest_out hs hv ns vs 0 0 (List.drop_zero) (List.drop_zero) (Nat.zero_le _) ⟨rfl, rfl⟩
end
section
/-! OnceWire$Reader. -/
def Rd (h : aH) (a src p : Nat) (f : Bool) : Prop := h a = some (.inr (4, [.ref src, .int (nI p), .int (bI f)]))
def tkF (w : Int32) (xs : List Int32) : Int32 := xs.foldl (fun w b => w <<< ((8 : Int32) &&& 31) ||| b) w
def rv : Nat → Nat → Int64 → List Int32 → Option (Int64 × Nat)
  | 0, _, _, _ => none
  | _ + 1, _, _, [] => none
  | k + 1, i, acc, b :: t => if b < 128 then some (acc ||| ((b &&& 127).toInt64 <<< ((7 * nI i).toInt64 &&& 63)), 1) else (rv k (i + 1) (acc ||| ((b &&& 127).toInt64 <<< ((7 * nI i).toInt64 &&& 63))) t).map (fun q => (q.1, q.2 + 1))
set_option maxRecDepth 100000 in
set_option maxHeartbeats 4000000 in
theorem c_Reader_init {n a src : Nat} {h : aH} (hR : h a = some (.inr (4, [.null, .int 0, .int 0]))) : Con M_Reader_init 1 0 0 n [.ref a, .ref src] h (fun r h' => r = none ∧ Rd h' a src 0 false ∧ ∀ q, q ≠ a → h' q = h q) := by
  refine Con.of rfl (Nat.le_of_ble_eq_true rfl) ?_
  refine T_aload_n (pc := 0) d_Reader_init_0 rfl ?_
  refine T_objInit (pc := 1) d_Reader_init_1 sI_Reader_1 ⟨(Nat.le_of_ble_eq_true rfl), (Nat.le_of_ble_eq_true rfl)⟩ (Nat.le_of_ble_eq_true rfl) ?_
  refine T_aload_n (pc := 4) d_Reader_init_4 rfl ?_
  refine T_aload_n (pc := 5) d_Reader_init_5 rfl ?_
  refine T_putF (pc := 6) d_Reader_init_6 sFF_Reader_7_Reader rfl hR (Nat.le_of_ble_eq_true rfl) (a_fit_o _ _) (T_up (fun h6x1 g6x1 o6x1 => ?_))
  refine T_aload_n (pc := 9) d_Reader_init_9 rfl ?_
  refine T_iconst (v := 0) (pc := 10) d_Reader_init_10 rfl ?_
  refine T_put (pc := 11) d_Reader_init_11 sF_Reader_13_Reader g6x1 (Nat.le_of_ble_eq_true rfl) (a_fit_i _) (T_up (fun h11x2 g11x2 o11x2 => ?_))
  refine T_aload_n (pc := 14) d_Reader_init_14 rfl ?_
  refine T_iconst (v := 0) (pc := 15) d_Reader_init_15 rfl ?_
  refine T_put (pc := 16) d_Reader_init_16 sF_Reader_17_Reader g11x2 (Nat.le_of_ble_eq_true rfl) (a_fit_z (by decide)) (T_up (fun h16x3 g16x3 o16x3 => ?_))
  refine T_vret (pc := 19) d_Reader_init_19 rfl rfl (Nat.le_refl _) ?_
  exact ⟨rfl, g16x3, fun q hq => (o16x3 q hq).trans ((o11x2 q hq).trans (o6x1 q hq))⟩
set_option maxRecDepth 100000 in
set_option maxHeartbeats 4000000 in
theorem c_Reader_startAt {n a src p i : Nat} {f : Bool} {h : aH} (hR : Rd h a src p f) (hi : i < 2 ^ 30) : Con M_Reader_startAt 1 0 0 n [.ref a, .int (nI i)] h (fun r h' => r = none ∧ Rd h' a src i false ∧ ∀ q, q ≠ a → h' q = h q) := by
  unfold Rd at *
  refine Con.of rfl (Nat.le_of_ble_eq_true rfl) ?_
  refine T_aload_n (pc := 0) d_Reader_startAt_0 rfl ?_
  refine T_iload_n (pc := 1) d_Reader_startAt_1 rfl ?_
  refine T_iconst (v := 0) (pc := 2) d_Reader_startAt_2 rfl ?_
  refine T_max (pc := 3) d_Reader_startAt_3 sI_Reader_21 ⟨(Nat.le_of_ble_eq_true rfl), (Nat.le_of_ble_eq_true rfl)⟩ ⟨(Nat.le_of_ble_eq_true rfl), (Nat.le_of_ble_eq_true rfl)⟩ (Nat.le_of_ble_eq_true rfl) ?_
  rw [if_neg (show ¬ nI i < 0 from nI_pos (by omega))]
  refine T_put (pc := 6) d_Reader_startAt_6 sF_Reader_13_Reader hR (Nat.le_of_ble_eq_true rfl) (a_fit_i _) (T_up (fun h6x1 g6x1 o6x1 => ?_))
  refine T_aload_n (pc := 9) d_Reader_startAt_9 rfl ?_
  refine T_iconst (v := 0) (pc := 10) d_Reader_startAt_10 rfl ?_
  refine T_put (pc := 11) d_Reader_startAt_11 sF_Reader_17_Reader g6x1 (Nat.le_of_ble_eq_true rfl) (a_fit_z (by decide)) (T_up (fun h11x2 g11x2 o11x2 => ?_))
  refine T_vret (pc := 14) d_Reader_startAt_14 rfl rfl (Nat.le_refl _) ?_
  exact ⟨rfl, g11x2, fun q hq => (o11x2 q hq).trans (o6x1 q hq)⟩
set_option maxRecDepth 100000 in
set_option maxHeartbeats 4000000 in
theorem c_Reader_left {n a src cap p : Nat} {h : aH} {f : Bool} {l : List Int32} (hR : Rd h a src p f) (hb : By h src cap l) (hc : cap < 2 ^ 30) (hp : p ≤ l.length) : Con M_Reader_left 0 0 0 n [.ref a] h (fun r h' => r = some (.int (nI (l.length - p))) ∧ h' = h) := by
  unfold Rd at *
  obtain ⟨fc, hB, hA, hl, hf⟩ := id hb
  have n1 : src ≠ a := fun e => by
    rw [e, hR] at hB
    cases hB
  have n2 : src + 1 ≠ a := fun e => by
    rw [e, hR] at hA
    cases hA
  refine Con.of rfl (Nat.le_of_ble_eq_true rfl) ?_
  refine T_aload_n (pc := 0) d_Reader_left_0 rfl ?_
  refine T_get (pc := 1) d_Reader_left_1 sF_Reader_7_Reader hR rfl ?_
  refine T_get (pc := 4) d_Reader_left_4 sF_Reader_27_Bytes hB rfl ?_
  refine T_aload_n (pc := 7) d_Reader_left_7 rfl ?_
  refine T_get (pc := 8) d_Reader_left_8 sF_Reader_13_Reader hR rfl ?_
  refine T_isub (pc := 11) d_Reader_left_11 ?_
  refine T_iret (pc := 12) d_Reader_left_12 rfl rfl (Nat.le_refl _) ?_
  exact ⟨by rw [pk_sub hp], rfl⟩
set_option maxRecDepth 100000 in
set_option maxHeartbeats 4000000 in
theorem c_Reader_takeWord_loop {n a src cap p0 : Nat} {f : Bool} {l : List Int32} {h0 : aH} {Q : aQ} (hc : cap < 2 ^ 30) (hp0 : p0 + 4 ≤ l.length) (n1 : src ≠ a) (n2 : src + 1 ≠ a) : ∀ (k i : Nat) (w : Int32) (h : aH), i + k = 4 → Rd h a src (p0 + i) f → By h src cap l → (∀ q, q ≠ a → h q = h0 q) → (∀ h', Rd h' a src (p0 + 4) f → (∀ q, q ≠ a → h' q = h0 q) → Q (some (.int (tkF w ((l.drop (p0 + i)).take k)))) h') → Tri M_Reader_takeWord (a_rm 0 0 0) (a_Z 0 0 Q) 27 [(2, .int (nI i)), (1, .int w), (0, .ref a)] [] n h 0 0 := by
  intro k
  induction k with
  | zero =>
    intro i w h hik hR hb hO hQ
    have hi : i = 4 := by omega
    subst hi
    refine T_iload_n (pc := 27) d_Reader_takeWord_27 rfl ?_
    refine T_iconst (v := 4) (pc := 28) d_Reader_takeWord_28 rfl ?_
    refine T_icmp_ge (tgt := 66) (pc := 29) d_Reader_takeWord_29 (by decide) (fun q29 => ?_) (fun q29 => ?_)
    · refine T_iload_n (pc := 66) d_Reader_takeWord_66 rfl ?_
      refine T_iret (pc := 67) d_Reader_takeWord_67 rfl rfl (Nat.le_refl _) ?_
      exact hQ h hR hO
    · exact absurd (show (4 : Int32) ≤ nI 4 by decide) q29
  | succ k ih =>
    intro i w h hik hR hb hO hQ
    unfold Rd at *
    have hle := hb.le
    obtain ⟨fc, hB, hA, hl, hf⟩ := id hb
    have e1 : l.drop (p0 + i) = fc (p0 + i) :: l.drop (p0 + (i + 1)) := by
      have hi2 : p0 + i < l.length := by omega
      have e3 := hf _ hi2
      rw [List.getElem?_eq_getElem hi2] at e3
      rw [List.drop_eq_getElem_cons hi2, Option.some.inj e3]
      rfl
    rw [e1, List.take_succ_cons] at hQ
    refine T_iload_n (pc := 27) d_Reader_takeWord_27 rfl ?_
    refine T_iconst (v := 4) (pc := 28) d_Reader_takeWord_28 rfl ?_
    refine T_icmp_ge (tgt := 66) (pc := 29) d_Reader_takeWord_29 (by decide) (fun q29 => ?_) (fun q29 => ?_)
    · exact absurd q29 (nI_ge (b := 4) (by omega) (by decide))
    · refine T_iload_n (pc := 32) d_Reader_takeWord_32 rfl ?_
      refine T_bipush (v := 8) (pc := 33) d_Reader_takeWord_33 rfl ?_
      refine T_ishl (pc := 35) d_Reader_takeWord_35 ?_
      refine T_aload_n (pc := 36) d_Reader_takeWord_36 rfl ?_
      refine T_get (pc := 37) d_Reader_takeWord_37 sF_Reader_7_Reader hR rfl ?_
      refine T_get (pc := 40) d_Reader_takeWord_40 sF_Reader_32_Bytes hB rfl ?_
      refine T_aload_n (pc := 43) d_Reader_takeWord_43 rfl ?_
      refine T_get (pc := 44) d_Reader_takeWord_44 sF_Reader_13_Reader hR rfl ?_
      refine T_iald (pc := 47) d_Reader_takeWord_47 hA (vp_in_nI (by omega) (by omega)) ?_
      refine T_ior (pc := 48) d_Reader_takeWord_48 ?_
      refine T_istore_n (pc := 49) d_Reader_takeWord_49 rfl (Nat.le_of_ble_eq_true rfl) rfl ?_
      refine T_aload_n (pc := 50) d_Reader_takeWord_50 rfl ?_
      refine T_dup (pc := 51) d_Reader_takeWord_51 rfl ?_
      refine T_get (pc := 52) d_Reader_takeWord_52 sF_Reader_13_Reader hR rfl ?_
      refine T_iconst (v := 1) (pc := 55) d_Reader_takeWord_55 rfl ?_
      refine T_iadd (pc := 56) d_Reader_takeWord_56 ?_
      refine T_put (pc := 57) d_Reader_takeWord_57 sF_Reader_13_Reader hR (Nat.le_of_ble_eq_true rfl) (a_fit_i _) (T_up (fun h57x1 g57x1 o57x1 => ?_))
      have hB_57x1 := (o57x1 src n1).trans hB
      have hA_57x1 := (o57x1 (src + 1) n2).trans hA
      refine T_iinc (pc := 60) d_Reader_takeWord_60 rfl (nI_1 i) (Nat.le_of_ble_eq_true rfl) rfl ?_
      refine T_goto (tgt := 27) (pc := 63) d_Reader_takeWord_63 (by decide) ?_
      have g2 : h57x1 a = some (.inr (4, [.ref src, .int (nI (p0 + (i + 1))), .int (bI f)])) := by
        rw [g57x1, nI_1]
        rfl
      rw [nI_clamp (by omega)]
      exact ih (i + 1) _ _ (by omega) g2 (hb.same (o57x1 src n1) (o57x1 (src + 1) n2)) (fun q hq => (o57x1 q hq).trans (hO q hq)) hQ
set_option maxRecDepth 100000 in
set_option maxHeartbeats 4000000 in
theorem c_Reader_takeWord {n a src cap p : Nat} {h : aH} {f : Bool} {l : List Int32} (hR : Rd h a src p f) (hb : By h src cap l) (hc : cap < 2 ^ 30) (hp : p ≤ l.length) : Con M_Reader_takeWord 0 0 0 n [.ref a] h (fun r h' => (∀ q, q ≠ a → h' q = h q) ∧ if l.length < p + 4 then r = some (.int 0) ∧ Rd h' a src p true else r = some (.int (tkF 0 ((l.drop p).take 4))) ∧ Rd h' a src (p + 4) f) := by
  unfold Rd at *
  obtain ⟨fc, hB, hA, hl, hf⟩ := id hb
  have n1 : src ≠ a := fun e => by
    rw [e, hR] at hB
    cases hB
  have n2 : src + 1 ≠ a := fun e => by
    rw [e, hR] at hA
    cases hA
  refine Con.of rfl (Nat.le_of_ble_eq_true rfl) ?_
  refine T_aload_n (pc := 0) d_Reader_takeWord_0 rfl ?_
  refine T_get (pc := 1) d_Reader_takeWord_1 sF_Reader_7_Reader hR rfl ?_
  refine T_get (pc := 4) d_Reader_takeWord_4 sF_Reader_27_Bytes hB rfl ?_
  refine T_aload_n (pc := 7) d_Reader_takeWord_7 rfl ?_
  refine T_get (pc := 8) d_Reader_takeWord_8 sF_Reader_13_Reader hR rfl ?_
  refine T_isub (pc := 11) d_Reader_takeWord_11 ?_
  refine T_iconst (v := 4) (pc := 12) d_Reader_takeWord_12 rfl ?_
  refine T_icmp_ge (tgt := 23) (pc := 13) d_Reader_takeWord_13 (by decide) (fun q13 => ?_) (fun q13 => ?_)
  · refine T_iconst (v := 0) (pc := 23) d_Reader_takeWord_23 rfl ?_
    refine T_istore_n (pc := 24) d_Reader_takeWord_24 rfl (Nat.le_of_ble_eq_true rfl) rfl ?_
    refine T_iconst (v := 0) (pc := 25) d_Reader_takeWord_25 rfl ?_
    refine T_istore_n (pc := 26) d_Reader_takeWord_26 rfl (Nat.le_of_ble_eq_true rfl) rfl ?_
    have hp4 : p + 4 ≤ l.length := (nle_sub (a := l.length) (b := p) (c := 4) (by omega) (by omega) (by decide)).mp q13
    exact c_Reader_takeWord_loop hc hp4 n1 n2 4 0 0 h rfl hR hb (fun _ _ => rfl) (fun h' g' o' => ⟨o', by rw [if_neg (by omega)]; exact ⟨rfl, g'⟩⟩)
  · refine T_aload_n (pc := 16) d_Reader_takeWord_16 rfl ?_
    refine T_iconst (v := 1) (pc := 17) d_Reader_takeWord_17 rfl ?_
    refine T_put (pc := 18) d_Reader_takeWord_18 sF_Reader_17_Reader hR (Nat.le_of_ble_eq_true rfl) (a_fit_z (by decide)) (T_up (fun h18x1 g18x1 o18x1 => ?_))
    have hB_18x1 := (o18x1 src n1).trans hB
    have hA_18x1 := (o18x1 (src + 1) n2).trans hA
    refine T_iconst (v := 0) (pc := 21) d_Reader_takeWord_21 rfl ?_
    refine T_iret (pc := 22) d_Reader_takeWord_22 rfl rfl (Nat.le_refl _) ?_
    have hp4 : ¬ p + 4 ≤ l.length := mt (nle_sub (a := l.length) (b := p) (c := 4) (by omega) (by omega) (by decide)).mpr q13
    exact ⟨o18x1, by rw [if_pos (by omega)]; exact ⟨rfl, g18x1⟩⟩
end
section
/-! OnceWire$Reader.takeVarint, skip. -/
set_option maxRecDepth 100000 in
set_option maxHeartbeats 4000000 in
theorem c_Reader_takeVarint_loop {n a src cap : Nat} {f : Bool} {l : List Int32} {h0 : aH} {Q : aQ} (hc : cap < 2 ^ 30) (n1 : src ≠ a) (n2 : src + 1 ≠ a) : ∀ (k i p : Nat) (acc : Int64) (h : aH), i + k = 10 → p ≤ l.length → Rd h a src p f → By h src cap l → (∀ q, q ≠ a → h q = h0 q) → (∀ h' v m, rv k i acc (l.drop p) = some (v, m) → Rd h' a src (p + m) f → (∀ q, q ≠ a → h' q = h0 q) → Q (some (.long v)) h') → (∀ h' p', rv k i acc (l.drop p) = none → p' ≤ l.length → Rd h' a src p' true → (∀ q, q ≠ a → h' q = h0 q) → Q (some (.long 0)) h') → Tri M_Reader_takeVarint (a_rm 0 0 0) (a_Z 0 0 Q) 4 [(3, .int (nI i)), (1, .long acc), (0, .ref a)] [] n h 0 0 := by
  intro k
  induction k with
  | zero =>
    intro i p acc h hik hp hR hb hO hQ1 hQ0
    have hi : i = 10 := by omega
    subst hi
    unfold Rd at *
    refine T_iload_n (pc := 4) d_Reader_takeVarint_4 rfl ?_
    refine T_bipush (v := 10) (pc := 5) d_Reader_takeVarint_5 rfl ?_
    refine T_icmp_ge (tgt := 78) (pc := 7) d_Reader_takeVarint_7 (by decide) (fun q7 => ?_) (fun q7 => ?_)
    · refine T_aload_n (pc := 78) d_Reader_takeVarint_78 rfl ?_
      refine T_iconst (v := 1) (pc := 79) d_Reader_takeVarint_79 rfl ?_
      refine T_put (pc := 80) d_Reader_takeVarint_80 sF_Reader_17_Reader hR (Nat.le_of_ble_eq_true rfl) (a_fit_z (by decide)) (T_up (fun h80x1 g80x1 o80x1 => ?_))
      refine T_lconst (v := 0) (pc := 83) d_Reader_takeVarint_83 rfl ?_
      refine T_lret (pc := 84) d_Reader_takeVarint_84 rfl rfl (Nat.le_refl _) ?_
      exact hQ0 _ p rfl hp g80x1 (fun q hq => (o80x1 q hq).trans (hO q hq))
    · exact absurd (show (10 : Int32) ≤ nI 10 by decide) q7
  | succ k ih =>
    intro i p acc h hik hp hR hb hO hQ1 hQ0
    unfold Rd at *
    have hle := hb.le
    obtain ⟨fc, hB, hA, hl, hf⟩ := id hb
    refine T_iload_n (pc := 4) d_Reader_takeVarint_4 rfl ?_
    refine T_bipush (v := 10) (pc := 5) d_Reader_takeVarint_5 rfl ?_
    refine T_icmp_ge (tgt := 78) (pc := 7) d_Reader_takeVarint_7 (by decide) (fun q7 => ?_) (fun q7 => ?_)
    · exact absurd q7 (nI_ge (b := 10) (by omega) (by decide))
    · refine T_aload_n (pc := 10) d_Reader_takeVarint_10 rfl ?_
      refine T_get (pc := 11) d_Reader_takeVarint_11 sF_Reader_13_Reader hR rfl ?_
      refine T_aload_n (pc := 14) d_Reader_takeVarint_14 rfl ?_
      refine T_get (pc := 15) d_Reader_takeVarint_15 sF_Reader_7_Reader hR rfl ?_
      refine T_get (pc := 18) d_Reader_takeVarint_18 sF_Reader_27_Bytes hB rfl ?_
      refine T_icmp_ge (tgt := 78) (pc := 21) d_Reader_takeVarint_21 (by decide) (fun q21 => ?_) (fun q21 => ?_)
      · have hpl : p = l.length := by have := (nI_leI (a := l.length) (b := p) (by omega) (by omega)).mp q21; omega
        have er : rv (k + 1) i acc (l.drop p) = none := by rw [List.drop_eq_nil_of_le (by omega)]; rfl
        refine T_aload_n (pc := 78) d_Reader_takeVarint_78 rfl ?_
        refine T_iconst (v := 1) (pc := 79) d_Reader_takeVarint_79 rfl ?_
        refine T_put (pc := 80) d_Reader_takeVarint_80 sF_Reader_17_Reader hR (Nat.le_of_ble_eq_true rfl) (a_fit_z (by decide)) (T_up (fun h80x1 g80x1 o80x1 => ?_))
        have hB_80x1 := (o80x1 src n1).trans hB
        have hA_80x1 := (o80x1 (src + 1) n2).trans hA
        refine T_lconst (v := 0) (pc := 83) d_Reader_takeVarint_83 rfl ?_
        refine T_lret (pc := 84) d_Reader_takeVarint_84 rfl rfl (Nat.le_refl _) ?_
        exact hQ0 _ p er hp g80x1 (fun q hq => (o80x1 q hq).trans (hO q hq))
      · have hpl : p < l.length := by have := mt (nI_leI (a := l.length) (b := p) (by omega) (by omega)).mpr q21; omega
        have e1 : l.drop p = fc p :: l.drop (p + 1) := by
          have e3 := hf _ hpl
          rw [List.getElem?_eq_getElem hpl] at e3
          rw [List.drop_eq_getElem_cons hpl, Option.some.inj e3]
        rw [e1] at hQ1 hQ0
        refine T_aload_n (pc := 24) d_Reader_takeVarint_24 rfl ?_
        refine T_get (pc := 25) d_Reader_takeVarint_25 sF_Reader_7_Reader hR rfl ?_
        refine T_get (pc := 28) d_Reader_takeVarint_28 sF_Reader_32_Bytes hB rfl ?_
        refine T_aload_n (pc := 31) d_Reader_takeVarint_31 rfl ?_
        refine T_get (pc := 32) d_Reader_takeVarint_32 sF_Reader_13_Reader hR rfl ?_
        refine T_iald (pc := 35) d_Reader_takeVarint_35 hA (vp_in_nI (by omega) (by omega)) (T_top (show fc (nI p).toNatClampNeg = fc p by rw [nI_clamp (by omega)]) ?_)
        refine T_istore (pc := 36) d_Reader_takeVarint_36 (Nat.le_of_ble_eq_true rfl) rfl ?_
        refine T_aload_n (pc := 38) d_Reader_takeVarint_38 rfl ?_
        refine T_dup (pc := 39) d_Reader_takeVarint_39 rfl ?_
        refine T_get (pc := 40) d_Reader_takeVarint_40 sF_Reader_13_Reader hR rfl ?_
        refine T_iconst (v := 1) (pc := 43) d_Reader_takeVarint_43 rfl ?_
        refine T_iadd (pc := 44) d_Reader_takeVarint_44 ?_
        refine T_put (pc := 45) d_Reader_takeVarint_45 sF_Reader_13_Reader hR (Nat.le_of_ble_eq_true rfl) (a_fit_i _) (T_up (fun h45x2 g45x2 o45x2 => ?_))
        have hB_45x2 := (o45x2 src n1).trans hB
        have hA_45x2 := (o45x2 (src + 1) n2).trans hA
        have g2 : h45x2 a = some (.inr (4, [.ref src, .int (nI (p + 1)), .int (bI f)])) := by
          rw [g45x2, nI_1]
          rfl
        refine T_lload_n (pc := 48) d_Reader_takeVarint_48 rfl ?_
        refine T_iload (pc := 49) d_Reader_takeVarint_49 rfl ?_
        refine T_bipush (v := 127) (pc := 51) d_Reader_takeVarint_51 rfl ?_
        refine T_iand (pc := 53) d_Reader_takeVarint_53 ?_
        refine T_i2l (pc := 54) d_Reader_takeVarint_54 ?_
        refine T_bipush (v := 7) (pc := 55) d_Reader_takeVarint_55 rfl ?_
        refine T_iload_n (pc := 57) d_Reader_takeVarint_57 rfl ?_
        refine T_imul (pc := 58) d_Reader_takeVarint_58 ?_
        refine T_lshl (pc := 59) d_Reader_takeVarint_59 ?_
        refine T_lor (pc := 60) d_Reader_takeVarint_60 ?_
        refine T_lstore_n (pc := 61) d_Reader_takeVarint_61 rfl (Nat.le_of_ble_eq_true rfl) rfl ?_
        refine T_iload (pc := 62) d_Reader_takeVarint_62 rfl ?_
        refine T_sipush (v := 128) (pc := 64) d_Reader_takeVarint_64 rfl ?_
        refine T_icmp_ge (tgt := 72) (pc := 67) d_Reader_takeVarint_67 (by decide) (fun q67 => ?_) (fun q67 => ?_)
        · refine T_iinc (pc := 72) d_Reader_takeVarint_72 rfl (nI_1 i) (Nat.le_of_ble_eq_true rfl) rfl ?_
          refine T_goto (tgt := 4) (pc := 75) d_Reader_takeVarint_75 (by decide) (T_loc [0, 1, 3] rfl ?_)
          have er : ∀ z, rv (k + 1) i acc (fc p :: l.drop (p + 1)) = z → z = (rv k (i + 1) (acc ||| ((fc p &&& 127).toInt64 <<< ((7 * nI i).toInt64 &&& 63))) (l.drop (p + 1))).map (fun q => (q.1, q.2 + 1)) := fun z hz => by
            rw [← hz, rv, if_neg (Int32.not_lt.mpr q67)]
          exact ih (i + 1) (p + 1) _ _ (by omega) (by omega) g2 (hb.same (o45x2 src n1) (o45x2 (src + 1) n2)) (fun q hq => (o45x2 q hq).trans (hO q hq)) (fun h' v m hx g' o' => hQ1 h' v (m + 1) ((er _ rfl).trans (by rw [hx]; rfl)) (by rw [g', show p + 1 + m = p + (m + 1) by omega]) o') (fun h' p' hx hp' g' o' => hQ0 h' p' ((er _ rfl).trans (by rw [hx]; rfl)) hp' g' o')
        · refine T_lload_n (pc := 70) d_Reader_takeVarint_70 rfl ?_
          refine T_lret (pc := 71) d_Reader_takeVarint_71 rfl rfl (Nat.le_refl _) ?_
          exact hQ1 _ _ 1 (by rw [rv, if_pos (Int32.not_le.mp q67)]) g2 (fun q hq => (o45x2 q hq).trans (hO q hq))
set_option maxRecDepth 100000 in
set_option maxHeartbeats 4000000 in
theorem c_Reader_takeVarint {n a src cap p : Nat} {h : aH} {f : Bool} {l : List Int32} (hR : Rd h a src p f) (hb : By h src cap l) (hc : cap < 2 ^ 30) (hp : p ≤ l.length) : Con M_Reader_takeVarint 0 0 0 n [.ref a] h (fun r h' => (∀ q, q ≠ a → h' q = h q) ∧ match rv 10 0 0 (l.drop p) with | some (v, m) => r = some (.long v) ∧ Rd h' a src (p + m) f | none => r = some (.long 0) ∧ ∃ p', p' ≤ l.length ∧ Rd h' a src p' true) := by
  unfold Rd at *
  obtain ⟨fc, hB, hA, hl, hf⟩ := id hb
  have n1 : src ≠ a := fun e => by
    rw [e, hR] at hB
    cases hB
  have n2 : src + 1 ≠ a := fun e => by
    rw [e, hR] at hA
    cases hA
  refine Con.of rfl (Nat.le_of_ble_eq_true rfl) ?_
  refine T_lconst (v := 0) (pc := 0) d_Reader_takeVarint_0 rfl ?_
  refine T_lstore_n (pc := 1) d_Reader_takeVarint_1 rfl (Nat.le_of_ble_eq_true rfl) rfl ?_
  refine T_iconst (v := 0) (pc := 2) d_Reader_takeVarint_2 rfl ?_
  refine T_istore_n (pc := 3) d_Reader_takeVarint_3 rfl (Nat.le_of_ble_eq_true rfl) rfl ?_
  exact c_Reader_takeVarint_loop hc n1 n2 10 0 p 0 h rfl hp hR hb (fun _ _ => rfl) (fun h' v m hx g' o' => ⟨o', by rw [hx]; exact ⟨rfl, g'⟩⟩) (fun h' p' hx hp' g' o' => ⟨o', by rw [hx]; exact ⟨rfl, p', hp', g'⟩⟩)
end
section
/-! Bits: the family bt of the kit's BITS.to-paste, and words of four bytes. -/
def bt (x : Int32) (i : Nat) : Bool := x.toBitVec.getLsbD i
theorem b_ext {x y : Int32} (h : ∀ i, i < 32 → bt x i = bt y i) : x = y := Int32.toBitVec_inj.mp (BitVec.eq_of_getLsbD_eq (fun i hi => h i hi))
theorem b_or (x y : Int32) (i : Nat) : bt (x ||| y) i = (bt x i || bt y i) := by unfold bt; rw [Int32.toBitVec_or, BitVec.getLsbD_or]
theorem b_and (x y : Int32) (i : Nat) : bt (x &&& y) i = (bt x i && bt y i) := by unfold bt; rw [Int32.toBitVec_and, BitVec.getLsbD_and]
theorem b_xor (x y : Int32) (i : Nat) : bt (x ^^^ y) i = (bt x i ^^ bt y i) := by unfold bt; rw [Int32.toBitVec_xor, BitVec.getLsbD_xor]
theorem b_big {x : Int32} {i : Nat} (h : 32 ≤ i) : bt x i = false := BitVec.getLsbD_of_ge _ _ h
theorem b_255 (i : Nat) : bt 255 i = decide (i < 8) := by
  rcases Nat.lt_or_ge i 32 with h | h
  · exact (by decide +kernel : ∀ i, i < 32 → bt 255 i = decide (i < 8)) i h
  · rw [b_big h, decide_eq_false (by omega)]
theorem b_65535 (i : Nat) : bt 65535 i = decide (i < 16) := by
  rcases Nat.lt_or_ge i 32 with h | h
  · exact (by decide +kernel : ∀ i, i < 32 → bt 65535 i = decide (i < 16)) i h
  · rw [b_big h, decide_eq_false (by omega)]
theorem b_m1 : ∀ i, i < 32 → bt (-1) i = true := by decide +kernel
theorem b_0 (i : Nat) : bt 0 i = false := BitVec.getLsbD_zero
theorem s_l : ∀ n, n < 32 → ((nI n &&& 31).toBitVec.smod 32).toNat = n := by decide +kernel
theorem s_u : ∀ n, n < 32 → (((nI n).toUInt32 &&& Int32.toUInt32 31).toBitVec % 32).toNat = n := by decide +kernel
theorem b_shl (n : Nat) (hn : n < 32) (x : Int32) {i : Nat} (hi : i < 32) : bt (x <<< (nI n &&& 31)) i = (decide (n ≤ i) && bt x (i - n)) := by
  unfold bt
  rw [Int32.toBitVec_shiftLeft]
  show (x.toBitVec <<< ((nI n &&& 31).toBitVec.smod 32).toNat).getLsbD i = _
  rw [s_l n hn, BitVec.getLsbD_shiftLeft]
  rcases Nat.lt_or_ge i n with h | h
  · simp [h, Nat.not_le.mpr h]
  · simp [hi, h, Nat.not_lt.mpr h]
theorem b_ushr (n : Nat) (hn : n < 32) (x : Int32) (i : Nat) : bt ((x.toUInt32 >>> ((nI n).toUInt32 &&& Int32.toUInt32 31)).toInt32) i = bt x (n + i) := by
  show (x.toUInt32 >>> ((nI n).toUInt32 &&& Int32.toUInt32 31)).toBitVec.getLsbD i = x.toUInt32.toBitVec.getLsbD (n + i)
  rw [UInt32.toBitVec_shiftRight]
  show (x.toUInt32.toBitVec >>> (((nI n).toUInt32 &&& Int32.toUInt32 31).toBitVec % 32).toNat).getLsbD i = _
  rw [s_u n hn, BitVec.getLsbD_ushiftRight]
theorem b_sshr (n : Nat) (hn : n < 32) (x : Int32) {i : Nat} (hi : i < 32) : bt (x >>> (nI n &&& 31)) i = if n + i < 32 then bt x (n + i) else bt x 31 := by
  unfold bt
  rw [Int32.toBitVec_shiftRight]
  show (x.toBitVec.sshiftRight ((nI n &&& 31).toBitVec.smod 32).toNat).getLsbD i = _
  rw [s_l n hn, BitVec.getLsbD_sshiftRight, BitVec.msb_eq_getLsbD_last]
  simp [hi]
theorem b_shl8 (x : Int32) {i : Nat} (hi : i < 32) : bt (x <<< ((8 : Int32) &&& 31)) i = (decide (8 ≤ i) && bt x (i - 8)) := b_shl 8 (by omega) x hi
theorem b_shl16 (x : Int32) {i : Nat} (hi : i < 32) : bt (x <<< ((16 : Int32) &&& 31)) i = (decide (16 ≤ i) && bt x (i - 16)) := b_shl 16 (by omega) x hi
theorem b_shl24 (x : Int32) {i : Nat} (hi : i < 32) : bt (x <<< ((24 : Int32) &&& 31)) i = (decide (24 ≤ i) && bt x (i - 24)) := b_shl 24 (by omega) x hi
theorem b_sshr8 (x : Int32) {i : Nat} (hi : i < 32) : bt (x >>> ((8 : Int32) &&& 31)) i = if 8 + i < 32 then bt x (8 + i) else bt x 31 := b_sshr 8 (by omega) x hi
theorem tkw4 (a b c d : Int32) : tkF 0 [a, b, c, d] = ((a <<< ((24 : Int32) &&& 31) ||| b <<< ((16 : Int32) &&& 31)) ||| c <<< ((8 : Int32) &&& 31)) ||| d := by
  apply b_ext
  intro i hi
  have h8 : i - 8 < 32 := by omega
  have h16 : i - 8 - 8 < 32 := by omega
  have h24 : i - 8 - 8 - 8 < 32 := by omega
  simp only [tkF, List.foldl, b_or, b_shl8 _ hi, b_shl8 _ h8, b_shl8 _ h16, b_shl8 _ h24, b_shl16 _ hi, b_shl24 _ hi, b_0]
  have e1 : i - 8 - 8 = i - 16 := by omega
  have e2 : i - 8 - 8 - 8 = i - 24 := by omega
  rw [e2, e1]
  by_cases c1 : 8 ≤ i <;> by_cases c2 : 16 ≤ i <;> by_cases c3 : 24 ≤ i <;> simp [c1, c2, c3, show (8 ≤ i - 8) = (16 ≤ i) from by apply propext; omega, show (8 ≤ i - 16) = (24 ≤ i) from by apply propext; omega] <;> omega
theorem tkw {r : List Int32} (h : 4 ≤ r.length) : tkF 0 (r.take 4) = wat r 0 := by
  match r, h with
  | a :: b :: c :: d :: t, _ => exact tkw4 a b c d
end
section
/-! OnceWire$WordFormat.write, Reader.skip, Format's constructors. -/
def encW : List Sf → List (List Int32) → List Int32
  | t :: ts, w :: us => (if t.2.2 then wby (nI w.length) else []) ++ (w.flatMap wby ++ encW ts us)
  | _, _ => []
theorem wbyl (w : List Int32) : (w.flatMap wby).length = 4 * w.length := by
  induction w with
  | nil => rfl
  | cons x t ih =>
    rw [List.flatMap_cons, List.length_append, ih, wby_len, List.length_cons]
    omega
set_option maxRecDepth 100000 in
set_option maxHeartbeats 4000000 in
theorem c_WordFormat_write_in {n fm v sa a cap : Nat} {ns : List Sf} {vs : List (List Int32)} (hc : cap < 2 ^ 31) (d1 : sa + 4 < v) (d2 : v + 2 < a) (d3 : fm ≠ a) (d4 : fm ≠ a + 1) {i : Nat} {t : Sf} {w : List Int32} {Z : aZ} (ht : ns[i]? = some t) (hw : vs[i]? = some w) : ∀ (us : List Int32) (j : Nat) (h : aH) (l : List Int32), w.drop j = us → j ≤ w.length → Sc h sa ns → Va h v sa ns vs → By h a cap l → l.length + 4 * us.length ≤ cap → (∀ h', By h' a cap (l ++ us.flatMap wby) → (∀ q, q ≠ a → q ≠ a + 1 → h' q = h q) → Tri M_WordFormat_write (a_rm 3 0 0) Z 64 [(5, .int (nI w.length)), (4, .int (nI w.length)), (3, .int (nI i)), (0, .ref fm), (1, .ref v), (2, .ref a)] [] n h' 0 0) → Tri M_WordFormat_write (a_rm 3 0 0) Z 40 [(5, .int (nI j)), (4, .int (nI w.length)), (3, .int (nI i)), (0, .ref fm), (1, .ref v), (2, .ref a)] [] n h 0 0 := by
  intro us
  induction us with
  | nil =>
    intro j h l hus hj hs hv hb hr hK
    have hw4 := hv.le4 ht hw
    have hj2 : j = w.length := by
      have := List.drop_eq_nil_iff.mp hus
      omega
    subst hj2
    refine T_iload (pc := 40) d_WordFormat_write_40 rfl ?_
    refine T_iload (pc := 42) d_WordFormat_write_42 rfl ?_
    refine T_icmp_ge (tgt := 64) (pc := 44) d_WordFormat_write_44 (by decide) (fun q44 => ?_) (fun q44 => ?_)
    · exact hK h (by simpa using hb) (fun _ _ _ => rfl)
    · exact absurd (nI_le (Nat.le_refl _) (by omega)) q44
  | cons x us ih =>
    intro j h l hus hj hs hv hb hr hK
    have hw4 := hv.le4 ht hw
    have hj2 : j < w.length := by
      have := congrArg List.length hus
      simp at this
      omega
    have hx : w[j]? = some x := by
      have := congrArg (fun l => l[0]?) hus
      simpa using this
    have hus2 : w.drop (j + 1) = us := by
      rw [← List.drop_drop, hus]
      rfl
    simp only [List.length_cons] at hr
    refine T_iload (pc := 40) d_WordFormat_write_40 rfl ?_
    refine T_iload (pc := 42) d_WordFormat_write_42 rfl ?_
    refine T_icmp_ge (tgt := 64) (pc := 44) d_WordFormat_write_44 (by decide) (fun q44 => ?_) (fun q44 => ?_)
    · exact absurd q44 (nI_ge hj2 (by omega))
    · refine T_aload_n (pc := 47) d_WordFormat_write_47 rfl ?_
      refine T_aload_n (pc := 48) d_WordFormat_write_48 rfl ?_
      refine T_iload_n (pc := 49) d_WordFormat_write_49 rfl ?_
      refine T_iload (pc := 50) d_WordFormat_write_50 rfl ?_
      refine T_ivV (pc := 52) d_WordFormat_write_52 sI_WordFormat_35 (c_Value_intOf hs hv ht hw hx) hv.obj rfl rfl ⟨(Nat.le_of_ble_eq_true rfl), (Nat.le_of_ble_eq_true rfl)⟩ ⟨(Nat.le_of_ble_eq_true rfl), (Nat.le_of_ble_eq_true rfl)⟩ (Nat.le_of_ble_eq_true rfl) (fun r1 h1 q1 => ?_)
      obtain ⟨rfl, e1⟩ := q1
      rw [e1]
      refine T_ivV (pc := 55) d_WordFormat_write_55 sI_WordFormat_29 (c_Bytes_appendWord hb hc (by omega)) hb.obj rfl rfl ⟨(Nat.le_of_ble_eq_true rfl), (Nat.le_of_ble_eq_true rfl)⟩ ⟨(Nat.le_of_ble_eq_true rfl), (Nat.le_of_ble_eq_true rfl)⟩ (Nat.le_of_ble_eq_true rfl) (fun r2 h2 q2 => ?_)
      obtain ⟨rfl, hb2, o2⟩ := q2
      refine T_iinc (pc := 58) d_WordFormat_write_58 rfl (nI_1 j) (Nat.le_of_ble_eq_true rfl) rfl ?_
      refine T_goto (tgt := 40) (pc := 61) d_WordFormat_write_61 (by decide) ?_
      refine ih (j + 1) h2 (l ++ wby x) hus2 (by omega) (hs.same (fun q q1 q3 => o2 q (by omega) (by omega))) (hv.same (fun q q1 q3 => o2 q (by omega) (by omega))) hb2 (by rw [List.length_append, wby_len]; omega) (fun h' g' o' => hK h' ?_ (fun q z1 z2 => (o' q z1 z2).trans (o2 q z1 z2)))
      rw [List.append_assoc] at g'
      exact g'
set_option maxRecDepth 100000 in
set_option maxHeartbeats 4000000 in
theorem c_WordFormat_write_out {n fm v sa a cap : Nat} {ns : List Sf} {vs : List (List Int32)} (hc : cap < 2 ^ 31) (d1 : sa + 4 < v) (d2 : v + 2 < a) (d3 : fm ≠ a) (d4 : fm ≠ a + 1) {Q : aQ} : ∀ (ts : List Sf) (us : List (List Int32)) (i : Nat) (h : aH) (l : List Int32), ns.drop i = ts → vs.drop i = us → i ≤ ns.length → h fm = some (.inr (9, [.ref sa])) → Sc h sa ns → Va h v sa ns vs → By h a cap l → l.length + (encW ts us).length ≤ cap → (∀ h', By h' a cap (l ++ encW ts us) → (∀ q, q ≠ a → q ≠ a + 1 → h' q = h q) → Q none h') → Tri M_WordFormat_write (a_rm 3 0 0) (a_Z 0 0 Q) 2 [(3, .int (nI i)), (0, .ref fm), (1, .ref v), (2, .ref a)] [] n h 0 0 := by
  intro ts
  induction ts with
  | nil =>
    intro us i h l hts hus hi hF hs hv hb hr hQ
    have hle := hs.le
    have hi2 : ns.length ≤ i := List.drop_eq_nil_iff.mp hts
    refine T_iload_n (pc := 2) d_WordFormat_write_2 rfl ?_
    refine T_aload_n (pc := 3) d_WordFormat_write_3 rfl ?_
    refine T_get (pc := 4) d_WordFormat_write_4 sF_WordFormat_7_WordFormat hF rfl ?_
    refine T_get (pc := 7) d_WordFormat_write_7 sF_WordFormat_13_Schema hs.obj rfl ?_
    refine T_icmp_ge (tgt := 70) (pc := 10) d_WordFormat_write_10 (by decide) (fun q10 => ?_) (fun q10 => ?_)
    · refine T_vret (pc := 70) d_WordFormat_write_70 rfl rfl (Nat.le_refl _) ?_
      exact hQ h (by simpa [encW] using hb) (fun _ _ _ => rfl)
    · exact absurd (nI_le hi2 (by omega)) q10
  | cons t ts ih =>
    intro us i h l hts hus hi hF hs hv hb hr hQ
    have hle := hs.le
    have hvl : vs.length = ns.length := hv.1
    have hi2 : i < ns.length := by
      have := congrArg List.length hts
      simp at this
      omega
    have ht : ns[i]? = some t := by
      have := congrArg (fun l => l[0]?) hts
      simpa using this
    obtain ⟨w, hw⟩ : ∃ w, vs[i]? = some w := ⟨vs[i], List.getElem?_eq_getElem (by omega)⟩
    have hts2 : ns.drop (i + 1) = ts := by
      rw [← List.drop_drop, hts]
      rfl
    have hus2 : us = w :: vs.drop (i + 1) := by
      rw [← hus, List.drop_eq_getElem_cons (by omega)]
      rw [List.getElem?_eq_getElem (by omega)] at hw
      rw [Option.some.inj hw]
    rw [hus2] at hr hQ
    simp only [encW, List.length_append, wbyl] at hr
    refine T_iload_n (pc := 2) d_WordFormat_write_2 rfl ?_
    refine T_aload_n (pc := 3) d_WordFormat_write_3 rfl ?_
    refine T_get (pc := 4) d_WordFormat_write_4 sF_WordFormat_7_WordFormat hF rfl ?_
    refine T_get (pc := 7) d_WordFormat_write_7 sF_WordFormat_13_Schema hs.obj rfl ?_
    refine T_icmp_ge (tgt := 70) (pc := 10) d_WordFormat_write_10 (by decide) (fun q10 => ?_) (fun q10 => ?_)
    · exact absurd q10 (nI_ge hi2 (by omega))
    · refine T_aload_n (pc := 13) d_WordFormat_write_13 rfl ?_
      refine T_iload_n (pc := 14) d_WordFormat_write_14 rfl ?_
      refine T_ivV (pc := 15) d_WordFormat_write_15 sI_WordFormat_19 (c_Value_countOf hs hv ht hw) hv.obj rfl rfl ⟨(Nat.le_of_ble_eq_true rfl), (Nat.le_of_ble_eq_true rfl)⟩ ⟨(Nat.le_of_ble_eq_true rfl), (Nat.le_of_ble_eq_true rfl)⟩ (Nat.le_of_ble_eq_true rfl) (fun r1 h1 q1 => ?_)
      obtain ⟨rfl, e1⟩ := q1
      rw [e1]
      refine T_istore (pc := 18) d_WordFormat_write_18 (Nat.le_of_ble_eq_true rfl) rfl ?_
      refine T_aload_n (pc := 20) d_WordFormat_write_20 rfl ?_
      refine T_get (pc := 21) d_WordFormat_write_21 sF_WordFormat_7_WordFormat hF rfl ?_
      refine T_iload_n (pc := 24) d_WordFormat_write_24 rfl ?_
      refine T_ivV (pc := 25) d_WordFormat_write_25 sI_WordFormat_25 (c_Schema_isRepeated hs ht) hs.obj rfl rfl ⟨(Nat.le_of_ble_eq_true rfl), (Nat.le_of_ble_eq_true rfl)⟩ ⟨(Nat.le_of_ble_eq_true rfl), (Nat.le_of_ble_eq_true rfl)⟩ (Nat.le_of_ble_eq_true rfl) (fun r2 h2 q2 => ?_)
      obtain ⟨rfl, e2⟩ := q2
      rw [e2]
      refine T_if_eq (tgt := 37) (pc := 28) d_WordFormat_write_28 (by decide) (fun q28 => ?_) (fun q28 => ?_)
      · refine T_iconst (v := 0) (pc := 37) d_WordFormat_write_37 rfl ?_
        refine T_istore (pc := 38) d_WordFormat_write_38 (Nat.le_of_ble_eq_true rfl) rfl ?_
        have hb0 : t.2.2 = false := by cases hb0 : t.2.2 <;> simp_all [bI]
        rw [hb0] at hr
        simp only [Bool.false_eq_true, if_false, List.length_nil] at hr
        refine c_WordFormat_write_in hc d1 d2 d3 d4 ht hw w 0 h l (List.drop_zero) (Nat.zero_le _) hs hv hb (by omega) (fun h4 hb4 o4 => ?_)
        have o5 : ∀ q, q ≠ a → q ≠ a + 1 → h4 q = h q := fun q z1 z2 => (o4 q z1 z2)
        refine T_iinc (pc := 64) d_WordFormat_write_64 rfl (nI_1 i) (Nat.le_of_ble_eq_true rfl) rfl ?_
        refine T_goto (tgt := 2) (pc := 67) d_WordFormat_write_67 (by decide) (T_loc [0, 3, 4, 5] rfl ?_)
        refine ih _ (i + 1) h4 _ hts2 rfl (by omega) ((o5 fm d3 d4).trans hF) (hs.same (fun q q1 q3 => o5 q (by omega) (by omega))) (hv.same (fun q q1 q3 => o5 q (by omega) (by omega))) hb4 ?_ (fun h' g' o' => hQ h' ?_ (fun q z1 z2 => (o' q z1 z2).trans (o5 q z1 z2)))
        · simp only [List.length_append, wbyl]
          omega
        · rw [encW, hb0]
          simpa [List.append_assoc] using g'
      · refine T_aload_n (pc := 31) d_WordFormat_write_31 rfl ?_
        refine T_iload (pc := 32) d_WordFormat_write_32 rfl ?_
        have hb0 : t.2.2 = true := by cases hb0 : t.2.2 <;> simp_all [bI]
        rw [hb0] at hr
        have hr2 : l.length + 4 ≤ cap := by simp only [if_true, wby_len] at hr; omega
        refine T_ivV (pc := 34) d_WordFormat_write_34 sI_WordFormat_29 (c_Bytes_appendWord hb hc hr2) hb.obj rfl rfl ⟨(Nat.le_of_ble_eq_true rfl), (Nat.le_of_ble_eq_true rfl)⟩ ⟨(Nat.le_of_ble_eq_true rfl), (Nat.le_of_ble_eq_true rfl)⟩ (Nat.le_of_ble_eq_true rfl) (fun r3 h3 q3 => ?_)
        obtain ⟨rfl, hb3, o3⟩ := q3
        refine T_iconst (v := 0) (pc := 37) d_WordFormat_write_37 rfl ?_
        refine T_istore (pc := 38) d_WordFormat_write_38 (Nat.le_of_ble_eq_true rfl) rfl ?_
        simp only [if_true, wby_len] at hr
        have hs3 := hs.same (h' := h3) (fun q q1 q3 => o3 q (by omega) (by omega))
        have hv3 := hv.same (h' := h3) (fun q q1 q3 => o3 q (by omega) (by omega))
        refine c_WordFormat_write_in hc d1 d2 d3 d4 ht hw w 0 h3 (l ++ wby (nI w.length)) (List.drop_zero) (Nat.zero_le _) hs3 hv3 hb3 (by rw [List.length_append, wby_len]; omega) (fun h4 hb4 o4 => ?_)
        have o5 : ∀ q, q ≠ a → q ≠ a + 1 → h4 q = h q := fun q z1 z2 => ((o4 q z1 z2).trans (o3 q z1 z2))
        refine T_iinc (pc := 64) d_WordFormat_write_64 rfl (nI_1 i) (Nat.le_of_ble_eq_true rfl) rfl ?_
        refine T_goto (tgt := 2) (pc := 67) d_WordFormat_write_67 (by decide) (T_loc [0, 3, 4, 5] rfl ?_)
        refine ih _ (i + 1) h4 _ hts2 rfl (by omega) ((o5 fm d3 d4).trans hF) (hs.same (fun q q1 q3 => o5 q (by omega) (by omega))) (hv.same (fun q q1 q3 => o5 q (by omega) (by omega))) hb4 ?_ (fun h' g' o' => hQ h' ?_ (fun q z1 z2 => (o' q z1 z2).trans (o5 q z1 z2)))
        · simp only [List.length_append, wby_len, wbyl]
          omega
        · rw [encW, hb0]
          simpa [List.append_assoc] using g'
set_option maxRecDepth 100000 in
set_option maxHeartbeats 4000000 in
theorem c_WordFormat_write {n fm v sa a cap : Nat} {ns : List Sf} {vs : List (List Int32)} (hc : cap < 2 ^ 31) (d1 : sa + 4 < v) (d2 : v + 2 < a) (d3 : fm ≠ a) (d4 : fm ≠ a + 1) {h : aH} {l : List Int32} (hF : h fm = some (.inr (9, [.ref sa]))) (hs : Sc h sa ns) (hv : Va h v sa ns vs) (hb : By h a cap l) (hr : l.length + (encW ns vs).length ≤ cap) : Con M_WordFormat_write 3 0 0 n [.ref fm, .ref v, .ref a] h (fun r h' => r = none ∧ By h' a cap (l ++ encW ns vs) ∧ ∀ q, q ≠ a → q ≠ a + 1 → h' q = h q) := by
  refine Con.of rfl (Nat.le_of_ble_eq_true rfl) ?_
  refine T_iconst (v := 0) (pc := 0) d_WordFormat_write_0 rfl ?_
  refine T_istore_n (pc := 1) d_WordFormat_write_1 rfl (Nat.le_of_ble_eq_true rfl) rfl ?_
  exact c_WordFormat_write_out hc d1 d2 d3 d4 ns vs 0 h l (List.drop_zero) (List.drop_zero) (Nat.zero_le _) hF hs hv hb hr (fun h' g' o' => ⟨rfl, g', o'⟩)
set_option maxRecDepth 100000 in
set_option maxHeartbeats 4000000 in
theorem c_Reader_skip {n a src cap p : Nat} {h : aH} {f : Bool} {l : List Int32} {v : Int64} (hR : Rd h a src p f) (hb : By h src cap l) (hc : cap < 2 ^ 30) (hp : p ≤ l.length) : Con M_Reader_skip 0 0 0 n [.ref a, .long v] h (fun r h' => r = none ∧ (∀ q, q ≠ a → h' q = h q) ∧ if v < 0 ∨ lN (l.length - p) < v then Rd h' a src p true else ∃ m, v = lN m ∧ p + m ≤ l.length ∧ Rd h' a src (p + m) f) := by
  unfold Rd at *
  obtain ⟨fc, hB, hA, hl, hf⟩ := id hb
  have n1 : src ≠ a := fun e => by
    rw [e, hR] at hB
    cases hB
  have ee : (nI l.length - nI p).toInt64 = lN (l.length - p) := by rw [pk_sub hp, nI_l (by omega)]
  refine Con.of rfl (Nat.le_of_ble_eq_true rfl) ?_
  refine T_lload_n (pc := 0) d_Reader_skip_0 rfl ?_
  refine T_lconst (v := 0) (pc := 1) d_Reader_skip_1 rfl ?_
  refine T_lcmp (pc := 2) d_Reader_skip_2 ?_
  refine T_if_lt (tgt := 24) (pc := 3) d_Reader_skip_3 (by decide) (fun q3 => ?_) (fun q3 => ?_)
  · refine T_aload_n (pc := 24) d_Reader_skip_24 rfl ?_
    refine T_iconst (v := 1) (pc := 25) d_Reader_skip_25 rfl ?_
    refine T_put (pc := 26) d_Reader_skip_26 sF_Reader_17_Reader hR (Nat.le_of_ble_eq_true rfl) (a_fit_z (by decide)) (T_up (fun h26x1 g26x1 o26x1 => ?_))
    have hB_26x1 := (o26x1 src n1).trans hB
    refine T_goto (tgt := 43) (pc := 29) d_Reader_skip_29 (by decide) ?_
    refine T_vret (pc := 43) d_Reader_skip_43 rfl rfl (Nat.le_refl _) ?_
    refine ⟨rfl, o26x1, ?_⟩
    first
      | (rw [if_pos (Or.inl ((lg_cmp_lt v 0).mp q3))]; exact g26x1)
      | (rw [if_pos (Or.inr (Int64.not_le.mp (fun q => q21 ((lg_cmp_le v _).mpr (by rw [ee]; exact q)))))]; exact g26x1)
      | (have h1 : ¬ v < 0 := fun q => q3 ((lg_cmp_lt v 0).mpr q)
         have h2 : v ≤ lN (l.length - p) := by rw [← ee]; exact (lg_cmp_le v _).mp q21
         rw [if_neg (fun q => q.elim h1 (fun q => absurd h2 (Int64.not_le.mpr q)))]
         obtain ⟨m, hm, rfl⟩ := pk_lOf h1
         have h3 := (pk_lLE hm (by omega)).mp h2
         refine ⟨m, rfl, by omega, ?_⟩
         show _ = _
         rw [g26x1, lN_i, nI_add]
         rfl)
  · refine T_lload_n (pc := 6) d_Reader_skip_6 rfl ?_
    refine T_aload_n (pc := 7) d_Reader_skip_7 rfl ?_
    refine T_get (pc := 8) d_Reader_skip_8 sF_Reader_7_Reader hR rfl ?_
    refine T_get (pc := 11) d_Reader_skip_11 sF_Reader_27_Bytes hB rfl ?_
    refine T_aload_n (pc := 14) d_Reader_skip_14 rfl ?_
    refine T_get (pc := 15) d_Reader_skip_15 sF_Reader_13_Reader hR rfl ?_
    refine T_isub (pc := 18) d_Reader_skip_18 ?_
    refine T_i2l (pc := 19) d_Reader_skip_19 ?_
    refine T_lcmp (pc := 20) d_Reader_skip_20 ?_
    refine T_if_le (tgt := 32) (pc := 21) d_Reader_skip_21 (by decide) (fun q21 => ?_) (fun q21 => ?_)
    · refine T_aload_n (pc := 32) d_Reader_skip_32 rfl ?_
      refine T_dup (pc := 33) d_Reader_skip_33 rfl ?_
      refine T_get (pc := 34) d_Reader_skip_34 sF_Reader_13_Reader hR rfl ?_
      refine T_lload_n (pc := 37) d_Reader_skip_37 rfl ?_
      refine T_l2i (pc := 38) d_Reader_skip_38 ?_
      refine T_iadd (pc := 39) d_Reader_skip_39 ?_
      refine T_put (pc := 40) d_Reader_skip_40 sF_Reader_13_Reader hR (Nat.le_of_ble_eq_true rfl) (a_fit_i _) (T_up (fun h40x2 g40x2 o40x2 => ?_))
      have hB_40x2 := (o40x2 src n1).trans hB
      refine T_vret (pc := 43) d_Reader_skip_43 rfl rfl (Nat.le_refl _) ?_
      refine ⟨rfl, o40x2, ?_⟩
      first
        | (rw [if_pos (Or.inl ((lg_cmp_lt v 0).mp q3))]; exact g40x2)
        | (rw [if_pos (Or.inr (Int64.not_le.mp (fun q => q21 ((lg_cmp_le v _).mpr (by rw [ee]; exact q)))))]; exact g40x2)
        | (have h1 : ¬ v < 0 := fun q => q3 ((lg_cmp_lt v 0).mpr q)
           have h2 : v ≤ lN (l.length - p) := by rw [← ee]; exact (lg_cmp_le v _).mp q21
           rw [if_neg (fun q => q.elim h1 (fun q => absurd h2 (Int64.not_le.mpr q)))]
           obtain ⟨m, hm, rfl⟩ := pk_lOf h1
           have h3 := (pk_lLE hm (by omega)).mp h2
           refine ⟨m, rfl, by omega, ?_⟩
           show _ = _
           rw [g40x2, lN_i, nI_add]
           rfl)
    · refine T_aload_n (pc := 24) d_Reader_skip_24 rfl ?_
      refine T_iconst (v := 1) (pc := 25) d_Reader_skip_25 rfl ?_
      refine T_put (pc := 26) d_Reader_skip_26 sF_Reader_17_Reader hR (Nat.le_of_ble_eq_true rfl) (a_fit_z (by decide)) (T_up (fun h26x3 g26x3 o26x3 => ?_))
      have hB_26x3 := (o26x3 src n1).trans hB
      refine T_goto (tgt := 43) (pc := 29) d_Reader_skip_29 (by decide) ?_
      refine T_vret (pc := 43) d_Reader_skip_43 rfl rfl (Nat.le_refl _) ?_
      refine ⟨rfl, o26x3, ?_⟩
      first
        | (rw [if_pos (Or.inl ((lg_cmp_lt v 0).mp q3))]; exact g26x3)
        | (rw [if_pos (Or.inr (Int64.not_le.mp (fun q => q21 ((lg_cmp_le v _).mpr (by rw [ee]; exact q)))))]; exact g26x3)
        | (have h1 : ¬ v < 0 := fun q => q3 ((lg_cmp_lt v 0).mpr q)
           have h2 : v ≤ lN (l.length - p) := by rw [← ee]; exact (lg_cmp_le v _).mp q21
           rw [if_neg (fun q => q.elim h1 (fun q => absurd h2 (Int64.not_le.mpr q)))]
           obtain ⟨m, hm, rfl⟩ := pk_lOf h1
           have h3 := (pk_lLE hm (by omega)).mp h2
           refine ⟨m, rfl, by omega, ?_⟩
           show _ = _
           rw [g26x3, lN_i, nI_add]
           rfl)
end
section
/-! OnceWire$WordFormat.read. -/
def dwI (t : Sf) : Nat → List Int32 → List Int32 → Option (List Int32 × List Int32)
  | 0, w, r => some (w, r)
  | k + 1, w, r => if r.length < 4 then none else if t.2.1 = 3 ∧ wat r 0 ≠ 0 ∧ wat r 0 ≠ 1 then none else dwI t k (if t.2.2 then w ++ [wat r 0] else [wat r 0]) (r.drop 4)
def dwF : List Sf → List Int32 → Option (List (List Int32) × List Int32)
  | [], r => some ([], r)
  | t :: ts, r => if t.2.2 then (if r.length < 4 then none else if wat r 0 < 0 ∨ 4 < wat r 0 then none else (dwI t (wat r 0).toNatClampNeg [] (r.drop 4)).bind (fun q => (dwF ts q.2).map (fun z => (q.1 :: z.1, z.2)))) else (dwI t 1 [0] r).bind (fun q => (dwF ts q.2).map (fun z => (q.1 :: z.1, z.2)))
def decW (ns : List Sf) (r : List Int32) : Option (List (List Int32)) := match dwF ns r with
  | some (vs, []) => some vs
  | _ => none
set_option maxRecDepth 100000 in
set_option maxHeartbeats 4000000 in
theorem c_WordFormat_read_in {n fm v sa rd src cap : Nat} {ns : List Sf} {l : List Int32} (hc : cap < 2 ^ 30) (d1 : sa + 4 < v) (d2 : v + 2 < src) (d3 : src + 1 < rd) (d4 : fm < v ∨ rd < fm) {i N : Nat} {t : Sf} {Q : aQ} (hN : N ≤ 4) (ht : ns[i]? = some t) : ∀ (k j p : Nat) (w : List Int32) (vs : List (List Int32)) (h : aH), j + k = N → p ≤ l.length → (t.2.2 = true → w.length + k ≤ 4) → vs[i]? = some w → h fm = some (.inr (9, [.ref sa])) → Sc h sa ns → Va h v sa ns vs → Rd h rd src p false → By h src cap l → (∀ h' w' p', dwI t k w (l.drop p) = some (w', l.drop p') → p' ≤ l.length → Va h' v sa ns (vs.set i w') → Rd h' rd src p' false → (∀ q, q ≠ v + 1 → q ≠ v + 2 → q ≠ rd → h' q = h q) → Tri M_WordFormat_read (a_rm 3 0 0) (a_Z 0 0 Q) 112 [(5, .int (nI N)), (4, .int (nI N)), (3, .int (nI i)), (0, .ref fm), (1, .ref rd), (2, .ref v)] [] n h' 0 0) → (∀ h' vs' p' f', dwI t k w (l.drop p) = none → Va h' v sa ns vs' → Rd h' rd src p' f' → (∀ q, q ≠ v + 1 → q ≠ v + 2 → q ≠ rd → h' q = h q) → Q (some (.int 0)) h') → Tri M_WordFormat_read (a_rm 3 0 0) (a_Z 0 0 Q) 61 [(5, .int (nI j)), (4, .int (nI N)), (3, .int (nI i)), (0, .ref fm), (1, .ref rd), (2, .ref v)] [] n h 0 0 := by
  intro k
  induction k with
  | zero =>
    intro j p w vs h hjk hp hw4 hw hF hs hv hR hb hK1 hK0
    have hj : j = N := by omega
    subst hj
    refine T_iload (pc := 61) d_WordFormat_read_61 rfl ?_
    refine T_iload (pc := 63) d_WordFormat_read_63 rfl ?_
    refine T_icmp_ge (tgt := 112) (pc := 65) d_WordFormat_read_65 (by decide) (fun q65 => ?_) (fun q65 => ?_)
    · refine hK1 h w p rfl hp ?_ hR (fun _ _ _ _ => rfl)
      have e9 : vs.set i w = vs := by
        obtain ⟨hlt, rfl⟩ := List.getElem?_eq_some_iff.mp hw
        exact List.set_getElem_self hlt
      rw [e9]
      exact hv
    · exact absurd (nI_le (Nat.le_refl _) (by omega)) q65
  | succ k ih =>
    intro j p w vs h hjk hp hw4 hw hF hs hv hR hb hK1 hK0
    have hle := hs.le
    have hbl := hb.le
    have e3 : (l.drop p).length = l.length - p := List.length_drop
    refine T_iload (pc := 61) d_WordFormat_read_61 rfl ?_
    refine T_iload (pc := 63) d_WordFormat_read_63 rfl ?_
    refine T_icmp_ge (tgt := 112) (pc := 65) d_WordFormat_read_65 (by decide) (fun q65 => ?_) (fun q65 => ?_)
    · exact absurd q65 (nI_ge (by omega) (by omega))
    · refine T_aload_n (pc := 68) d_WordFormat_read_68 rfl ?_
      refine T_ivV (pc := 69) d_WordFormat_read_69 sI_WordFormat_43 (c_Reader_takeWord hR hb hc hp) hR rfl rfl ⟨(Nat.le_of_ble_eq_true rfl), (Nat.le_of_ble_eq_true rfl)⟩ ⟨(Nat.le_of_ble_eq_true rfl), (Nat.le_of_ble_eq_true rfl)⟩ (Nat.le_of_ble_eq_true rfl) (fun r1 h1 q1 => ?_)
      obtain ⟨o1, q1⟩ := q1
      by_cases hlt : l.length < p + 4
      · rw [if_pos hlt] at q1
        obtain ⟨rfl, hR1⟩ := q1
        refine T_istore (pc := 72) d_WordFormat_read_72 (Nat.le_of_ble_eq_true rfl) rfl ?_
        refine T_aload_n (pc := 74) d_WordFormat_read_74 rfl ?_
        refine T_get (pc := 75) d_WordFormat_read_75 sF_WordFormat_49_Reader hR1 rfl ?_
        refine T_if_ne (tgt := 104) (pc := 78) d_WordFormat_read_78 (by decide) (fun q78 => ?_) (fun q78 => ?_)
        · refine T_iconst (v := 0) (pc := 104) d_WordFormat_read_104 rfl ?_
          refine T_zret (pc := 105) d_WordFormat_read_105 rfl (by decide) rfl (Nat.le_refl _) ?_
          refine hK0 _ vs p true ?_ (hv.same (fun q z1 z2 => o1 q (by omega))) hR1 (fun q _ _ z => o1 q z)
          rw [dwI, if_pos (by omega)]
        · exact absurd q78 (by decide)
      · rw [if_neg hlt, tkw (by omega)] at q1
        obtain ⟨rfl, hR1⟩ := q1
        have hs1 := hs.same (h' := h1) (fun q z1 z2 => o1 q (by omega))
        have hv1 := hv.same (h' := h1) (fun q z1 z2 => o1 q (by omega))
        have hF1 := (o1 fm (by omega)).trans hF
        have hb1 := hb.same (o1 src (by omega)) (o1 (src + 1) (by omega))
        generalize hx : wat (l.drop p) 0 = x
        have hd : dwI t (k + 1) w (l.drop p) = if t.2.1 = 3 ∧ x ≠ 0 ∧ x ≠ 1 then none else dwI t k (if t.2.2 then w ++ [x] else [x]) (l.drop (p + 4)) := by
          rw [dwI, if_neg (by omega), hx, List.drop_drop]
        refine T_istore (pc := 72) d_WordFormat_read_72 (Nat.le_of_ble_eq_true rfl) rfl ?_
        refine T_aload_n (pc := 74) d_WordFormat_read_74 rfl ?_
        refine T_get (pc := 75) d_WordFormat_read_75 sF_WordFormat_49_Reader hR1 rfl ?_
        refine T_if_ne (tgt := 104) (pc := 78) d_WordFormat_read_78 (by decide) (fun q78 => ?_) (fun q78 => ?_)
        · exact absurd (show bI false = 0 from rfl) q78
        · refine T_aload_n (pc := 81) d_WordFormat_read_81 rfl ?_
          refine T_get (pc := 82) d_WordFormat_read_82 sF_WordFormat_7_WordFormat hF1 rfl ?_
          refine T_iload_n (pc := 85) d_WordFormat_read_85 rfl ?_
          refine T_iload (pc := 86) d_WordFormat_read_86 rfl ?_
          refine T_ivV (pc := 88) d_WordFormat_read_88 sI_WordFormat_53 (c_Schema_allows hs1 ht) hs1.obj rfl rfl ⟨(Nat.le_of_ble_eq_true rfl), (Nat.le_of_ble_eq_true rfl)⟩ ⟨(Nat.le_of_ble_eq_true rfl), (Nat.le_of_ble_eq_true rfl)⟩ (Nat.le_of_ble_eq_true rfl) (fun r2 h2 q2 => ?_)
          obtain ⟨rfl, e2⟩ := q2
          rw [e2]
          refine T_if_eq (tgt := 104) (pc := 91) d_WordFormat_read_91 (by decide) (fun q91 => ?_) (fun q91 => ?_)
          · refine T_iconst (v := 0) (pc := 104) d_WordFormat_read_104 rfl ?_
            refine T_zret (pc := 105) d_WordFormat_read_105 rfl (by decide) rfl (Nat.le_refl _) ?_
            have hok : t.2.1 = 3 ∧ x ≠ 0 ∧ x ≠ 1 := Classical.byContradiction (fun q => by
              rw [if_neg q] at q91
              exact absurd q91 (by decide))
            refine hK0 _ vs (p + 4) false ?_ hv1 hR1 (fun q _ _ z => o1 q z)
            rw [hd, if_pos hok]
          · refine T_aload_n (pc := 94) d_WordFormat_read_94 rfl ?_
            refine T_iload_n (pc := 95) d_WordFormat_read_95 rfl ?_
            refine T_iload (pc := 96) d_WordFormat_read_96 rfl ?_
            have hok : ¬ (t.2.1 = 3 ∧ x ≠ 0 ∧ x ≠ 1) := fun q => by
              rw [if_pos q] at q91
              exact q91 rfl
            rw [if_neg hok] at hd
            refine T_ivV (pc := 98) d_WordFormat_read_98 sI_WordFormat_57 (c_Value_store hs1 hv1 ht hw d1) hv1.obj rfl rfl ⟨(Nat.le_of_ble_eq_true rfl), (Nat.le_of_ble_eq_true rfl)⟩ ⟨(Nat.le_of_ble_eq_true rfl), (Nat.le_of_ble_eq_true rfl)⟩ (Nat.le_of_ble_eq_true rfl) (fun r3 h3 q3 => ?_)
            obtain ⟨q3, o3⟩ := q3
            have key : ∃ w2, w2 = (if t.2.2 then w ++ [x] else [x]) ∧ (t.2.2 = true → w2.length + k ≤ 4) ∧ r3 = some (.int 1) ∧ Va h3 v sa ns (vs.set i w2) := by
              cases hbb : t.2.2
              · rw [hbb] at q3
                exact ⟨[x], by simp, fun e => absurd e (by decide), q3.1, q3.2⟩
              · rw [hbb] at q3
                have hw5 := hw4 hbb
                rw [if_pos rfl, if_pos (show w.length < 4 by omega)] at q3
                exact ⟨w ++ [x], by simp, fun _ => by simp; omega, q3.1, q3.2⟩
            obtain ⟨w2, hw2, hw24, rfl, hv3⟩ := key
            rw [← hw2] at hd
            refine T_if_ne (tgt := 106) (pc := 101) d_WordFormat_read_101 (by decide) (fun q101 => ?_) (fun q101 => ?_)
            · refine T_iinc (pc := 106) d_WordFormat_read_106 rfl (nI_1 j) (Nat.le_of_ble_eq_true rfl) rfl ?_
              refine T_goto (tgt := 61) (pc := 109) d_WordFormat_read_109 (by decide) (T_loc [0, 2, 3, 4, 5, 6] rfl ?_)
              have hil : i < vs.length := by
                have := hv.1
                have := ge_lt ht
                omega
              refine ih (j + 1) (p + 4) w2 (vs.set i w2) h3 (by omega) (by omega) hw24 (List.getElem?_set_self hil) ((o3 fm (by omega) (by omega)).trans hF1) (hs1.same (fun q z1 z2 => o3 q (by omega) (by omega))) hv3 ((o3 rd (by omega) (by omega)).trans hR1) (hb1.same (o3 src (by omega) (by omega)) (o3 (src + 1) (by omega) (by omega))) (fun h' w' p' hx' hp' g' r' o' => hK1 h' w' p' (hd.trans hx') hp' (by rw [List.set_set] at g'; exact g') r' (fun q z1 z2 z3 => (o' q z1 z2 z3).trans ((o3 q z1 z2).trans (o1 q z3)))) (fun h' vs' p' f' hx' g' r' o' => hK0 h' vs' p' f' (hd.trans hx') g' r' (fun q z1 z2 z3 => (o' q z1 z2 z3).trans ((o3 q z1 z2).trans (o1 q z3))))
            · exact absurd q101 (by decide)
end
section
/-! OnceWire$WordFormat.read: fields, and the whole. -/
theorem set_mid {α : Type} (dn r : List α) (a b : α) : (dn ++ a :: r).set dn.length b = (dn ++ [b]) ++ r := by
  simp
theorem get_mid {α : Type} (dn r : List α) (a : α) : (dn ++ a :: r)[dn.length]? = some a := by
  simp
theorem vnil_cons (t : Sf) (ts : List Sf) : vnil (t :: ts) = (if t.2.2 then [] else [0]) :: vnil ts := rfl
set_option maxRecDepth 100000 in
set_option maxHeartbeats 4000000 in
theorem c_WordFormat_read_out {n fm v sa rd src cap : Nat} {ns : List Sf} {l : List Int32} (hc : cap < 2 ^ 30) (d1 : sa + 4 < v) (d2 : v + 2 < src) (d3 : src + 1 < rd) (d4 : fm < v ∨ rd < fm) {Q : aQ} : ∀ (ts : List Sf) (i p : Nat) (dn : List (List Int32)) (h : aH), ns.drop i = ts → dn.length = i → i ≤ ns.length → p ≤ l.length → h fm = some (.inr (9, [.ref sa])) → Sc h sa ns → Va h v sa ns (dn ++ vnil ts) → Rd h rd src p false → By h src cap l → (∀ h' vs' p' f', dwF ts (l.drop p) = some (vs', []) → Va h' v sa ns (dn ++ vs') → Rd h' rd src p' f' → (∀ q, q ≠ v + 1 → q ≠ v + 2 → q ≠ rd → h' q = h q) → Q (some (.int 1)) h') → (∀ h' vs' p' f', (∀ vs'', dwF ts (l.drop p) ≠ some (vs'', [])) → Va h' v sa ns vs' → Rd h' rd src p' f' → (∀ q, q ≠ v + 1 → q ≠ v + 2 → q ≠ rd → h' q = h q) → Q (some (.int 0)) h') → Tri M_WordFormat_read (a_rm 3 0 0) (a_Z 0 0 Q) 6 [(3, .int (nI i)), (0, .ref fm), (1, .ref rd), (2, .ref v)] [] n h 0 0 := by
  intro ts
  induction ts with
  | nil =>
    intro i p dn h hts hdn hi hp hF hs hv hR hb hQ1 hQ0
    have hle := hs.le
    have hbl := hb.le
    have hi2 : ns.length ≤ i := List.drop_eq_nil_iff.mp hts
    refine T_iload_n (pc := 6) d_WordFormat_read_6 rfl ?_
    refine T_aload_n (pc := 7) d_WordFormat_read_7 rfl ?_
    refine T_get (pc := 8) d_WordFormat_read_8 sF_WordFormat_7_WordFormat hF rfl ?_
    refine T_get (pc := 11) d_WordFormat_read_11 sF_WordFormat_13_Schema hs.obj rfl ?_
    refine T_icmp_ge (tgt := 118) (pc := 14) d_WordFormat_read_14 (by decide) (fun q14 => ?_) (fun q14 => ?_)
    · refine T_aload_n (pc := 118) d_WordFormat_read_118 rfl ?_
      refine T_ivV (pc := 119) d_WordFormat_read_119 sI_WordFormat_60 (c_Reader_left hR hb hc hp) hR rfl rfl ⟨(Nat.le_of_ble_eq_true rfl), (Nat.le_of_ble_eq_true rfl)⟩ ⟨(Nat.le_of_ble_eq_true rfl), (Nat.le_of_ble_eq_true rfl)⟩ (Nat.le_of_ble_eq_true rfl) (fun r1 h1 q1 => ?_)
      obtain ⟨rfl, e1⟩ := q1
      rw [e1]
      refine T_if_ne (tgt := 129) (pc := 122) d_WordFormat_read_122 (by decide) (fun q122 => ?_) (fun q122 => ?_)
      · refine T_iconst (v := 0) (pc := 129) d_WordFormat_read_129 rfl ?_
        refine T_zret (pc := 130) d_WordFormat_read_130 rfl (by decide) rfl (Nat.le_refl _) ?_
        first
          | (have hpl : l.length - p = 0 := (nI_eq (a := l.length - p) (b := 0) (by omega) (by decide)).mp q122
             exact hQ1 h [] p false (by rw [dwF, List.drop_eq_nil_of_le (by omega)]) hv hR (fun _ _ _ _ => rfl))
          | (refine hQ0 h _ p false (fun vs'' e => ?_) hv hR (fun _ _ _ _ => rfl)
             have e2 : l.drop p = [] := by
               rw [dwF] at e
               exact (Prod.mk.inj (Option.some.inj e)).2
             have := List.drop_eq_nil_iff.mp e2
             exact q122 (by rw [show l.length - p = 0 by omega]; rfl))
      · refine T_iconst (v := 1) (pc := 125) d_WordFormat_read_125 rfl ?_
        refine T_goto (tgt := 130) (pc := 126) d_WordFormat_read_126 (by decide) ?_
        refine T_zret (pc := 130) d_WordFormat_read_130 rfl (by decide) rfl (Nat.le_refl _) ?_
        first
          | (have hpl : l.length - p = 0 := (nI_eq (a := l.length - p) (b := 0) (by omega) (by decide)).mp q122
             exact hQ1 h [] p false (by rw [dwF, List.drop_eq_nil_of_le (by omega)]) hv hR (fun _ _ _ _ => rfl))
          | (refine hQ0 h _ p false (fun vs'' e => ?_) hv hR (fun _ _ _ _ => rfl)
             have e2 : l.drop p = [] := by
               rw [dwF] at e
               exact (Prod.mk.inj (Option.some.inj e)).2
             have := List.drop_eq_nil_iff.mp e2
             exact q122 (by rw [show l.length - p = 0 by omega]; rfl))
    · exact absurd (nI_le hi2 (by omega)) q14
  | cons t ts ih =>
    intro i p dn h hts hdn hi hp hF hs hv hR hb hQ1 hQ0
    have hle := hs.le
    have hbl := hb.le
    have e3 : (l.drop p).length = l.length - p := List.length_drop
    have hi2 : i < ns.length := by
      have := congrArg List.length hts
      simp at this
      omega
    have ht : ns[i]? = some t := by
      have := congrArg (fun l => l[0]?) hts
      simpa using this
    have hts2 : ns.drop (i + 1) = ts := by
      rw [← List.drop_drop, hts]
      rfl
    rw [vnil_cons] at hv
    refine T_iload_n (pc := 6) d_WordFormat_read_6 rfl ?_
    refine T_aload_n (pc := 7) d_WordFormat_read_7 rfl ?_
    refine T_get (pc := 8) d_WordFormat_read_8 sF_WordFormat_7_WordFormat hF rfl ?_
    refine T_get (pc := 11) d_WordFormat_read_11 sF_WordFormat_13_Schema hs.obj rfl ?_
    refine T_icmp_ge (tgt := 118) (pc := 14) d_WordFormat_read_14 (by decide) (fun q14 => ?_) (fun q14 => ?_)
    · exact absurd q14 (nI_ge hi2 (by omega))
    · refine T_aload_n (pc := 17) d_WordFormat_read_17 rfl ?_
      refine T_get (pc := 18) d_WordFormat_read_18 sF_WordFormat_7_WordFormat hF rfl ?_
      refine T_iload_n (pc := 21) d_WordFormat_read_21 rfl ?_
      refine T_ivV (pc := 22) d_WordFormat_read_22 sI_WordFormat_25 (c_Schema_isRepeated hs ht) hs.obj rfl rfl ⟨(Nat.le_of_ble_eq_true rfl), (Nat.le_of_ble_eq_true rfl)⟩ ⟨(Nat.le_of_ble_eq_true rfl), (Nat.le_of_ble_eq_true rfl)⟩ (Nat.le_of_ble_eq_true rfl) (fun r0 h0 q0 => ?_)
      obtain ⟨rfl, e0⟩ := q0
      rw [e0]
      refine T_if_eq (tgt := 35) (pc := 25) d_WordFormat_read_25 (by decide) (fun q25 => ?_) (fun q25 => ?_)
      · have hbb : t.2.2 = false := by cases hbb : t.2.2 <;> simp_all [bI]
        rw [hbb] at hv
        have hd : dwF (t :: ts) (l.drop p) = (dwI t 1 [0] (l.drop p)).bind (fun q => (dwF ts q.2).map (fun z => (q.1 :: z.1, z.2))) := by
          rw [dwF, hbb]
          rfl
        refine T_iconst (v := 1) (pc := 35) d_WordFormat_read_35 rfl ?_
        refine T_istore (pc := 36) d_WordFormat_read_36 (Nat.le_of_ble_eq_true rfl) rfl ?_
        refine T_aload_n (pc := 38) d_WordFormat_read_38 rfl ?_
        refine T_get (pc := 39) d_WordFormat_read_39 sF_WordFormat_49_Reader hR rfl ?_
        refine T_if_ne (tgt := 56) (pc := 42) d_WordFormat_read_42 (by decide) (fun q42 => ?_) (fun q42 => ?_)
        · first | exact absurd (show bI false = 0 from rfl) q42 | exact absurd q47 (by decide) | exact absurd (show (1 : Int32) ≤ 4 by decide) q53
        · refine T_iload (pc := 45) d_WordFormat_read_45 rfl ?_
          refine T_if_lt (tgt := 56) (pc := 47) d_WordFormat_read_47 (by decide) (fun q47 => ?_) (fun q47 => ?_)
          · first | exact absurd (show bI false = 0 from rfl) q42 | exact absurd q47 (by decide) | exact absurd (show (1 : Int32) ≤ 4 by decide) q53
          · refine T_iload (pc := 50) d_WordFormat_read_50 rfl ?_
            refine T_iconst (v := 4) (pc := 52) d_WordFormat_read_52 rfl ?_
            refine T_icmp_le (tgt := 58) (pc := 53) d_WordFormat_read_53 (by decide) (fun q53 => ?_) (fun q53 => ?_)
            · refine T_iconst (v := 0) (pc := 58) d_WordFormat_read_58 rfl ?_
              refine T_istore (pc := 59) d_WordFormat_read_59 (Nat.le_of_ble_eq_true rfl) rfl ?_
              refine c_WordFormat_read_in hc d1 d2 d3 d4 (N := 1) (by omega) ht 1 0 p [0] _ h (by omega) (by omega) (fun e => absurd (hbb.symm.trans e) (by decide)) (by rw [← hdn]; exact get_mid dn (vnil ts) _) hF hs hv hR hb (fun h5 w5 p5 x5 hp5 hv5 hR5 o5 => ?_) (fun h5 vs5 p5 f5 x5 hv5 hR5 o5 => ?_)
              · refine T_iinc (pc := 112) d_WordFormat_read_112 rfl (nI_1 i) (Nat.le_of_ble_eq_true rfl) rfl ?_
                refine T_goto (tgt := 6) (pc := 115) d_WordFormat_read_115 (by decide) (T_loc [0, 3, 4, 5] rfl ?_)
                rw [← hdn, set_mid] at hv5
                have o6 : ∀ q, q ≠ v + 1 → q ≠ v + 2 → q ≠ rd → h5 q = h q := o5
                have hd6 : dwF (t :: ts) (l.drop p) = (dwF ts (l.drop p5)).map (fun z => (w5 :: z.1, z.2)) := by
                  rw [hd, x5]
                  rfl
                refine ih (i + 1) p5 (dn ++ [w5]) h5 hts2 (by simp [hdn]) (by omega) hp5 ((o6 fm (by omega) (by omega) (by omega)).trans hF) (hs.same (fun q z1 z2 => o6 q (by omega) (by omega) (by omega))) hv5 hR5 (hb.same (o6 src (by omega) (by omega) (by omega)) (o6 (src + 1) (by omega) (by omega) (by omega))) (fun h' vs' p' f' x' g' r' o' => hQ1 h' (w5 :: vs') p' f' ?_ ?_ r' (fun q z1 z2 z3 => (o' q z1 z2 z3).trans (o6 q z1 z2 z3))) (fun h' vs' p' f' x' g' r' o' => hQ0 h' vs' p' f' (fun vs'' e => ?_) g' r' (fun q z1 z2 z3 => (o' q z1 z2 z3).trans (o6 q z1 z2 z3)))
                · rw [hd6, x']
                  rfl
                · rw [List.append_assoc] at g'
                  exact g'
                · rw [hd6] at e
                  cases hz : dwF ts (l.drop p5) with
                  | none =>
                    rw [hz] at e
                    cases e
                  | some z =>
                    rw [hz] at e
                    obtain ⟨z1, z2⟩ := z
                    have e2 := (Prod.mk.inj (Option.some.inj e)).2
                    have e2 : z2 = [] := e2
                    subst e2
                    exact x' z1 hz
              · refine hQ0 h5 vs5 p5 f5 (fun vs'' e => ?_) hv5 hR5 o5
                rw [hd, x5] at e
                cases e
            · first | exact absurd (show bI false = 0 from rfl) q42 | exact absurd q47 (by decide) | exact absurd (show (1 : Int32) ≤ 4 by decide) q53
      · have hbb : t.2.2 = true := by cases hbb : t.2.2 <;> simp_all [bI]
        rw [hbb] at hv
        refine T_aload_n (pc := 28) d_WordFormat_read_28 rfl ?_
        refine T_ivV (pc := 29) d_WordFormat_read_29 sI_WordFormat_43 (c_Reader_takeWord hR hb hc hp) hR rfl rfl ⟨(Nat.le_of_ble_eq_true rfl), (Nat.le_of_ble_eq_true rfl)⟩ ⟨(Nat.le_of_ble_eq_true rfl), (Nat.le_of_ble_eq_true rfl)⟩ (Nat.le_of_ble_eq_true rfl) (fun r1 h1 q1 => ?_)
        obtain ⟨o1, q1⟩ := q1
        by_cases hlt : l.length < p + 4
        · rw [if_pos hlt] at q1
          obtain ⟨rfl, hR1⟩ := q1
          refine T_goto (tgt := 36) (pc := 32) d_WordFormat_read_32 (by decide) ?_
          refine T_istore (pc := 36) d_WordFormat_read_36 (Nat.le_of_ble_eq_true rfl) rfl ?_
          refine T_aload_n (pc := 38) d_WordFormat_read_38 rfl ?_
          refine T_get (pc := 39) d_WordFormat_read_39 sF_WordFormat_49_Reader hR1 rfl ?_
          refine T_if_ne (tgt := 56) (pc := 42) d_WordFormat_read_42 (by decide) (fun q42 => ?_) (fun q42 => ?_)
          · refine T_iconst (v := 0) (pc := 56) d_WordFormat_read_56 rfl ?_
            refine T_zret (pc := 57) d_WordFormat_read_57 rfl (by decide) rfl (Nat.le_refl _) ?_
            refine hQ0 _ _ p true (fun vs'' e => ?_) (hv.same (fun q z1 z2 => o1 q (by omega))) hR1 (fun q _ _ z => o1 q z)
            rw [dwF, hbb, if_pos rfl, if_pos (by omega)] at e
            cases e
          · exact absurd q42 (by decide)
        · rw [if_neg hlt, tkw (by omega)] at q1
          obtain ⟨rfl, hR1⟩ := q1
          have hs1 := hs.same (h' := h1) (fun q z1 z2 => o1 q (by omega))
          have hv1 := hv.same (h' := h1) (fun q z1 z2 => o1 q (by omega))
          have hF1 := (o1 fm (by omega)).trans hF
          have hb1 := hb.same (o1 src (by omega)) (o1 (src + 1) (by omega))
          generalize hx : wat (l.drop p) 0 = x
          have hd0 : dwF (t :: ts) (l.drop p) = if x < 0 ∨ 4 < x then none else (dwI t x.toNatClampNeg [] (l.drop (p + 4))).bind (fun q => (dwF ts q.2).map (fun z => (q.1 :: z.1, z.2))) := by
            rw [dwF, hbb, if_pos rfl, if_neg (by omega), hx, List.drop_drop]
          refine T_goto (tgt := 36) (pc := 32) d_WordFormat_read_32 (by decide) ?_
          refine T_istore (pc := 36) d_WordFormat_read_36 (Nat.le_of_ble_eq_true rfl) rfl ?_
          refine T_aload_n (pc := 38) d_WordFormat_read_38 rfl ?_
          refine T_get (pc := 39) d_WordFormat_read_39 sF_WordFormat_49_Reader hR1 rfl ?_
          refine T_if_ne (tgt := 56) (pc := 42) d_WordFormat_read_42 (by decide) (fun q42 => ?_) (fun q42 => ?_)
          · refine T_iconst (v := 0) (pc := 56) d_WordFormat_read_56 rfl ?_
            refine T_zret (pc := 57) d_WordFormat_read_57 rfl (by decide) rfl (Nat.le_refl _) ?_
            first
              | exact absurd (show bI false = 0 from rfl) q42
              | (refine hQ0 _ _ (p + 4) false (fun vs'' e => ?_) hv1 hR1 (fun q _ _ z => o1 q z)
                 rw [hd0, if_pos (Or.inl q47)] at e
                 cases e)
              | (refine hQ0 _ _ (p + 4) false (fun vs'' e => ?_) hv1 hR1 (fun q _ _ z => o1 q z)
                 rw [hd0, if_pos (Or.inr (Int32.not_le.mp q53))] at e
                 cases e)
          · refine T_iload (pc := 45) d_WordFormat_read_45 rfl ?_
            refine T_if_lt (tgt := 56) (pc := 47) d_WordFormat_read_47 (by decide) (fun q47 => ?_) (fun q47 => ?_)
            · refine T_iconst (v := 0) (pc := 56) d_WordFormat_read_56 rfl ?_
              refine T_zret (pc := 57) d_WordFormat_read_57 rfl (by decide) rfl (Nat.le_refl _) ?_
              first
                | exact absurd (show bI false = 0 from rfl) q42
                | (refine hQ0 _ _ (p + 4) false (fun vs'' e => ?_) hv1 hR1 (fun q _ _ z => o1 q z)
                   rw [hd0, if_pos (Or.inl q47)] at e
                   cases e)
                | (refine hQ0 _ _ (p + 4) false (fun vs'' e => ?_) hv1 hR1 (fun q _ _ z => o1 q z)
                   rw [hd0, if_pos (Or.inr (Int32.not_le.mp q53))] at e
                   cases e)
            · refine T_iload (pc := 50) d_WordFormat_read_50 rfl ?_
              refine T_iconst (v := 4) (pc := 52) d_WordFormat_read_52 rfl ?_
              refine T_icmp_le (tgt := 58) (pc := 53) d_WordFormat_read_53 (by decide) (fun q53 => ?_) (fun q53 => ?_)
              · obtain ⟨N, hN, rfl⟩ := nI_of2 (M := 4) (n := 4) (by decide) q47 q53
                have hd : dwF (t :: ts) (l.drop p) = (dwI t N [] (l.drop (p + 4))).bind (fun q => (dwF ts q.2).map (fun z => (q.1 :: z.1, z.2))) := by
                  rw [hd0, if_neg (fun q => q.elim q47 (fun q => absurd q53 (Int32.not_le.mpr q))), nI_clamp (by omega)]
                refine T_iconst (v := 0) (pc := 58) d_WordFormat_read_58 rfl ?_
                refine T_istore (pc := 59) d_WordFormat_read_59 (Nat.le_of_ble_eq_true rfl) rfl ?_
                refine c_WordFormat_read_in hc d1 d2 d3 d4 (N := N) (by omega) ht N 0 (p + 4) [] _ h1 (by omega) (by omega) (fun _ => by simp; omega) (by rw [← hdn]; exact get_mid dn (vnil ts) _) hF1 hs1 hv1 hR1 hb1 (fun h5 w5 p5 x5 hp5 hv5 hR5 o5 => ?_) (fun h5 vs5 p5 f5 x5 hv5 hR5 o5 => ?_)
                · refine T_iinc (pc := 112) d_WordFormat_read_112 rfl (nI_1 i) (Nat.le_of_ble_eq_true rfl) rfl ?_
                  refine T_goto (tgt := 6) (pc := 115) d_WordFormat_read_115 (by decide) (T_loc [0, 3, 4, 5] rfl ?_)
                  rw [← hdn, set_mid] at hv5
                  have o6 : ∀ q, q ≠ v + 1 → q ≠ v + 2 → q ≠ rd → h5 q = h q := fun q z1 z2 z3 => (o5 q z1 z2 z3).trans (o1 q z3)
                  have hd6 : dwF (t :: ts) (l.drop p) = (dwF ts (l.drop p5)).map (fun z => (w5 :: z.1, z.2)) := by
                    rw [hd, x5]
                    rfl
                  refine ih (i + 1) p5 (dn ++ [w5]) h5 hts2 (by simp [hdn]) (by omega) hp5 ((o6 fm (by omega) (by omega) (by omega)).trans hF) (hs.same (fun q z1 z2 => o6 q (by omega) (by omega) (by omega))) hv5 hR5 (hb.same (o6 src (by omega) (by omega) (by omega)) (o6 (src + 1) (by omega) (by omega) (by omega))) (fun h' vs' p' f' x' g' r' o' => hQ1 h' (w5 :: vs') p' f' ?_ ?_ r' (fun q z1 z2 z3 => (o' q z1 z2 z3).trans (o6 q z1 z2 z3))) (fun h' vs' p' f' x' g' r' o' => hQ0 h' vs' p' f' (fun vs'' e => ?_) g' r' (fun q z1 z2 z3 => (o' q z1 z2 z3).trans (o6 q z1 z2 z3)))
                  · rw [hd6, x']
                    rfl
                  · rw [List.append_assoc] at g'
                    exact g'
                  · rw [hd6] at e
                    cases hz : dwF ts (l.drop p5) with
                    | none =>
                      rw [hz] at e
                      cases e
                    | some z =>
                      rw [hz] at e
                      obtain ⟨z1, z2⟩ := z
                      have e2 := (Prod.mk.inj (Option.some.inj e)).2
                      have e2 : z2 = [] := e2
                      subst e2
                      exact x' z1 hz
                · refine hQ0 h5 vs5 p5 f5 (fun vs'' e => ?_) hv5 hR5 (fun q z1 z2 z3 => (o5 q z1 z2 z3).trans (o1 q z3))
                  rw [hd, x5] at e
                  cases e
              · refine T_iconst (v := 0) (pc := 56) d_WordFormat_read_56 rfl ?_
                refine T_zret (pc := 57) d_WordFormat_read_57 rfl (by decide) rfl (Nat.le_refl _) ?_
                first
                  | exact absurd (show bI false = 0 from rfl) q42
                  | (refine hQ0 _ _ (p + 4) false (fun vs'' e => ?_) hv1 hR1 (fun q _ _ z => o1 q z)
                     rw [hd0, if_pos (Or.inl q47)] at e
                     cases e)
                  | (refine hQ0 _ _ (p + 4) false (fun vs'' e => ?_) hv1 hR1 (fun q _ _ z => o1 q z)
                     rw [hd0, if_pos (Or.inr (Int32.not_le.mp q53))] at e
                     cases e)
set_option maxRecDepth 100000 in
set_option maxHeartbeats 4000000 in
theorem c_WordFormat_read {n fm v sa rd src cap : Nat} {ns : List Sf} {l : List Int32} (hc : cap < 2 ^ 30) (d1 : sa + 4 < v) (d2 : v + 2 < src) (d3 : src + 1 < rd) (d4 : fm < v ∨ rd < fm) {p : Nat} {h : aH} {vs : List (List Int32)} (hF : h fm = some (.inr (9, [.ref sa]))) (hs : Sc h sa ns) (hv : Va h v sa ns vs) (hR : Rd h rd src p false) (hb : By h src cap l) (hp : p ≤ l.length) : Con M_WordFormat_read 3 0 0 n [.ref fm, .ref rd, .ref v] h (fun r h' => (∀ q, q ≠ v + 1 → q ≠ v + 2 → q ≠ rd → h' q = h q) ∧ (∃ p' f', Rd h' rd src p' f') ∧ match decW ns (l.drop p) with | some vs' => r = some (.int 1) ∧ Va h' v sa ns vs' | none => r = some (.int 0) ∧ ∃ vs', Va h' v sa ns vs') := by
  refine Con.of rfl (Nat.le_of_ble_eq_true rfl) ?_
  refine T_aload_n (pc := 0) d_WordFormat_read_0 rfl ?_
  refine T_ivV (pc := 1) d_WordFormat_read_1 sI_WordFormat_39 (c_Value_clear hv hs.le) hv.obj rfl rfl ⟨(Nat.le_of_ble_eq_true rfl), (Nat.le_of_ble_eq_true rfl)⟩ ⟨(Nat.le_of_ble_eq_true rfl), (Nat.le_of_ble_eq_true rfl)⟩ (Nat.le_of_ble_eq_true rfl) (fun r0 h0 q0 => ?_)
  obtain ⟨rfl, hv0, o0⟩ := q0
  have hs0 := hs.same (h' := h0) (fun q z1 z2 => o0 q (by omega) (by omega))
  have hb0 := hb.same (o0 src (by omega) (by omega)) (o0 (src + 1) (by omega) (by omega))
  refine T_iconst (v := 0) (pc := 4) d_WordFormat_read_4 rfl ?_
  refine T_istore_n (pc := 5) d_WordFormat_read_5 rfl (Nat.le_of_ble_eq_true rfl) rfl ?_
  refine c_WordFormat_read_out hc d1 d2 d3 d4 ns 0 p [] h0 (List.drop_zero) rfl (Nat.zero_le _) hp ((o0 fm (by omega) (by omega)).trans hF) hs0 hv0 ((o0 rd (by omega) (by omega)).trans hR) hb0 (fun h' vs' p' f' x' g' r' o' => ?_) (fun h' vs' p' f' x' g' r' o' => ?_)
  · refine ⟨fun q z1 z2 z3 => (o' q z1 z2 z3).trans (o0 q z1 z2), ⟨p', f', r'⟩, ?_⟩
    rw [decW, x']
    exact ⟨rfl, g'⟩
  · refine ⟨fun q z1 z2 z3 => (o' q z1 z2 z3).trans (o0 q z1 z2), ⟨p', f', r'⟩, ?_⟩
    have e : decW ns (l.drop p) = none := by
      unfold decW
      split
      · rename_i vs2 hq
        exact absurd hq (x' vs2)
      · rfl
    rw [e]
    exact ⟨rfl, vs', g'⟩
end
section
/-! Bits of longs: the family wb_ of the kit's BITS.to-paste. -/
theorem wb_tb (n : Nat) : (lN n).toBitVec = BitVec.ofNat 64 n := rfl
theorem wb_inj {a b : Int64} (h : a.toBitVec = b.toBitVec) : a = b := Int64.toBitVec_inj.mp h
theorem wb_tn {n : Nat} (h : n < 2 ^ 64) : (lN n).toBitVec.toNat = n := by rw [wb_tb, BitVec.toNat_ofNat, Nat.mod_eq_of_lt h]
theorem wb_of (x : Int64) : ∃ n, n < 2 ^ 64 ∧ x = lN n := ⟨x.toBitVec.toNat, x.toBitVec.isLt, wb_inj (by rw [wb_tb]; simp)⟩
theorem wb_of32 (x : Int32) : ∃ n, n < 2 ^ 32 ∧ x = nI n := ⟨x.toBitVec.toNat, x.toBitVec.isLt, Int32.toBitVec_inj.mp (by show _ = BitVec.ofNat 32 _; simp)⟩
theorem wb_c : ∀ k, k < 64 → ((nI k).toInt64 &&& 63) = lN k := by decide +kernel
theorem wb_cu : ∀ k, k < 64 → ((nI k).toInt64.toUInt64 &&& Int64.toUInt64 63) = UInt64.ofNat k := by decide +kernel
theorem wb_sm : ∀ k, k < 64 → (BitVec.ofNat 64 k).smod 64 = BitVec.ofNat 64 k := by decide +kernel
theorem wb_pw {a b : Nat} (h : a ≤ b) : 2 ^ b = 2 ^ a * 2 ^ (b - a) := by rw [← Nat.pow_add]; congr 1; omega
theorem wb_lt2 {a b : Nat} (h : a < b) : 2 ^ a < 2 ^ b := Nat.pow_lt_pow_right (by decide) h
theorem wb_mod (n : Nat) : lN n = lN (n % 2 ^ 64) := wb_inj (by rw [wb_tb, wb_tb]; apply BitVec.eq_of_toNat_eq; rw [BitVec.toNat_ofNat, BitVec.toNat_ofNat, Nat.mod_mod])
theorem wb_shr {n k : Nat} (hn : n < 2 ^ 64) (hk : k < 64) : ((lN n).toUInt64 >>> ((nI k).toInt64.toUInt64 &&& Int64.toUInt64 63)).toInt64 = lN (n / 2 ^ k) := by
  rw [wb_cu k hk]
  apply wb_inj
  apply BitVec.eq_of_toNat_eq
  show ((lN n).toUInt64 >>> UInt64.ofNat k).toNat = (BitVec.ofNat 64 _).toNat
  have h1 : (UInt64.ofNat k).toNat = k := by
    show (BitVec.ofNat 64 k).toNat = k
    rw [BitVec.toNat_ofNat, Nat.mod_eq_of_lt (by omega)]
  have h2 : (lN n).toUInt64.toNat = n := wb_tn hn
  rw [UInt64.toNat_shiftRight, h1, h2, Nat.mod_eq_of_lt hk, Nat.shiftRight_eq_div_pow, BitVec.toNat_ofNat, Nat.mod_eq_of_lt (Nat.lt_of_le_of_lt (Nat.div_le_self _ _) hn)]
theorem wb_shl (n : Nat) {k : Nat} (hk : k < 64) : lN n <<< ((nI k).toInt64 &&& 63) = lN (n * 2 ^ k) := by
  rw [wb_c k hk]
  apply wb_inj
  rw [Int64.toBitVec_shiftLeft, wb_tb, wb_tb, wb_tb, wb_sm k hk]
  apply BitVec.eq_of_toNat_eq
  rw [BitVec.shiftLeft_eq', BitVec.toNat_shiftLeft, BitVec.toNat_ofNat, BitVec.toNat_ofNat, BitVec.toNat_ofNat, Nat.mod_eq_of_lt (show k < 2 ^ 64 by omega), Nat.shiftLeft_eq, Nat.mul_mod, Nat.mod_mod, ← Nat.mul_mod]
theorem wb_and {a b : Nat} (ha : a < 2 ^ 64) (hb : b < 2 ^ 64) : lN a &&& lN b = lN (a &&& b) := by
  apply wb_inj
  rw [Int64.toBitVec_and, wb_tb, wb_tb, wb_tb]
  apply BitVec.eq_of_toNat_eq
  rw [BitVec.toNat_and, BitVec.toNat_ofNat, BitVec.toNat_ofNat, BitVec.toNat_ofNat, Nat.mod_eq_of_lt ha, Nat.mod_eq_of_lt hb, Nat.mod_eq_of_lt (Nat.and_lt_two_pow _ hb)]
theorem wb_or {a b : Nat} (ha : a < 2 ^ 64) (hb : b < 2 ^ 64) : lN a ||| lN b = lN (a ||| b) := by
  apply wb_inj
  rw [Int64.toBitVec_or, wb_tb, wb_tb, wb_tb]
  apply BitVec.eq_of_toNat_eq
  rw [BitVec.toNat_or, BitVec.toNat_ofNat, BitVec.toNat_ofNat, BitVec.toNat_ofNat, Nat.mod_eq_of_lt ha, Nat.mod_eq_of_lt hb, Nat.mod_eq_of_lt (Nat.or_lt_two_pow ha hb)]
theorem wb_mask {n k : Nat} (hn : n < 2 ^ 64) (hk : k < 64) : lN n &&& lN (2 ^ k - 1) = lN (n % 2 ^ k) := by
  rw [wb_and hn (by have := wb_lt2 hk; omega), Nat.and_two_pow_sub_one_eq_mod]
theorem wb_a1 {n : Nat} (hn : n < 2 ^ 64) : lN n &&& 1 = lN (n % 2) := wb_mask (k := 1) hn (by decide)
theorem wb_bit {n k : Nat} (hn : n < 2 ^ 64) (hk : k < 64) : ((lN n).toUInt64 >>> ((nI k).toInt64.toUInt64 &&& Int64.toUInt64 63)).toInt64 &&& 1 = lN (n / 2 ^ k % 2) := by
  rw [wb_shr hn hk, wb_a1 (Nat.lt_of_le_of_lt (Nat.div_le_self _ _) hn)]
theorem wb_xor {q k : Nat} (hk : k < 63) (h : 2 ^ k ≤ q) (h2 : q < 2 ^ (k + 1)) : lN q ^^^ lN (2 ^ k) = lN (q - 2 ^ k) := by
  obtain ⟨r, rfl⟩ : ∃ r, q = 2 ^ k + r := ⟨q - 2 ^ k, by omega⟩
  have hr : r < 2 ^ k := by rw [Nat.pow_succ] at h2; omega
  have hx : (2 ^ k + r) ^^^ 2 ^ k = r := by
    apply Nat.eq_of_testBit_eq
    intro i
    rw [Nat.testBit_xor, Nat.testBit_two_pow]
    rcases Nat.lt_trichotomy i k with h | h | h
    · rw [Nat.testBit_two_pow_add_gt h]
      simp [show ¬ k = i by omega]
    · subst h
      rw [Nat.testBit_two_pow_add_eq]
      simp
    · have a1 : 2 ^ (k + 1) ≤ 2 ^ i := Nat.pow_le_pow_right (by decide) h
      rw [Nat.testBit_lt_two_pow (show 2 ^ k + r < 2 ^ i by omega), Nat.testBit_lt_two_pow (show r < 2 ^ i by omega)]
      simp [show ¬ k = i by omega]
  have b1 := wb_lt2 (show k + 1 < 64 by omega)
  have b2 := wb_lt2 (show k < 64 by omega)
  apply wb_inj
  rw [Int64.toBitVec_xor, wb_tb, wb_tb, wb_tb]
  apply BitVec.eq_of_toNat_eq
  rw [BitVec.toNat_xor, BitVec.toNat_ofNat, BitVec.toNat_ofNat, BitVec.toNat_ofNat, Nat.mod_eq_of_lt (by omega : 2 ^ k + r < 2 ^ 64), Nat.mod_eq_of_lt b2, hx, Nat.add_sub_cancel_left, Nat.mod_eq_of_lt (by omega)]
end
section
/-! OnceWire$TaggedFormat: writing. -/
def vi : Nat → Nat → List Int32
  | 0, m => [nI m]
  | k + 1, m => if m < 128 then [nI m] else nI (m % 128 + 128) :: vi k (m / 128)
theorem vi_len (k : Nat) : ∀ m, (vi k m).length ≤ k + 1 := by
  induction k with
  | zero => intro m; simp [vi]
  | succ k ih =>
    intro m
    rw [vi]
    split
    · simp
    · have := ih (m / 128)
      simp
      omega
theorem lush7 {m : Nat} (hm : m < 2 ^ 62) : ((lN m).toUInt64 >>> ((7 : Int32).toInt64.toUInt64 &&& Int64.toUInt64 63)).toInt64 = lN (m / 128) := wb_shr (k := 7) (by omega) (by decide)
theorem land127 {m : Nat} (hm : m < 2 ^ 62) : lN m &&& 127 = lN (m % 128) := wb_mask (k := 7) (by omega) (by decide)
set_option maxRecDepth 100000 in
set_option maxHeartbeats 4000000 in
theorem c_TaggedFormat_writeVarint_loop {n a cap : Nat} {x0 : Int64} {Q : aQ} (hc : cap < 2 ^ 31) : ∀ (k i m : Nat) (h : aH) (l : List Int32), i + k ≤ 9 → m < 128 ^ (k + 1) → m < 2 ^ 62 → By h a cap l → l.length + (vi k m).length ≤ cap → (∀ h', By h' a cap (l ++ vi k m) → (∀ q, q ≠ a → q ≠ a + 1 → h' q = h q) → Q none h') → Tri M_TaggedFormat_writeVarint (a_rm 1 0 0) (a_Z 0 0 Q) 5 [(5, .int (nI i)), (3, .long (lN m)), (0, .long x0), (2, .ref a)] [] n h 0 0 := by
  intro k
  induction k with
  | zero =>
    intro i m h l hik hm hm2 hb hr hQ
    have hm3 : m < 128 := by simpa using hm
    have e1 : m / 128 = 0 := by omega
    refine T_iload (pc := 5) d_TaggedFormat_writeVarint_5 rfl ?_
    refine T_bipush (v := 10) (pc := 7) d_TaggedFormat_writeVarint_7 rfl ?_
    refine T_icmp_ge (tgt := 47) (pc := 9) d_TaggedFormat_writeVarint_9 (by decide) (fun q9 => ?_) (fun q9 => ?_)
    · refine T_aload_n (pc := 47) d_TaggedFormat_writeVarint_47 rfl ?_
      refine T_lload_n (pc := 48) d_TaggedFormat_writeVarint_48 rfl ?_
      refine T_l2i (pc := 49) d_TaggedFormat_writeVarint_49 ?_
      refine T_ivV (pc := 50) d_TaggedFormat_writeVarint_50 sI_TaggedFormat_68 (c_Bytes_append hb hc) hb.obj rfl rfl ⟨(Nat.le_of_ble_eq_true rfl), (Nat.le_of_ble_eq_true rfl)⟩ ⟨(Nat.le_of_ble_eq_true rfl), (Nat.le_of_ble_eq_true rfl)⟩ (Nat.le_of_ble_eq_true rfl) (fun r1 h1 q1 => ?_)
      rw [if_pos (by simp [vi, hm3] at hr; omega)] at q1
      obtain ⟨rfl, hb1, o1⟩ := q1
      refine T_pop (pc := 53) d_TaggedFormat_writeVarint_53 rfl ?_
      refine T_vret (pc := 54) d_TaggedFormat_writeVarint_54 rfl rfl (Nat.le_refl _) ?_
      rw [lN_i] at hb1
      refine hQ _ ?_ o1
      simpa [vi, hm3] using hb1
    · refine T_lload_n (pc := 12) d_TaggedFormat_writeVarint_12 rfl ?_
      refine T_bipush (v := 7) (pc := 13) d_TaggedFormat_writeVarint_13 rfl ?_
      refine T_lushr (pc := 15) d_TaggedFormat_writeVarint_15 ?_
      rw [lush7 hm2]
      refine T_lconst (v := 0) (pc := 16) d_TaggedFormat_writeVarint_16 rfl ?_
      refine T_lcmp (pc := 17) d_TaggedFormat_writeVarint_17 ?_
      refine T_if_eq (tgt := 47) (pc := 18) d_TaggedFormat_writeVarint_18 (by decide) (fun q18 => ?_) (fun q18 => ?_)
      · refine T_aload_n (pc := 47) d_TaggedFormat_writeVarint_47 rfl ?_
        refine T_lload_n (pc := 48) d_TaggedFormat_writeVarint_48 rfl ?_
        refine T_l2i (pc := 49) d_TaggedFormat_writeVarint_49 ?_
        refine T_ivV (pc := 50) d_TaggedFormat_writeVarint_50 sI_TaggedFormat_68 (c_Bytes_append hb hc) hb.obj rfl rfl ⟨(Nat.le_of_ble_eq_true rfl), (Nat.le_of_ble_eq_true rfl)⟩ ⟨(Nat.le_of_ble_eq_true rfl), (Nat.le_of_ble_eq_true rfl)⟩ (Nat.le_of_ble_eq_true rfl) (fun r1 h1 q1 => ?_)
        rw [if_pos (by simp [vi, hm3] at hr; omega)] at q1
        obtain ⟨rfl, hb1, o1⟩ := q1
        refine T_pop (pc := 53) d_TaggedFormat_writeVarint_53 rfl ?_
        refine T_vret (pc := 54) d_TaggedFormat_writeVarint_54 rfl rfl (Nat.le_refl _) ?_
        rw [lN_i] at hb1
        refine hQ _ ?_ o1
        simpa [vi, hm3] using hb1
      · exact absurd ((lg_cmp_eq _ _).mpr (by rw [e1]; rfl)) q18
  | succ k ih =>
    intro i m h l hik hm hm2 hb hr hQ
    by_cases hm3 : m < 128
    · have e1 : m / 128 = 0 := by omega
      refine T_iload (pc := 5) d_TaggedFormat_writeVarint_5 rfl ?_
      refine T_bipush (v := 10) (pc := 7) d_TaggedFormat_writeVarint_7 rfl ?_
      refine T_icmp_ge (tgt := 47) (pc := 9) d_TaggedFormat_writeVarint_9 (by decide) (fun q9 => ?_) (fun q9 => ?_)
      · refine T_aload_n (pc := 47) d_TaggedFormat_writeVarint_47 rfl ?_
        refine T_lload_n (pc := 48) d_TaggedFormat_writeVarint_48 rfl ?_
        refine T_l2i (pc := 49) d_TaggedFormat_writeVarint_49 ?_
        refine T_ivV (pc := 50) d_TaggedFormat_writeVarint_50 sI_TaggedFormat_68 (c_Bytes_append hb hc) hb.obj rfl rfl ⟨(Nat.le_of_ble_eq_true rfl), (Nat.le_of_ble_eq_true rfl)⟩ ⟨(Nat.le_of_ble_eq_true rfl), (Nat.le_of_ble_eq_true rfl)⟩ (Nat.le_of_ble_eq_true rfl) (fun r1 h1 q1 => ?_)
        rw [if_pos (by simp [vi, hm3] at hr; omega)] at q1
        obtain ⟨rfl, hb1, o1⟩ := q1
        refine T_pop (pc := 53) d_TaggedFormat_writeVarint_53 rfl ?_
        refine T_vret (pc := 54) d_TaggedFormat_writeVarint_54 rfl rfl (Nat.le_refl _) ?_
        rw [lN_i] at hb1
        refine hQ _ ?_ o1
        simpa [vi, hm3] using hb1
      · refine T_lload_n (pc := 12) d_TaggedFormat_writeVarint_12 rfl ?_
        refine T_bipush (v := 7) (pc := 13) d_TaggedFormat_writeVarint_13 rfl ?_
        refine T_lushr (pc := 15) d_TaggedFormat_writeVarint_15 ?_
        rw [lush7 hm2]
        refine T_lconst (v := 0) (pc := 16) d_TaggedFormat_writeVarint_16 rfl ?_
        refine T_lcmp (pc := 17) d_TaggedFormat_writeVarint_17 ?_
        refine T_if_eq (tgt := 47) (pc := 18) d_TaggedFormat_writeVarint_18 (by decide) (fun q18 => ?_) (fun q18 => ?_)
        · refine T_aload_n (pc := 47) d_TaggedFormat_writeVarint_47 rfl ?_
          refine T_lload_n (pc := 48) d_TaggedFormat_writeVarint_48 rfl ?_
          refine T_l2i (pc := 49) d_TaggedFormat_writeVarint_49 ?_
          refine T_ivV (pc := 50) d_TaggedFormat_writeVarint_50 sI_TaggedFormat_68 (c_Bytes_append hb hc) hb.obj rfl rfl ⟨(Nat.le_of_ble_eq_true rfl), (Nat.le_of_ble_eq_true rfl)⟩ ⟨(Nat.le_of_ble_eq_true rfl), (Nat.le_of_ble_eq_true rfl)⟩ (Nat.le_of_ble_eq_true rfl) (fun r1 h1 q1 => ?_)
          rw [if_pos (by simp [vi, hm3] at hr; omega)] at q1
          obtain ⟨rfl, hb1, o1⟩ := q1
          refine T_pop (pc := 53) d_TaggedFormat_writeVarint_53 rfl ?_
          refine T_vret (pc := 54) d_TaggedFormat_writeVarint_54 rfl rfl (Nat.le_refl _) ?_
          rw [lN_i] at hb1
          refine hQ _ ?_ o1
          simpa [vi, hm3] using hb1
        · exact absurd ((lg_cmp_eq _ _).mpr (by rw [e1]; rfl)) q18
    · have e1 : ¬ lN (m / 128) = 0 := fun e => by
        have := (pk_lEQ (a := m / 128) (b := 0) (by omega) (by decide)).mp e
        omega
      have hv : vi (k + 1) m = nI (m % 128 + 128) :: vi k (m / 128) := by rw [vi, if_neg hm3]
      rw [hv] at hr hQ
      simp only [List.length_cons] at hr
      refine T_iload (pc := 5) d_TaggedFormat_writeVarint_5 rfl ?_
      refine T_bipush (v := 10) (pc := 7) d_TaggedFormat_writeVarint_7 rfl ?_
      refine T_icmp_ge (tgt := 47) (pc := 9) d_TaggedFormat_writeVarint_9 (by decide) (fun q9 => ?_) (fun q9 => ?_)
      · first | exact absurd q9 (nI_ge (b := 10) (by omega) (by decide)) | exact absurd ((lg_cmp_eq _ _).mp q18) e1
      · refine T_lload_n (pc := 12) d_TaggedFormat_writeVarint_12 rfl ?_
        refine T_bipush (v := 7) (pc := 13) d_TaggedFormat_writeVarint_13 rfl ?_
        refine T_lushr (pc := 15) d_TaggedFormat_writeVarint_15 ?_
        rw [lush7 hm2]
        refine T_lconst (v := 0) (pc := 16) d_TaggedFormat_writeVarint_16 rfl ?_
        refine T_lcmp (pc := 17) d_TaggedFormat_writeVarint_17 ?_
        refine T_if_eq (tgt := 47) (pc := 18) d_TaggedFormat_writeVarint_18 (by decide) (fun q18 => ?_) (fun q18 => ?_)
        · first | exact absurd q9 (nI_ge (b := 10) (by omega) (by decide)) | exact absurd ((lg_cmp_eq _ _).mp q18) e1
        · refine T_aload_n (pc := 21) d_TaggedFormat_writeVarint_21 rfl ?_
          refine T_lload_n (pc := 22) d_TaggedFormat_writeVarint_22 rfl ?_
          refine T_ldc2 (pc := 23) d_TaggedFormat_writeVarint_23 (Ws_at (i := 7) (k := 41) rfl rfl) ?_
          refine T_land (pc := 26) d_TaggedFormat_writeVarint_26 ?_
          refine T_l2i (pc := 27) d_TaggedFormat_writeVarint_27 ?_
          refine T_sipush (v := 128) (pc := 28) d_TaggedFormat_writeVarint_28 rfl ?_
          refine T_iadd (pc := 31) d_TaggedFormat_writeVarint_31 ?_
          rw [land127 hm2, lN_i, show nI (m % 128) + 128 = nI (m % 128 + 128) from nI_add _ 128]
          refine T_ivV (pc := 32) d_TaggedFormat_writeVarint_32 sI_TaggedFormat_68 (c_Bytes_append hb hc) hb.obj rfl rfl ⟨(Nat.le_of_ble_eq_true rfl), (Nat.le_of_ble_eq_true rfl)⟩ ⟨(Nat.le_of_ble_eq_true rfl), (Nat.le_of_ble_eq_true rfl)⟩ (Nat.le_of_ble_eq_true rfl) (fun r1 h1 q1 => ?_)
          rw [if_pos (by omega)] at q1
          obtain ⟨rfl, hb1, o1⟩ := q1
          refine T_pop (pc := 35) d_TaggedFormat_writeVarint_35 rfl ?_
          refine T_lload_n (pc := 36) d_TaggedFormat_writeVarint_36 rfl ?_
          refine T_bipush (v := 7) (pc := 37) d_TaggedFormat_writeVarint_37 rfl ?_
          refine T_lushr (pc := 39) d_TaggedFormat_writeVarint_39 ?_
          rw [lush7 hm2]
          refine T_lstore_n (pc := 40) d_TaggedFormat_writeVarint_40 rfl (Nat.le_of_ble_eq_true rfl) rfl ?_
          refine T_iinc (pc := 41) d_TaggedFormat_writeVarint_41 rfl (nI_1 i) (Nat.le_of_ble_eq_true rfl) rfl ?_
          refine T_goto (tgt := 5) (pc := 44) d_TaggedFormat_writeVarint_44 (by decide) ?_
          refine ih (i + 1) (m / 128) h1 _ (by omega) ?_ (by omega) hb1 (by simp; omega) (fun h' g' o' => hQ h' (by simpa using g') (fun q z1 z2 => (o' q z1 z2).trans (o1 q z1 z2)))
          rw [Nat.pow_succ] at hm
          exact Nat.div_lt_of_lt_mul (by rw [Nat.mul_comm]; exact hm)
set_option maxRecDepth 100000 in
set_option maxHeartbeats 4000000 in
theorem c_TaggedFormat_writeVarint {n a cap m : Nat} {h : aH} {l : List Int32} (hc : cap < 2 ^ 31) (hm : m < 2 ^ 35) (hb : By h a cap l) (hr : l.length + (vi 4 m).length ≤ cap) : Con M_TaggedFormat_writeVarint 1 0 0 n [.long (lN m), .ref a] h (fun r h' => r = none ∧ By h' a cap (l ++ vi 4 m) ∧ ∀ q, q ≠ a → q ≠ a + 1 → h' q = h q) := by
  refine Con.of rfl (Nat.le_of_ble_eq_true rfl) ?_
  refine T_lload_n (pc := 0) d_TaggedFormat_writeVarint_0 rfl ?_
  refine T_lstore_n (pc := 1) d_TaggedFormat_writeVarint_1 rfl (Nat.le_of_ble_eq_true rfl) rfl ?_
  refine T_iconst (v := 1) (pc := 2) d_TaggedFormat_writeVarint_2 rfl ?_
  refine T_istore (pc := 3) d_TaggedFormat_writeVarint_3 (Nat.le_of_ble_eq_true rfl) rfl ?_
  exact c_TaggedFormat_writeVarint_loop hc 4 1 m h l (by decide) (by omega) (by omega) hb hr (fun h' g' o' => ⟨rfl, g', o'⟩)
def u32 (v : Int32) : Nat := v.toBitVec.toNat
theorem u32_lt (v : Int32) : u32 v < 2 ^ 32 := v.toBitVec.isLt
def zig (v : Int32) : Nat := (if v < 0 then -2 * v.toInt - 1 else 2 * v.toInt).toNat
theorem lN_of {x : Int64} {m : Nat} (h : x.toInt = (m : Int)) (hm : m < 2 ^ 63) : x = lN m := Int64.toInt_inj.mp (by rw [h, pk_lT hm])
theorem i32_rng (v : Int32) : -2147483648 ≤ v.toInt ∧ v.toInt ≤ 2147483647 := ⟨Int32.le_toInt v, Int32.toInt_le v⟩
theorem zig_lt (v : Int32) : zig v < 2 ^ 32 := by
  have := i32_rng v
  unfold zig
  split <;> omega
theorem zig_p {v : Int32} (h : ¬ v < 0) : (2 : Int64) * v.toInt64 = lN (zig v) := by
  have h1 := i32_rng v
  have h0 : 0 ≤ v.toInt := by
    have := Int32.le_iff_toInt_le.mp (Int32.not_lt.mp h)
    simpa using this
  have e : zig v = (2 * v.toInt).toNat := by rw [zig, if_neg h]
  refine lN_of ?_ (by rw [e]; omega)
  rw [Int64.toInt_mul, Int32.toInt_toInt64, e, show (2 : Int64).toInt = 2 from rfl, Int.bmod_eq_of_le (by omega) (by omega)]
  omega
theorem zig_n {v : Int32} (h : v < 0) : (-2 : Int64) * v.toInt64 - 1 = lN (zig v) := by
  have h1 := i32_rng v
  have h0 : v.toInt < 0 := by
    have := Int32.lt_iff_toInt_lt.mp h
    simpa using this
  have e : zig v = (-2 * v.toInt - 1).toNat := by rw [zig, if_pos h]
  refine lN_of ?_ (by rw [e]; omega)
  rw [Int64.toInt_sub, Int64.toInt_mul, Int32.toInt_toInt64, e, show (-2 : Int64).toInt = -2 from rfl, show (1 : Int64).toInt = 1 from rfl, Int.bmod_eq_of_le (n := -2 * v.toInt) (by omega) (by omega), Int.bmod_eq_of_le (by omega) (by omega)]
  omega
theorem u32_and (v : Int32) : v.toInt64 &&& 4294967295 = lN (u32 v) := by
  apply Int64.toBitVec_inj.mp
  apply BitVec.eq_of_toNat_eq
  rw [wb_tn (by have := u32_lt v; omega), Int64.toBitVec_and]
  show (v.toInt64.toBitVec &&& BitVec.ofNat 64 4294967295).toNat = _
  rw [BitVec.toNat_and, show (BitVec.ofNat 64 4294967295).toNat = 2 ^ 32 - 1 from rfl, Nat.and_two_pow_sub_one_eq_mod]
  show (v.toBitVec.signExtend 64).toNat % 2 ^ 32 = v.toBitVec.toNat
  rw [BitVec.toNat_signExtend]
  have hlt := v.toBitVec.isLt
  split
  · simp
    omega
  · simp
    omega
def wInt (k : Nat) (v : Int32) : List Int32 := if k = 2 then wby (swp v) else if k = 1 then vi 4 (zig v) else vi 4 (u32 v)
theorem wInt_len (k : Nat) (v : Int32) : (wInt k v).length ≤ 5 := by
  unfold wInt
  split
  · simp [wby_len]
  · split <;> exact vi_len 4 _
set_option maxRecDepth 100000 in
set_option maxHeartbeats 4000000 in
theorem c_TaggedFormat_writeInt {n a cap k : Nat} {v : Int32} {h : aH} {l : List Int32} (hc : cap < 2 ^ 31) (hk : k ≤ 3) (hb : By h a cap l) (hr : l.length + (wInt k v).length ≤ cap) : Con M_TaggedFormat_writeInt 2 0 0 n [.int (nI k), .int v, .ref a] h (fun r h' => r = none ∧ By h' a cap (l ++ wInt k v) ∧ ∀ q, q ≠ a → q ≠ a + 1 → h' q = h q) := by
  refine Con.of rfl (Nat.le_of_ble_eq_true rfl) ?_
  refine T_iload_n (pc := 0) d_TaggedFormat_writeInt_0 rfl ?_
  rcases (show k = 0 ∨ k = 1 ∨ k = 2 ∨ k = 3 by omega) with rfl | rfl | rfl | rfl
  · refine T_lookup (tgt := 67) (pc := 1) d_TaggedFormat_writeInt_1 (by decide) (off := 66) (by decide) (by decide) ?_
    refine T_iload_n (pc := 67) d_TaggedFormat_writeInt_67 rfl ?_
    refine T_i2l (pc := 68) d_TaggedFormat_writeInt_68 ?_
    refine T_ldc2 (pc := 69) d_TaggedFormat_writeInt_69 (Ws_at (i := 7) (k := 40) rfl rfl) ?_
    refine T_land (pc := 72) d_TaggedFormat_writeInt_72 ?_
    rw [u32_and]
    refine T_aload_n (pc := 73) d_TaggedFormat_writeInt_73 rfl ?_
    refine T_ivS (pc := 74) d_TaggedFormat_writeInt_74 sI_TaggedFormat_38 (c_TaggedFormat_writeVarint (m := u32 v) hc (by have := u32_lt v; omega) hb hr) rfl rfl ⟨(Nat.le_of_ble_eq_true rfl), (Nat.le_of_ble_eq_true rfl)⟩ ⟨(Nat.le_of_ble_eq_true rfl), (Nat.le_of_ble_eq_true rfl)⟩ (Nat.le_of_ble_eq_true rfl) (fun r1 h1 q1 => ?_)
    obtain ⟨rfl, hb1, o1⟩ := q1
    refine T_vret (pc := 77) d_TaggedFormat_writeInt_77 rfl rfl (Nat.le_refl _) ?_
    exact ⟨rfl, hb1, o1⟩
  · refine T_lookup (tgt := 39) (pc := 1) d_TaggedFormat_writeInt_1 (by decide) (off := 38) (by decide) (by decide) ?_
    refine T_iload_n (pc := 39) d_TaggedFormat_writeInt_39 rfl ?_
    refine T_if_lt (tgt := 52) (pc := 40) d_TaggedFormat_writeInt_40 (by decide) (fun q40 => ?_) (fun q40 => ?_)
    · refine T_ldc2 (pc := 52) d_TaggedFormat_writeInt_52 (Ws_at (i := 7) (k := 39) rfl rfl) ?_
      refine T_iload_n (pc := 55) d_TaggedFormat_writeInt_55 rfl ?_
      refine T_i2l (pc := 56) d_TaggedFormat_writeInt_56 ?_
      refine T_lmul (pc := 57) d_TaggedFormat_writeInt_57 ?_
      refine T_lconst (v := 1) (pc := 58) d_TaggedFormat_writeInt_58 rfl ?_
      refine T_lsub (pc := 59) d_TaggedFormat_writeInt_59 ?_
      rw [zig_n q40]
      refine T_aload_n (pc := 60) d_TaggedFormat_writeInt_60 rfl ?_
      refine T_ivS (pc := 61) d_TaggedFormat_writeInt_61 sI_TaggedFormat_38 (c_TaggedFormat_writeVarint (m := zig v) hc (by have := zig_lt v; omega) hb hr) rfl rfl ⟨(Nat.le_of_ble_eq_true rfl), (Nat.le_of_ble_eq_true rfl)⟩ ⟨(Nat.le_of_ble_eq_true rfl), (Nat.le_of_ble_eq_true rfl)⟩ (Nat.le_of_ble_eq_true rfl) (fun r1 h1 q1 => ?_)
      obtain ⟨rfl, hb1, o1⟩ := q1
      refine T_goto (tgt := 77) (pc := 64) d_TaggedFormat_writeInt_64 (by decide) ?_
      refine T_vret (pc := 77) d_TaggedFormat_writeInt_77 rfl rfl (Nat.le_refl _) ?_
      exact ⟨rfl, hb1, o1⟩
    · refine T_ldc2 (pc := 43) d_TaggedFormat_writeInt_43 (Ws_at (i := 7) (k := 38) rfl rfl) ?_
      refine T_iload_n (pc := 46) d_TaggedFormat_writeInt_46 rfl ?_
      refine T_i2l (pc := 47) d_TaggedFormat_writeInt_47 ?_
      refine T_lmul (pc := 48) d_TaggedFormat_writeInt_48 ?_
      rw [zig_p q40]
      refine T_goto (tgt := 60) (pc := 49) d_TaggedFormat_writeInt_49 (by decide) ?_
      refine T_aload_n (pc := 60) d_TaggedFormat_writeInt_60 rfl ?_
      refine T_ivS (pc := 61) d_TaggedFormat_writeInt_61 sI_TaggedFormat_38 (c_TaggedFormat_writeVarint (m := zig v) hc (by have := zig_lt v; omega) hb hr) rfl rfl ⟨(Nat.le_of_ble_eq_true rfl), (Nat.le_of_ble_eq_true rfl)⟩ ⟨(Nat.le_of_ble_eq_true rfl), (Nat.le_of_ble_eq_true rfl)⟩ (Nat.le_of_ble_eq_true rfl) (fun r1 h1 q1 => ?_)
      obtain ⟨rfl, hb1, o1⟩ := q1
      refine T_goto (tgt := 77) (pc := 64) d_TaggedFormat_writeInt_64 (by decide) ?_
      refine T_vret (pc := 77) d_TaggedFormat_writeInt_77 rfl rfl (Nat.le_refl _) ?_
      exact ⟨rfl, hb1, o1⟩
  · refine T_lookup (tgt := 28) (pc := 1) d_TaggedFormat_writeInt_1 (by decide) (off := 27) (by decide) (by decide) ?_
    refine T_aload_n (pc := 28) d_TaggedFormat_writeInt_28 rfl ?_
    refine T_iload_n (pc := 29) d_TaggedFormat_writeInt_29 rfl ?_
    refine T_ivS (pc := 30) d_TaggedFormat_writeInt_30 sI_TaggedFormat_49 (c_Bytes_swapped) rfl rfl ⟨(Nat.le_of_ble_eq_true rfl), (Nat.le_of_ble_eq_true rfl)⟩ ⟨(Nat.le_of_ble_eq_true rfl), (Nat.le_of_ble_eq_true rfl)⟩ (Nat.le_of_ble_eq_true rfl) (fun r0 h0 q0 => ?_)
    obtain ⟨rfl, e0⟩ := q0
    rw [e0]
    refine T_ivV (pc := 33) d_TaggedFormat_writeInt_33 sI_TaggedFormat_54 (c_Bytes_appendWord hb hc hr) hb.obj rfl rfl ⟨(Nat.le_of_ble_eq_true rfl), (Nat.le_of_ble_eq_true rfl)⟩ ⟨(Nat.le_of_ble_eq_true rfl), (Nat.le_of_ble_eq_true rfl)⟩ (Nat.le_of_ble_eq_true rfl) (fun r1 h1 q1 => ?_)
    obtain ⟨rfl, hb1, o1⟩ := q1
    refine T_goto (tgt := 77) (pc := 36) d_TaggedFormat_writeInt_36 (by decide) ?_
    refine T_vret (pc := 77) d_TaggedFormat_writeInt_77 rfl rfl (Nat.le_refl _) ?_
    exact ⟨rfl, hb1, o1⟩
  · refine T_lookup (tgt := 67) (pc := 1) d_TaggedFormat_writeInt_1 (by decide) (off := 66) (by decide) (by decide) ?_
    refine T_iload_n (pc := 67) d_TaggedFormat_writeInt_67 rfl ?_
    refine T_i2l (pc := 68) d_TaggedFormat_writeInt_68 ?_
    refine T_ldc2 (pc := 69) d_TaggedFormat_writeInt_69 (Ws_at (i := 7) (k := 40) rfl rfl) ?_
    refine T_land (pc := 72) d_TaggedFormat_writeInt_72 ?_
    rw [u32_and]
    refine T_aload_n (pc := 73) d_TaggedFormat_writeInt_73 rfl ?_
    refine T_ivS (pc := 74) d_TaggedFormat_writeInt_74 sI_TaggedFormat_38 (c_TaggedFormat_writeVarint (m := u32 v) hc (by have := u32_lt v; omega) hb hr) rfl rfl ⟨(Nat.le_of_ble_eq_true rfl), (Nat.le_of_ble_eq_true rfl)⟩ ⟨(Nat.le_of_ble_eq_true rfl), (Nat.le_of_ble_eq_true rfl)⟩ (Nat.le_of_ble_eq_true rfl) (fun r1 h1 q1 => ?_)
    obtain ⟨rfl, hb1, o1⟩ := q1
    refine T_vret (pc := 77) d_TaggedFormat_writeInt_77 rfl rfl (Nat.le_refl _) ?_
    exact ⟨rfl, hb1, o1⟩
end
section
/-! OnceWire$TaggedFormat.write. -/
def encT1 (t : Sf) (x : Int32) : List Int32 := if x ≠ 0 ∨ t.2.2 = true then vi 4 (keyN t) ++ wInt t.2.1 x else []
def encT : List Sf → List (List Int32) → List Int32
  | t :: ts, w :: us => w.flatMap (encT1 t) ++ encT ts us
  | _, _ => []
theorem keyN_lt {t : Sf} (h : t.1 ≤ 30) : keyN t < 256 := by
  unfold keyN
  split <;> omega
set_option maxRecDepth 100000 in
set_option maxHeartbeats 4000000 in
theorem c_TaggedFormat_write_in {n fm v sa a cap : Nat} {ns : List Sf} {vs : List (List Int32)} (hc : cap < 2 ^ 31) (d1 : sa + 4 < v) (d2 : v + 2 < a) (d3 : fm ≠ a) (d4 : fm ≠ a + 1) {i : Nat} {t : Sf} {w : List Int32} {Z : aZ} (ht : ns[i]? = some t) (hw : vs[i]? = some w) : ∀ (us : List Int32) (j : Nat) (h : aH) (l : List Int32), w.drop j = us → j ≤ w.length → h fm = some (.inr (7, [.ref sa])) → Sc h sa ns → Va h v sa ns vs → By h a cap l → l.length + (us.flatMap (encT1 t)).length ≤ cap → (∀ h', By h' a cap (l ++ us.flatMap (encT1 t)) → (∀ q, q ≠ a → q ≠ a + 1 → h' q = h q) → Tri M_TaggedFormat_write (a_rm 3 0 0) Z 88 [(5, .int (nI w.length)), (4, .int (nI w.length)), (3, .int (nI i)), (0, .ref fm), (1, .ref v), (2, .ref a)] [] n h' 0 0) → Tri M_TaggedFormat_write (a_rm 3 0 0) Z 23 [(5, .int (nI j)), (4, .int (nI w.length)), (3, .int (nI i)), (0, .ref fm), (1, .ref v), (2, .ref a)] [] n h 0 0 := by
  intro us
  induction us with
  | nil =>
    intro j h l hus hj hF hs hv hb hr hK
    have hw4 := hv.le4 ht hw
    have hj2 : j = w.length := by
      have := List.drop_eq_nil_iff.mp hus
      omega
    subst hj2
    refine T_iload (pc := 23) d_TaggedFormat_write_23 rfl ?_
    refine T_iload (pc := 25) d_TaggedFormat_write_25 rfl ?_
    refine T_icmp_ge (tgt := 88) (pc := 27) d_TaggedFormat_write_27 (by decide) (fun q27 => ?_) (fun q27 => ?_)
    · exact hK h (by simpa using hb) (fun _ _ _ => rfl)
    · exact absurd (nI_le (Nat.le_refl _) (by omega)) q27
  | cons x us ih =>
    intro j h l hus hj hF hs hv hb hr hK
    have hw4 := hv.le4 ht hw
    have hrg := hs.rng ht
    have hkey := keyN_lt hrg.2.1
    have hj2 : j < w.length := by
      have := congrArg List.length hus
      simp at this
      omega
    have hx : w[j]? = some x := by
      have := congrArg (fun l => l[0]?) hus
      simpa using this
    have hus2 : w.drop (j + 1) = us := by
      rw [← List.drop_drop, hus]
      rfl
    rw [List.flatMap_cons] at hr hK
    rw [List.length_append] at hr
    refine T_iload (pc := 23) d_TaggedFormat_write_23 rfl ?_
    refine T_iload (pc := 25) d_TaggedFormat_write_25 rfl ?_
    refine T_icmp_ge (tgt := 88) (pc := 27) d_TaggedFormat_write_27 (by decide) (fun q27 => ?_) (fun q27 => ?_)
    · exact absurd q27 (nI_ge hj2 (by omega))
    · refine T_aload_n (pc := 30) d_TaggedFormat_write_30 rfl ?_
      refine T_iload_n (pc := 31) d_TaggedFormat_write_31 rfl ?_
      refine T_iload (pc := 32) d_TaggedFormat_write_32 rfl ?_
      refine T_ivV (pc := 34) d_TaggedFormat_write_34 sI_TaggedFormat_27 (c_Value_intOf hs hv ht hw hx) hv.obj rfl rfl ⟨(Nat.le_of_ble_eq_true rfl), (Nat.le_of_ble_eq_true rfl)⟩ ⟨(Nat.le_of_ble_eq_true rfl), (Nat.le_of_ble_eq_true rfl)⟩ (Nat.le_of_ble_eq_true rfl) (fun r1 h1 q1 => ?_)
      obtain ⟨rfl, e1⟩ := q1
      rw [e1]
      refine T_istore (pc := 37) d_TaggedFormat_write_37 (Nat.le_of_ble_eq_true rfl) rfl ?_
      refine T_iload (pc := 39) d_TaggedFormat_write_39 rfl ?_
      refine T_if_ne (tgt := 55) (pc := 41) d_TaggedFormat_write_41 (by decide) (fun q41 => ?_) (fun q41 => ?_)
      · have hon : x ≠ 0 ∨ t.2.2 = true := Or.inl q41
        have he : encT1 t x = vi 4 (keyN t) ++ wInt t.2.1 x := if_pos hon
        rw [he] at hr hK
        rw [List.length_append] at hr
        refine T_aload_n (pc := 55) d_TaggedFormat_write_55 rfl ?_
        refine T_get (pc := 56) d_TaggedFormat_write_56 sF_TaggedFormat_9_TaggedFormat hF rfl ?_
        refine T_iload_n (pc := 59) d_TaggedFormat_write_59 rfl ?_
        refine T_ivV (pc := 60) d_TaggedFormat_write_60 sI_TaggedFormat_35 (c_Schema_keyOf hs ht) hs.obj rfl rfl ⟨(Nat.le_of_ble_eq_true rfl), (Nat.le_of_ble_eq_true rfl)⟩ ⟨(Nat.le_of_ble_eq_true rfl), (Nat.le_of_ble_eq_true rfl)⟩ (Nat.le_of_ble_eq_true rfl) (fun r3 h3 q3 => ?_)
        obtain ⟨rfl, e3⟩ := q3
        rw [e3]
        refine T_i2l (pc := 63) d_TaggedFormat_write_63 ?_
        rw [nI_l (by omega)]
        refine T_aload_n (pc := 64) d_TaggedFormat_write_64 rfl ?_
        refine T_ivS (pc := 65) d_TaggedFormat_write_65 sI_TaggedFormat_38 (c_TaggedFormat_writeVarint (m := keyN t) hc (by omega) hb (by omega)) rfl rfl ⟨(Nat.le_of_ble_eq_true rfl), (Nat.le_of_ble_eq_true rfl)⟩ ⟨(Nat.le_of_ble_eq_true rfl), (Nat.le_of_ble_eq_true rfl)⟩ (Nat.le_of_ble_eq_true rfl) (fun r4 h4 q4 => ?_)
        obtain ⟨rfl, hb4, o4⟩ := q4
        have hs4 := hs.same (h' := h4) (fun q z1 z2 => o4 q (by omega) (by omega))
        have hF4 := (o4 fm d3 d4).trans hF
        refine T_aload_n (pc := 68) d_TaggedFormat_write_68 rfl ?_
        refine T_get (pc := 69) d_TaggedFormat_write_69 sF_TaggedFormat_9_TaggedFormat hF4 rfl ?_
        refine T_iload_n (pc := 72) d_TaggedFormat_write_72 rfl ?_
        refine T_ivV (pc := 73) d_TaggedFormat_write_73 sI_TaggedFormat_42 (c_Schema_kindOf hs4 ht) hs4.obj rfl rfl ⟨(Nat.le_of_ble_eq_true rfl), (Nat.le_of_ble_eq_true rfl)⟩ ⟨(Nat.le_of_ble_eq_true rfl), (Nat.le_of_ble_eq_true rfl)⟩ (Nat.le_of_ble_eq_true rfl) (fun r5 h5 q5 => ?_)
        obtain ⟨rfl, e5⟩ := q5
        rw [e5]
        refine T_iload (pc := 76) d_TaggedFormat_write_76 rfl ?_
        refine T_aload_n (pc := 78) d_TaggedFormat_write_78 rfl ?_
        refine T_ivS (pc := 79) d_TaggedFormat_write_79 sI_TaggedFormat_45 (c_TaggedFormat_writeInt hc hrg.2.2 hb4 (by rw [List.length_append]; omega)) rfl rfl ⟨(Nat.le_of_ble_eq_true rfl), (Nat.le_of_ble_eq_true rfl)⟩ ⟨(Nat.le_of_ble_eq_true rfl), (Nat.le_of_ble_eq_true rfl)⟩ (Nat.le_of_ble_eq_true rfl) (fun r6 h6 q6 => ?_)
        obtain ⟨rfl, hb6, o6⟩ := q6
        have o7 : ∀ q, q ≠ a → q ≠ a + 1 → h6 q = h q := fun q z1 z2 => (o6 q z1 z2).trans (o4 q z1 z2)
        refine T_iinc (pc := 82) d_TaggedFormat_write_82 rfl (nI_1 j) (Nat.le_of_ble_eq_true rfl) rfl ?_
        refine T_goto (tgt := 23) (pc := 85) d_TaggedFormat_write_85 (by decide) (T_loc [0, 2, 3, 4, 5, 6] rfl ?_)
        rw [List.append_assoc] at hb6
        refine ih (j + 1) h6 _ hus2 (by omega) ((o7 fm d3 d4).trans hF) (hs.same (fun q z1 z2 => o7 q (by omega) (by omega))) (hv.same (fun q z1 z2 => o7 q (by omega) (by omega))) hb6 (by simp only [List.length_append]; omega) (fun h' g' o' => hK h' (by rw [← List.append_assoc]; exact g') (fun q z1 z2 => (o' q z1 z2).trans (o7 q z1 z2)))
      · refine T_aload_n (pc := 44) d_TaggedFormat_write_44 rfl ?_
        refine T_get (pc := 45) d_TaggedFormat_write_45 sF_TaggedFormat_9_TaggedFormat hF rfl ?_
        refine T_iload_n (pc := 48) d_TaggedFormat_write_48 rfl ?_
        refine T_ivV (pc := 49) d_TaggedFormat_write_49 sI_TaggedFormat_31 (c_Schema_isRepeated hs ht) hs.obj rfl rfl ⟨(Nat.le_of_ble_eq_true rfl), (Nat.le_of_ble_eq_true rfl)⟩ ⟨(Nat.le_of_ble_eq_true rfl), (Nat.le_of_ble_eq_true rfl)⟩ (Nat.le_of_ble_eq_true rfl) (fun r2 h2 q2 => ?_)
        obtain ⟨rfl, e2⟩ := q2
        rw [e2]
        refine T_if_eq (tgt := 82) (pc := 52) d_TaggedFormat_write_52 (by decide) (fun q52 => ?_) (fun q52 => ?_)
        · refine T_iinc (pc := 82) d_TaggedFormat_write_82 rfl (nI_1 j) (Nat.le_of_ble_eq_true rfl) rfl ?_
          refine T_goto (tgt := 23) (pc := 85) d_TaggedFormat_write_85 (by decide) (T_loc [0, 2, 3, 4, 5, 6] rfl ?_)
          have hoff : ¬ (x ≠ 0 ∨ t.2.2 = true) := by
            rintro (q | q)
            · exact q q41
            · rw [q] at q52
              exact absurd q52 (by decide)
          have he : encT1 t x = [] := if_neg hoff
          rw [he] at hr hK
          exact ih (j + 1) h l hus2 (by omega) hF hs hv hb (by simpa using hr) (by simpa using hK)
        · have hon : x ≠ 0 ∨ t.2.2 = true := Or.inr (by cases hbb : t.2.2 <;> simp_all [bI])
          have he : encT1 t x = vi 4 (keyN t) ++ wInt t.2.1 x := if_pos hon
          rw [he] at hr hK
          rw [List.length_append] at hr
          refine T_aload_n (pc := 55) d_TaggedFormat_write_55 rfl ?_
          refine T_get (pc := 56) d_TaggedFormat_write_56 sF_TaggedFormat_9_TaggedFormat hF rfl ?_
          refine T_iload_n (pc := 59) d_TaggedFormat_write_59 rfl ?_
          refine T_ivV (pc := 60) d_TaggedFormat_write_60 sI_TaggedFormat_35 (c_Schema_keyOf hs ht) hs.obj rfl rfl ⟨(Nat.le_of_ble_eq_true rfl), (Nat.le_of_ble_eq_true rfl)⟩ ⟨(Nat.le_of_ble_eq_true rfl), (Nat.le_of_ble_eq_true rfl)⟩ (Nat.le_of_ble_eq_true rfl) (fun r3 h3 q3 => ?_)
          obtain ⟨rfl, e3⟩ := q3
          rw [e3]
          refine T_i2l (pc := 63) d_TaggedFormat_write_63 ?_
          rw [nI_l (by omega)]
          refine T_aload_n (pc := 64) d_TaggedFormat_write_64 rfl ?_
          refine T_ivS (pc := 65) d_TaggedFormat_write_65 sI_TaggedFormat_38 (c_TaggedFormat_writeVarint (m := keyN t) hc (by omega) hb (by omega)) rfl rfl ⟨(Nat.le_of_ble_eq_true rfl), (Nat.le_of_ble_eq_true rfl)⟩ ⟨(Nat.le_of_ble_eq_true rfl), (Nat.le_of_ble_eq_true rfl)⟩ (Nat.le_of_ble_eq_true rfl) (fun r4 h4 q4 => ?_)
          obtain ⟨rfl, hb4, o4⟩ := q4
          have hs4 := hs.same (h' := h4) (fun q z1 z2 => o4 q (by omega) (by omega))
          have hF4 := (o4 fm d3 d4).trans hF
          refine T_aload_n (pc := 68) d_TaggedFormat_write_68 rfl ?_
          refine T_get (pc := 69) d_TaggedFormat_write_69 sF_TaggedFormat_9_TaggedFormat hF4 rfl ?_
          refine T_iload_n (pc := 72) d_TaggedFormat_write_72 rfl ?_
          refine T_ivV (pc := 73) d_TaggedFormat_write_73 sI_TaggedFormat_42 (c_Schema_kindOf hs4 ht) hs4.obj rfl rfl ⟨(Nat.le_of_ble_eq_true rfl), (Nat.le_of_ble_eq_true rfl)⟩ ⟨(Nat.le_of_ble_eq_true rfl), (Nat.le_of_ble_eq_true rfl)⟩ (Nat.le_of_ble_eq_true rfl) (fun r5 h5 q5 => ?_)
          obtain ⟨rfl, e5⟩ := q5
          rw [e5]
          refine T_iload (pc := 76) d_TaggedFormat_write_76 rfl ?_
          refine T_aload_n (pc := 78) d_TaggedFormat_write_78 rfl ?_
          refine T_ivS (pc := 79) d_TaggedFormat_write_79 sI_TaggedFormat_45 (c_TaggedFormat_writeInt hc hrg.2.2 hb4 (by rw [List.length_append]; omega)) rfl rfl ⟨(Nat.le_of_ble_eq_true rfl), (Nat.le_of_ble_eq_true rfl)⟩ ⟨(Nat.le_of_ble_eq_true rfl), (Nat.le_of_ble_eq_true rfl)⟩ (Nat.le_of_ble_eq_true rfl) (fun r6 h6 q6 => ?_)
          obtain ⟨rfl, hb6, o6⟩ := q6
          have o7 : ∀ q, q ≠ a → q ≠ a + 1 → h6 q = h q := fun q z1 z2 => (o6 q z1 z2).trans (o4 q z1 z2)
          refine T_iinc (pc := 82) d_TaggedFormat_write_82 rfl (nI_1 j) (Nat.le_of_ble_eq_true rfl) rfl ?_
          refine T_goto (tgt := 23) (pc := 85) d_TaggedFormat_write_85 (by decide) (T_loc [0, 2, 3, 4, 5, 6] rfl ?_)
          rw [List.append_assoc] at hb6
          refine ih (j + 1) h6 _ hus2 (by omega) ((o7 fm d3 d4).trans hF) (hs.same (fun q z1 z2 => o7 q (by omega) (by omega))) (hv.same (fun q z1 z2 => o7 q (by omega) (by omega))) hb6 (by simp only [List.length_append]; omega) (fun h' g' o' => hK h' (by rw [← List.append_assoc]; exact g') (fun q z1 z2 => (o' q z1 z2).trans (o7 q z1 z2)))
set_option maxRecDepth 100000 in
set_option maxHeartbeats 4000000 in
theorem c_TaggedFormat_write_out {n fm v sa a cap : Nat} {ns : List Sf} {vs : List (List Int32)} (hc : cap < 2 ^ 31) (d1 : sa + 4 < v) (d2 : v + 2 < a) (d3 : fm ≠ a) (d4 : fm ≠ a + 1) {Q : aQ} : ∀ (ts : List Sf) (us : List (List Int32)) (i : Nat) (h : aH) (l : List Int32), ns.drop i = ts → vs.drop i = us → i ≤ ns.length → h fm = some (.inr (7, [.ref sa])) → Sc h sa ns → Va h v sa ns vs → By h a cap l → l.length + (encT ts us).length ≤ cap → (∀ h', By h' a cap (l ++ encT ts us) → (∀ q, q ≠ a → q ≠ a + 1 → h' q = h q) → Q none h') → Tri M_TaggedFormat_write (a_rm 3 0 0) (a_Z 0 0 Q) 2 [(3, .int (nI i)), (0, .ref fm), (1, .ref v), (2, .ref a)] [] n h 0 0 := by
  intro ts
  induction ts with
  | nil =>
    intro us i h l hts hus hi hF hs hv hb hr hQ
    have hle := hs.le
    have hi2 : ns.length ≤ i := List.drop_eq_nil_iff.mp hts
    refine T_iload_n (pc := 2) d_TaggedFormat_write_2 rfl ?_
    refine T_aload_n (pc := 3) d_TaggedFormat_write_3 rfl ?_
    refine T_get (pc := 4) d_TaggedFormat_write_4 sF_TaggedFormat_9_TaggedFormat hF rfl ?_
    refine T_get (pc := 7) d_TaggedFormat_write_7 sF_TaggedFormat_15_Schema hs.obj rfl ?_
    refine T_icmp_ge (tgt := 94) (pc := 10) d_TaggedFormat_write_10 (by decide) (fun q10 => ?_) (fun q10 => ?_)
    · refine T_vret (pc := 94) d_TaggedFormat_write_94 rfl rfl (Nat.le_refl _) ?_
      exact hQ h (by simpa [encT] using hb) (fun _ _ _ => rfl)
    · exact absurd (nI_le hi2 (by omega)) q10
  | cons t ts ih =>
    intro us i h l hts hus hi hF hs hv hb hr hQ
    have hle := hs.le
    have hvl : vs.length = ns.length := hv.1
    have hi2 : i < ns.length := by
      have := congrArg List.length hts
      simp at this
      omega
    have ht : ns[i]? = some t := by
      have := congrArg (fun l => l[0]?) hts
      simpa using this
    obtain ⟨w, hw⟩ : ∃ w, vs[i]? = some w := ⟨vs[i], List.getElem?_eq_getElem (by omega)⟩
    have hts2 : ns.drop (i + 1) = ts := by
      rw [← List.drop_drop, hts]
      rfl
    have hus2 : us = w :: vs.drop (i + 1) := by
      rw [← hus, List.drop_eq_getElem_cons (by omega)]
      rw [List.getElem?_eq_getElem (by omega)] at hw
      rw [Option.some.inj hw]
    rw [hus2] at hr hQ
    rw [encT] at hr hQ
    rw [List.length_append] at hr
    refine T_iload_n (pc := 2) d_TaggedFormat_write_2 rfl ?_
    refine T_aload_n (pc := 3) d_TaggedFormat_write_3 rfl ?_
    refine T_get (pc := 4) d_TaggedFormat_write_4 sF_TaggedFormat_9_TaggedFormat hF rfl ?_
    refine T_get (pc := 7) d_TaggedFormat_write_7 sF_TaggedFormat_15_Schema hs.obj rfl ?_
    refine T_icmp_ge (tgt := 94) (pc := 10) d_TaggedFormat_write_10 (by decide) (fun q10 => ?_) (fun q10 => ?_)
    · exact absurd q10 (nI_ge hi2 (by omega))
    · refine T_aload_n (pc := 13) d_TaggedFormat_write_13 rfl ?_
      refine T_iload_n (pc := 14) d_TaggedFormat_write_14 rfl ?_
      refine T_ivV (pc := 15) d_TaggedFormat_write_15 sI_TaggedFormat_21 (c_Value_countOf hs hv ht hw) hv.obj rfl rfl ⟨(Nat.le_of_ble_eq_true rfl), (Nat.le_of_ble_eq_true rfl)⟩ ⟨(Nat.le_of_ble_eq_true rfl), (Nat.le_of_ble_eq_true rfl)⟩ (Nat.le_of_ble_eq_true rfl) (fun r1 h1 q1 => ?_)
      obtain ⟨rfl, e1⟩ := q1
      rw [e1]
      refine T_istore (pc := 18) d_TaggedFormat_write_18 (Nat.le_of_ble_eq_true rfl) rfl ?_
      refine T_iconst (v := 0) (pc := 20) d_TaggedFormat_write_20 rfl ?_
      refine T_istore (pc := 21) d_TaggedFormat_write_21 (Nat.le_of_ble_eq_true rfl) rfl ?_
      refine c_TaggedFormat_write_in hc d1 d2 d3 d4 ht hw w 0 h l (List.drop_zero) (Nat.zero_le _) hF hs hv hb (by omega) (fun h4 hb4 o5 => ?_)
      refine T_iinc (pc := 88) d_TaggedFormat_write_88 rfl (nI_1 i) (Nat.le_of_ble_eq_true rfl) rfl ?_
      refine T_goto (tgt := 2) (pc := 91) d_TaggedFormat_write_91 (by decide) (T_loc [0, 3, 4, 5] rfl ?_)
      exact ih _ (i + 1) h4 _ hts2 rfl (by omega) ((o5 fm d3 d4).trans hF) (hs.same (fun q q1 q3 => o5 q (by omega) (by omega))) (hv.same (fun q q1 q3 => o5 q (by omega) (by omega))) hb4 (by simp only [List.length_append]; omega) (fun h' g' o' => hQ h' (by rw [← List.append_assoc]; exact g') (fun q z1 z2 => (o' q z1 z2).trans (o5 q z1 z2)))
set_option maxRecDepth 100000 in
set_option maxHeartbeats 4000000 in
theorem c_TaggedFormat_write {n fm v sa a cap : Nat} {ns : List Sf} {vs : List (List Int32)} (hc : cap < 2 ^ 31) (d1 : sa + 4 < v) (d2 : v + 2 < a) (d3 : fm ≠ a) (d4 : fm ≠ a + 1) {h : aH} {l : List Int32} (hF : h fm = some (.inr (7, [.ref sa]))) (hs : Sc h sa ns) (hv : Va h v sa ns vs) (hb : By h a cap l) (hr : l.length + (encT ns vs).length ≤ cap) : Con M_TaggedFormat_write 3 0 0 n [.ref fm, .ref v, .ref a] h (fun r h' => r = none ∧ By h' a cap (l ++ encT ns vs) ∧ ∀ q, q ≠ a → q ≠ a + 1 → h' q = h q) := by
  refine Con.of rfl (Nat.le_of_ble_eq_true rfl) ?_
  refine T_iconst (v := 0) (pc := 0) d_TaggedFormat_write_0 rfl ?_
  refine T_istore_n (pc := 1) d_TaggedFormat_write_1 rfl (Nat.le_of_ble_eq_true rfl) rfl ?_
  exact c_TaggedFormat_write_out hc d1 d2 d3 d4 ns vs 0 h l (List.drop_zero) (List.drop_zero) (Nat.zero_le _) hF hs hv hb hr (fun h' g' o' => ⟨rfl, g', o'⟩)
end
section
/-! OnceWire$TaggedFormat: reading. -/
theorem rv_le : ∀ (k i : Nat) (acc : Int64) (r : List Int32) (v : Int64) (m : Nat), rv k i acc r = some (v, m) → 1 ≤ m ∧ m ≤ r.length
  | 0, _, _, _, _, _, h => by cases h
  | _ + 1, _, _, [], _, _, h => by cases h
  | k + 1, i, acc, b :: t, v, m, h => by
    rw [rv] at h
    split at h
    · cases h
      simp
    · cases hz : rv k (i + 1) (acc ||| ((b &&& 127).toInt64 <<< ((7 * nI i).toInt64 &&& 63))) t with
      | none =>
        rw [hz] at h
        cases h
      | some q =>
        obtain ⟨v2, m2⟩ := q
        rw [hz] at h
        cases h
        have := rv_le k (i + 1) _ t v2 m2 hz
        simp
        omega
def pay (j : Nat) (r : List Int32) : Option (Int64 × Nat) := if j = 0 then rv 10 0 0 r else if j = 5 then (if r.length < 4 then none else some ((swp (wat r 0)).toInt64, 4)) else if j = 1 then (if r.length < 8 then none else some (0, 8)) else if j = 2 then (match rv 10 0 0 r with
  | none => none
  | some (c, m) => if c < 0 ∨ lN (r.length - m) < c then none else some (0, m + c.toInt.toNat)) else none
def iop (k : Nat) (pl : Int64) : Int32 := if k = 1 then (if pl.toInt32 &&& 1 = 0 then (pl.toInt32.toUInt32 >>> (Int32.toUInt32 1 &&& Int32.toUInt32 31)).toInt32 else -(pl.toInt32.toUInt32 >>> (Int32.toUInt32 1 &&& Int32.toUInt32 31)).toInt32 - 1) else if k = 3 then (if pl = 0 then 0 else 1) else pl.toInt32
set_option maxRecDepth 100000 in
set_option maxHeartbeats 4000000 in
theorem c_TaggedFormat_intOfPayload {n k : Nat} {pl : Int64} {h : aH} (hk : k ≤ 3) : Con M_TaggedFormat_intOfPayload 0 0 0 n [.int (nI k), .long pl] h (fun r h' => r = some (.int (iop k pl)) ∧ h' = h) := by
  refine Con.of rfl (Nat.le_of_ble_eq_true rfl) ?_
  refine T_lload_n (pc := 0) d_TaggedFormat_intOfPayload_0 rfl ?_
  refine T_l2i (pc := 1) d_TaggedFormat_intOfPayload_1 ?_
  refine T_istore_n (pc := 2) d_TaggedFormat_intOfPayload_2 rfl (Nat.le_of_ble_eq_true rfl) rfl ?_
  refine T_iload_n (pc := 3) d_TaggedFormat_intOfPayload_3 rfl ?_
  rcases (show k = 0 ∨ k = 1 ∨ k = 2 ∨ k = 3 by omega) with rfl | rfl | rfl | rfl
  · refine T_lookup (tgt := 66) (pc := 4) d_TaggedFormat_intOfPayload_4 (by decide) (off := 62) (by decide) (by decide) ?_
    refine T_iload_n (pc := 66) d_TaggedFormat_intOfPayload_66 rfl ?_
    refine T_iret (pc := 67) d_TaggedFormat_intOfPayload_67 rfl rfl (Nat.le_refl _) ?_
    exact ⟨rfl, rfl⟩
  · refine T_lookup (tgt := 32) (pc := 4) d_TaggedFormat_intOfPayload_4 (by decide) (off := 28) (by decide) (by decide) ?_
    refine T_iload_n (pc := 32) d_TaggedFormat_intOfPayload_32 rfl ?_
    refine T_iconst (v := 1) (pc := 33) d_TaggedFormat_intOfPayload_33 rfl ?_
    refine T_iushr (pc := 34) d_TaggedFormat_intOfPayload_34 ?_
    refine T_istore (pc := 35) d_TaggedFormat_intOfPayload_35 (Nat.le_of_ble_eq_true rfl) rfl ?_
    refine T_iload_n (pc := 37) d_TaggedFormat_intOfPayload_37 rfl ?_
    refine T_iconst (v := 1) (pc := 38) d_TaggedFormat_intOfPayload_38 rfl ?_
    refine T_iand (pc := 39) d_TaggedFormat_intOfPayload_39 ?_
    refine T_if_ne (tgt := 48) (pc := 40) d_TaggedFormat_intOfPayload_40 (by decide) (fun q40 => ?_) (fun q40 => ?_)
    · refine T_iload (pc := 48) d_TaggedFormat_intOfPayload_48 rfl ?_
      refine T_ineg (pc := 50) d_TaggedFormat_intOfPayload_50 ?_
      refine T_iconst (v := 1) (pc := 51) d_TaggedFormat_intOfPayload_51 rfl ?_
      refine T_isub (pc := 52) d_TaggedFormat_intOfPayload_52 ?_
      refine T_iret (pc := 53) d_TaggedFormat_intOfPayload_53 rfl rfl (Nat.le_refl _) ?_
      refine ⟨?_, rfl⟩
      rw [iop, if_pos rfl]
      first
        | rw [if_neg q40]
        | rw [if_pos q40]
    · refine T_iload (pc := 43) d_TaggedFormat_intOfPayload_43 rfl ?_
      refine T_goto (tgt := 53) (pc := 45) d_TaggedFormat_intOfPayload_45 (by decide) ?_
      refine T_iret (pc := 53) d_TaggedFormat_intOfPayload_53 rfl rfl (Nat.le_refl _) ?_
      refine ⟨?_, rfl⟩
      rw [iop, if_pos rfl]
      first
        | rw [if_neg q40]
        | rw [if_pos q40]
  · refine T_lookup (tgt := 66) (pc := 4) d_TaggedFormat_intOfPayload_4 (by decide) (off := 62) (by decide) (by decide) ?_
    refine T_iload_n (pc := 66) d_TaggedFormat_intOfPayload_66 rfl ?_
    refine T_iret (pc := 67) d_TaggedFormat_intOfPayload_67 rfl rfl (Nat.le_refl _) ?_
    exact ⟨rfl, rfl⟩
  · refine T_lookup (tgt := 54) (pc := 4) d_TaggedFormat_intOfPayload_4 (by decide) (off := 50) (by decide) (by decide) ?_
    refine T_lload_n (pc := 54) d_TaggedFormat_intOfPayload_54 rfl ?_
    refine T_lconst (v := 0) (pc := 55) d_TaggedFormat_intOfPayload_55 rfl ?_
    refine T_lcmp (pc := 56) d_TaggedFormat_intOfPayload_56 ?_
    refine T_if_ne (tgt := 64) (pc := 57) d_TaggedFormat_intOfPayload_57 (by decide) (fun q57 => ?_) (fun q57 => ?_)
    · refine T_iconst (v := 1) (pc := 64) d_TaggedFormat_intOfPayload_64 rfl ?_
      refine T_iret (pc := 65) d_TaggedFormat_intOfPayload_65 rfl rfl (Nat.le_refl _) ?_
      refine ⟨?_, rfl⟩
      rw [iop, if_neg (by decide), if_pos rfl]
      first
        | rw [if_neg (fun e => q57 ((lg_cmp_eq _ _).mpr e))]
        | rw [if_pos ((lg_cmp_eq _ _).mp q57)]
    · refine T_iconst (v := 0) (pc := 60) d_TaggedFormat_intOfPayload_60 rfl ?_
      refine T_goto (tgt := 65) (pc := 61) d_TaggedFormat_intOfPayload_61 (by decide) ?_
      refine T_iret (pc := 65) d_TaggedFormat_intOfPayload_65 rfl rfl (Nat.le_refl _) ?_
      refine ⟨?_, rfl⟩
      rw [iop, if_neg (by decide), if_pos rfl]
      first
        | rw [if_neg (fun e => q57 ((lg_cmp_eq _ _).mpr e))]
        | rw [if_pos ((lg_cmp_eq _ _).mp q57)]
set_option maxRecDepth 100000 in
set_option maxHeartbeats 4000000 in
theorem c_TaggedFormat_takePayload {n rd src cap p j : Nat} {h : aH} {l : List Int32} (hj : j < 8) (hc : cap < 2 ^ 30) (d3 : src + 1 < rd) (hR : Rd h rd src p false) (hb : By h src cap l) (hp : p ≤ l.length) : Con M_TaggedFormat_takePayload 1 0 0 n [.ref rd, .int (nI j)] h (fun r h' => (∀ q, q ≠ rd → h' q = h q) ∧ match pay j (l.drop p) with | some (v, m) => r = some (.long v) ∧ p + m ≤ l.length ∧ Rd h' rd src (p + m) false | none => (∃ v, r = some (.long v)) ∧ ∃ p', p' ≤ l.length ∧ Rd h' rd src p' true) := by
  have hbl := hb.le
  have e3 : (l.drop p).length = l.length - p := List.length_drop
  refine Con.of rfl (Nat.le_of_ble_eq_true rfl) ?_
  refine T_iload_n (pc := 0) d_TaggedFormat_takePayload_0 rfl ?_
  rcases (show j = 0 ∨ j = 1 ∨ j = 2 ∨ j = 3 ∨ j = 4 ∨ j = 5 ∨ j = 6 ∨ j = 7 by omega) with rfl | rfl | rfl | rfl | rfl | rfl | rfl | rfl
  · refine T_tableIn (tgt := 40) (off := 39) (pc := 1) d_TaggedFormat_takePayload_1 (by decide) (by decide) rfl (by decide) ?_
    refine T_aload_n (pc := 40) d_TaggedFormat_takePayload_40 rfl ?_
    refine T_ivV (pc := 41) d_TaggedFormat_takePayload_41 sI_TaggedFormat_83 (c_Reader_takeVarint hR hb hc hp) hR rfl rfl ⟨(Nat.le_of_ble_eq_true rfl), (Nat.le_of_ble_eq_true rfl)⟩ ⟨(Nat.le_of_ble_eq_true rfl), (Nat.le_of_ble_eq_true rfl)⟩ (Nat.le_of_ble_eq_true rfl) (fun r1 h1 q1 => ?_)
    obtain ⟨o1, q1⟩ := q1
    cases hz : rv 10 0 0 (l.drop p) with
    | none =>
      rw [hz] at q1
      obtain ⟨rfl, p1, hp1, hR1⟩ := q1
      refine T_lret (pc := 44) d_TaggedFormat_takePayload_44 rfl rfl (Nat.le_refl _) ?_
      refine ⟨o1, ?_⟩
      rw [show pay 0 (l.drop p) = rv 10 0 0 (l.drop p) from rfl, hz]
      exact ⟨⟨_, rfl⟩, p1, hp1, hR1⟩
    | some z =>
      obtain ⟨v, m⟩ := z
      rw [hz] at q1
      obtain ⟨rfl, hR1⟩ := q1
      have hm := rv_le _ _ _ _ _ _ hz
      refine T_lret (pc := 44) d_TaggedFormat_takePayload_44 rfl rfl (Nat.le_refl _) ?_
      refine ⟨o1, ?_⟩
      rw [show pay 0 (l.drop p) = rv 10 0 0 (l.drop p) from rfl, hz]
      exact ⟨rfl, by omega, hR1⟩
  · refine T_tableIn (tgt := 54) (off := 53) (pc := 1) d_TaggedFormat_takePayload_1 (by decide) (by decide) rfl (by decide) ?_
    refine T_aload_n (pc := 54) d_TaggedFormat_takePayload_54 rfl ?_
    refine T_ldc2 (pc := 55) d_TaggedFormat_takePayload_55 (Ws_at (i := 7) (k := 50) rfl rfl) ?_
    refine T_ivV (pc := 58) d_TaggedFormat_takePayload_58 sI_TaggedFormat_113 (c_Reader_skip hR hb hc hp) hR rfl rfl ⟨(Nat.le_of_ble_eq_true rfl), (Nat.le_of_ble_eq_true rfl)⟩ ⟨(Nat.le_of_ble_eq_true rfl), (Nat.le_of_ble_eq_true rfl)⟩ (Nat.le_of_ble_eq_true rfl) (fun r1 h1 q1 => ?_)
    obtain ⟨rfl, o1, q1⟩ := q1
    refine T_lconst (v := 0) (pc := 61) d_TaggedFormat_takePayload_61 rfl ?_
    refine T_lret (pc := 62) d_TaggedFormat_takePayload_62 rfl rfl (Nat.le_refl _) ?_
    refine ⟨o1, ?_⟩
    have e : pay 1 (l.drop p) = if l.length - p < 8 then none else some (0, 8) := by
      rw [pay, if_neg (by decide), if_neg (by decide), if_pos rfl, e3]
    have e4 : lN (l.length - p) < 8 ↔ l.length - p < 8 := pk_lLT (b := 8) (by omega) (by decide)
    rw [e]
    split at q1
    · rename_i hbad
      have h8 : l.length - p < 8 := e4.mp (hbad.resolve_left (by decide))
      rw [if_pos h8]
      exact ⟨⟨_, rfl⟩, p, hp, q1⟩
    · rename_i hgood
      have h8 : ¬ l.length - p < 8 := fun q => hgood (Or.inr (e4.mpr q))
      rw [if_neg h8]
      obtain ⟨m2, hm, hm2, hR2⟩ := q1
      have e5 : m2 = 8 := ((pk_lEQ (a := 8) (b := m2) (by decide) (by omega)).mp hm).symm
      subst e5
      exact ⟨rfl, hm2, hR2⟩
  · refine T_tableIn (tgt := 63) (off := 62) (pc := 1) d_TaggedFormat_takePayload_1 (by decide) (by decide) rfl (by decide) ?_
    refine T_aload_n (pc := 63) d_TaggedFormat_takePayload_63 rfl ?_
    refine T_aload_n (pc := 64) d_TaggedFormat_takePayload_64 rfl ?_
    refine T_ivV (pc := 65) d_TaggedFormat_takePayload_65 sI_TaggedFormat_83 (c_Reader_takeVarint hR hb hc hp) hR rfl rfl ⟨(Nat.le_of_ble_eq_true rfl), (Nat.le_of_ble_eq_true rfl)⟩ ⟨(Nat.le_of_ble_eq_true rfl), (Nat.le_of_ble_eq_true rfl)⟩ (Nat.le_of_ble_eq_true rfl) (fun r1 h1 q1 => ?_)
    obtain ⟨o1, q1⟩ := q1
    cases hz : rv 10 0 0 (l.drop p) with
    | none =>
      rw [hz] at q1
      obtain ⟨rfl, p1, hp1, hR1⟩ := q1
      have hb1 := hb.same (o1 src (by omega)) (o1 (src + 1) (by omega))
      refine T_ivV (pc := 68) d_TaggedFormat_takePayload_68 sI_TaggedFormat_113 (c_Reader_skip hR1 hb1 hc hp1) hR1 rfl rfl ⟨(Nat.le_of_ble_eq_true rfl), (Nat.le_of_ble_eq_true rfl)⟩ ⟨(Nat.le_of_ble_eq_true rfl), (Nat.le_of_ble_eq_true rfl)⟩ (Nat.le_of_ble_eq_true rfl) (fun r2 h2 q2 => ?_)
      obtain ⟨rfl, o2, q2⟩ := q2
      have q2' : ∃ p', p' ≤ l.length ∧ Rd h2 rd src p' true := by
        split at q2
        · exact ⟨p1, hp1, q2⟩
        · obtain ⟨m, _, hm, hR2⟩ := q2
          exact ⟨_, hm, hR2⟩
      refine T_lconst (v := 0) (pc := 71) d_TaggedFormat_takePayload_71 rfl ?_
      refine T_lret (pc := 72) d_TaggedFormat_takePayload_72 rfl rfl (Nat.le_refl _) ?_
      refine ⟨fun q hq => (o2 q hq).trans (o1 q hq), ?_⟩
      have e : pay 2 (l.drop p) = none := by
        rw [pay, if_neg (by decide), if_neg (by decide), if_neg (by decide), if_pos rfl, hz]
      rw [e]
      exact ⟨⟨_, rfl⟩, q2'⟩
    | some z =>
      obtain ⟨c, m⟩ := z
      rw [hz] at q1
      obtain ⟨rfl, hR1⟩ := q1
      have hm := rv_le _ _ _ _ _ _ hz
      have hb1 := hb.same (o1 src (by omega)) (o1 (src + 1) (by omega))
      have e : pay 2 (l.drop p) = if c < 0 ∨ lN (l.length - (p + m)) < c then none else some (0, m + c.toInt.toNat) := by
        rw [pay, if_neg (by decide), if_neg (by decide), if_neg (by decide), if_pos rfl, hz, e3]
        show (if c < 0 ∨ lN (l.length - p - m) < c then none else some (0, m + c.toInt.toNat)) = _
        rw [Nat.sub_sub]
      refine T_ivV (pc := 68) d_TaggedFormat_takePayload_68 sI_TaggedFormat_113 (c_Reader_skip hR1 hb1 hc (by omega)) hR1 rfl rfl ⟨(Nat.le_of_ble_eq_true rfl), (Nat.le_of_ble_eq_true rfl)⟩ ⟨(Nat.le_of_ble_eq_true rfl), (Nat.le_of_ble_eq_true rfl)⟩ (Nat.le_of_ble_eq_true rfl) (fun r2 h2 q2 => ?_)
      obtain ⟨rfl, o2, q2⟩ := q2
      refine T_lconst (v := 0) (pc := 71) d_TaggedFormat_takePayload_71 rfl ?_
      refine T_lret (pc := 72) d_TaggedFormat_takePayload_72 rfl rfl (Nat.le_refl _) ?_
      refine ⟨fun q hq => (o2 q hq).trans (o1 q hq), ?_⟩
      rw [e]
      split at q2
      · rename_i hbad
        rw [if_pos hbad]
        exact ⟨⟨_, rfl⟩, p + m, by omega, q2⟩
      · rename_i hgood
        rw [if_neg hgood]
        obtain ⟨m2, rfl, hm2, hR2⟩ := q2
        have e5 : (lN m2).toInt.toNat = m2 := by rw [pk_lT (by omega)]; omega
        rw [e5]
        exact ⟨rfl, by omega, by rw [← Nat.add_assoc]; exact hR2⟩
  · refine T_tableIn (tgt := 73) (off := 72) (pc := 1) d_TaggedFormat_takePayload_1 (by decide) (by decide) rfl (by decide) ?_
    unfold Rd at *
    refine T_aload_n (pc := 73) d_TaggedFormat_takePayload_73 rfl ?_
    refine T_iconst (v := 1) (pc := 74) d_TaggedFormat_takePayload_74 rfl ?_
    refine T_put (pc := 75) d_TaggedFormat_takePayload_75 sF_TaggedFormat_87_Reader hR (Nat.le_of_ble_eq_true rfl) (a_fit_z (by decide)) (T_up (fun h75x1 g75x1 o75x1 => ?_))
    refine T_lconst (v := 0) (pc := 78) d_TaggedFormat_takePayload_78 rfl ?_
    refine T_lret (pc := 79) d_TaggedFormat_takePayload_79 rfl rfl (Nat.le_refl _) ?_
    refine ⟨o75x1, ?_⟩
    rw [show pay 3 (l.drop p) = none from rfl]
    exact ⟨⟨_, rfl⟩, p, hp, g75x1⟩
  · refine T_tableIn (tgt := 73) (off := 72) (pc := 1) d_TaggedFormat_takePayload_1 (by decide) (by decide) rfl (by decide) ?_
    unfold Rd at *
    refine T_aload_n (pc := 73) d_TaggedFormat_takePayload_73 rfl ?_
    refine T_iconst (v := 1) (pc := 74) d_TaggedFormat_takePayload_74 rfl ?_
    refine T_put (pc := 75) d_TaggedFormat_takePayload_75 sF_TaggedFormat_87_Reader hR (Nat.le_of_ble_eq_true rfl) (a_fit_z (by decide)) (T_up (fun h75x1 g75x1 o75x1 => ?_))
    refine T_lconst (v := 0) (pc := 78) d_TaggedFormat_takePayload_78 rfl ?_
    refine T_lret (pc := 79) d_TaggedFormat_takePayload_79 rfl rfl (Nat.le_refl _) ?_
    refine ⟨o75x1, ?_⟩
    rw [show pay 4 (l.drop p) = none from rfl]
    exact ⟨⟨_, rfl⟩, p, hp, g75x1⟩
  · refine T_tableIn (tgt := 45) (off := 44) (pc := 1) d_TaggedFormat_takePayload_1 (by decide) (by decide) rfl (by decide) ?_
    refine T_aload_n (pc := 45) d_TaggedFormat_takePayload_45 rfl ?_
    refine T_ivV (pc := 46) d_TaggedFormat_takePayload_46 sI_TaggedFormat_110 (c_Reader_takeWord hR hb hc hp) hR rfl rfl ⟨(Nat.le_of_ble_eq_true rfl), (Nat.le_of_ble_eq_true rfl)⟩ ⟨(Nat.le_of_ble_eq_true rfl), (Nat.le_of_ble_eq_true rfl)⟩ (Nat.le_of_ble_eq_true rfl) (fun r1 h1 q1 => ?_)
    obtain ⟨o1, q1⟩ := q1
    by_cases hlt : l.length < p + 4
    · rw [if_pos hlt] at q1
      obtain ⟨rfl, hR1⟩ := q1
      refine T_ivS (pc := 49) d_TaggedFormat_takePayload_49 sI_TaggedFormat_49 (c_Bytes_swapped) rfl rfl ⟨(Nat.le_of_ble_eq_true rfl), (Nat.le_of_ble_eq_true rfl)⟩ ⟨(Nat.le_of_ble_eq_true rfl), (Nat.le_of_ble_eq_true rfl)⟩ (Nat.le_of_ble_eq_true rfl) (fun r2 h2 q2 => ?_)
      obtain ⟨rfl, e2⟩ := q2
      rw [e2]
      refine T_i2l (pc := 52) d_TaggedFormat_takePayload_52 ?_
      refine T_lret (pc := 53) d_TaggedFormat_takePayload_53 rfl rfl (Nat.le_refl _) ?_
      refine ⟨o1, ?_⟩
      have e : pay 5 (l.drop p) = none := by
        rw [pay, if_neg (by decide), if_pos rfl, if_pos (by omega)]
      rw [e]
      exact ⟨⟨_, rfl⟩, p, hp, hR1⟩
    · rw [if_neg hlt, tkw (by omega)] at q1
      obtain ⟨rfl, hR1⟩ := q1
      refine T_ivS (pc := 49) d_TaggedFormat_takePayload_49 sI_TaggedFormat_49 (c_Bytes_swapped) rfl rfl ⟨(Nat.le_of_ble_eq_true rfl), (Nat.le_of_ble_eq_true rfl)⟩ ⟨(Nat.le_of_ble_eq_true rfl), (Nat.le_of_ble_eq_true rfl)⟩ (Nat.le_of_ble_eq_true rfl) (fun r2 h2 q2 => ?_)
      obtain ⟨rfl, e2⟩ := q2
      rw [e2]
      refine T_i2l (pc := 52) d_TaggedFormat_takePayload_52 ?_
      refine T_lret (pc := 53) d_TaggedFormat_takePayload_53 rfl rfl (Nat.le_refl _) ?_
      refine ⟨o1, ?_⟩
      have e : pay 5 (l.drop p) = some ((swp (wat (l.drop p) 0)).toInt64, 4) := by
        rw [pay, if_neg (by decide), if_pos rfl, if_neg (by omega)]
      rw [e]
      exact ⟨rfl, by omega, hR1⟩
  · refine T_tableOut (tgt := 73) (pc := 1) d_TaggedFormat_takePayload_1 (by decide) (by decide) ?_
    unfold Rd at *
    refine T_aload_n (pc := 73) d_TaggedFormat_takePayload_73 rfl ?_
    refine T_iconst (v := 1) (pc := 74) d_TaggedFormat_takePayload_74 rfl ?_
    refine T_put (pc := 75) d_TaggedFormat_takePayload_75 sF_TaggedFormat_87_Reader hR (Nat.le_of_ble_eq_true rfl) (a_fit_z (by decide)) (T_up (fun h75x1 g75x1 o75x1 => ?_))
    refine T_lconst (v := 0) (pc := 78) d_TaggedFormat_takePayload_78 rfl ?_
    refine T_lret (pc := 79) d_TaggedFormat_takePayload_79 rfl rfl (Nat.le_refl _) ?_
    refine ⟨o75x1, ?_⟩
    rw [show pay 6 (l.drop p) = none from rfl]
    exact ⟨⟨_, rfl⟩, p, hp, g75x1⟩
  · refine T_tableOut (tgt := 73) (pc := 1) d_TaggedFormat_takePayload_1 (by decide) (by decide) ?_
    unfold Rd at *
    refine T_aload_n (pc := 73) d_TaggedFormat_takePayload_73 rfl ?_
    refine T_iconst (v := 1) (pc := 74) d_TaggedFormat_takePayload_74 rfl ?_
    refine T_put (pc := 75) d_TaggedFormat_takePayload_75 sF_TaggedFormat_87_Reader hR (Nat.le_of_ble_eq_true rfl) (a_fit_z (by decide)) (T_up (fun h75x1 g75x1 o75x1 => ?_))
    refine T_lconst (v := 0) (pc := 78) d_TaggedFormat_takePayload_78 rfl ?_
    refine T_lret (pc := 79) d_TaggedFormat_takePayload_79 rfl rfl (Nat.le_refl _) ?_
    refine ⟨o75x1, ?_⟩
    rw [show pay 7 (l.drop p) = none from rfl]
    exact ⟨⟨_, rfl⟩, p, hp, g75x1⟩
end
section
/-! OnceWire$TaggedFormat.readEntry, read. -/
def stv (ns : List Sf) (vs : List (List Int32)) (i : Nat) (x : Int32) : Option (List (List Int32)) := match ns[i]?, vs[i]? with
  | some t, some w => if t.2.2 then (if w.length < 4 then some (vs.set i (w ++ [x])) else none) else some (vs.set i [x])
  | _, _ => none
def ent2 (ns : List Sf) (vs : List (List Int32)) (kk : Nat) (pl : Int64) : Option (List (List Int32)) := match ixF (nI (kk / 8)) ns 0 with
  | none => some vs
  | some i => match ns[i]? with
    | none => some vs
    | some t => if keyN t = kk then stv ns vs i (iop t.2.1 pl) else some vs
def ent (ns : List Sf) (vs : List (List Int32)) (r : List Int32) : Option (List (List Int32) × Nat) := match rv 10 0 0 r with
  | none => none
  | some (key, m1) => if key < 8 ∨ 4294967295 < key then none else match pay (key.toInt.toNat % 8) (r.drop m1) with
    | none => none
    | some (pl, m2) => (ent2 ns vs key.toInt.toNat pl).map (fun z => (z, m1 + m2))
theorem ixF_get (x : Int32) : ∀ (ts : List Sf) (i j : Nat), ixF x ts i = some j → ∃ t, ts[j - i]? = some t ∧ nI t.1 = x
  | [], i, j, h => by cases h
  | t :: ts, i, j, h => by
    unfold ixF at h
    split at h
    · rename_i e
      cases h
      exact ⟨t, by simp, e⟩
    · obtain ⟨t', h1, h2⟩ := ixF_get x ts (i + 1) j h
      have := ixF_ge x ts (i + 1) j h
      refine ⟨t', ?_, h2⟩
      rw [show j - i = (j - (i + 1)) + 1 by omega]
      simpa using h1
theorem land7 {m : Nat} (hm : m < 2 ^ 62) : lN m &&& 7 = lN (m % 8) := wb_mask (k := 3) (by omega) (by decide)
theorem lush3 {m : Nat} (hm : m < 2 ^ 62) : ((lN m).toUInt64 >>> ((3 : Int32).toInt64.toUInt64 &&& Int64.toUInt64 63)).toInt64 = lN (m / 8) := wb_shr (k := 3) (by omega) (by decide)
set_option maxRecDepth 100000 in
set_option maxHeartbeats 4000000 in
theorem c_TaggedFormat_readEntry {n fm v sa rd src cap : Nat} {ns : List Sf} {l : List Int32} (hc : cap < 2 ^ 30) (d1 : sa + 4 < v) (d2 : v + 2 < src) (d3 : src + 1 < rd) (d4 : fm < v ∨ rd < fm) {p : Nat} {h : aH} {vs : List (List Int32)} (hF : h fm = some (.inr (7, [.ref sa]))) (hs : Sc h sa ns) (hv : Va h v sa ns vs) (hR : Rd h rd src p false) (hb : By h src cap l) (hp : p ≤ l.length) : Con M_TaggedFormat_readEntry 2 0 0 n [.ref fm, .ref rd, .ref v] h (fun r h' => (∀ q, q ≠ v + 1 → q ≠ v + 2 → q ≠ rd → h' q = h q) ∧ match ent ns vs (l.drop p) with | some (vs', m) => r = some (.int 1) ∧ p + m ≤ l.length ∧ Rd h' rd src (p + m) false ∧ Va h' v sa ns vs' | none => r = some (.int 0) ∧ ∃ vs' p' f', Va h' v sa ns vs' ∧ Rd h' rd src p' f') := by
  have hbl := hb.le
  have e3 : (l.drop p).length = l.length - p := List.length_drop
  refine Con.of rfl (Nat.le_of_ble_eq_true rfl) ?_
  refine T_aload_n (pc := 0) d_TaggedFormat_readEntry_0 rfl ?_
  refine T_ivV (pc := 1) d_TaggedFormat_readEntry_1 sI_TaggedFormat_83 (c_Reader_takeVarint hR hb hc hp) hR rfl rfl ⟨(Nat.le_of_ble_eq_true rfl), (Nat.le_of_ble_eq_true rfl)⟩ ⟨(Nat.le_of_ble_eq_true rfl), (Nat.le_of_ble_eq_true rfl)⟩ (Nat.le_of_ble_eq_true rfl) (fun r1 h1 q1 => ?_)
  obtain ⟨o1, q1⟩ := q1
  cases hz : rv 10 0 0 (l.drop p) with
  | none =>
    rw [hz] at q1
    obtain ⟨rfl, p1, hp1, hR1⟩ := q1
    refine T_lstore_n (pc := 4) d_TaggedFormat_readEntry_4 rfl (Nat.le_of_ble_eq_true rfl) rfl ?_
    refine T_aload_n (pc := 5) d_TaggedFormat_readEntry_5 rfl ?_
    refine T_get (pc := 6) d_TaggedFormat_readEntry_6 sF_TaggedFormat_87_Reader hR1 rfl ?_
    refine T_if_ne (tgt := 28) (pc := 9) d_TaggedFormat_readEntry_9 (by decide) (fun q9 => ?_) (fun q9 => ?_)
    · refine T_iconst (v := 0) (pc := 28) d_TaggedFormat_readEntry_28 rfl ?_
      refine T_zret (pc := 29) d_TaggedFormat_readEntry_29 rfl (by decide) rfl (Nat.le_refl _) ?_
      refine ⟨fun q _ _ z => o1 q z, ?_⟩
      rw [ent, hz]
      exact ⟨rfl, vs, p1, true, hv.same (fun q z1 z2 => o1 q (by omega)), hR1⟩
    · exact absurd q9 (by decide)
  | some z =>
    obtain ⟨key, m1⟩ := z
    rw [hz] at q1
    obtain ⟨rfl, hR1⟩ := q1
    have hm1 := rv_le _ _ _ _ _ _ hz
    have hs1 := hs.same (h' := h1) (fun q z1 z2 => o1 q (by omega))
    have hv1 := hv.same (h' := h1) (fun q z1 z2 => o1 q (by omega))
    have hF1 := (o1 fm (by omega)).trans hF
    have hb1 := hb.same (o1 src (by omega)) (o1 (src + 1) (by omega))
    have he0 : ent ns vs (l.drop p) = if key < 8 ∨ 4294967295 < key then none else match pay (key.toInt.toNat % 8) (l.drop (p + m1)) with
        | none => none
        | some (pl, m2) => (ent2 ns vs key.toInt.toNat pl).map (fun z => (z, m1 + m2)) := by
      rw [ent, hz, show l.drop (p + m1) = (l.drop p).drop m1 by rw [List.drop_drop]]
    refine T_lstore_n (pc := 4) d_TaggedFormat_readEntry_4 rfl (Nat.le_of_ble_eq_true rfl) rfl ?_
    refine T_aload_n (pc := 5) d_TaggedFormat_readEntry_5 rfl ?_
    refine T_get (pc := 6) d_TaggedFormat_readEntry_6 sF_TaggedFormat_87_Reader hR1 rfl ?_
    refine T_if_ne (tgt := 28) (pc := 9) d_TaggedFormat_readEntry_9 (by decide) (fun q9 => ?_) (fun q9 => ?_)
    · refine T_iconst (v := 0) (pc := 28) d_TaggedFormat_readEntry_28 rfl ?_
      refine T_zret (pc := 29) d_TaggedFormat_readEntry_29 rfl (by decide) rfl (Nat.le_refl _) ?_
      first
        | exact absurd (show bI false = 0 from rfl) q9
        | (refine ⟨fun q _ _ z => o1 q z, ?_⟩
           rw [he0, if_pos (Or.inl ((lg_cmp_lt _ _).mp q17))]
           exact ⟨rfl, vs, _, false, hv1, hR1⟩)
        | (refine ⟨fun q _ _ z => o1 q z, ?_⟩
           rw [he0, if_pos (Or.inr (Int64.not_le.mp (fun q => q25 ((lg_cmp_le _ _).mpr q))))]
           exact ⟨rfl, vs, _, false, hv1, hR1⟩)
    · refine T_lload_n (pc := 12) d_TaggedFormat_readEntry_12 rfl ?_
      refine T_ldc2 (pc := 13) d_TaggedFormat_readEntry_13 (Ws_at (i := 7) (k := 50) rfl rfl) ?_
      refine T_lcmp (pc := 16) d_TaggedFormat_readEntry_16 ?_
      refine T_if_lt (tgt := 28) (pc := 17) d_TaggedFormat_readEntry_17 (by decide) (fun q17 => ?_) (fun q17 => ?_)
      · refine T_iconst (v := 0) (pc := 28) d_TaggedFormat_readEntry_28 rfl ?_
        refine T_zret (pc := 29) d_TaggedFormat_readEntry_29 rfl (by decide) rfl (Nat.le_refl _) ?_
        first
          | exact absurd (show bI false = 0 from rfl) q9
          | (refine ⟨fun q _ _ z => o1 q z, ?_⟩
             rw [he0, if_pos (Or.inl ((lg_cmp_lt _ _).mp q17))]
             exact ⟨rfl, vs, _, false, hv1, hR1⟩)
          | (refine ⟨fun q _ _ z => o1 q z, ?_⟩
             rw [he0, if_pos (Or.inr (Int64.not_le.mp (fun q => q25 ((lg_cmp_le _ _).mpr q))))]
             exact ⟨rfl, vs, _, false, hv1, hR1⟩)
      · refine T_lload_n (pc := 20) d_TaggedFormat_readEntry_20 rfl ?_
        refine T_ldc2 (pc := 21) d_TaggedFormat_readEntry_21 (Ws_at (i := 7) (k := 40) rfl rfl) ?_
        refine T_lcmp (pc := 24) d_TaggedFormat_readEntry_24 ?_
        refine T_if_le (tgt := 30) (pc := 25) d_TaggedFormat_readEntry_25 (by decide) (fun q25 => ?_) (fun q25 => ?_)
        · have hk8 : ¬ key < 8 := fun q => q17 ((lg_cmp_lt _ _).mpr q)
          have hkm : ¬ 4294967295 < key := fun q => absurd ((lg_cmp_le _ _).mp q25) (Int64.not_le.mpr q)
          obtain ⟨kk, hkk0, rfl⟩ := pk_lOf (x := key) (fun q => hk8 (Int64.lt_trans q (by decide)))
          have hkk : kk ≤ 4294967295 := by
            have := mt (pk_lLT (a := 4294967295) (b := kk) (by decide) hkk0).mpr hkm
            omega
          have e9 : (lN kk).toInt.toNat = kk := by rw [pk_lT hkk0]; omega
          rw [if_neg (fun q => q.elim hk8 hkm), e9] at he0
          refine T_aload_n (pc := 30) d_TaggedFormat_readEntry_30 rfl ?_
          refine T_lload_n (pc := 31) d_TaggedFormat_readEntry_31 rfl ?_
          refine T_ldc2 (pc := 32) d_TaggedFormat_readEntry_32 (Ws_at (i := 7) (k := 51) rfl rfl) ?_
          refine T_land (pc := 35) d_TaggedFormat_readEntry_35 ?_
          rw [land7 (by omega)]
          refine T_l2i (pc := 36) d_TaggedFormat_readEntry_36 ?_
          rw [lN_i]
          refine T_ivS (pc := 37) d_TaggedFormat_readEntry_37 sI_TaggedFormat_95 (c_TaggedFormat_takePayload (Nat.mod_lt kk (by decide)) hc d3 hR1 hb1 (by omega)) rfl rfl ⟨(Nat.le_of_ble_eq_true rfl), (Nat.le_of_ble_eq_true rfl)⟩ ⟨(Nat.le_of_ble_eq_true rfl), (Nat.le_of_ble_eq_true rfl)⟩ (Nat.le_of_ble_eq_true rfl) (fun r2 h2 q2 => ?_)
          obtain ⟨o2, q2⟩ := q2
          cases hy : pay (kk % 8) (l.drop (p + m1)) with
          | none =>
            rw [hy] at q2 he0
            obtain ⟨⟨v2, rfl⟩, p2, hp2, hR2⟩ := q2
            refine T_lstore (pc := 40) d_TaggedFormat_readEntry_40 (Nat.le_of_ble_eq_true rfl) rfl ?_
            refine T_aload_n (pc := 42) d_TaggedFormat_readEntry_42 rfl ?_
            refine T_get (pc := 43) d_TaggedFormat_readEntry_43 sF_TaggedFormat_87_Reader hR2 rfl ?_
            refine T_if_eq (tgt := 51) (pc := 46) d_TaggedFormat_readEntry_46 (by decide) (fun q46 => ?_) (fun q46 => ?_)
            · exact absurd q46 (by decide)
            · refine T_iconst (v := 0) (pc := 49) d_TaggedFormat_readEntry_49 rfl ?_
              refine T_zret (pc := 50) d_TaggedFormat_readEntry_50 rfl (by decide) rfl (Nat.le_refl _) ?_
              refine ⟨fun q _ _ z => (o2 q z).trans (o1 q z), ?_⟩
              rw [he0]
              exact ⟨rfl, vs, p2, true, hv1.same (fun q z1 z2 => o2 q (by omega)), hR2⟩
          | some z =>
            obtain ⟨pl, m2⟩ := z
            rw [hy] at q2 he0
            obtain ⟨rfl, hm2, hR2⟩ := q2
            have hs2 := hs1.same (h' := h2) (fun q z1 z2 => o2 q (by omega))
            have hv2 := hv1.same (h' := h2) (fun q z1 z2 => o2 q (by omega))
            have hF2 := (o2 fm (by omega)).trans hF1
            have he1 : ent ns vs (l.drop p) = (ent2 ns vs kk pl).map (fun z => (z, m1 + m2)) := he0
            refine T_lstore (pc := 40) d_TaggedFormat_readEntry_40 (Nat.le_of_ble_eq_true rfl) rfl ?_
            refine T_aload_n (pc := 42) d_TaggedFormat_readEntry_42 rfl ?_
            refine T_get (pc := 43) d_TaggedFormat_readEntry_43 sF_TaggedFormat_87_Reader hR2 rfl ?_
            refine T_if_eq (tgt := 51) (pc := 46) d_TaggedFormat_readEntry_46 (by decide) (fun q46 => ?_) (fun q46 => ?_)
            · refine T_aload_n (pc := 51) d_TaggedFormat_readEntry_51 rfl ?_
              refine T_get (pc := 52) d_TaggedFormat_readEntry_52 sF_TaggedFormat_9_TaggedFormat hF2 rfl ?_
              refine T_lload_n (pc := 55) d_TaggedFormat_readEntry_55 rfl ?_
              refine T_iconst (v := 3) (pc := 56) d_TaggedFormat_readEntry_56 rfl ?_
              refine T_lushr (pc := 57) d_TaggedFormat_readEntry_57 ?_
              rw [lush3 (by omega)]
              refine T_l2i (pc := 58) d_TaggedFormat_readEntry_58 ?_
              rw [lN_i]
              refine T_ivV (pc := 59) d_TaggedFormat_readEntry_59 sI_TaggedFormat_99 (c_Schema_indexOf hs2) hs2.obj rfl rfl ⟨(Nat.le_of_ble_eq_true rfl), (Nat.le_of_ble_eq_true rfl)⟩ ⟨(Nat.le_of_ble_eq_true rfl), (Nat.le_of_ble_eq_true rfl)⟩ (Nat.le_of_ble_eq_true rfl) (fun r3 h3 q3 => ?_)
              obtain ⟨rfl, e3⟩ := q3
              rw [e3]
              cases hi : ixF (nI (kk / 8)) ns 0 with
              | none =>
                have he2 : ent2 ns vs kk pl = some vs := by rw [ent2, hi]
                refine T_istore (pc := 62) d_TaggedFormat_readEntry_62 (Nat.le_of_ble_eq_true rfl) rfl ?_
                refine T_iload (pc := 64) d_TaggedFormat_readEntry_64 rfl ?_
                refine T_iconst (v := -1) (pc := 66) d_TaggedFormat_readEntry_66 rfl ?_
                refine T_icmp_eq (tgt := 85) (pc := 67) d_TaggedFormat_readEntry_67 (by decide) (fun q67 => ?_) (fun q67 => ?_)
                · refine T_iconst (v := 1) (pc := 85) d_TaggedFormat_readEntry_85 rfl ?_
                  refine T_zret (pc := 86) d_TaggedFormat_readEntry_86 rfl (by decide) rfl (Nat.le_refl _) ?_
                  refine ⟨fun q _ _ z => (o2 q z).trans (o1 q z), ?_⟩
                  rw [he1, he2]
                  exact ⟨rfl, by omega, by rw [← Nat.add_assoc]; exact hR2, hv2⟩
                · exact absurd (show oI none = -1 from rfl) q67
              | some i =>
                obtain ⟨t, ht, _⟩ := ixF_get _ _ _ _ hi
                rw [Nat.sub_zero] at ht
                have hil := ge_lt ht
                have hle := hs.le
                have hrg := hs.rng ht
                have hkey := keyN_lt hrg.2.1
                show Tri _ _ _ _ _ (Value.int (nI i) :: _) _ _ _ _
                refine T_istore (pc := 62) d_TaggedFormat_readEntry_62 (Nat.le_of_ble_eq_true rfl) rfl ?_
                refine T_iload (pc := 64) d_TaggedFormat_readEntry_64 rfl ?_
                refine T_iconst (v := -1) (pc := 66) d_TaggedFormat_readEntry_66 rfl ?_
                refine T_icmp_eq (tgt := 85) (pc := 67) d_TaggedFormat_readEntry_67 (by decide) (fun q67 => ?_) (fun q67 => ?_)
                · exact absurd q67 (fun e => absurd (show nI i < 0 by rw [e]; decide) (nI_pos (by omega)))
                · refine T_aload_n (pc := 70) d_TaggedFormat_readEntry_70 rfl ?_
                  refine T_get (pc := 71) d_TaggedFormat_readEntry_71 sF_TaggedFormat_9_TaggedFormat hF2 rfl ?_
                  refine T_iload (pc := 74) d_TaggedFormat_readEntry_74 rfl ?_
                  refine T_ivV (pc := 76) d_TaggedFormat_readEntry_76 sI_TaggedFormat_35 (c_Schema_keyOf hs2 ht) hs2.obj rfl rfl ⟨(Nat.le_of_ble_eq_true rfl), (Nat.le_of_ble_eq_true rfl)⟩ ⟨(Nat.le_of_ble_eq_true rfl), (Nat.le_of_ble_eq_true rfl)⟩ (Nat.le_of_ble_eq_true rfl) (fun r4 h4 q4 => ?_)
                  obtain ⟨rfl, e4⟩ := q4
                  rw [e4]
                  refine T_i2l (pc := 79) d_TaggedFormat_readEntry_79 ?_
                  rw [nI_l (by omega)]
                  refine T_lload_n (pc := 80) d_TaggedFormat_readEntry_80 rfl ?_
                  refine T_lcmp (pc := 81) d_TaggedFormat_readEntry_81 ?_
                  refine T_if_eq (tgt := 87) (pc := 82) d_TaggedFormat_readEntry_82 (by decide) (fun q82 => ?_) (fun q82 => ?_)
                  · have hkk2 : keyN t = kk := (pk_lEQ (by omega) hkk0).mp ((lg_cmp_eq _ _).mp q82)
                    obtain ⟨w, hw⟩ : ∃ w, vs[i]? = some w := ⟨vs[i]'(by have := hv.1; omega), List.getElem?_eq_getElem _⟩
                    have he2 : ent2 ns vs kk pl = stv ns vs i (iop t.2.1 pl) := by rw [ent2, hi]; simp only [ht, hkk2, if_true]
                    have he3 : stv ns vs i (iop t.2.1 pl) = if t.2.2 then (if w.length < 4 then some (vs.set i (w ++ [iop t.2.1 pl])) else none) else some (vs.set i [iop t.2.1 pl]) := by
                      rw [stv, ht, hw]
                    refine T_aload_n (pc := 87) d_TaggedFormat_readEntry_87 rfl ?_
                    refine T_iload (pc := 88) d_TaggedFormat_readEntry_88 rfl ?_
                    refine T_aload_n (pc := 90) d_TaggedFormat_readEntry_90 rfl ?_
                    refine T_get (pc := 91) d_TaggedFormat_readEntry_91 sF_TaggedFormat_9_TaggedFormat hF2 rfl ?_
                    refine T_iload (pc := 94) d_TaggedFormat_readEntry_94 rfl ?_
                    refine T_ivV (pc := 96) d_TaggedFormat_readEntry_96 sI_TaggedFormat_42 (c_Schema_kindOf hs2 ht) hs2.obj rfl rfl ⟨(Nat.le_of_ble_eq_true rfl), (Nat.le_of_ble_eq_true rfl)⟩ ⟨(Nat.le_of_ble_eq_true rfl), (Nat.le_of_ble_eq_true rfl)⟩ (Nat.le_of_ble_eq_true rfl) (fun r5 h5 q5 => ?_)
                    obtain ⟨rfl, e5⟩ := q5
                    rw [e5]
                    refine T_lload (pc := 99) d_TaggedFormat_readEntry_99 rfl ?_
                    refine T_ivS (pc := 101) d_TaggedFormat_readEntry_101 sI_TaggedFormat_102 (c_TaggedFormat_intOfPayload hrg.2.2) rfl rfl ⟨(Nat.le_of_ble_eq_true rfl), (Nat.le_of_ble_eq_true rfl)⟩ ⟨(Nat.le_of_ble_eq_true rfl), (Nat.le_of_ble_eq_true rfl)⟩ (Nat.le_of_ble_eq_true rfl) (fun r6 h6 q6 => ?_)
                    obtain ⟨rfl, e6⟩ := q6
                    rw [e6]
                    refine T_ivV (pc := 104) d_TaggedFormat_readEntry_104 sI_TaggedFormat_106 (c_Value_store hs2 hv2 ht hw d1) hv2.obj rfl rfl ⟨(Nat.le_of_ble_eq_true rfl), (Nat.le_of_ble_eq_true rfl)⟩ ⟨(Nat.le_of_ble_eq_true rfl), (Nat.le_of_ble_eq_true rfl)⟩ (Nat.le_of_ble_eq_true rfl) (fun r7 h7 q7 => ?_)
                    obtain ⟨q7, o7⟩ := q7
                    have hR7 := (o7 rd (by omega) (by omega)).trans hR2
                    have o8 : ∀ q, q ≠ v + 1 → q ≠ v + 2 → q ≠ rd → h7 q = h q := fun q z1 z2 z3 => (o7 q z1 z2).trans ((o2 q z3).trans (o1 q z3))
                    by_cases hbb : t.2.2 = true
                    · rw [hbb, if_pos rfl] at q7 he3
                      by_cases hw4 : w.length < 4
                      · rw [if_pos hw4] at q7 he3
                        obtain ⟨rfl, hv7⟩ := q7
                        refine T_zret (pc := 107) d_TaggedFormat_readEntry_107 rfl (by decide) rfl (Nat.le_refl _) ?_
                        refine ⟨o8, ?_⟩
                        rw [he1, he2, he3]
                        exact ⟨rfl, by omega, by rw [← Nat.add_assoc]; exact hR7, hv7⟩
                      · rw [if_neg hw4] at q7 he3
                        obtain ⟨rfl, e7⟩ := q7
                        refine T_zret (pc := 107) d_TaggedFormat_readEntry_107 rfl (by decide) rfl (Nat.le_refl _) ?_
                        refine ⟨o8, ?_⟩
                        rw [he1, he2, he3]
                        exact ⟨rfl, vs, _, false, by rw [e7]; exact hv2, hR7⟩
                    · have hbf : t.2.2 = false := by cases hq : t.2.2 <;> simp_all
                      rw [hbf, if_neg (by decide)] at q7 he3
                      obtain ⟨rfl, hv7⟩ := q7
                      refine T_zret (pc := 107) d_TaggedFormat_readEntry_107 rfl (by decide) rfl (Nat.le_refl _) ?_
                      refine ⟨o8, ?_⟩
                      rw [he1, he2, he3]
                      exact ⟨rfl, by omega, by rw [← Nat.add_assoc]; exact hR7, hv7⟩
                  · have he2 : ent2 ns vs kk pl = some vs := by rw [ent2, hi]; simp only [ht]; rw [if_neg (fun e => q82 ((lg_cmp_eq _ _).mpr (by rw [e])))]
                    refine T_iconst (v := 1) (pc := 85) d_TaggedFormat_readEntry_85 rfl ?_
                    refine T_zret (pc := 86) d_TaggedFormat_readEntry_86 rfl (by decide) rfl (Nat.le_refl _) ?_
                    refine ⟨fun q _ _ z => (o2 q z).trans (o1 q z), ?_⟩
                    rw [he1, he2]
                    exact ⟨rfl, by omega, by rw [← Nat.add_assoc]; exact hR2, hv2⟩
            · exact absurd (show bI false = 0 from rfl) q46
        · refine T_iconst (v := 0) (pc := 28) d_TaggedFormat_readEntry_28 rfl ?_
          refine T_zret (pc := 29) d_TaggedFormat_readEntry_29 rfl (by decide) rfl (Nat.le_refl _) ?_
          first
            | exact absurd (show bI false = 0 from rfl) q9
            | (refine ⟨fun q _ _ z => o1 q z, ?_⟩
               rw [he0, if_pos (Or.inl ((lg_cmp_lt _ _).mp q17))]
               exact ⟨rfl, vs, _, false, hv1, hR1⟩)
            | (refine ⟨fun q _ _ z => o1 q z, ?_⟩
               rw [he0, if_pos (Or.inr (Int64.not_le.mp (fun q => q25 ((lg_cmp_le _ _).mpr q))))]
               exact ⟨rfl, vs, _, false, hv1, hR1⟩)
end
section
/-! OnceWire$TaggedFormat.read. -/
def dtF : Nat → List Sf → List (List Int32) → List Int32 → Option (List (List Int32))
  | 0, _, vs, r => if r.length = 0 then some vs else none
  | k + 1, ns, vs, r => if r.length = 0 then some vs else match ent ns vs r with
    | none => none
    | some (vs', m) => dtF k ns vs' (r.drop m)
def decT (ns : List Sf) (r : List Int32) : Option (List (List Int32)) := dtF r.length ns (vnil ns) r
set_option maxRecDepth 100000 in
set_option maxHeartbeats 4000000 in
theorem c_TaggedFormat_read_loop {n fm v sa rd src cap : Nat} {ns : List Sf} {l : List Int32} (hc : cap < 2 ^ 30) (d1 : sa + 4 < v) (d2 : v + 2 < src) (d3 : src + 1 < rd) (d4 : fm < v ∨ rd < fm) {N : Nat} {Q : aQ} (hN : N < 2 ^ 30) : ∀ (k j p : Nat) (vs : List (List Int32)) (h : aH), j + k = N → p ≤ l.length → h fm = some (.inr (7, [.ref sa])) → Sc h sa ns → Va h v sa ns vs → Rd h rd src p false → By h src cap l → (∀ h' vs' p' f', dtF k ns vs (l.drop p) = some vs' → Va h' v sa ns vs' → Rd h' rd src p' f' → (∀ q, q ≠ v + 1 → q ≠ v + 2 → q ≠ rd → h' q = h q) → Q (some (.int 1)) h') → (∀ h' vs' p' f', dtF k ns vs (l.drop p) = none → Va h' v sa ns vs' → Rd h' rd src p' f' → (∀ q, q ≠ v + 1 → q ≠ v + 2 → q ≠ rd → h' q = h q) → Q (some (.int 0)) h') → Tri M_TaggedFormat_read (a_rm 3 0 0) (a_Z 0 0 Q) 12 [(4, .int (nI j)), (3, .int (nI N)), (0, .ref fm), (1, .ref rd), (2, .ref v)] [] n h 0 0 := by
  intro k
  induction k with
  | zero =>
    intro j p vs h hjk hp hF hs hv hR hb hQ1 hQ0
    have hbl := hb.le
    have e3 : (l.drop p).length = l.length - p := List.length_drop
    refine T_iload (pc := 12) d_TaggedFormat_read_12 rfl ?_
    refine T_iload_n (pc := 14) d_TaggedFormat_read_14 rfl ?_
    refine T_icmp_ge (tgt := 42) (pc := 15) d_TaggedFormat_read_15 (by decide) (fun q15 => ?_) (fun q15 => ?_)
    · refine T_aload_n (pc := 42) d_TaggedFormat_read_42 rfl ?_
      refine T_ivV (pc := 43) d_TaggedFormat_read_43 sI_TaggedFormat_75 (c_Reader_left hR hb hc hp) hR rfl rfl ⟨(Nat.le_of_ble_eq_true rfl), (Nat.le_of_ble_eq_true rfl)⟩ ⟨(Nat.le_of_ble_eq_true rfl), (Nat.le_of_ble_eq_true rfl)⟩ (Nat.le_of_ble_eq_true rfl) (fun r1 h1 q1 => ?_)
      obtain ⟨rfl, e1⟩ := q1
      rw [e1]
      refine T_if_ne (tgt := 53) (pc := 46) d_TaggedFormat_read_46 (by decide) (fun q46 => ?_) (fun q46 => ?_)
      · refine T_iconst (v := 0) (pc := 53) d_TaggedFormat_read_53 rfl ?_
        refine T_zret (pc := 54) d_TaggedFormat_read_54 rfl (by decide) rfl (Nat.le_refl _) ?_
        first
          | (have h0 : l.length - p = 0 := (nI_eq (a := l.length - p) (b := 0) (by omega) (by decide)).mp q46
             exact hQ1 h vs p false (by rw [dtF, if_pos (by omega)]) hv hR (fun _ _ _ _ => rfl))
          | (have h0 : ¬ l.length - p = 0 := fun e => q46 (by rw [e]; rfl)
             exact hQ0 h vs p false (by rw [dtF, if_neg (by omega)]) hv hR (fun _ _ _ _ => rfl))
      · refine T_iconst (v := 1) (pc := 49) d_TaggedFormat_read_49 rfl ?_
        refine T_goto (tgt := 54) (pc := 50) d_TaggedFormat_read_50 (by decide) ?_
        refine T_zret (pc := 54) d_TaggedFormat_read_54 rfl (by decide) rfl (Nat.le_refl _) ?_
        first
          | (have h0 : l.length - p = 0 := (nI_eq (a := l.length - p) (b := 0) (by omega) (by decide)).mp q46
             exact hQ1 h vs p false (by rw [dtF, if_pos (by omega)]) hv hR (fun _ _ _ _ => rfl))
          | (have h0 : ¬ l.length - p = 0 := fun e => q46 (by rw [e]; rfl)
             exact hQ0 h vs p false (by rw [dtF, if_neg (by omega)]) hv hR (fun _ _ _ _ => rfl))
    · exact absurd (nI_le (by omega) (by omega)) q15
  | succ k ih =>
    intro j p vs h hjk hp hF hs hv hR hb hQ1 hQ0
    have hbl := hb.le
    have e3 : (l.drop p).length = l.length - p := List.length_drop
    refine T_iload (pc := 12) d_TaggedFormat_read_12 rfl ?_
    refine T_iload_n (pc := 14) d_TaggedFormat_read_14 rfl ?_
    refine T_icmp_ge (tgt := 42) (pc := 15) d_TaggedFormat_read_15 (by decide) (fun q15 => ?_) (fun q15 => ?_)
    · exact absurd q15 (nI_ge (by omega) (by omega))
    · refine T_aload_n (pc := 18) d_TaggedFormat_read_18 rfl ?_
      refine T_ivV (pc := 19) d_TaggedFormat_read_19 sI_TaggedFormat_75 (c_Reader_left hR hb hc hp) hR rfl rfl ⟨(Nat.le_of_ble_eq_true rfl), (Nat.le_of_ble_eq_true rfl)⟩ ⟨(Nat.le_of_ble_eq_true rfl), (Nat.le_of_ble_eq_true rfl)⟩ (Nat.le_of_ble_eq_true rfl) (fun r1 h1 q1 => ?_)
      obtain ⟨rfl, e1⟩ := q1
      rw [e1]
      refine T_if_le (tgt := 42) (pc := 22) d_TaggedFormat_read_22 (by decide) (fun q22 => ?_) (fun q22 => ?_)
      · have h0 : l.length - p = 0 := by have := (nI_leI (a := l.length - p) (b := 0) (by omega) (by decide)).mp q22; omega
        refine T_aload_n (pc := 42) d_TaggedFormat_read_42 rfl ?_
        refine T_ivV (pc := 43) d_TaggedFormat_read_43 sI_TaggedFormat_75 (c_Reader_left hR hb hc hp) hR rfl rfl ⟨(Nat.le_of_ble_eq_true rfl), (Nat.le_of_ble_eq_true rfl)⟩ ⟨(Nat.le_of_ble_eq_true rfl), (Nat.le_of_ble_eq_true rfl)⟩ (Nat.le_of_ble_eq_true rfl) (fun r2 h2 q2 => ?_)
        obtain ⟨rfl, e2⟩ := q2
        rw [e2]
        refine T_if_ne (tgt := 53) (pc := 46) d_TaggedFormat_read_46 (by decide) (fun q46 => ?_) (fun q46 => ?_)
        · exact absurd (by rw [h0]; rfl) q46
        · refine T_iconst (v := 1) (pc := 49) d_TaggedFormat_read_49 rfl ?_
          refine T_goto (tgt := 54) (pc := 50) d_TaggedFormat_read_50 (by decide) ?_
          refine T_zret (pc := 54) d_TaggedFormat_read_54 rfl (by decide) rfl (Nat.le_refl _) ?_
          exact hQ1 h vs p false (by rw [dtF, if_pos (by omega)]) hv hR (fun _ _ _ _ => rfl)
      · refine T_aload_n (pc := 25) d_TaggedFormat_read_25 rfl ?_
        refine T_aload_n (pc := 26) d_TaggedFormat_read_26 rfl ?_
        refine T_aload_n (pc := 27) d_TaggedFormat_read_27 rfl ?_
        have h0 : ¬ l.length - p = 0 := fun e => q22 (by rw [e]; decide)
        refine T_ivV (pc := 28) d_TaggedFormat_read_28 sI_TaggedFormat_79 (c_TaggedFormat_readEntry hc d1 d2 d3 d4 hF hs hv hR hb hp) hF rfl rfl ⟨(Nat.le_of_ble_eq_true rfl), (Nat.le_of_ble_eq_true rfl)⟩ ⟨(Nat.le_of_ble_eq_true rfl), (Nat.le_of_ble_eq_true rfl)⟩ (Nat.le_of_ble_eq_true rfl) (fun r3 h3 q3 => ?_)
        obtain ⟨o3, q3⟩ := q3
        cases hz : ent ns vs (l.drop p) with
        | none =>
          rw [hz] at q3
          obtain ⟨rfl, vs3, p3, f3, hv3, hR3⟩ := q3
          refine T_if_ne (tgt := 36) (pc := 31) d_TaggedFormat_read_31 (by decide) (fun q31 => ?_) (fun q31 => ?_)
          · exact absurd q31 (by decide)
          · refine T_iconst (v := 0) (pc := 34) d_TaggedFormat_read_34 rfl ?_
            refine T_zret (pc := 35) d_TaggedFormat_read_35 rfl (by decide) rfl (Nat.le_refl _) ?_
            refine hQ0 _ vs3 p3 f3 ?_ hv3 hR3 o3
            rw [dtF, if_neg (by omega), hz]
        | some z =>
          obtain ⟨vs3, m⟩ := z
          rw [hz] at q3
          obtain ⟨rfl, hm, hR3, hv3⟩ := q3
          have hd : dtF (k + 1) ns vs (l.drop p) = dtF k ns vs3 (l.drop (p + m)) := by
            rw [dtF, if_neg (by omega), hz, show l.drop (p + m) = (l.drop p).drop m by rw [List.drop_drop]]
          refine T_if_ne (tgt := 36) (pc := 31) d_TaggedFormat_read_31 (by decide) (fun q31 => ?_) (fun q31 => ?_)
          · refine T_iinc (pc := 36) d_TaggedFormat_read_36 rfl (nI_1 j) (Nat.le_of_ble_eq_true rfl) rfl ?_
            refine T_goto (tgt := 12) (pc := 39) d_TaggedFormat_read_39 (by decide) ?_
            exact ih (j + 1) (p + m) vs3 h3 (by omega) hm ((o3 fm (by omega) (by omega) (by omega)).trans hF) (hs.same (fun q z1 z2 => o3 q (by omega) (by omega) (by omega))) hv3 hR3 (hb.same (o3 src (by omega) (by omega) (by omega)) (o3 (src + 1) (by omega) (by omega) (by omega))) (fun h' vs' p' f' x' g' r' o' => hQ1 h' vs' p' f' (hd.trans x') g' r' (fun q z1 z2 z3 => (o' q z1 z2 z3).trans (o3 q z1 z2 z3))) (fun h' vs' p' f' x' g' r' o' => hQ0 h' vs' p' f' (hd.trans x') g' r' (fun q z1 z2 z3 => (o' q z1 z2 z3).trans (o3 q z1 z2 z3)))
          · exact absurd q31 (by decide)
set_option maxRecDepth 100000 in
set_option maxHeartbeats 4000000 in
theorem c_TaggedFormat_read {n fm v sa rd src cap : Nat} {ns : List Sf} {l : List Int32} (hc : cap < 2 ^ 30) (d1 : sa + 4 < v) (d2 : v + 2 < src) (d3 : src + 1 < rd) (d4 : fm < v ∨ rd < fm) {p : Nat} {h : aH} {vs : List (List Int32)} (hF : h fm = some (.inr (7, [.ref sa]))) (hs : Sc h sa ns) (hv : Va h v sa ns vs) (hR : Rd h rd src p false) (hb : By h src cap l) (hp : p ≤ l.length) : Con M_TaggedFormat_read 3 0 0 n [.ref fm, .ref rd, .ref v] h (fun r h' => (∀ q, q ≠ v + 1 → q ≠ v + 2 → q ≠ rd → h' q = h q) ∧ (∃ p' f', Rd h' rd src p' f') ∧ match decT ns (l.drop p) with | some vs' => r = some (.int 1) ∧ Va h' v sa ns vs' | none => r = some (.int 0) ∧ ∃ vs', Va h' v sa ns vs') := by
  have hbl := hb.le
  refine Con.of rfl (Nat.le_of_ble_eq_true rfl) ?_
  refine T_aload_n (pc := 0) d_TaggedFormat_read_0 rfl ?_
  refine T_ivV (pc := 1) d_TaggedFormat_read_1 sI_TaggedFormat_71 (c_Value_clear hv hs.le) hv.obj rfl rfl ⟨(Nat.le_of_ble_eq_true rfl), (Nat.le_of_ble_eq_true rfl)⟩ ⟨(Nat.le_of_ble_eq_true rfl), (Nat.le_of_ble_eq_true rfl)⟩ (Nat.le_of_ble_eq_true rfl) (fun r0 h0 q0 => ?_)
  obtain ⟨rfl, hv0, o0⟩ := q0
  have hs0 := hs.same (h' := h0) (fun q z1 z2 => o0 q (by omega) (by omega))
  have hb0 := hb.same (o0 src (by omega) (by omega)) (o0 (src + 1) (by omega) (by omega))
  have hR0 := (o0 rd (by omega) (by omega)).trans hR
  refine T_aload_n (pc := 4) d_TaggedFormat_read_4 rfl ?_
  refine T_ivV (pc := 5) d_TaggedFormat_read_5 sI_TaggedFormat_75 (c_Reader_left hR0 hb0 hc hp) hR0 rfl rfl ⟨(Nat.le_of_ble_eq_true rfl), (Nat.le_of_ble_eq_true rfl)⟩ ⟨(Nat.le_of_ble_eq_true rfl), (Nat.le_of_ble_eq_true rfl)⟩ (Nat.le_of_ble_eq_true rfl) (fun r1 h1 q1 => ?_)
  obtain ⟨rfl, e1⟩ := q1
  rw [e1]
  refine T_istore_n (pc := 8) d_TaggedFormat_read_8 rfl (Nat.le_of_ble_eq_true rfl) rfl ?_
  refine T_iconst (v := 0) (pc := 9) d_TaggedFormat_read_9 rfl ?_
  refine T_istore (pc := 10) d_TaggedFormat_read_10 (Nat.le_of_ble_eq_true rfl) rfl ?_
  have e3 : (l.drop p).length = l.length - p := List.length_drop
  refine c_TaggedFormat_read_loop hc d1 d2 d3 d4 (N := l.length - p) (by omega) (l.length - p) 0 p (vnil ns) h0 (by omega) hp ((o0 fm (by omega) (by omega)).trans hF) hs0 hv0 hR0 hb0 (fun h' vs' p' f' x' g' r' o' => ?_) (fun h' vs' p' f' x' g' r' o' => ?_)
  · refine ⟨fun q z1 z2 z3 => (o' q z1 z2 z3).trans (o0 q z1 z2), ⟨p', f', r'⟩, ?_⟩
    rw [decT, e3, x']
    exact ⟨rfl, g'⟩
  · refine ⟨fun q z1 z2 z3 => (o' q z1 z2 z3).trans (o0 q z1 z2), ⟨p', f', r'⟩, ?_⟩
    rw [decT, e3, x']
    exact ⟨rfl, vs', g'⟩
end
section
/-! OnceWire$Network: the line of messages. -/
abbrev Mg : Type := List Int32 × Bool
def Nw (h : aH) (w : Nat) (ads : List Nat) (ms : List Mg) : Prop := (ads.length = 17 ∧ ads.Nodup ∧ (∀ q, q ∈ ads → w + 3 ≤ q ∧ q ≤ w + 35 ∧ (q - w) % 2 = 1) ∧ ms.length ≤ 16) ∧ (∃ g : Nat → Int32, h w = some (.inr (3, [.ref (w + 1), .ref (w + 2), .int (nI ms.length)])) ∧ h (w + 1) = some (.inl (a_tB, 17, .inr (fun i => ads[i]?))) ∧ h (w + 2) = some (.inl (.boolean, 16, .inl g)) ∧ ∀ (i : Nat) (m : Mg), ms[i]? = some m → g i = bI m.2) ∧ (∀ q, q ∈ ads → ∃ l, By h q 156 l) ∧ ∀ (i : Nat) (m : Mg) (q : Nat), ms[i]? = some m → ads[i]? = some q → By h q 156 m.1
theorem Nw.same {h h' : aH} {w : Nat} {ads : List Nat} {ms : List Mg} (hn : Nw h w ads ms) (o : ∀ q, w ≤ q → q ≤ w + 36 → h' q = h q) : Nw h' w ads ms := by
  obtain ⟨⟨a1, a2, a3, a4⟩, ⟨g, b1, b2, b3, b4⟩, c1, c2⟩ := hn
  refine ⟨⟨a1, a2, a3, a4⟩, ⟨g, (o w (by omega) (by omega)).trans b1, (o _ (by omega) (by omega)).trans b2, (o _ (by omega) (by omega)).trans b3, b4⟩, fun q hq => ?_, fun i m q hm hq => ?_⟩
  · obtain ⟨l, hl⟩ := c1 q hq
    have := a3 q hq
    exact ⟨l, hl.same (o q (by omega) (by omega)) (o _ (by omega) (by omega))⟩
  · have := a3 q (List.mem_of_getElem? hq)
    exact (c2 i m q hm hq).same (o q (by omega) (by omega)) (o _ (by omega) (by omega))
theorem Nw.le {h : aH} {w : Nat} {ads : List Nat} {ms : List Mg} (hn : Nw h w ads ms) : ms.length ≤ 16 := hn.1.2.2.2
theorem Nw.obj {h : aH} {w : Nat} {ads : List Nat} {ms : List Mg} (hn : Nw h w ads ms) : h w = some (.inr (3, [.ref (w + 1), .ref (w + 2), .int (nI ms.length)])) := by
  obtain ⟨_, ⟨_, q, _⟩, _⟩ := hn
  exact q
theorem nodup_ne {l : List Nat} (h : l.Nodup) {i j a b : Nat} (hi : l[i]? = some a) (hj : l[j]? = some b) (hne : i ≠ j) : a ≠ b := by
  intro e
  subst e
  obtain ⟨h1, e1⟩ := List.getElem?_eq_some_iff.mp hi
  obtain ⟨h2, e2⟩ := List.getElem?_eq_some_iff.mp hj
  rcases Nat.lt_or_gt_of_ne hne with h3 | h3
  · exact (List.pairwise_iff_getElem.mp h) i j h1 h2 h3 (e1.trans e2.symm)
  · exact (List.pairwise_iff_getElem.mp h) j i h2 h1 h3 (e2.trans e1.symm)
theorem nar_bI (b : Bool) : vp_nar .boolean (bI b) = bI b := by cases b <;> rfl
set_option maxRecDepth 100000 in
set_option maxHeartbeats 4000000 in
theorem c_Network_has {n w : Nat} {h : aH} {ads : List Nat} {ms : List Mg} (hn : Nw h w ads ms) {k : Int32} : Con M_Network_has 0 0 0 n [.ref w, .int k] h (fun r h' => r = some (.int (if 0 ≤ k ∧ k < nI ms.length then 1 else 0)) ∧ h' = h) := by
  refine Con.of rfl (Nat.le_of_ble_eq_true rfl) ?_
  refine T_iload_n (pc := 0) d_Network_has_0 rfl ?_
  refine T_if_lt (tgt := 16) (pc := 1) d_Network_has_1 (by decide) (fun q1 => ?_) (fun q1 => ?_)
  · refine T_iconst (v := 0) (pc := 16) d_Network_has_16 rfl ?_
    refine T_zret (pc := 17) d_Network_has_17 rfl (by decide) rfl (Nat.le_refl _) ?_
    refine ⟨?_, rfl⟩
    first
      | rw [if_neg (fun q => absurd q.1 (Int32.not_le.mpr q1))]
      | rw [if_neg (fun q => absurd q.2 (Int32.not_lt.mpr q9))]
      | rw [if_pos ⟨Int32.not_lt.mp q1, Int32.not_le.mp q9⟩]
  · refine T_iload_n (pc := 4) d_Network_has_4 rfl ?_
    refine T_aload_n (pc := 5) d_Network_has_5 rfl ?_
    refine T_get (pc := 6) d_Network_has_6 sF_Network_21_Network hn.obj rfl ?_
    refine T_icmp_ge (tgt := 16) (pc := 9) d_Network_has_9 (by decide) (fun q9 => ?_) (fun q9 => ?_)
    · refine T_iconst (v := 0) (pc := 16) d_Network_has_16 rfl ?_
      refine T_zret (pc := 17) d_Network_has_17 rfl (by decide) rfl (Nat.le_refl _) ?_
      refine ⟨?_, rfl⟩
      first
        | rw [if_neg (fun q => absurd q.1 (Int32.not_le.mpr q1))]
        | rw [if_neg (fun q => absurd q.2 (Int32.not_lt.mpr q9))]
        | rw [if_pos ⟨Int32.not_lt.mp q1, Int32.not_le.mp q9⟩]
    · refine T_iconst (v := 1) (pc := 12) d_Network_has_12 rfl ?_
      refine T_goto (tgt := 17) (pc := 13) d_Network_has_13 (by decide) ?_
      refine T_zret (pc := 17) d_Network_has_17 rfl (by decide) rfl (Nat.le_refl _) ?_
      refine ⟨?_, rfl⟩
      first
        | rw [if_neg (fun q => absurd q.1 (Int32.not_le.mpr q1))]
        | rw [if_neg (fun q => absurd q.2 (Int32.not_lt.mpr q9))]
        | rw [if_pos ⟨Int32.not_lt.mp q1, Int32.not_le.mp q9⟩]
set_option maxRecDepth 100000 in
set_option maxHeartbeats 4000000 in
theorem c_Network_isFull {n w : Nat} {h : aH} {ads : List Nat} {ms : List Mg} (hn : Nw h w ads ms) : Con M_Network_isFull 0 0 0 n [.ref w] h (fun r h' => r = some (.int (if ms.length < 16 then 0 else 1)) ∧ h' = h) := by
  have hle := hn.le
  refine Con.of rfl (Nat.le_of_ble_eq_true rfl) ?_
  refine T_aload_n (pc := 0) d_Network_isFull_0 rfl ?_
  refine T_get (pc := 1) d_Network_isFull_1 sF_Network_21_Network hn.obj rfl ?_
  refine T_bipush (v := 16) (pc := 4) d_Network_isFull_4 rfl ?_
  refine T_icmp_lt (tgt := 13) (pc := 6) d_Network_isFull_6 (by decide) (fun q6 => ?_) (fun q6 => ?_)
  · refine T_iconst (v := 0) (pc := 13) d_Network_isFull_13 rfl ?_
    refine T_zret (pc := 14) d_Network_isFull_14 rfl (by decide) rfl (Nat.le_refl _) ?_
    refine ⟨?_, rfl⟩
    first
      | rw [if_pos ((nI_ltI (b := 16) (by omega) (by decide)).mp q6)]
      | rw [if_neg (fun q => q6 (nI_lt (b := 16) q (by decide)))]
  · refine T_iconst (v := 1) (pc := 9) d_Network_isFull_9 rfl ?_
    refine T_goto (tgt := 14) (pc := 10) d_Network_isFull_10 (by decide) ?_
    refine T_zret (pc := 14) d_Network_isFull_14 rfl (by decide) rfl (Nat.le_refl _) ?_
    refine ⟨?_, rfl⟩
    first
      | rw [if_pos ((nI_ltI (b := 16) (by omega) (by decide)).mp q6)]
      | rw [if_neg (fun q => q6 (nI_lt (b := 16) q (by decide)))]
set_option maxRecDepth 100000 in
set_option maxHeartbeats 4000000 in
theorem c_Network_message {n w : Nat} {h : aH} {ads : List Nat} {ms : List Mg} (hn : Nw h w ads ms) {k : Nat} {m : Mg} (hm : ms[k]? = some m) {q0 : Nat} (hq : ads[k]? = some q0) : Con M_Network_message 1 0 0 n [.ref w, .int (nI k)] h (fun r h' => r = some (.ref q0) ∧ h' = h) := by
  have hle := hn.le
  have hk : k < ms.length := (List.getElem?_eq_some_iff.mp hm).1
  obtain ⟨⟨a1, a2, a3, a4⟩, ⟨g, b1, b2, b3, b4⟩, c1, c2⟩ := id hn
  refine Con.of rfl (Nat.le_of_ble_eq_true rfl) ?_
  refine T_aload_n (pc := 0) d_Network_message_0 rfl ?_
  refine T_get (pc := 1) d_Network_message_1 sF_Network_13_Network hn.obj rfl ?_
  refine T_aload_n (pc := 4) d_Network_message_4 rfl ?_
  refine T_iload_n (pc := 5) d_Network_message_5 rfl ?_
  refine T_ivV (pc := 6) d_Network_message_6 sI_Network_28 (c_Network_has hn) hn.obj rfl rfl ⟨(Nat.le_of_ble_eq_true rfl), (Nat.le_of_ble_eq_true rfl)⟩ ⟨(Nat.le_of_ble_eq_true rfl), (Nat.le_of_ble_eq_true rfl)⟩ (Nat.le_of_ble_eq_true rfl) (fun r1 h1 q1 => ?_)
  obtain ⟨rfl, e1⟩ := q1
  rw [e1, if_pos (in_has hk (by omega))]
  refine T_if_eq (tgt := 16) (pc := 9) d_Network_message_9 (by decide) (fun q9 => ?_) (fun q9 => ?_)
  · exact absurd q9 (by decide)
  · refine T_iload_n (pc := 12) d_Network_message_12 rfl ?_
    refine T_goto (tgt := 18) (pc := 13) d_Network_message_13 (by decide) ?_
    refine T_aald (pc := 18) d_Network_message_18 b2 (vp_in_nI (by omega) (by decide)) (by rw [nI_clamp (by omega)]; exact hq) ?_
    refine T_aret (pc := 19) d_Network_message_19 rfl rfl (Nat.le_refl _) ?_
    exact ⟨rfl, rfl⟩
set_option maxRecDepth 100000 in
set_option maxHeartbeats 4000000 in
theorem c_Network_isForServer {n w : Nat} {h : aH} {ads : List Nat} {ms : List Mg} (hn : Nw h w ads ms) {k : Nat} {m : Mg} (hm : ms[k]? = some m) : Con M_Network_isForServer 1 0 0 n [.ref w, .int (nI k)] h (fun r h' => r = some (.int (bI m.2)) ∧ h' = h) := by
  have hle := hn.le
  have hk : k < ms.length := (List.getElem?_eq_some_iff.mp hm).1
  obtain ⟨⟨a1, a2, a3, a4⟩, ⟨g, b1, b2, b3, b4⟩, c1, c2⟩ := id hn
  refine Con.of rfl (Nat.le_of_ble_eq_true rfl) ?_
  refine T_aload_n (pc := 0) d_Network_isForServer_0 rfl ?_
  refine T_iload_n (pc := 1) d_Network_isForServer_1 rfl ?_
  refine T_ivV (pc := 2) d_Network_isForServer_2 sI_Network_28 (c_Network_has hn) hn.obj rfl rfl ⟨(Nat.le_of_ble_eq_true rfl), (Nat.le_of_ble_eq_true rfl)⟩ ⟨(Nat.le_of_ble_eq_true rfl), (Nat.le_of_ble_eq_true rfl)⟩ (Nat.le_of_ble_eq_true rfl) (fun r1 h1 q1 => ?_)
  obtain ⟨rfl, e1⟩ := q1
  rw [e1, if_pos (in_has hk (by omega))]
  refine T_if_eq (tgt := 21) (pc := 5) d_Network_isForServer_5 (by decide) (fun q5 => ?_) (fun q5 => ?_)
  · refine T_iconst (v := 0) (pc := 21) d_Network_isForServer_21 rfl ?_
    refine T_zret (pc := 22) d_Network_isForServer_22 rfl (by decide) rfl (Nat.le_refl _) ?_
    first
      | exact absurd q5 (by decide)
      | (rw [nI_clamp (by omega), b4 k m hm] at q14
         rcases bI_01 m.2 with e | e
         · first | exact absurd e q14 | (refine ⟨?_, rfl⟩; rw [e]; done)
         · first | exact absurd (e.symm.trans q14) (by decide) | (refine ⟨?_, rfl⟩; rw [e]; done))
  · refine T_aload_n (pc := 8) d_Network_isForServer_8 rfl ?_
    refine T_get (pc := 9) d_Network_isForServer_9 sF_Network_17_Network hn.obj rfl ?_
    refine T_iload_n (pc := 12) d_Network_isForServer_12 rfl ?_
    refine T_zald (pc := 13) d_Network_isForServer_13 b3 (vp_in_nI (by omega) (by decide)) ?_
    refine T_if_eq (tgt := 21) (pc := 14) d_Network_isForServer_14 (by decide) (fun q14 => ?_) (fun q14 => ?_)
    · refine T_iconst (v := 0) (pc := 21) d_Network_isForServer_21 rfl ?_
      refine T_zret (pc := 22) d_Network_isForServer_22 rfl (by decide) rfl (Nat.le_refl _) ?_
      first
        | exact absurd q5 (by decide)
        | (rw [nI_clamp (by omega), b4 k m hm] at q14
           rcases bI_01 m.2 with e | e
           · first | exact absurd e q14 | (refine ⟨?_, rfl⟩; rw [e]; done)
           · first | exact absurd (e.symm.trans q14) (by decide) | (refine ⟨?_, rfl⟩; rw [e]; done))
    · refine T_iconst (v := 1) (pc := 17) d_Network_isForServer_17 rfl ?_
      refine T_goto (tgt := 22) (pc := 18) d_Network_isForServer_18 (by decide) ?_
      refine T_zret (pc := 22) d_Network_isForServer_22 rfl (by decide) rfl (Nat.le_refl _) ?_
      first
        | exact absurd q5 (by decide)
        | (rw [nI_clamp (by omega), b4 k m hm] at q14
           rcases bI_01 m.2 with e | e
           · first | exact absurd e q14 | (refine ⟨?_, rfl⟩; rw [e]; done)
           · first | exact absurd (e.symm.trans q14) (by decide) | (refine ⟨?_, rfl⟩; rw [e]; done))
set_option maxRecDepth 100000 in
set_option maxHeartbeats 4000000 in
theorem c_Network_send {n w : Nat} {h : aH} {ads : List Nat} {ms : List Mg} (hn : Nw h w ads ms) {a2 cap2 : Nat} {b : Bool} {l2 : List Int32} (hb2 : By h a2 cap2 l2) (hc2 : cap2 < 2 ^ 31) (hr : l2.length ≤ 156) (hne : ms.length < 16 → ∀ q0, ads[ms.length]? = some q0 → a2 ≠ q0) : Con M_Network_send 2 0 0 n [.ref w, .ref a2, .int (bI b)] h (fun r h' => if ms.length < 16 then r = none ∧ Nw h' w ads (ms ++ [(l2, b)]) ∧ (∀ q, q < w ∨ w + 36 < q → h' q = h q) else r = none ∧ h' = h) := by
  have hle := hn.le
  obtain ⟨⟨a1, a2n, a3, a4⟩, ⟨g, b1, b2, b3, b4⟩, c1, c2⟩ := id hn
  refine Con.of rfl (Nat.le_of_ble_eq_true rfl) ?_
  refine T_aload_n (pc := 0) d_Network_send_0 rfl ?_
  refine T_ivV (pc := 1) d_Network_send_1 sI_Network_32 (c_Network_isFull hn) hn.obj rfl rfl ⟨(Nat.le_of_ble_eq_true rfl), (Nat.le_of_ble_eq_true rfl)⟩ ⟨(Nat.le_of_ble_eq_true rfl), (Nat.le_of_ble_eq_true rfl)⟩ (Nat.le_of_ble_eq_true rfl) (fun r1 h1 q1 => ?_)
  obtain ⟨rfl, e1⟩ := q1
  rw [e1]
  refine T_if_eq (tgt := 8) (pc := 4) d_Network_send_4 (by decide) (fun q4 => ?_) (fun q4 => ?_)
  · have hf : ms.length < 16 := Classical.byContradiction (fun q => by
      rw [if_neg q] at q4
      exact absurd q4 (by decide))
    obtain ⟨q0, hq0⟩ : ∃ q0, ads[ms.length]? = some q0 := ⟨_, List.getElem?_eq_getElem (by omega)⟩
    obtain ⟨l0, hb0⟩ := c1 q0 (List.mem_of_getElem? hq0)
    have hqr := a3 q0 (List.mem_of_getElem? hq0)
    have hne2 := hne hf q0 hq0
    refine T_aload_n (pc := 8) d_Network_send_8 rfl ?_
    refine T_get (pc := 9) d_Network_send_9 sF_Network_13_Network b1 rfl ?_
    refine T_aload_n (pc := 12) d_Network_send_12 rfl ?_
    refine T_get (pc := 13) d_Network_send_13 sF_Network_21_Network b1 rfl ?_
    refine T_aald (pc := 16) d_Network_send_16 b2 (vp_in_nI (by omega) (by decide)) (by rw [nI_clamp (by omega)]; exact hq0) ?_
    refine T_aload_n (pc := 17) d_Network_send_17 rfl ?_
    refine T_ivV (pc := 18) d_Network_send_18 sI_Network_36 (c_Bytes_become hb0 hb2 (by decide) hc2 hne2 hr) hb0.obj rfl rfl ⟨(Nat.le_of_ble_eq_true rfl), (Nat.le_of_ble_eq_true rfl)⟩ ⟨(Nat.le_of_ble_eq_true rfl), (Nat.le_of_ble_eq_true rfl)⟩ (Nat.le_of_ble_eq_true rfl) (fun r2 h2 q2 => ?_)
    obtain ⟨rfl, hb3, o2⟩ := q2
    have b12 := (o2 w (by omega) (by omega)).trans b1
    have b22 := (o2 (w + 1) (by omega) (by omega)).trans b2
    have b32 := (o2 (w + 2) (by omega) (by omega)).trans b3
    refine T_aload_n (pc := 21) d_Network_send_21 rfl ?_
    refine T_get (pc := 22) d_Network_send_22 sF_Network_17_Network b12 rfl ?_
    refine T_aload_n (pc := 25) d_Network_send_25 rfl ?_
    refine T_get (pc := 26) d_Network_send_26 sF_Network_21_Network b12 rfl ?_
    refine T_iload_n (pc := 29) d_Network_send_29 rfl ?_
    refine T_zast (pc := 30) d_Network_send_30 b32 (vp_in_nI hf (by decide)) (T_up (fun h30x1 g30x1 o30x1 => ?_))
    have b12_30x1 := (o30x1 w (by omega)).trans b12
    have b22_30x1 := (o30x1 (w + 1) (by omega)).trans b22
    refine T_aload_n (pc := 31) d_Network_send_31 rfl ?_
    refine T_dup (pc := 32) d_Network_send_32 rfl ?_
    refine T_get (pc := 33) d_Network_send_33 sF_Network_21_Network b12_30x1 rfl ?_
    refine T_iconst (v := 1) (pc := 36) d_Network_send_36 rfl ?_
    refine T_iadd (pc := 37) d_Network_send_37 ?_
    refine T_put (pc := 38) d_Network_send_38 sF_Network_21_Network b12_30x1 (Nat.le_of_ble_eq_true rfl) (a_fit_i _) (T_up (fun h38x2 g38x2 o38x2 => ?_))
    have b22_38x2 := (o38x2 (w + 1) (by omega)).trans b22_30x1
    have g30x1_38x2 := (o38x2 (w + 2) (by omega)).trans g30x1
    refine T_vret (pc := 41) d_Network_send_41 rfl rfl (Nat.le_refl _) ?_
    rw [if_pos hf]
    have o9 : ∀ q, q ≠ q0 → q ≠ q0 + 1 → q ≠ w → q ≠ w + 2 → h38x2 q = h q := fun q z1 z2 z3 z4 => (o38x2 q z3).trans ((o30x1 q z4).trans (o2 q z1 z2))
    have hrow : By h38x2 q0 156 l2 := hb3.same ((o38x2 q0 (by omega)).trans (o30x1 q0 (by omega))) ((o38x2 (q0 + 1) (by omega)).trans (o30x1 (q0 + 1) (by omega)))
    have hoth : ∀ q l, q ∈ ads → q ≠ q0 → By h q 156 l → By h38x2 q 156 l := fun q l hq hn0 hbq => by
      have := a3 q hq
      exact hbq.same (o9 q hn0 (by omega) (by omega) (by omega)) (o9 (q + 1) (by omega) (by omega) (by omega) (by omega))
    refine ⟨rfl, ⟨⟨a1, a2n, a3, by simp; omega⟩, ⟨_, ?_, b22_38x2, g30x1_38x2, fun i m hm => ?_⟩, fun q hq => ?_, fun i m q hm hq => ?_⟩, fun q hq => o9 q (by omega) (by omega) (by omega) (by omega)⟩
    · rw [g38x2, nI_1, List.length_append]
      rfl
    · rw [nI_clamp (by omega)]
      by_cases hi : i = ms.length
      · subst hi
        rw [pk_us, List.getElem?_append_right (Nat.le_refl _), Nat.sub_self] at *
        cases hm
        exact nar_bI b
      · have hi2 : i < ms.length := by
          have := (List.getElem?_eq_some_iff.mp hm).1
          simp at this
          omega
        rw [List.getElem?_append_left hi2] at hm
        rw [pk_un hi]
        exact b4 i m hm
    · by_cases hqq : q = q0
      · subst hqq
        exact ⟨l2, hrow⟩
      · obtain ⟨l, hl⟩ := c1 q hq
        exact ⟨l, hoth q l hq hqq hl⟩
    · by_cases hi : i = ms.length
      · subst hi
        rw [List.getElem?_append_right (Nat.le_refl _), Nat.sub_self] at hm
        cases hm
        cases hq0.symm.trans hq
        exact hrow
      · have hi2 : i < ms.length := by
          have := (List.getElem?_eq_some_iff.mp hm).1
          simp at this
          omega
        rw [List.getElem?_append_left hi2] at hm
        exact hoth q _ (List.mem_of_getElem? hq) (nodup_ne a2n hq hq0 hi) (c2 i m q hm hq)
  · refine T_vret (pc := 7) d_Network_send_7 rfl rfl (Nat.le_refl _) ?_
    rw [if_neg (fun q => q4 (by rw [if_pos q]))]
    exact ⟨rfl, rfl⟩
end
