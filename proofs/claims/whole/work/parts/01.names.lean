/-! Names: classes, fields, methods, the words that the tables must say (written by wip/whole/gen/mk_names.py). -/
def R_OW : String := "OnceWire"
def R_Bytes : String := "OnceWire$Bytes"
def R_Client : String := "OnceWire$Client"
def R_Fragments : String := "OnceWire$Fragments"
def R_Network : String := "OnceWire$Network"
def R_Reader : String := "OnceWire$Reader"
def R_Schema : String := "OnceWire$Schema"
def R_Server : String := "OnceWire$Server"
def R_TaggedFormat : String := "OnceWire$TaggedFormat"
def R_Value : String := "OnceWire$Value"
def R_WordFormat : String := "OnceWire$WordFormat"
def R_Format : String := "OnceWire$Format"
def R_Md : String := "OnceWireModel"
def R_Lw : String := "OnceWireLaw"
def F_OW : u_T := fun k => match k with
  | 0 => (R_OW, "schema", "LOnceWire$Schema;", true)
  | 1 => (R_OW, "draftValue", "LOnceWire$Value;", true)
  | 2 => (R_OW, "draftBytes", "LOnceWire$Bytes;", true)
  | 3 => (R_OW, "network", "LOnceWire$Network;", true)
  | 4 => (R_OW, "server", "LOnceWire$Server;", true)
  | _ => (R_OW, "client", "LOnceWire$Client;", true)
def t_OW : Nat → FieldType := fun k => match k with
  | 0 => .object "OnceWire$Schema"
  | 1 => .object "OnceWire$Value"
  | 2 => .object "OnceWire$Bytes"
  | 3 => .object "OnceWire$Network"
  | 4 => .object "OnceWire$Server"
  | _ => .object "OnceWire$Client"
theorem n_OW : ∀ a, a < 6 → ∀ b, b < 6 → a ≠ b → (F_OW a).2.1 ≠ (F_OW b).2.1 := by decide +kernel
theorem t_OW_ok : ∀ k, k < 6 → parseFieldDescriptor (F_OW k).2.2.1 = some (t_OW k) := by decide +kernel
def F_Bytes : u_T := fun k => match k with
  | 0 => (R_Bytes, "cells", "[I", true)
  | _ => (R_Bytes, "length", "I", false)
def t_Bytes : Nat → FieldType := fun k => match k with
  | 0 => .array (.int)
  | _ => .int
theorem n_Bytes : ∀ a, a < 2 → ∀ b, b < 2 → a ≠ b → (F_Bytes a).2.1 ≠ (F_Bytes b).2.1 := by decide +kernel
theorem t_Bytes_ok : ∀ k, k < 2 → parseFieldDescriptor (F_Bytes k).2.2.1 = some (t_Bytes k) := by decide +kernel
def F_Client : u_T := fun k => match k with
  | 0 => (R_Client, "network", "LOnceWire$Network;", true)
  | 1 => (R_Client, "format", "LOnceWire$Format;", true)
  | 2 => (R_Client, "record", "LOnceWire$Bytes;", true)
  | 3 => (R_Client, "statuses", "[I", true)
  | 4 => (R_Client, "results", "[I", true)
  | 5 => (R_Client, "made", "I", false)
  | 6 => (R_Client, "xids", "[I", true)
  | 7 => (R_Client, "ages", "[I", true)
  | 8 => (R_Client, "messages", "[LOnceWire$Bytes;", true)
  | _ => (R_Client, "pending", "I", false)
def t_Client : Nat → FieldType := fun k => match k with
  | 0 => .object "OnceWire$Network"
  | 1 => .object "OnceWire$Format"
  | 2 => .object "OnceWire$Bytes"
  | 3 => .array (.int)
  | 4 => .array (.int)
  | 5 => .int
  | 6 => .array (.int)
  | 7 => .array (.int)
  | 8 => .array (.object "OnceWire$Bytes")
  | _ => .int
theorem n_Client : ∀ a, a < 10 → ∀ b, b < 10 → a ≠ b → (F_Client a).2.1 ≠ (F_Client b).2.1 := by decide +kernel
theorem t_Client_ok : ∀ k, k < 10 → parseFieldDescriptor (F_Client k).2.2.1 = some (t_Client k) := by decide +kernel
def F_Network : u_T := fun k => match k with
  | 0 => (R_Network, "rows", "[LOnceWire$Bytes;", true)
  | 1 => (R_Network, "forServer", "[Z", true)
  | _ => (R_Network, "count", "I", false)
def t_Network : Nat → FieldType := fun k => match k with
  | 0 => .array (.object "OnceWire$Bytes")
  | 1 => .array (.boolean)
  | _ => .int
theorem n_Network : ∀ a, a < 3 → ∀ b, b < 3 → a ≠ b → (F_Network a).2.1 ≠ (F_Network b).2.1 := by decide +kernel
theorem t_Network_ok : ∀ k, k < 3 → parseFieldDescriptor (F_Network k).2.2.1 = some (t_Network k) := by decide +kernel
def F_Reader : u_T := fun k => match k with
  | 0 => (R_Reader, "source", "LOnceWire$Bytes;", true)
  | 1 => (R_Reader, "at", "I", false)
  | _ => (R_Reader, "faulty", "Z", false)
def t_Reader : Nat → FieldType := fun k => match k with
  | 0 => .object "OnceWire$Bytes"
  | 1 => .int
  | _ => .boolean
theorem n_Reader : ∀ a, a < 3 → ∀ b, b < 3 → a ≠ b → (F_Reader a).2.1 ≠ (F_Reader b).2.1 := by decide +kernel
theorem t_Reader_ok : ∀ k, k < 3 → parseFieldDescriptor (F_Reader k).2.2.1 = some (t_Reader k) := by decide +kernel
def F_Schema : u_T := fun k => match k with
  | 0 => (R_Schema, "numbers", "[I", true)
  | 1 => (R_Schema, "kinds", "[I", true)
  | 2 => (R_Schema, "keys", "[I", true)
  | 3 => (R_Schema, "repeats", "[Z", true)
  | _ => (R_Schema, "count", "I", false)
def t_Schema : Nat → FieldType := fun k => match k with
  | 0 => .array (.int)
  | 1 => .array (.int)
  | 2 => .array (.int)
  | 3 => .array (.boolean)
  | _ => .int
theorem n_Schema : ∀ a, a < 5 → ∀ b, b < 5 → a ≠ b → (F_Schema a).2.1 ≠ (F_Schema b).2.1 := by decide +kernel
theorem t_Schema_ok : ∀ k, k < 5 → parseFieldDescriptor (F_Schema k).2.2.1 = some (t_Schema k) := by decide +kernel
def F_Server : u_T := fun k => match k with
  | 0 => (R_Server, "network", "LOnceWire$Network;", true)
  | 1 => (R_Server, "format", "LOnceWire$Format;", true)
  | 2 => (R_Server, "value", "LOnceWire$Value;", true)
  | 3 => (R_Server, "record", "LOnceWire$Bytes;", true)
  | 4 => (R_Server, "reader", "LOnceWire$Reader;", true)
  | 5 => (R_Server, "xids", "[I", true)
  | 6 => (R_Server, "replies", "[LOnceWire$Bytes;", true)
  | 7 => (R_Server, "remembered", "I", false)
  | 8 => (R_Server, "oldest", "I", false)
  | 9 => (R_Server, "total", "I", false)
  | _ => (R_Server, "runs", "I", false)
def t_Server : Nat → FieldType := fun k => match k with
  | 0 => .object "OnceWire$Network"
  | 1 => .object "OnceWire$Format"
  | 2 => .object "OnceWire$Value"
  | 3 => .object "OnceWire$Bytes"
  | 4 => .object "OnceWire$Reader"
  | 5 => .array (.int)
  | 6 => .array (.object "OnceWire$Bytes")
  | 7 => .int
  | 8 => .int
  | 9 => .int
  | _ => .int
theorem n_Server : ∀ a, a < 11 → ∀ b, b < 11 → a ≠ b → (F_Server a).2.1 ≠ (F_Server b).2.1 := by decide +kernel
theorem t_Server_ok : ∀ k, k < 11 → parseFieldDescriptor (F_Server k).2.2.1 = some (t_Server k) := by decide +kernel
def F_TaggedFormat : u_T := fun k => match k with
  | _ => (R_Format, "schema", "LOnceWire$Schema;", true)
def t_TaggedFormat : Nat → FieldType := fun k => match k with
  | _ => .object "OnceWire$Schema"
theorem n_TaggedFormat : ∀ a, a < 1 → ∀ b, b < 1 → a ≠ b → (F_TaggedFormat a).2.1 ≠ (F_TaggedFormat b).2.1 := by decide +kernel
theorem t_TaggedFormat_ok : ∀ k, k < 1 → parseFieldDescriptor (F_TaggedFormat k).2.2.1 = some (t_TaggedFormat k) := by decide +kernel
def F_Value : u_T := fun k => match k with
  | 0 => (R_Value, "schema", "LOnceWire$Schema;", true)
  | 1 => (R_Value, "ints", "[I", true)
  | _ => (R_Value, "listed", "[I", true)
def t_Value : Nat → FieldType := fun k => match k with
  | 0 => .object "OnceWire$Schema"
  | 1 => .array (.int)
  | _ => .array (.int)
theorem n_Value : ∀ a, a < 3 → ∀ b, b < 3 → a ≠ b → (F_Value a).2.1 ≠ (F_Value b).2.1 := by decide +kernel
theorem t_Value_ok : ∀ k, k < 3 → parseFieldDescriptor (F_Value k).2.2.1 = some (t_Value k) := by decide +kernel
def F_WordFormat : u_T := fun k => match k with
  | _ => (R_Format, "schema", "LOnceWire$Schema;", true)
def t_WordFormat : Nat → FieldType := fun k => match k with
  | _ => .object "OnceWire$Schema"
theorem n_WordFormat : ∀ a, a < 1 → ∀ b, b < 1 → a ≠ b → (F_WordFormat a).2.1 ≠ (F_WordFormat b).2.1 := by decide +kernel
theorem t_WordFormat_ok : ∀ k, k < 1 → parseFieldDescriptor (F_WordFormat k).2.2.1 = some (t_WordFormat k) := by decide +kernel
def F_Md : u_T := fun k => match k with
  | 0 => (R_Md, "words", "Z", false)
  | 1 => (R_Md, "fields", "I", false)
  | 2 => (R_Md, "numbers", "[I", false)
  | 3 => (R_Md, "kinds", "[I", false)
  | 4 => (R_Md, "repeated", "[Z", false)
  | 5 => (R_Md, "many", "[I", false)
  | 6 => (R_Md, "ints", "[I", false)
  | 7 => (R_Md, "sheet", "[I", false)
  | 8 => (R_Md, "recordLength", "I", false)
  | 9 => (R_Md, "message", "[I", false)
  | 10 => (R_Md, "messageLength", "I", false)
  | 11 => (R_Md, "at", "I", false)
  | 12 => (R_Md, "number", "J", false)
  | 13 => (R_Md, "line", "I", false)
  | 14 => (R_Md, "net", "[I", false)
  | 15 => (R_Md, "lengths", "[I", false)
  | 16 => (R_Md, "replies", "[Z", false)
  | 17 => (R_Md, "draft", "[I", false)
  | 18 => (R_Md, "drafted", "I", false)
  | 19 => (R_Md, "total", "I", false)
  | 20 => (R_Md, "runs", "I", false)
  | 21 => (R_Md, "known", "I", false)
  | 22 => (R_Md, "knownXid", "[I", false)
  | 23 => (R_Md, "knownStatus", "[I", false)
  | 24 => (R_Md, "knownResult", "[I", false)
  | 25 => (R_Md, "calls", "I", false)
  | 26 => (R_Md, "state", "[I", false)
  | 27 => (R_Md, "results", "[I", false)
  | 28 => (R_Md, "ages", "[I", false)
  | 29 => (R_Md, "kept", "[I", false)
  | 30 => (R_Md, "keptLength", "[I", false)
  | _ => (R_Md, "owner", "[I", false)
def t_Md : Nat → FieldType := fun k => match k with
  | 0 => .boolean
  | 1 => .int
  | 2 => .array (.int)
  | 3 => .array (.int)
  | 4 => .array (.boolean)
  | 5 => .array (.int)
  | 6 => .array (.int)
  | 7 => .array (.int)
  | 8 => .int
  | 9 => .array (.int)
  | 10 => .int
  | 11 => .int
  | 12 => .long
  | 13 => .int
  | 14 => .array (.int)
  | 15 => .array (.int)
  | 16 => .array (.boolean)
  | 17 => .array (.int)
  | 18 => .int
  | 19 => .int
  | 20 => .int
  | 21 => .int
  | 22 => .array (.int)
  | 23 => .array (.int)
  | 24 => .array (.int)
  | 25 => .int
  | 26 => .array (.int)
  | 27 => .array (.int)
  | 28 => .array (.int)
  | 29 => .array (.int)
  | 30 => .array (.int)
  | _ => .array (.int)
theorem n_Md : ∀ a, a < 32 → ∀ b, b < 32 → a ≠ b → (F_Md a).2.1 ≠ (F_Md b).2.1 := by decide +kernel
theorem t_Md_ok : ∀ k, k < 32 → parseFieldDescriptor (F_Md k).2.2.1 = some (t_Md k) := by decide +kernel
abbrev classes : List vw_C := [(R_OW, F_OW, 6), (R_Bytes, F_Bytes, 2), (R_Client, F_Client, 10), (R_Network, F_Network, 3), (R_Reader, F_Reader, 3), (R_Schema, F_Schema, 5), (R_Server, F_Server, 11), (R_TaggedFormat, F_TaggedFormat, 1), (R_Value, F_Value, 3), (R_WordFormat, F_WordFormat, 1), (R_Md, F_Md, 32)]
abbrev b_OW_init : ByteArray := prog_1_method_1_code
def y_OW_init : MethodName := ⟨R_OW, "<init>", "(I)V"⟩
abbrev b_OW_field : ByteArray := prog_1_method_2_code
def y_OW_field : MethodName := ⟨R_OW, "field", "(IIZ)I"⟩
abbrev b_OW_put : ByteArray := prog_1_method_3_code
def y_OW_put : MethodName := ⟨R_OW, "put", "(II)Z"⟩
abbrev b_OW_reset : ByteArray := prog_1_method_4_code
def y_OW_reset : MethodName := ⟨R_OW, "reset", "()V"⟩
abbrev b_OW_call : ByteArray := prog_1_method_5_code
def y_OW_call : MethodName := ⟨R_OW, "call", "(I)I"⟩
abbrev b_OW_tick : ByteArray := prog_1_method_6_code
def y_OW_tick : MethodName := ⟨R_OW, "tick", "()I"⟩
abbrev b_OW_deliver : ByteArray := prog_1_method_7_code
def y_OW_deliver : MethodName := ⟨R_OW, "deliver", "(I)I"⟩
abbrev b_OW_lose : ByteArray := prog_1_method_8_code
def y_OW_lose : MethodName := ⟨R_OW, "lose", "(I)Z"⟩
abbrev b_OW_copy : ByteArray := prog_1_method_9_code
def y_OW_copy : MethodName := ⟨R_OW, "copy", "(I)Z"⟩
abbrev b_OW_add : ByteArray := prog_1_method_10_code
def y_OW_add : MethodName := ⟨R_OW, "add", "(I)Z"⟩
abbrev b_OW_hand : ByteArray := prog_1_method_11_code
def y_OW_hand : MethodName := ⟨R_OW, "hand", "(Z)I"⟩
abbrev b_OW_total : ByteArray := prog_1_method_12_code
def y_OW_total : MethodName := ⟨R_OW, "total", "()I"⟩
abbrev b_OW_runs : ByteArray := prog_1_method_13_code
def y_OW_runs : MethodName := ⟨R_OW, "runs", "()I"⟩
abbrev b_OW_status : ByteArray := prog_1_method_14_code
def y_OW_status : MethodName := ⟨R_OW, "status", "(I)I"⟩
abbrev b_OW_result : ByteArray := prog_1_method_15_code
def y_OW_result : MethodName := ⟨R_OW, "result", "(I)I"⟩
abbrev b_OW_flight : ByteArray := prog_1_method_16_code
def y_OW_flight : MethodName := ⟨R_OW, "flight", "()I"⟩
abbrev b_OW_size : ByteArray := prog_1_method_17_code
def y_OW_size : MethodName := ⟨R_OW, "size", "(I)I"⟩
abbrev b_OW_byteAt : ByteArray := prog_1_method_18_code
def y_OW_byteAt : MethodName := ⟨R_OW, "byteAt", "(II)I"⟩
abbrev b_Bytes_init : ByteArray := prog_2_method_1_code
def y_Bytes_init : MethodName := ⟨R_Bytes, "<init>", "(I)V"⟩
abbrev b_Bytes_clear : ByteArray := prog_2_method_2_code
def y_Bytes_clear : MethodName := ⟨R_Bytes, "clear", "()V"⟩
abbrev b_Bytes_append : ByteArray := prog_2_method_3_code
def y_Bytes_append : MethodName := ⟨R_Bytes, "append", "(I)Z"⟩
abbrev b_Bytes_appendWord : ByteArray := prog_2_method_4_code
def y_Bytes_appendWord : MethodName := ⟨R_Bytes, "appendWord", "(I)V"⟩
abbrev b_Bytes_appendPart : ByteArray := prog_2_method_5_code
def y_Bytes_appendPart : MethodName := ⟨R_Bytes, "appendPart", "(LOnceWire$Bytes;II)V"⟩
abbrev b_Bytes_become : ByteArray := prog_2_method_6_code
def y_Bytes_become : MethodName := ⟨R_Bytes, "become", "(LOnceWire$Bytes;)V"⟩
abbrev b_Bytes_at : ByteArray := prog_2_method_7_code
def y_Bytes_at : MethodName := ⟨R_Bytes, "at", "(I)I"⟩
abbrev b_Bytes_wordAt : ByteArray := prog_2_method_8_code
def y_Bytes_wordAt : MethodName := ⟨R_Bytes, "wordAt", "(I)I"⟩
abbrev b_Bytes_swapped : ByteArray := prog_2_method_9_code
def y_Bytes_swapped : MethodName := ⟨R_Bytes, "swapped", "(I)I"⟩
abbrev b_Bytes_moveToEnd : ByteArray := prog_2_method_10_code
def y_Bytes_moveToEnd : MethodName := ⟨R_Bytes, "moveToEnd", "([LOnceWire$Bytes;I)V"⟩
abbrev b_Client_init : ByteArray := prog_3_method_1_code
def y_Client_init : MethodName := ⟨R_Client, "<init>", "(LOnceWire$Network;LOnceWire$Format;)V"⟩
abbrev b_Client_place : ByteArray := prog_3_method_2_code
def y_Client_place : MethodName := ⟨R_Client, "place", "(ILOnceWire$Value;)I"⟩
abbrev b_Client_growOlder : ByteArray := prog_3_method_3_code
def y_Client_growOlder : MethodName := ⟨R_Client, "growOlder", "()I"⟩
abbrev b_Client_receive : ByteArray := prog_3_method_4_code
def y_Client_receive : MethodName := ⟨R_Client, "receive", "(LOnceWire$Bytes;)I"⟩
abbrev b_Client_pendingPlaceOf : ByteArray := prog_3_method_5_code
def y_Client_pendingPlaceOf : MethodName := ⟨R_Client, "pendingPlaceOf", "(I)I"⟩
abbrev b_Client_settle : ByteArray := prog_3_method_6_code
def y_Client_settle : MethodName := ⟨R_Client, "settle", "(III)V"⟩
abbrev b_Client_statusOf : ByteArray := prog_3_method_7_code
def y_Client_statusOf : MethodName := ⟨R_Client, "statusOf", "(I)I"⟩
abbrev b_Client_resultOf : ByteArray := prog_3_method_8_code
def y_Client_resultOf : MethodName := ⟨R_Client, "resultOf", "(I)I"⟩
abbrev b_Fragments_wrap : ByteArray := prog_5_method_2_code
def y_Fragments_wrap : MethodName := ⟨R_Fragments, "wrap", "(LOnceWire$Bytes;LOnceWire$Bytes;)V"⟩
abbrev b_Fragments_unwrap : ByteArray := prog_5_method_3_code
def y_Fragments_unwrap : MethodName := ⟨R_Fragments, "unwrap", "(LOnceWire$Bytes;LOnceWire$Bytes;)Z"⟩
abbrev b_Network_init : ByteArray := prog_6_method_1_code
def y_Network_init : MethodName := ⟨R_Network, "<init>", "()V"⟩
abbrev b_Network_has : ByteArray := prog_6_method_2_code
def y_Network_has : MethodName := ⟨R_Network, "has", "(I)Z"⟩
abbrev b_Network_isFull : ByteArray := prog_6_method_3_code
def y_Network_isFull : MethodName := ⟨R_Network, "isFull", "()Z"⟩
abbrev b_Network_message : ByteArray := prog_6_method_4_code
def y_Network_message : MethodName := ⟨R_Network, "message", "(I)LOnceWire$Bytes;"⟩
abbrev b_Network_isForServer : ByteArray := prog_6_method_5_code
def y_Network_isForServer : MethodName := ⟨R_Network, "isForServer", "(I)Z"⟩
abbrev b_Network_send : ByteArray := prog_6_method_6_code
def y_Network_send : MethodName := ⟨R_Network, "send", "(LOnceWire$Bytes;Z)V"⟩
abbrev b_Network_take : ByteArray := prog_6_method_7_code
def y_Network_take : MethodName := ⟨R_Network, "take", "(I)LOnceWire$Bytes;"⟩
abbrev b_Reader_init : ByteArray := prog_7_method_1_code
def y_Reader_init : MethodName := ⟨R_Reader, "<init>", "(LOnceWire$Bytes;)V"⟩
abbrev b_Reader_startAt : ByteArray := prog_7_method_2_code
def y_Reader_startAt : MethodName := ⟨R_Reader, "startAt", "(I)V"⟩
abbrev b_Reader_left : ByteArray := prog_7_method_3_code
def y_Reader_left : MethodName := ⟨R_Reader, "left", "()I"⟩
abbrev b_Reader_takeWord : ByteArray := prog_7_method_4_code
def y_Reader_takeWord : MethodName := ⟨R_Reader, "takeWord", "()I"⟩
abbrev b_Reader_takeVarint : ByteArray := prog_7_method_5_code
def y_Reader_takeVarint : MethodName := ⟨R_Reader, "takeVarint", "()J"⟩
abbrev b_Reader_skip : ByteArray := prog_7_method_6_code
def y_Reader_skip : MethodName := ⟨R_Reader, "skip", "(J)V"⟩
abbrev b_Schema_init : ByteArray := prog_8_method_1_code
def y_Schema_init : MethodName := ⟨R_Schema, "<init>", "()V"⟩
abbrev b_Schema_declare : ByteArray := prog_8_method_2_code
def y_Schema_declare : MethodName := ⟨R_Schema, "declare", "(IIZ)I"⟩
abbrev b_Schema_indexOf : ByteArray := prog_8_method_3_code
def y_Schema_indexOf : MethodName := ⟨R_Schema, "indexOf", "(I)I"⟩
abbrev b_Schema_has : ByteArray := prog_8_method_4_code
def y_Schema_has : MethodName := ⟨R_Schema, "has", "(I)Z"⟩
abbrev b_Schema_kindOf : ByteArray := prog_8_method_5_code
def y_Schema_kindOf : MethodName := ⟨R_Schema, "kindOf", "(I)I"⟩
abbrev b_Schema_isRepeated : ByteArray := prog_8_method_6_code
def y_Schema_isRepeated : MethodName := ⟨R_Schema, "isRepeated", "(I)Z"⟩
abbrev b_Schema_keyOf : ByteArray := prog_8_method_7_code
def y_Schema_keyOf : MethodName := ⟨R_Schema, "keyOf", "(I)I"⟩
abbrev b_Schema_allows : ByteArray := prog_8_method_8_code
def y_Schema_allows : MethodName := ⟨R_Schema, "allows", "(II)Z"⟩
abbrev b_Server_init : ByteArray := prog_9_method_1_code
def y_Server_init : MethodName := ⟨R_Server, "<init>", "(LOnceWire$Network;LOnceWire$Format;LOnceWire$Value;)V"⟩
abbrev b_Server_receive : ByteArray := prog_9_method_2_code
def y_Server_receive : MethodName := ⟨R_Server, "receive", "(LOnceWire$Bytes;)I"⟩
abbrev b_Server_answer : ByteArray := prog_9_method_3_code
def y_Server_answer : MethodName := ⟨R_Server, "answer", "(II)I"⟩
abbrev b_Server_run : ByteArray := prog_9_method_4_code
def y_Server_run : MethodName := ⟨R_Server, "run", "(II)I"⟩
abbrev b_Server_reply : ByteArray := prog_9_method_5_code
def y_Server_reply : MethodName := ⟨R_Server, "reply", "(III)V"⟩
abbrev b_Server_slotForNew : ByteArray := prog_9_method_6_code
def y_Server_slotForNew : MethodName := ⟨R_Server, "slotForNew", "()I"⟩
abbrev b_TaggedFormat_init : ByteArray := prog_10_method_1_code
def y_TaggedFormat_init : MethodName := ⟨R_TaggedFormat, "<init>", "(LOnceWire$Schema;)V"⟩
abbrev b_TaggedFormat_write : ByteArray := prog_10_method_2_code
def y_TaggedFormat_write : MethodName := ⟨R_TaggedFormat, "write", "(LOnceWire$Value;LOnceWire$Bytes;)V"⟩
abbrev b_TaggedFormat_writeInt : ByteArray := prog_10_method_3_code
def y_TaggedFormat_writeInt : MethodName := ⟨R_TaggedFormat, "writeInt", "(IILOnceWire$Bytes;)V"⟩
abbrev b_TaggedFormat_writeVarint : ByteArray := prog_10_method_4_code
def y_TaggedFormat_writeVarint : MethodName := ⟨R_TaggedFormat, "writeVarint", "(JLOnceWire$Bytes;)V"⟩
abbrev b_TaggedFormat_read : ByteArray := prog_10_method_5_code
def y_TaggedFormat_read : MethodName := ⟨R_TaggedFormat, "read", "(LOnceWire$Reader;LOnceWire$Value;)Z"⟩
abbrev b_TaggedFormat_readEntry : ByteArray := prog_10_method_6_code
def y_TaggedFormat_readEntry : MethodName := ⟨R_TaggedFormat, "readEntry", "(LOnceWire$Reader;LOnceWire$Value;)Z"⟩
abbrev b_TaggedFormat_takePayload : ByteArray := prog_10_method_7_code
def y_TaggedFormat_takePayload : MethodName := ⟨R_TaggedFormat, "takePayload", "(LOnceWire$Reader;I)J"⟩
abbrev b_TaggedFormat_intOfPayload : ByteArray := prog_10_method_8_code
def y_TaggedFormat_intOfPayload : MethodName := ⟨R_TaggedFormat, "intOfPayload", "(IJ)I"⟩
abbrev b_Value_init : ByteArray := prog_11_method_1_code
def y_Value_init : MethodName := ⟨R_Value, "<init>", "(LOnceWire$Schema;)V"⟩
abbrev b_Value_clear : ByteArray := prog_11_method_2_code
def y_Value_clear : MethodName := ⟨R_Value, "clear", "()V"⟩
abbrev b_Value_store : ByteArray := prog_11_method_3_code
def y_Value_store : MethodName := ⟨R_Value, "store", "(II)Z"⟩
abbrev b_Value_countOf : ByteArray := prog_11_method_4_code
def y_Value_countOf : MethodName := ⟨R_Value, "countOf", "(I)I"⟩
abbrev b_Value_intOf : ByteArray := prog_11_method_5_code
def y_Value_intOf : MethodName := ⟨R_Value, "intOf", "(II)I"⟩
abbrev b_Value_digest : ByteArray := prog_11_method_6_code
def y_Value_digest : MethodName := ⟨R_Value, "digest", "()I"⟩
abbrev b_WordFormat_init : ByteArray := prog_12_method_1_code
def y_WordFormat_init : MethodName := ⟨R_WordFormat, "<init>", "(LOnceWire$Schema;)V"⟩
abbrev b_WordFormat_write : ByteArray := prog_12_method_2_code
def y_WordFormat_write : MethodName := ⟨R_WordFormat, "write", "(LOnceWire$Value;LOnceWire$Bytes;)V"⟩
abbrev b_WordFormat_read : ByteArray := prog_12_method_3_code
def y_WordFormat_read : MethodName := ⟨R_WordFormat, "read", "(LOnceWire$Reader;LOnceWire$Value;)Z"⟩
abbrev b_Format_init : ByteArray := prog_4_method_1_code
def y_Format_init : MethodName := ⟨R_Format, "<init>", "(LOnceWire$Schema;)V"⟩
abbrev b_Md_init : ByteArray := prog_14_method_1_code
def y_Md_init : MethodName := ⟨R_Md, "<init>", "(I)V"⟩
abbrev b_Md_field : ByteArray := prog_14_method_2_code
def y_Md_field : MethodName := ⟨R_Md, "field", "(IIZ)I"⟩
abbrev b_Md_empty : ByteArray := prog_14_method_3_code
def y_Md_empty : MethodName := ⟨R_Md, "empty", "(I)V"⟩
abbrev b_Md_give : ByteArray := prog_14_method_4_code
def y_Md_give : MethodName := ⟨R_Md, "give", "(II)Z"⟩
abbrev b_Md_put : ByteArray := prog_14_method_5_code
def y_Md_put : MethodName := ⟨R_Md, "put", "(II)Z"⟩
abbrev b_Md_reset : ByteArray := prog_14_method_6_code
def y_Md_reset : MethodName := ⟨R_Md, "reset", "()V"⟩
abbrev b_Md_digest : ByteArray := prog_14_method_7_code
def y_Md_digest : MethodName := ⟨R_Md, "digest", "()I"⟩
abbrev b_Md_write : ByteArray := prog_14_method_8_code
def y_Md_write : MethodName := ⟨R_Md, "write", "(I)V"⟩
abbrev b_Md_writeWord : ByteArray := prog_14_method_9_code
def y_Md_writeWord : MethodName := ⟨R_Md, "writeWord", "(I)V"⟩
abbrev b_Md_writeVarint : ByteArray := prog_14_method_10_code
def y_Md_writeVarint : MethodName := ⟨R_Md, "writeVarint", "(J)V"⟩
abbrev b_Md_writeTagged : ByteArray := prog_14_method_11_code
def y_Md_writeTagged : MethodName := ⟨R_Md, "writeTagged", "(II)V"⟩
abbrev b_Md_writeDraft : ByteArray := prog_14_method_12_code
def y_Md_writeDraft : MethodName := ⟨R_Md, "writeDraft", "()V"⟩
abbrev b_Md_fragment : ByteArray := prog_14_method_13_code
def y_Md_fragment : MethodName := ⟨R_Md, "fragment", "()V"⟩
abbrev b_Md_send : ByteArray := prog_14_method_14_code
def y_Md_send : MethodName := ⟨R_Md, "send", "(Z)V"⟩
abbrev b_Md_isMessage : ByteArray := prog_14_method_15_code
def y_Md_isMessage : MethodName := ⟨R_Md, "isMessage", "(I)Z"⟩
abbrev b_Md_load : ByteArray := prog_14_method_16_code
def y_Md_load : MethodName := ⟨R_Md, "load", "(I)V"⟩
abbrev b_Md_lose : ByteArray := prog_14_method_17_code
def y_Md_lose : MethodName := ⟨R_Md, "lose", "(I)Z"⟩
abbrev b_Md_copy : ByteArray := prog_14_method_18_code
def y_Md_copy : MethodName := ⟨R_Md, "copy", "(I)Z"⟩
abbrev b_Md_gather : ByteArray := prog_14_method_19_code
def y_Md_gather : MethodName := ⟨R_Md, "gather", "()Z"⟩
abbrev b_Md_word : ByteArray := prog_14_method_20_code
def y_Md_word : MethodName := ⟨R_Md, "word", "(I)I"⟩
abbrev b_Md_readVarint : ByteArray := prog_14_method_21_code
def y_Md_readVarint : MethodName := ⟨R_Md, "readVarint", "()Z"⟩
abbrev b_Md_fieldOf : ByteArray := prog_14_method_22_code
def y_Md_fieldOf : MethodName := ⟨R_Md, "fieldOf", "(II)I"⟩
abbrev b_Md_meant : ByteArray := prog_14_method_23_code
def y_Md_meant : MethodName := ⟨R_Md, "meant", "(I)I"⟩
abbrev b_Md_readTagged : ByteArray := prog_14_method_24_code
def y_Md_readTagged : MethodName := ⟨R_Md, "readTagged", "()Z"⟩
abbrev b_Md_readTaggedBody : ByteArray := prog_14_method_25_code
def y_Md_readTaggedBody : MethodName := ⟨R_Md, "readTaggedBody", "()Z"⟩
abbrev b_Md_readWords : ByteArray := prog_14_method_26_code
def y_Md_readWords : MethodName := ⟨R_Md, "readWords", "()Z"⟩
abbrev b_Md_readBody : ByteArray := prog_14_method_27_code
def y_Md_readBody : MethodName := ⟨R_Md, "readBody", "()Z"⟩
abbrev b_Md_sendReply : ByteArray := prog_14_method_28_code
def y_Md_sendReply : MethodName := ⟨R_Md, "sendReply", "(III)V"⟩
abbrev b_Md_run : ByteArray := prog_14_method_29_code
def y_Md_run : MethodName := ⟨R_Md, "run", "(I)I"⟩
abbrev b_Md_remember : ByteArray := prog_14_method_30_code
def y_Md_remember : MethodName := ⟨R_Md, "remember", "(III)V"⟩
abbrev b_Md_serve : ByteArray := prog_14_method_31_code
def y_Md_serve : MethodName := ⟨R_Md, "serve", "()I"⟩
abbrev b_Md_accept : ByteArray := prog_14_method_32_code
def y_Md_accept : MethodName := ⟨R_Md, "accept", "()I"⟩
abbrev b_Md_slotOf : ByteArray := prog_14_method_33_code
def y_Md_slotOf : MethodName := ⟨R_Md, "slotOf", "(I)I"⟩
abbrev b_Md_call : ByteArray := prog_14_method_34_code
def y_Md_call : MethodName := ⟨R_Md, "call", "(I)I"⟩
abbrev b_Md_tick : ByteArray := prog_14_method_35_code
def y_Md_tick : MethodName := ⟨R_Md, "tick", "()I"⟩
abbrev b_Md_sendKept : ByteArray := prog_14_method_36_code
def y_Md_sendKept : MethodName := ⟨R_Md, "sendKept", "(I)V"⟩
abbrev b_Md_deliver : ByteArray := prog_14_method_37_code
def y_Md_deliver : MethodName := ⟨R_Md, "deliver", "(I)I"⟩
abbrev b_Md_add : ByteArray := prog_14_method_38_code
def y_Md_add : MethodName := ⟨R_Md, "add", "(I)Z"⟩
abbrev b_Md_hand : ByteArray := prog_14_method_39_code
def y_Md_hand : MethodName := ⟨R_Md, "hand", "(Z)I"⟩
abbrev b_Md_total : ByteArray := prog_14_method_40_code
def y_Md_total : MethodName := ⟨R_Md, "total", "()I"⟩
abbrev b_Md_runs : ByteArray := prog_14_method_41_code
def y_Md_runs : MethodName := ⟨R_Md, "runs", "()I"⟩
abbrev b_Md_status : ByteArray := prog_14_method_42_code
def y_Md_status : MethodName := ⟨R_Md, "status", "(I)I"⟩
abbrev b_Md_result : ByteArray := prog_14_method_43_code
def y_Md_result : MethodName := ⟨R_Md, "result", "(I)I"⟩
abbrev b_Md_flight : ByteArray := prog_14_method_44_code
def y_Md_flight : MethodName := ⟨R_Md, "flight", "()I"⟩
abbrev b_Md_size : ByteArray := prog_14_method_45_code
def y_Md_size : MethodName := ⟨R_Md, "size", "(I)I"⟩
abbrev b_Md_byteAt : ByteArray := prog_14_method_46_code
def y_Md_byteAt : MethodName := ⟨R_Md, "byteAt", "(II)I"⟩
abbrev b_Lw_cell : ByteArray := method_2_code
def y_Lw_cell : MethodName := ⟨R_Lw, "cell", "([II)I"⟩
abbrev b_Lw_law : ByteArray := code
def y_Lw_law : MethodName := ⟨R_Lw, "law", "([I)Z"⟩
def Wa0 : List Cond := [.code y_OW_init b_OW_init 3 none,
  .instanceMethod y_OW_init,
  .code y_OW_field b_OW_field 4 (some (.int)),
  .instanceMethod y_OW_field,
  .code y_OW_put b_OW_put 3 (some (.boolean)),
  .instanceMethod y_OW_put,
  .code y_OW_reset b_OW_reset 1 none,
  .instanceMethod y_OW_reset,
  .code y_OW_call b_OW_call 2 (some (.int)),
  .instanceMethod y_OW_call,
  .code y_OW_tick b_OW_tick 1 (some (.int)),
  .instanceMethod y_OW_tick,
  .code y_OW_deliver b_OW_deliver 4 (some (.int)),
  .instanceMethod y_OW_deliver,
  .code y_OW_lose b_OW_lose 2 (some (.boolean)),
  .instanceMethod y_OW_lose,
  .code y_OW_copy b_OW_copy 2 (some (.boolean)),
  .instanceMethod y_OW_copy,
  .code y_OW_add b_OW_add 2 (some (.boolean)),
  .instanceMethod y_OW_add,
  .code y_OW_hand b_OW_hand 3 (some (.int)),
  .instanceMethod y_OW_hand,
  .code y_OW_total b_OW_total 1 (some (.int)),
  .instanceMethod y_OW_total,
  .code y_OW_runs b_OW_runs 1 (some (.int)),
  .instanceMethod y_OW_runs,
  .code y_OW_status b_OW_status 2 (some (.int)),
  .instanceMethod y_OW_status,
  .code y_OW_result b_OW_result 2 (some (.int)),
  .instanceMethod y_OW_result,
  .code y_OW_flight b_OW_flight 1 (some (.int)),
  .instanceMethod y_OW_flight,
  .code y_OW_size b_OW_size 2 (some (.int)),
  .instanceMethod y_OW_size,
  .code y_OW_byteAt b_OW_byteAt 3 (some (.int)),
  .instanceMethod y_OW_byteAt,
  .code y_Bytes_init b_Bytes_init 2 none,
  .instanceMethod y_Bytes_init,
  .code y_Bytes_clear b_Bytes_clear 1 none,
  .instanceMethod y_Bytes_clear,
  .code y_Bytes_append b_Bytes_append 2 (some (.boolean)),
  .instanceMethod y_Bytes_append,
  .code y_Bytes_appendWord b_Bytes_appendWord 2 none,
  .instanceMethod y_Bytes_appendWord,
  .code y_Bytes_appendPart b_Bytes_appendPart 6 none,
  .instanceMethod y_Bytes_appendPart,
  .code y_Bytes_become b_Bytes_become 2 none,
  .instanceMethod y_Bytes_become,
  .code y_Bytes_at b_Bytes_at 2 (some (.int)),
  .instanceMethod y_Bytes_at,
  .code y_Bytes_wordAt b_Bytes_wordAt 2 (some (.int)),
  .instanceMethod y_Bytes_wordAt,
  .code y_Bytes_swapped b_Bytes_swapped 1 (some (.int)),
  .static y_Bytes_swapped,
  .code y_Bytes_moveToEnd b_Bytes_moveToEnd 4 none,
  .static y_Bytes_moveToEnd,
  .code y_Client_init b_Client_init 4 none,
  .instanceMethod y_Client_init,
  .code y_Client_place b_Client_place 4 (some (.int)),
  .instanceMethod y_Client_place,
  .code y_Client_growOlder b_Client_growOlder 3 (some (.int)),
  .instanceMethod y_Client_growOlder,
  .code y_Client_receive b_Client_receive 4 (some (.int)),
  .instanceMethod y_Client_receive]
def Wa1 : List Cond := [.code y_Client_pendingPlaceOf b_Client_pendingPlaceOf 3 (some (.int)),
  .instanceMethod y_Client_pendingPlaceOf,
  .code y_Client_settle b_Client_settle 6 none,
  .instanceMethod y_Client_settle,
  .code y_Client_statusOf b_Client_statusOf 2 (some (.int)),
  .instanceMethod y_Client_statusOf,
  .code y_Client_resultOf b_Client_resultOf 2 (some (.int)),
  .instanceMethod y_Client_resultOf,
  .code y_Fragments_wrap b_Fragments_wrap 5 none,
  .static y_Fragments_wrap,
  .code y_Fragments_unwrap b_Fragments_unwrap 6 (some (.boolean)),
  .static y_Fragments_unwrap,
  .code y_Network_init b_Network_init 2 none,
  .instanceMethod y_Network_init,
  .code y_Network_has b_Network_has 2 (some (.boolean)),
  .instanceMethod y_Network_has,
  .code y_Network_isFull b_Network_isFull 1 (some (.boolean)),
  .instanceMethod y_Network_isFull,
  .code y_Network_message b_Network_message 2 (some (.object "OnceWire$Bytes")),
  .instanceMethod y_Network_message,
  .code y_Network_isForServer b_Network_isForServer 2 (some (.boolean)),
  .instanceMethod y_Network_isForServer,
  .code y_Network_send b_Network_send 3 none,
  .instanceMethod y_Network_send,
  .code y_Network_take b_Network_take 3 (some (.object "OnceWire$Bytes")),
  .instanceMethod y_Network_take,
  .code y_Reader_init b_Reader_init 2 none,
  .instanceMethod y_Reader_init,
  .code y_Reader_startAt b_Reader_startAt 2 none,
  .instanceMethod y_Reader_startAt,
  .code y_Reader_left b_Reader_left 1 (some (.int)),
  .instanceMethod y_Reader_left,
  .code y_Reader_takeWord b_Reader_takeWord 3 (some (.int)),
  .instanceMethod y_Reader_takeWord,
  .code y_Reader_takeVarint b_Reader_takeVarint 5 (some (.long)),
  .instanceMethod y_Reader_takeVarint,
  .code y_Reader_skip b_Reader_skip 3 none,
  .instanceMethod y_Reader_skip,
  .code y_Schema_init b_Schema_init 1 none,
  .instanceMethod y_Schema_init,
  .code y_Schema_declare b_Schema_declare 4 (some (.int)),
  .instanceMethod y_Schema_declare,
  .code y_Schema_indexOf b_Schema_indexOf 3 (some (.int)),
  .instanceMethod y_Schema_indexOf,
  .code y_Schema_has b_Schema_has 2 (some (.boolean)),
  .instanceMethod y_Schema_has,
  .code y_Schema_kindOf b_Schema_kindOf 2 (some (.int)),
  .instanceMethod y_Schema_kindOf,
  .code y_Schema_isRepeated b_Schema_isRepeated 2 (some (.boolean)),
  .instanceMethod y_Schema_isRepeated,
  .code y_Schema_keyOf b_Schema_keyOf 2 (some (.int)),
  .instanceMethod y_Schema_keyOf,
  .code y_Schema_allows b_Schema_allows 3 (some (.boolean)),
  .instanceMethod y_Schema_allows,
  .code y_Server_init b_Server_init 5 none,
  .instanceMethod y_Server_init,
  .code y_Server_receive b_Server_receive 4 (some (.int)),
  .instanceMethod y_Server_receive,
  .code y_Server_answer b_Server_answer 3 (some (.int)),
  .instanceMethod y_Server_answer,
  .code y_Server_run b_Server_run 4 (some (.int)),
  .instanceMethod y_Server_run,
  .code y_Server_reply b_Server_reply 5 none,
  .instanceMethod y_Server_reply]
def Wa2 : List Cond := [.code y_Server_slotForNew b_Server_slotForNew 2 (some (.int)),
  .instanceMethod y_Server_slotForNew,
  .code y_TaggedFormat_init b_TaggedFormat_init 2 none,
  .instanceMethod y_TaggedFormat_init,
  .code y_TaggedFormat_write b_TaggedFormat_write 7 none,
  .instanceMethod y_TaggedFormat_write,
  .code y_TaggedFormat_writeInt b_TaggedFormat_writeInt 3 none,
  .static y_TaggedFormat_writeInt,
  .code y_TaggedFormat_writeVarint b_TaggedFormat_writeVarint 6 none,
  .static y_TaggedFormat_writeVarint,
  .code y_TaggedFormat_read b_TaggedFormat_read 5 (some (.boolean)),
  .instanceMethod y_TaggedFormat_read,
  .code y_TaggedFormat_readEntry b_TaggedFormat_readEntry 8 (some (.boolean)),
  .instanceMethod y_TaggedFormat_readEntry,
  .code y_TaggedFormat_takePayload b_TaggedFormat_takePayload 2 (some (.long)),
  .static y_TaggedFormat_takePayload,
  .code y_TaggedFormat_intOfPayload b_TaggedFormat_intOfPayload 5 (some (.int)),
  .static y_TaggedFormat_intOfPayload,
  .code y_Value_init b_Value_init 2 none,
  .instanceMethod y_Value_init,
  .code y_Value_clear b_Value_clear 2 none,
  .instanceMethod y_Value_clear,
  .code y_Value_store b_Value_store 3 (some (.boolean)),
  .instanceMethod y_Value_store,
  .code y_Value_countOf b_Value_countOf 2 (some (.int)),
  .instanceMethod y_Value_countOf,
  .code y_Value_intOf b_Value_intOf 3 (some (.int)),
  .instanceMethod y_Value_intOf,
  .code y_Value_digest b_Value_digest 5 (some (.int)),
  .instanceMethod y_Value_digest,
  .code y_WordFormat_init b_WordFormat_init 2 none,
  .instanceMethod y_WordFormat_init,
  .code y_WordFormat_write b_WordFormat_write 6 none,
  .instanceMethod y_WordFormat_write,
  .code y_WordFormat_read b_WordFormat_read 7 (some (.boolean)),
  .instanceMethod y_WordFormat_read,
  .code y_Format_init b_Format_init 2 none,
  .instanceMethod y_Format_init,
  .code y_Md_init b_Md_init 2 none,
  .instanceMethod y_Md_init,
  .code y_Md_field b_Md_field 6 (some (.int)),
  .instanceMethod y_Md_field,
  .code y_Md_empty b_Md_empty 2 none,
  .instanceMethod y_Md_empty,
  .code y_Md_give b_Md_give 3 (some (.boolean)),
  .instanceMethod y_Md_give,
  .code y_Md_put b_Md_put 3 (some (.boolean)),
  .instanceMethod y_Md_put,
  .code y_Md_reset b_Md_reset 2 none,
  .instanceMethod y_Md_reset,
  .code y_Md_digest b_Md_digest 4 (some (.int)),
  .instanceMethod y_Md_digest,
  .code y_Md_write b_Md_write 2 none,
  .instanceMethod y_Md_write,
  .code y_Md_writeWord b_Md_writeWord 3 none,
  .instanceMethod y_Md_writeWord,
  .code y_Md_writeVarint b_Md_writeVarint 5 none,
  .instanceMethod y_Md_writeVarint,
  .code y_Md_writeTagged b_Md_writeTagged 4 none,
  .instanceMethod y_Md_writeTagged,
  .code y_Md_writeDraft b_Md_writeDraft 4 none,
  .instanceMethod y_Md_writeDraft,
  .code y_Md_fragment b_Md_fragment 4 none,
  .instanceMethod y_Md_fragment]
def Wa3 : List Cond := [.code y_Md_send b_Md_send 3 none,
  .instanceMethod y_Md_send,
  .code y_Md_isMessage b_Md_isMessage 2 (some (.boolean)),
  .instanceMethod y_Md_isMessage,
  .code y_Md_load b_Md_load 3 none,
  .instanceMethod y_Md_load,
  .code y_Md_lose b_Md_lose 4 (some (.boolean)),
  .instanceMethod y_Md_lose,
  .code y_Md_copy b_Md_copy 2 (some (.boolean)),
  .instanceMethod y_Md_copy,
  .code y_Md_gather b_Md_gather 6 (some (.boolean)),
  .instanceMethod y_Md_gather,
  .code y_Md_word b_Md_word 2 (some (.int)),
  .instanceMethod y_Md_word,
  .code y_Md_readVarint b_Md_readVarint 3 (some (.boolean)),
  .instanceMethod y_Md_readVarint,
  .code y_Md_fieldOf b_Md_fieldOf 4 (some (.int)),
  .instanceMethod y_Md_fieldOf,
  .code y_Md_meant b_Md_meant 4 (some (.int)),
  .instanceMethod y_Md_meant,
  .code y_Md_readTagged b_Md_readTagged 6 (some (.boolean)),
  .instanceMethod y_Md_readTagged,
  .code y_Md_readTaggedBody b_Md_readTaggedBody 1 (some (.boolean)),
  .instanceMethod y_Md_readTaggedBody,
  .code y_Md_readWords b_Md_readWords 6 (some (.boolean)),
  .instanceMethod y_Md_readWords,
  .code y_Md_readBody b_Md_readBody 2 (some (.boolean)),
  .instanceMethod y_Md_readBody,
  .code y_Md_sendReply b_Md_sendReply 4 none,
  .instanceMethod y_Md_sendReply,
  .code y_Md_run b_Md_run 4 (some (.int)),
  .instanceMethod y_Md_run,
  .code y_Md_remember b_Md_remember 5 none,
  .instanceMethod y_Md_remember,
  .code y_Md_serve b_Md_serve 5 (some (.int)),
  .instanceMethod y_Md_serve,
  .code y_Md_accept b_Md_accept 4 (some (.int)),
  .instanceMethod y_Md_accept,
  .code y_Md_slotOf b_Md_slotOf 3 (some (.int)),
  .instanceMethod y_Md_slotOf,
  .code y_Md_call b_Md_call 4 (some (.int)),
  .instanceMethod y_Md_call,
  .code y_Md_tick b_Md_tick 3 (some (.int)),
  .instanceMethod y_Md_tick,
  .code y_Md_sendKept b_Md_sendKept 4 none,
  .instanceMethod y_Md_sendKept,
  .code y_Md_deliver b_Md_deliver 3 (some (.int)),
  .instanceMethod y_Md_deliver,
  .code y_Md_add b_Md_add 2 (some (.boolean)),
  .instanceMethod y_Md_add,
  .code y_Md_hand b_Md_hand 3 (some (.int)),
  .instanceMethod y_Md_hand,
  .code y_Md_total b_Md_total 1 (some (.int)),
  .instanceMethod y_Md_total,
  .code y_Md_runs b_Md_runs 1 (some (.int)),
  .instanceMethod y_Md_runs,
  .code y_Md_status b_Md_status 2 (some (.int)),
  .instanceMethod y_Md_status,
  .code y_Md_result b_Md_result 2 (some (.int)),
  .instanceMethod y_Md_result,
  .code y_Md_flight b_Md_flight 1 (some (.int)),
  .instanceMethod y_Md_flight,
  .code y_Md_size b_Md_size 2 (some (.int)),
  .instanceMethod y_Md_size]
def Wa4 : List Cond := [.code y_Md_byteAt b_Md_byteAt 3 (some (.int)),
  .instanceMethod y_Md_byteAt,
  .code y_Lw_cell b_Lw_cell 2 (some (.int)),
  .static y_Lw_cell,
  .initialized R_OW,
  .initialized R_Bytes,
  .initialized R_Client,
  .initialized R_Fragments,
  .initialized R_Network,
  .initialized R_Reader,
  .initialized R_Schema,
  .initialized R_Server,
  .initialized R_TaggedFormat,
  .initialized R_Value,
  .initialized R_WordFormat,
  .initialized R_Format,
  .initialized R_Md,
  .initialized R_Lw,
  .instantiable R_OW 6,
  .instantiable R_Bytes 2,
  .instantiable R_Client 10,
  .instantiable R_Network 3,
  .instantiable R_Reader 3,
  .instantiable R_Schema 5,
  .instantiable R_Server 11,
  .instantiable R_TaggedFormat 1,
  .instantiable R_Value 3,
  .instantiable R_WordFormat 1,
  .instantiable R_Md 32,
  .instanceMethod Lib.objectInit,
  .code Lib.objectInit ⟨#[0xb1]⟩ 1 none,
  .methodLink R_OW 1 Lib.objectInit,
  .classLink R_OW 7 R_Schema,
  .fieldLink R_OW 10 R_OW "schema" "LOnceWire$Schema;",
  .classLink R_OW 16 R_Value,
  .methodLink R_OW 18 y_Value_init,
  .fieldLink R_OW 21 R_OW "draftValue" "LOnceWire$Value;",
  .classLink R_OW 25 R_Bytes,
  .methodLink R_OW 27 y_Bytes_init,
  .fieldLink R_OW 30 R_OW "draftBytes" "LOnceWire$Bytes;",
  .classLink R_OW 34 R_Network,
  .methodLink R_OW 36 y_Network_init,
  .fieldLink R_OW 37 R_OW "network" "LOnceWire$Network;",
  .classLink R_OW 41 R_WordFormat,
  .methodLink R_OW 43 y_WordFormat_init,
  .classLink R_OW 44 R_TaggedFormat,
  .methodLink R_OW 46 y_TaggedFormat_init,
  .classLink R_OW 47 R_Server,
  .methodLink R_OW 49 y_Server_init,
  .fieldLink R_OW 52 R_OW "server" "LOnceWire$Server;",
  .classLink R_OW 56 R_Client,
  .methodLink R_OW 58 y_Client_init,
  .fieldLink R_OW 61 R_OW "client" "LOnceWire$Client;",
  .methodLink R_OW 65 y_Schema_declare,
  .selects R_Schema y_Schema_declare y_Schema_declare,
  .methodLink R_OW 69 y_Schema_has,
  .selects R_Schema y_Schema_has y_Schema_has,
  .methodLink R_OW 73 y_Schema_allows,
  .selects R_Schema y_Schema_allows y_Schema_allows,
  .methodLink R_OW 77 y_Value_store,
  .selects R_Value y_Value_store y_Value_store,
  .methodLink R_OW 80 y_Value_clear,
  .selects R_Value y_Value_clear y_Value_clear,
  .methodLink R_OW 83 y_Client_place]
def Wa5 : List Cond := [.selects R_Client y_Client_place y_Client_place,
  .methodLink R_OW 87 y_Client_growOlder,
  .selects R_Client y_Client_growOlder y_Client_growOlder,
  .methodLink R_OW 91 y_Network_has,
  .selects R_Network y_Network_has y_Network_has,
  .methodLink R_OW 92 y_Network_isForServer,
  .selects R_Network y_Network_isForServer y_Network_isForServer,
  .methodLink R_OW 95 y_Network_take,
  .selects R_Network y_Network_take y_Network_take,
  .methodLink R_OW 99 y_Server_receive,
  .selects R_Server y_Server_receive y_Server_receive,
  .methodLink R_OW 103 y_Client_receive,
  .selects R_Client y_Client_receive y_Client_receive,
  .methodLink R_OW 104 y_Network_isFull,
  .selects R_Network y_Network_isFull y_Network_isFull,
  .methodLink R_OW 108 y_Network_message,
  .selects R_Network y_Network_message y_Network_message,
  .methodLink R_OW 111 y_Network_send,
  .selects R_Network y_Network_send y_Network_send,
  .methodLink R_OW 115 y_Bytes_append,
  .selects R_Bytes y_Bytes_append y_Bytes_append,
  .methodLink R_OW 118 y_Bytes_clear,
  .selects R_Bytes y_Bytes_clear y_Bytes_clear,
  .methodLink R_OW 126 y_Client_statusOf,
  .selects R_Client y_Client_statusOf y_Client_statusOf,
  .methodLink R_OW 130 y_Client_resultOf,
  .selects R_Client y_Client_resultOf y_Client_resultOf,
  .methodLink R_OW 139 y_Bytes_at,
  .selects R_Bytes y_Bytes_at y_Bytes_at,
  .methodLink R_Bytes 3 Lib.objectInit,
  .arrayClass .int,
  .fieldLink R_Bytes 9 R_Bytes "cells" "[I",
  .fieldLink R_Bytes 15 R_Bytes "length" "I",
  .methodLink R_Bytes 19 y_Bytes_append,
  .methodLink R_Bytes 23 Lib.Math.min.name,
  .static Lib.Math.min.name,
  .initialized "java/lang/Math",
  .code Lib.Math.min.name Lib.Math.min.code 2 (some .int),
  .methodLink R_Bytes 29 Lib.Math.max.name,
  .static Lib.Math.max.name,
  .code Lib.Math.max.name Lib.Math.max.code 2 (some .int),
  .methodLink R_Bytes 32 arraycopyName,
  .native arraycopyName,
  .static arraycopyName,
  .initialized "java/lang/System",
  .constant R_Bytes 38 (65280),
  .methodLink R_Client 3 Lib.objectInit,
  .classLink R_Client 9 R_Bytes,
  .methodLink R_Client 11 y_Bytes_init,
  .fieldLink R_Client 14 R_Client "record" "LOnceWire$Bytes;",
  .fieldLink R_Client 20 R_Client "statuses" "[I",
  .fieldLink R_Client 24 R_Client "results" "[I",
  .fieldLink R_Client 27 R_Client "made" "I",
  .fieldLink R_Client 31 R_Client "xids" "[I",
  .fieldLink R_Client 34 R_Client "ages" "[I",
  .fieldLink R_Client 37 R_Client "messages" "[LOnceWire$Bytes;",
  .fieldLink R_Client 41 R_Client "pending" "I",
  .fieldLink R_Client 44 R_Client "network" "LOnceWire$Network;",
  .fieldLink R_Client 48 R_Client "format" "LOnceWire$Format;",
  .methodLink R_Client 52 y_Bytes_clear,
  .methodLink R_Client 55 y_Bytes_appendWord,
  .selects R_Bytes y_Bytes_appendWord y_Bytes_appendWord,
  .methodLink R_Client 58 ⟨R_Format, "write", "(LOnceWire$Value;LOnceWire$Bytes;)V"⟩,
  .sameMethod R_Format R_Format "write" "(LOnceWire$Value;LOnceWire$Bytes;)V"]
def Wa6 : List Cond := [.selects R_TaggedFormat ⟨R_Format, "write", "(LOnceWire$Value;LOnceWire$Bytes;)V"⟩ y_TaggedFormat_write,
  .selects R_WordFormat ⟨R_Format, "write", "(LOnceWire$Value;LOnceWire$Bytes;)V"⟩ y_WordFormat_write,
  .methodLink R_Client 64 y_Fragments_wrap,
  .methodLink R_Client 70 y_Network_send,
  .methodLink R_Client 76 y_Fragments_unwrap,
  .methodLink R_Client 83 y_Bytes_wordAt,
  .selects R_Bytes y_Bytes_wordAt y_Bytes_wordAt,
  .methodLink R_Client 87 y_Client_pendingPlaceOf,
  .selects R_Client y_Client_pendingPlaceOf y_Client_pendingPlaceOf,
  .methodLink R_Client 90 y_Client_settle,
  .selects R_Client y_Client_settle y_Client_settle,
  .methodLink R_Client 94 y_Bytes_moveToEnd,
  .methodLink R_Fragments 7 y_Bytes_clear,
  .methodLink R_Fragments 18 Lib.Math.min.name,
  .constant R_Fragments 24 (-2147483648),
  .methodLink R_Fragments 25 y_Bytes_appendWord,
  .methodLink R_Fragments 29 y_Bytes_appendPart,
  .selects R_Bytes y_Bytes_appendPart y_Bytes_appendPart,
  .methodLink R_Fragments 33 y_Bytes_wordAt,
  .constant R_Fragments 39 (2147483647),
  .methodLink R_Network 3 Lib.objectInit,
  .classLink R_Network 11 R_Bytes,
  .fieldLink R_Network 13 R_Network "rows" "[LOnceWire$Bytes;",
  .arrayClass .boolean,
  .fieldLink R_Network 17 R_Network "forServer" "[Z",
  .fieldLink R_Network 21 R_Network "count" "I",
  .methodLink R_Network 25 y_Bytes_init,
  .methodLink R_Network 28 y_Network_has,
  .methodLink R_Network 32 y_Network_isFull,
  .methodLink R_Network 36 y_Bytes_become,
  .selects R_Bytes y_Bytes_become y_Bytes_become,
  .methodLink R_Network 40 y_Bytes_moveToEnd,
  .methodLink R_Reader 1 Lib.objectInit,
  .fieldLink R_Reader 7 R_Reader "source" "LOnceWire$Bytes;",
  .fieldLink R_Reader 13 R_Reader "at" "I",
  .fieldLink R_Reader 17 R_Reader "faulty" "Z",
  .methodLink R_Reader 21 Lib.Math.max.name,
  .methodLink R_Schema 3 Lib.objectInit,
  .fieldLink R_Schema 11 R_Schema "numbers" "[I",
  .fieldLink R_Schema 15 R_Schema "kinds" "[I",
  .fieldLink R_Schema 18 R_Schema "keys" "[I",
  .fieldLink R_Schema 21 R_Schema "repeats" "[Z",
  .fieldLink R_Schema 25 R_Schema "count" "I",
  .methodLink R_Schema 29 y_Schema_indexOf,
  .selects R_Schema y_Schema_indexOf y_Schema_indexOf,
  .methodLink R_Schema 33 y_Schema_has,
  .methodLink R_Schema 37 y_Schema_kindOf,
  .selects R_Schema y_Schema_kindOf y_Schema_kindOf,
  .methodLink R_Server 3 Lib.objectInit,
  .classLink R_Server 9 R_Bytes,
  .methodLink R_Server 11 y_Bytes_init,
  .fieldLink R_Server 14 R_Server "record" "LOnceWire$Bytes;",
  .classLink R_Server 20 R_Reader,
  .methodLink R_Server 22 y_Reader_init,
  .fieldLink R_Server 25 R_Server "reader" "LOnceWire$Reader;",
  .fieldLink R_Server 29 R_Server "xids" "[I",
  .fieldLink R_Server 33 R_Server "replies" "[LOnceWire$Bytes;",
  .fieldLink R_Server 37 R_Server "remembered" "I",
  .fieldLink R_Server 41 R_Server "oldest" "I",
  .fieldLink R_Server 44 R_Server "total" "I",
  .fieldLink R_Server 47 R_Server "runs" "I",
  .fieldLink R_Server 50 R_Server "network" "LOnceWire$Network;",
  .fieldLink R_Server 54 R_Server "format" "LOnceWire$Format;",
  .fieldLink R_Server 58 R_Server "value" "LOnceWire$Value;"]
def Wa7 : List Cond := [.methodLink R_Server 62 y_Fragments_unwrap,
  .methodLink R_Server 71 y_Bytes_wordAt,
  .methodLink R_Server 75 y_Network_send,
  .methodLink R_Server 81 y_Server_answer,
  .selects R_Server y_Server_answer y_Server_answer,
  .methodLink R_Server 85 y_Server_reply,
  .selects R_Server y_Server_reply y_Server_reply,
  .methodLink R_Server 89 y_Reader_startAt,
  .selects R_Reader y_Reader_startAt y_Reader_startAt,
  .methodLink R_Server 92 ⟨R_Format, "read", "(LOnceWire$Reader;LOnceWire$Value;)Z"⟩,
  .sameMethod R_Format R_Format "read" "(LOnceWire$Reader;LOnceWire$Value;)Z",
  .selects R_TaggedFormat ⟨R_Format, "read", "(LOnceWire$Reader;LOnceWire$Value;)Z"⟩ y_TaggedFormat_read,
  .selects R_WordFormat ⟨R_Format, "read", "(LOnceWire$Reader;LOnceWire$Value;)Z"⟩ y_WordFormat_read,
  .methodLink R_Server 98 y_Value_digest,
  .selects R_Value y_Value_digest y_Value_digest,
  .methodLink R_Server 104 y_Server_run,
  .selects R_Server y_Server_run y_Server_run,
  .methodLink R_Server 107 y_Bytes_clear,
  .methodLink R_Server 110 y_Bytes_appendWord,
  .methodLink R_Server 113 y_Server_slotForNew,
  .selects R_Server y_Server_slotForNew y_Server_slotForNew,
  .methodLink R_Server 116 y_Fragments_wrap,
  .methodLink R_TaggedFormat 3 y_Format_init,
  .fieldLink R_TaggedFormat 9 R_TaggedFormat "schema" "LOnceWire$Schema;",
  .sameField R_TaggedFormat R_Format "schema" "LOnceWire$Schema;",
  .methodLink R_TaggedFormat 21 y_Value_countOf,
  .selects R_Value y_Value_countOf y_Value_countOf,
  .methodLink R_TaggedFormat 27 y_Value_intOf,
  .selects R_Value y_Value_intOf y_Value_intOf,
  .methodLink R_TaggedFormat 31 y_Schema_isRepeated,
  .selects R_Schema y_Schema_isRepeated y_Schema_isRepeated,
  .methodLink R_TaggedFormat 35 y_Schema_keyOf,
  .selects R_Schema y_Schema_keyOf y_Schema_keyOf,
  .methodLink R_TaggedFormat 38 y_TaggedFormat_writeVarint,
  .methodLink R_TaggedFormat 42 y_Schema_kindOf,
  .methodLink R_TaggedFormat 45 y_TaggedFormat_writeInt,
  .methodLink R_TaggedFormat 49 y_Bytes_swapped,
  .methodLink R_TaggedFormat 54 y_Bytes_appendWord,
  .constantLong R_TaggedFormat 58 (2),
  .constantLong R_TaggedFormat 60 (-2),
  .constantLong R_TaggedFormat 62 (4294967295),
  .constantLong R_TaggedFormat 66 (127),
  .methodLink R_TaggedFormat 68 y_Bytes_append,
  .methodLink R_TaggedFormat 71 y_Value_clear,
  .methodLink R_TaggedFormat 75 y_Reader_left,
  .selects R_Reader y_Reader_left y_Reader_left,
  .methodLink R_TaggedFormat 79 y_TaggedFormat_readEntry,
  .selects R_TaggedFormat y_TaggedFormat_readEntry y_TaggedFormat_readEntry,
  .methodLink R_TaggedFormat 83 y_Reader_takeVarint,
  .selects R_Reader y_Reader_takeVarint y_Reader_takeVarint,
  .constantLong R_TaggedFormat 91 (8),
  .constantLong R_TaggedFormat 93 (7),
  .methodLink R_TaggedFormat 95 y_TaggedFormat_takePayload,
  .methodLink R_TaggedFormat 99 y_Schema_indexOf,
  .methodLink R_TaggedFormat 102 y_TaggedFormat_intOfPayload,
  .methodLink R_TaggedFormat 106 y_Value_store,
  .methodLink R_TaggedFormat 110 y_Reader_takeWord,
  .selects R_Reader y_Reader_takeWord y_Reader_takeWord,
  .methodLink R_TaggedFormat 113 y_Reader_skip,
  .selects R_Reader y_Reader_skip y_Reader_skip,
  .methodLink R_Value 1 Lib.objectInit,
  .fieldLink R_Value 11 R_Value "ints" "[I",
  .fieldLink R_Value 15 R_Value "listed" "[I",
  .fieldLink R_Value 18 R_Value "schema" "LOnceWire$Schema;"]
def Wa8 : List Cond := [.methodLink R_Value 22 y_Schema_has,
  .methodLink R_Value 30 y_Value_countOf,
  .methodLink R_Value 38 y_Schema_isRepeated,
  .methodLink R_Value 41 y_Value_intOf,
  .methodLink R_WordFormat 1 y_Format_init,
  .fieldLink R_WordFormat 7 R_WordFormat "schema" "LOnceWire$Schema;",
  .sameField R_WordFormat R_Format "schema" "LOnceWire$Schema;",
  .methodLink R_WordFormat 19 y_Value_countOf,
  .methodLink R_WordFormat 25 y_Schema_isRepeated,
  .methodLink R_WordFormat 29 y_Bytes_appendWord,
  .methodLink R_WordFormat 35 y_Value_intOf,
  .methodLink R_WordFormat 39 y_Value_clear,
  .methodLink R_WordFormat 43 y_Reader_takeWord,
  .methodLink R_WordFormat 53 y_Schema_allows,
  .methodLink R_WordFormat 57 y_Value_store,
  .methodLink R_WordFormat 60 y_Reader_left,
  .methodLink R_Format 1 Lib.objectInit,
  .fieldLink R_Format 7 R_Format "schema" "LOnceWire$Schema;",
  .methodLink R_Md 1 Lib.objectInit,
  .fieldLink R_Md 7 R_Md "numbers" "[I",
  .fieldLink R_Md 13 R_Md "kinds" "[I",
  .fieldLink R_Md 16 R_Md "repeated" "[Z",
  .fieldLink R_Md 20 R_Md "many" "[I",
  .fieldLink R_Md 23 R_Md "ints" "[I",
  .fieldLink R_Md 26 R_Md "sheet" "[I",
  .fieldLink R_Md 29 R_Md "message" "[I",
  .fieldLink R_Md 32 R_Md "net" "[I",
  .fieldLink R_Md 35 R_Md "lengths" "[I",
  .fieldLink R_Md 38 R_Md "replies" "[Z",
  .fieldLink R_Md 41 R_Md "draft" "[I",
  .fieldLink R_Md 44 R_Md "knownXid" "[I",
  .fieldLink R_Md 47 R_Md "knownStatus" "[I",
  .fieldLink R_Md 50 R_Md "knownResult" "[I",
  .fieldLink R_Md 53 R_Md "state" "[I",
  .fieldLink R_Md 56 R_Md "results" "[I",
  .fieldLink R_Md 59 R_Md "ages" "[I",
  .fieldLink R_Md 62 R_Md "kept" "[I",
  .fieldLink R_Md 65 R_Md "keptLength" "[I",
  .fieldLink R_Md 68 R_Md "owner" "[I",
  .fieldLink R_Md 71 R_Md "words" "Z",
  .fieldLink R_Md 75 R_Md "fields" "I",
  .methodLink R_Md 79 y_Md_empty,
  .selects R_Md y_Md_empty y_Md_empty,
  .methodLink R_Md 83 y_Md_give,
  .selects R_Md y_Md_give y_Md_give,
  .fieldLink R_Md 87 R_Md "recordLength" "I",
  .methodLink R_Md 90 y_Md_write,
  .selects R_Md y_Md_write y_Md_write,
  .constantLong R_Md 93 (128),
  .constantLong R_Md 95 (8),
  .constantLong R_Md 97 (5),
  .methodLink R_Md 99 y_Md_writeVarint,
  .selects R_Md y_Md_writeVarint y_Md_writeVarint,
  .constantLong R_Md 103 (4294967296),
  .constantLong R_Md 105 (-2),
  .constantLong R_Md 107 (2),
  .methodLink R_Md 109 y_Md_writeWord,
  .selects R_Md y_Md_writeWord y_Md_writeWord,
  .methodLink R_Md 112 y_Md_writeTagged,
  .selects R_Md y_Md_writeTagged y_Md_writeTagged,
  .fieldLink R_Md 116 R_Md "messageLength" "I",
  .fieldLink R_Md 119 R_Md "line" "I",
  .methodLink R_Md 122 y_Md_isMessage,
  .selects R_Md y_Md_isMessage y_Md_isMessage]
def Wa9 : List Cond := [.methodLink R_Md 126 y_Md_load,
  .selects R_Md y_Md_load y_Md_load,
  .methodLink R_Md 129 y_Md_send,
  .selects R_Md y_Md_send y_Md_send,
  .constant R_Md 133 (65536),
  .fieldLink R_Md 134 R_Md "at" "I",
  .fieldLink R_Md 137 R_Md "number" "J",
  .constantLong R_Md 141 (4294967295),
  .methodLink R_Md 143 y_Md_readVarint,
  .selects R_Md y_Md_readVarint y_Md_readVarint,
  .methodLink R_Md 147 y_Md_fieldOf,
  .selects R_Md y_Md_fieldOf y_Md_fieldOf,
  .methodLink R_Md 151 y_Md_meant,
  .selects R_Md y_Md_meant y_Md_meant,
  .constantLong R_Md 155 (4),
  .methodLink R_Md 157 y_Md_readTagged,
  .selects R_Md y_Md_readTagged y_Md_readTagged,
  .methodLink R_Md 160 y_Md_word,
  .selects R_Md y_Md_word y_Md_word,
  .methodLink R_Md 163 y_Md_readWords,
  .selects R_Md y_Md_readWords y_Md_readWords,
  .methodLink R_Md 166 y_Md_readTaggedBody,
  .selects R_Md y_Md_readTaggedBody y_Md_readTaggedBody,
  .methodLink R_Md 169 y_Md_fragment,
  .selects R_Md y_Md_fragment y_Md_fragment,
  .fieldLink R_Md 172 R_Md "total" "I",
  .methodLink R_Md 175 y_Md_digest,
  .selects R_Md y_Md_digest y_Md_digest,
  .fieldLink R_Md 179 R_Md "runs" "I",
  .fieldLink R_Md 182 R_Md "known" "I",
  .methodLink R_Md 185 y_Md_gather,
  .selects R_Md y_Md_gather y_Md_gather,
  .methodLink R_Md 188 y_Md_sendReply,
  .selects R_Md y_Md_sendReply y_Md_sendReply,
  .methodLink R_Md 192 y_Md_readBody,
  .selects R_Md y_Md_readBody y_Md_readBody,
  .methodLink R_Md 195 y_Md_run,
  .selects R_Md y_Md_run y_Md_run,
  .methodLink R_Md 198 y_Md_remember,
  .selects R_Md y_Md_remember y_Md_remember,
  .fieldLink R_Md 201 R_Md "calls" "I",
  .methodLink R_Md 204 y_Md_slotOf,
  .selects R_Md y_Md_slotOf y_Md_slotOf,
  .methodLink R_Md 207 y_Md_writeDraft,
  .selects R_Md y_Md_writeDraft y_Md_writeDraft,
  .methodLink R_Md 210 y_Md_sendKept,
  .selects R_Md y_Md_sendKept y_Md_sendKept,
  .methodLink R_Md 213 y_Md_lose,
  .selects R_Md y_Md_lose y_Md_lose,
  .methodLink R_Md 216 y_Md_accept,
  .selects R_Md y_Md_accept y_Md_accept,
  .methodLink R_Md 219 y_Md_serve,
  .selects R_Md y_Md_serve y_Md_serve,
  .fieldLink R_Md 222 R_Md "drafted" "I",
  .classLink R_Lw 7 R_OW,
  .methodLink R_Lw 9 y_Lw_cell,
  .methodLink R_Lw 15 y_OW_init,
  .classLink R_Lw 18 R_Md,
  .methodLink R_Lw 20 y_Md_init,
  .methodLink R_Lw 21 y_OW_field,
  .selects R_OW y_OW_field y_OW_field,
  .methodLink R_Lw 25 y_Md_field,
  .selects R_Md y_Md_field y_Md_field,
  .methodLink R_Lw 26 y_OW_put]
def Wa10 : List Cond := [.selects R_OW y_OW_put y_OW_put,
  .methodLink R_Lw 30 y_Md_put,
  .selects R_Md y_Md_put y_Md_put,
  .methodLink R_Lw 31 y_OW_reset,
  .selects R_OW y_OW_reset y_OW_reset,
  .methodLink R_Lw 34 y_Md_reset,
  .selects R_Md y_Md_reset y_Md_reset,
  .methodLink R_Lw 35 y_OW_call,
  .selects R_OW y_OW_call y_OW_call,
  .methodLink R_Lw 39 y_Md_call,
  .selects R_Md y_Md_call y_Md_call,
  .methodLink R_Lw 40 y_OW_tick,
  .selects R_OW y_OW_tick y_OW_tick,
  .methodLink R_Lw 44 y_Md_tick,
  .selects R_Md y_Md_tick y_Md_tick,
  .methodLink R_Lw 45 y_OW_deliver,
  .selects R_OW y_OW_deliver y_OW_deliver,
  .methodLink R_Lw 48 y_Md_deliver,
  .selects R_Md y_Md_deliver y_Md_deliver,
  .methodLink R_Lw 49 y_OW_lose,
  .selects R_OW y_OW_lose y_OW_lose,
  .methodLink R_Lw 53 y_Md_lose,
  .methodLink R_Lw 54 y_OW_copy,
  .selects R_OW y_OW_copy y_OW_copy,
  .methodLink R_Lw 57 y_Md_copy,
  .selects R_Md y_Md_copy y_Md_copy,
  .methodLink R_Lw 58 y_OW_add,
  .selects R_OW y_OW_add y_OW_add,
  .methodLink R_Lw 61 y_Md_add,
  .selects R_Md y_Md_add y_Md_add,
  .methodLink R_Lw 62 y_OW_hand,
  .selects R_OW y_OW_hand y_OW_hand,
  .methodLink R_Lw 66 y_Md_hand,
  .selects R_Md y_Md_hand y_Md_hand,
  .methodLink R_Lw 67 y_OW_total,
  .selects R_OW y_OW_total y_OW_total,
  .methodLink R_Lw 70 y_Md_total,
  .selects R_Md y_Md_total y_Md_total,
  .methodLink R_Lw 71 y_OW_runs,
  .selects R_OW y_OW_runs y_OW_runs,
  .methodLink R_Lw 74 y_Md_runs,
  .selects R_Md y_Md_runs y_Md_runs,
  .methodLink R_Lw 75 y_OW_status,
  .selects R_OW y_OW_status y_OW_status,
  .methodLink R_Lw 78 y_Md_status,
  .selects R_Md y_Md_status y_Md_status,
  .methodLink R_Lw 79 y_OW_result,
  .selects R_OW y_OW_result y_OW_result,
  .methodLink R_Lw 82 y_Md_result,
  .selects R_Md y_Md_result y_Md_result,
  .methodLink R_Lw 83 y_OW_flight,
  .selects R_OW y_OW_flight y_OW_flight,
  .methodLink R_Lw 86 y_Md_flight,
  .selects R_Md y_Md_flight y_Md_flight,
  .methodLink R_Lw 87 y_OW_size,
  .selects R_OW y_OW_size y_OW_size,
  .methodLink R_Lw 90 y_Md_size,
  .selects R_Md y_Md_size y_Md_size,
  .methodLink R_Lw 91 y_OW_byteAt,
  .selects R_OW y_OW_byteAt y_OW_byteAt,
  .methodLink R_Lw 95 y_Md_byteAt,
  .selects R_Md y_Md_byteAt y_Md_byteAt]
def Wl_OW : List Cond := u_ws R_OW F_OW 6
def Wl_Bytes : List Cond := u_ws R_Bytes F_Bytes 2
def Wl_Client : List Cond := u_ws R_Client F_Client 10
def Wl_Network : List Cond := u_ws R_Network F_Network 3
def Wl_Reader : List Cond := u_ws R_Reader F_Reader 3
def Wl_Schema : List Cond := u_ws R_Schema F_Schema 5
def Wl_Server : List Cond := u_ws R_Server F_Server 11
def Wl_TaggedFormat : List Cond := u_ws R_TaggedFormat F_TaggedFormat 1
def Wl_Value : List Cond := u_ws R_Value F_Value 3
def Wl_WordFormat : List Cond := u_ws R_WordFormat F_WordFormat 1
def Wl_Md : List Cond := u_ws R_Md F_Md 32
def Wss : List (List Cond) := [Wa0, Wa1, Wa2, Wa3, Wa4, Wa5, Wa6, Wa7, Wa8, Wa9, Wa10, Wl_OW, Wl_Bytes, Wl_Client, Wl_Network, Wl_Reader, Wl_Schema, Wl_Server, Wl_TaggedFormat, Wl_Value, Wl_WordFormat, Wl_Md]
def Ws : List Cond := Wss.flatten
def nws : List Cond := [.methodLinkNest R_OW 9 y_Schema_init R_OW,
  .fieldLinkNest R_OW 119 R_Server "total" "I" R_OW,
  .fieldLinkNest R_OW 123 R_Server "runs" "I" R_OW,
  .fieldLinkNest R_OW 133 R_Network "count" "I" R_OW,
  .fieldLinkNest R_OW 136 R_Bytes "length" "I" R_OW,
  .arrayOver (.object "OnceWire$Bytes"),
  .declares ⟨R_Format, "write", "(LOnceWire$Value;LOnceWire$Bytes;)V"⟩,
  .fieldLinkNest R_Client 80 R_Bytes "length" "I" R_OW,
  .fieldLinkNest R_Fragments 12 R_Bytes "length" "I" R_OW,
  .fieldLinkNest R_Reader 27 R_Bytes "length" "I" R_OW,
  .fieldLinkNest R_Reader 32 R_Bytes "cells" "[I" R_OW,
  .fieldLinkNest R_Server 68 R_Bytes "length" "I" R_OW,
  .declares ⟨R_Format, "read", "(LOnceWire$Reader;LOnceWire$Value;)Z"⟩,
  .fieldLinkNest R_TaggedFormat 15 R_Schema "count" "I" R_OW,
  .fieldLinkNest R_TaggedFormat 87 R_Reader "faulty" "Z" R_OW,
  .fieldLinkNest R_Value 26 R_Schema "repeats" "[Z" R_OW,
  .fieldLinkNest R_Value 34 R_Schema "count" "I" R_OW,
  .fieldLinkNest R_WordFormat 13 R_Schema "count" "I" R_OW,
  .fieldLinkNest R_WordFormat 49 R_Reader "faulty" "Z" R_OW]
theorem Ws_in {i : Nat} {l : List Cond} {x : Cond} (hi : Wss[i]? = some l) (hx : x ∈ l) : x ∈ Ws := List.mem_flatten.mpr ⟨l, List.mem_of_getElem? hi, hx⟩
theorem Ws_at {i k : Nat} {l : List Cond} {x : Cond} (hi : Wss[i]? = some l) (hx : l[k]? = some x) : x ∈ Ws := Ws_in hi (List.mem_of_getElem? hx)
theorem Wl_OW_in : ∀ x ∈ u_ws R_OW F_OW 6, x ∈ Ws := fun x h => Ws_in (i := 11) (l := Wl_OW) rfl h
theorem Wl_Bytes_in : ∀ x ∈ u_ws R_Bytes F_Bytes 2, x ∈ Ws := fun x h => Ws_in (i := 12) (l := Wl_Bytes) rfl h
theorem Wl_Client_in : ∀ x ∈ u_ws R_Client F_Client 10, x ∈ Ws := fun x h => Ws_in (i := 13) (l := Wl_Client) rfl h
theorem Wl_Network_in : ∀ x ∈ u_ws R_Network F_Network 3, x ∈ Ws := fun x h => Ws_in (i := 14) (l := Wl_Network) rfl h
theorem Wl_Reader_in : ∀ x ∈ u_ws R_Reader F_Reader 3, x ∈ Ws := fun x h => Ws_in (i := 15) (l := Wl_Reader) rfl h
theorem Wl_Schema_in : ∀ x ∈ u_ws R_Schema F_Schema 5, x ∈ Ws := fun x h => Ws_in (i := 16) (l := Wl_Schema) rfl h
theorem Wl_Server_in : ∀ x ∈ u_ws R_Server F_Server 11, x ∈ Ws := fun x h => Ws_in (i := 17) (l := Wl_Server) rfl h
theorem Wl_TaggedFormat_in : ∀ x ∈ u_ws R_TaggedFormat F_TaggedFormat 1, x ∈ Ws := fun x h => Ws_in (i := 18) (l := Wl_TaggedFormat) rfl h
theorem Wl_Value_in : ∀ x ∈ u_ws R_Value F_Value 3, x ∈ Ws := fun x h => Ws_in (i := 19) (l := Wl_Value) rfl h
theorem Wl_WordFormat_in : ∀ x ∈ u_ws R_WordFormat F_WordFormat 1, x ∈ Ws := fun x h => Ws_in (i := 20) (l := Wl_WordFormat) rfl h
theorem Wl_Md_in : ∀ x ∈ u_ws R_Md F_Md 32, x ∈ Ws := fun x h => Ws_in (i := 21) (l := Wl_Md) rfl h
