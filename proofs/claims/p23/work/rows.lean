section
/-! ===== BEGIN words of one list among another's, by their places ===== -/
theorem goodIn_r {big : List Cond} (ws : List Cond) (ps : List Nat) (hp : ws = ps.filterMap (fun i => big[i]?)) (h : ws.all goodWord = true) : GoodIn big ws := by
  intro w hw
  have h1 := List.all_eq_true.mp h w hw
  rw [hp] at hw
  obtain ⟨i, -, hi⟩ := List.mem_filterMap.mp hw
  have hm : w ∈ big := by first | exact List.mem_of_getElem? hi | exact List.getElem?_mem hi
  exact ⟨hm, good_of_word h1⟩
theorem goodIn_app {big a b : List Cond} (ha : GoodIn big a) (hb : GoodIn big b) : GoodIn big (a ++ b) := fun w h => (List.mem_append.mp h).elim (ha w) (hb w)
theorem goodIn_ca {big a b : List Cond} {c : Cond} (ha : GoodIn big (c :: a)) (hb : GoodIn big b) : GoodIn big (c :: (a ++ b)) := fun w h => (List.mem_cons.mp h).elim (fun e => ha w (List.mem_cons.mpr (Or.inl e))) (fun h => (List.mem_append.mp h).elim (fun h => ha w (List.mem_cons.mpr (Or.inr h))) (hb w))
theorem goodIn_sub {big ws : List Cond} (hm : ∀ w ∈ ws, w ∈ big) (h : ws.all goodWord = true) : GoodIn big ws := fun w hw => ⟨hm w hw, good_of_word (List.all_eq_true.mp h w hw)⟩
/-! ===== END ===== -/

/-! ===== BEGIN printed: names, fields, word lists, decode rows ===== -/
def RX0 : String := "HalfTickets$History"
def TX0 : u_T := fun k => match k with
  | 0 => ("HalfTickets$History", "states", "[LHalfTickets$Ministry;", true)
  | 1 => ("HalfTickets$History", "next", "I", false)
  | _ => ("HalfTickets$History", "kept", "I", false)
def tyX0 : Nat → FieldType := fun k => match k with
  | 0 => .array (.object "HalfTickets$Ministry")
  | 1 => .int
  | _ => .int
abbrev wsX00 : List Cond := u_ws RX0 TX0 3
theorem nmX0 : ∀ a, a < 3 → ∀ b, b < 3 → a ≠ b → (TX0 a).2.1 ≠ (TX0 b).2.1 := by decide +kernel
theorem tyX0_ok : ∀ k, k < 3 → parseFieldDescriptor (TX0 k).2.2.1 = some (tyX0 k) := by decide +kernel
abbrev cX0_init : ByteArray := prog_2_method_1_code
def yX0_init : MethodName := ⟨RX0, "<init>", "()V"⟩
abbrev cX0_kept : ByteArray := prog_2_method_2_code
def yX0_kept : MethodName := ⟨RX0, "kept", "()I"⟩
abbrev cX0_remember : ByteArray := prog_2_method_3_code
def yX0_remember : MethodName := ⟨RX0, "remember", "(LHalfTickets$Ministry;)V"⟩
def RX1 : String := "HalfTickets$Line"
def TX1 : u_T := fun k => match k with
  | 0 => ("HalfTickets$Line", "numbers", "[I", true)
  | _ => ("HalfTickets$Line", "length", "I", false)
def tyX1 : Nat → FieldType := fun k => match k with
  | 0 => .array .int
  | _ => .int
abbrev wsX10 : List Cond := u_ws RX1 TX1 2
theorem nmX1 : ∀ a, a < 2 → ∀ b, b < 2 → a ≠ b → (TX1 a).2.1 ≠ (TX1 b).2.1 := by decide +kernel
theorem tyX1_ok : ∀ k, k < 2 → parseFieldDescriptor (TX1 k).2.2.1 = some (tyX1 k) := by decide +kernel
abbrev cX1_init : ByteArray := prog_3_method_1_code
def yX1_init : MethodName := ⟨RX1, "<init>", "()V"⟩
abbrev cX1_length : ByteArray := prog_3_method_2_code
def yX1_length : MethodName := ⟨RX1, "length", "()I"⟩
abbrev cX1_numberAt : ByteArray := prog_3_method_3_code
def yX1_numberAt : MethodName := ⟨RX1, "numberAt", "(I)I"⟩
abbrev cX1_placeOf : ByteArray := prog_3_method_4_code
def yX1_placeOf : MethodName := ⟨RX1, "placeOf", "(I)I"⟩
abbrev cX1_append : ByteArray := prog_3_method_5_code
def yX1_append : MethodName := ⟨RX1, "append", "(I)V"⟩
abbrev cX1_remove : ByteArray := prog_3_method_6_code
def yX1_remove : MethodName := ⟨RX1, "remove", "(I)V"⟩
abbrev cX1_become : ByteArray := prog_3_method_7_code
def yX1_become : MethodName := ⟨RX1, "become", "(LHalfTickets$Line;)V"⟩
def RX2 : String := "HalfTickets$Ministry"
def TX2 : u_T := fun k => match k with
  | 0 => ("HalfTickets$Ministry", "settings", "[I", true)
  | 1 => ("HalfTickets$Ministry", "windows", "[LHalfTickets$Window;", true)
  | 2 => ("HalfTickets$Ministry", "persons", "[LHalfTickets$Person;", true)
  | 3 => ("HalfTickets$Ministry", "people", "I", false)
  | 4 => ("HalfTickets$Ministry", "ticks", "I", false)
  | 5 => ("HalfTickets$Ministry", "lost", "I", false)
  | _ => ("HalfTickets$Ministry", "brought", "I", false)
def tyX2 : Nat → FieldType := fun k => match k with
  | 0 => .array .int
  | 1 => .array (.object "HalfTickets$Window")
  | 2 => .array (.object "HalfTickets$Person")
  | 3 => .int
  | 4 => .int
  | 5 => .int
  | _ => .int
abbrev wsX20 : List Cond := u_ws RX2 TX2 7
theorem nmX2 : ∀ a, a < 7 → ∀ b, b < 7 → a ≠ b → (TX2 a).2.1 ≠ (TX2 b).2.1 := by decide +kernel
theorem tyX2_ok : ∀ k, k < 7 → parseFieldDescriptor (TX2 k).2.2.1 = some (tyX2 k) := by decide +kernel
abbrev cX2_init : ByteArray := prog_4_method_1_code
def yX2_init : MethodName := ⟨RX2, "<init>", "()V"⟩
abbrev cX2_become : ByteArray := prog_4_method_2_code
def yX2_become : MethodName := ⟨RX2, "become", "(LHalfTickets$Ministry;)V"⟩
abbrev cX2_windowAt : ByteArray := prog_4_method_3_code
def yX2_windowAt : MethodName := ⟨RX2, "windowAt", "(I)LHalfTickets$Window;"⟩
abbrev cX2_personAt : ByteArray := prog_4_method_4_code
def yX2_personAt : MethodName := ⟨RX2, "personAt", "(I)LHalfTickets$Person;"⟩
abbrev cX2_openWindows : ByteArray := prog_4_method_5_code
def yX2_openWindows : MethodName := ⟨RX2, "openWindows", "()I"⟩
abbrev cX2_peopleWho : ByteArray := prog_4_method_6_code
def yX2_peopleWho : MethodName := ⟨RX2, "peopleWho", "(I)I"⟩
abbrev cX2_halvesOfWindows : ByteArray := prog_4_method_7_code
def yX2_halvesOfWindows : MethodName := ⟨RX2, "halvesOfWindows", "()I"⟩
abbrev cX2_halvesOfPeople : ByteArray := prog_4_method_8_code
def yX2_halvesOfPeople : MethodName := ⟨RX2, "halvesOfPeople", "()I"⟩
abbrev cX2_waits : ByteArray := prog_4_method_9_code
def yX2_waits : MethodName := ⟨RX2, "waits", "()I"⟩
abbrev cX2_timesSentBack : ByteArray := prog_4_method_10_code
def yX2_timesSentBack : MethodName := ⟨RX2, "timesSentBack", "()I"⟩
abbrev cX2_placeInQueue : ByteArray := prog_4_method_11_code
def yX2_placeInQueue : MethodName := ⟨RX2, "placeInQueue", "(LHalfTickets$Person;)I"⟩
abbrev cX2_admitAll : ByteArray := prog_4_method_12_code
def yX2_admitAll : MethodName := ⟨RX2, "admitAll", "(LHalfTickets$Pad;)V"⟩
abbrev cX2_admit : ByteArray := prog_4_method_13_code
def xw_adm : String := match (tables_1_2[118]? : Option Cond) with
  | some (Cond.privateMethod y) => y.name
  | _ => ""
def yX2_admit : MethodName := ⟨RX2, xw_adm, "(LHalfTickets$Pad;II)V"⟩
abbrev cX2_joinQueue : ByteArray := prog_4_method_14_code
def yX2_joinQueue : MethodName := ⟨RX2, "joinQueue", "(LHalfTickets$Person;)V"⟩
abbrev cX2_sendAway : ByteArray := prog_4_method_15_code
def yX2_sendAway : MethodName := ⟨RX2, "sendAway", "(LHalfTickets$Person;I)V"⟩
abbrev cX2_tick : ByteArray := prog_4_method_16_code
def yX2_tick : MethodName := ⟨RX2, "tick", "()V"⟩
abbrev cX2_serveAt : ByteArray := prog_4_method_17_code
def yX2_serveAt : MethodName := ⟨RX2, "serveAt", "(LHalfTickets$Window;)V"⟩
abbrev cX2_finishAt : ByteArray := prog_4_method_18_code
def yX2_finishAt : MethodName := ⟨RX2, "finishAt", "(LHalfTickets$Window;LHalfTickets$Person;)V"⟩
abbrev cX2_callAt : ByteArray := prog_4_method_19_code
def yX2_callAt : MethodName := ⟨RX2, "callAt", "(LHalfTickets$Window;)V"⟩
abbrev cX2_waitInQueues : ByteArray := prog_4_method_20_code
def yX2_waitInQueues : MethodName := ⟨RX2, "waitInQueues", "()V"⟩
def RX3 : String := "HalfTickets$Pad"
def TX3 : u_T := fun k => match k with
  | 0 => ("HalfTickets$Pad", "text", "[C", true)
  | _ => ("HalfTickets$Pad", "length", "I", false)
def tyX3 : Nat → FieldType := fun k => match k with
  | 0 => .array .char
  | _ => .int
abbrev wsX30 : List Cond := u_ws RX3 TX3 2
theorem nmX3 : ∀ a, a < 2 → ∀ b, b < 2 → a ≠ b → (TX3 a).2.1 ≠ (TX3 b).2.1 := by decide +kernel
theorem tyX3_ok : ∀ k, k < 2 → parseFieldDescriptor (TX3 k).2.2.1 = some (tyX3 k) := by decide +kernel
abbrev cX3_init : ByteArray := prog_5_method_1_code
def yX3_init : MethodName := ⟨RX3, "<init>", "()V"⟩
abbrev cX3_charactersIn : ByteArray := prog_5_method_2_code
def yX3_charactersIn : MethodName := ⟨RX3, "charactersIn", "(J)I"⟩
abbrev cX3_append : ByteArray := prog_5_method_3_code
def yX3_append : MethodName := ⟨RX3, "append", "(JI)V"⟩
abbrev cX3_clear : ByteArray := prog_5_method_4_code
def yX3_clear : MethodName := ⟨RX3, "clear", "()V"⟩
abbrev cX3_length : ByteArray := prog_5_method_5_code
def yX3_length : MethodName := ⟨RX3, "length", "()I"⟩
abbrev cX3_firstFault : ByteArray := prog_5_method_6_code
def yX3_firstFault : MethodName := ⟨RX3, "firstFault", "()I"⟩
abbrev cX3_repeatsAt : ByteArray := prog_5_method_7_code
def yX3_repeatsAt : MethodName := ⟨RX3, "repeatsAt", "(I)Z"⟩
abbrev cX3_isWindow : ByteArray := prog_5_method_8_code
def yX3_isWindow : MethodName := ⟨RX3, "isWindow", "(C)Z"⟩
abbrev cX3_errands : ByteArray := prog_5_method_9_code
def yX3_errands : MethodName := ⟨RX3, "errands", "()I"⟩
abbrev cX3_endOfErrand : ByteArray := prog_5_method_10_code
def yX3_endOfErrand : MethodName := ⟨RX3, "endOfErrand", "(I)I"⟩
abbrev cX3_windowAt : ByteArray := prog_5_method_11_code
def yX3_windowAt : MethodName := ⟨RX3, "windowAt", "(I)I"⟩
def RX4 : String := "HalfTickets$Person"
def TX4 : u_T := fun k => match k with
  | 0 => ("HalfTickets$Person", "number", "I", true)
  | 1 => ("HalfTickets$Person", "errand", "[I", true)
  | 2 => ("HalfTickets$Person", "errandLength", "I", false)
  | 3 => ("HalfTickets$Person", "where", "I", false)
  | 4 => ("HalfTickets$Person", "through", "I", false)
  | 5 => ("HalfTickets$Person", "hasHalf", "Z", false)
  | 6 => ("HalfTickets$Person", "servedFor", "I", false)
  | 7 => ("HalfTickets$Person", "waits", "I", false)
  | 8 => ("HalfTickets$Person", "waitsHere", "I", false)
  | 9 => ("HalfTickets$Person", "sentBack", "I", false)
  | 10 => ("HalfTickets$Person", "goneBehind", "I", false)
  | _ => ("HalfTickets$Person", "cameInThisTick", "Z", false)
def tyX4 : Nat → FieldType := fun k => match k with
  | 0 => .int
  | 1 => .array .int
  | 2 => .int
  | 3 => .int
  | 4 => .int
  | 5 => .boolean
  | 6 => .int
  | 7 => .int
  | 8 => .int
  | 9 => .int
  | 10 => .int
  | _ => .boolean
abbrev wsX40 : List Cond := u_ws RX4 TX4 12
theorem nmX4 : ∀ a, a < 12 → ∀ b, b < 12 → a ≠ b → (TX4 a).2.1 ≠ (TX4 b).2.1 := by decide +kernel
theorem tyX4_ok : ∀ k, k < 12 → parseFieldDescriptor (TX4 k).2.2.1 = some (tyX4 k) := by decide +kernel
abbrev cX4_init : ByteArray := prog_6_method_1_code
def yX4_init : MethodName := ⟨RX4, "<init>", "(I)V"⟩
abbrev cX4_become : ByteArray := prog_6_method_2_code
def yX4_become : MethodName := ⟨RX4, "become", "(LHalfTickets$Person;)V"⟩
abbrev cX4_addToErrand : ByteArray := prog_6_method_3_code
def yX4_addToErrand : MethodName := ⟨RX4, "addToErrand", "(I)V"⟩
abbrev cX4_standsAt : ByteArray := prog_6_method_4_code
def yX4_standsAt : MethodName := ⟨RX4, "standsAt", "()I"⟩
abbrev cX4_goAs : ByteArray := prog_6_method_5_code
def yX4_goAs : MethodName := ⟨RX4, "goAs", "(II)V"⟩
def RX5 : String := "HalfTickets$Window"
def TX5 : u_T := fun k => match k with
  | 0 => ("HalfTickets$Window", "isOpen", "Z", false)
  | 1 => ("HalfTickets$Window", "clerks", "I", false)
  | 2 => ("HalfTickets$Window", "halves", "I", false)
  | 3 => ("HalfTickets$Window", "servings", "I", false)
  | 4 => ("HalfTickets$Window", "sentBack", "I", false)
  | 5 => ("HalfTickets$Window", "queue", "LHalfTickets$Line;", true)
  | _ => ("HalfTickets$Window", "serving", "LHalfTickets$Line;", true)
def tyX5 : Nat → FieldType := fun k => match k with
  | 0 => .boolean
  | 1 => .int
  | 2 => .int
  | 3 => .int
  | 4 => .int
  | 5 => .object "HalfTickets$Line"
  | _ => .object "HalfTickets$Line"
abbrev wsX50 : List Cond := u_ws RX5 TX5 7
theorem nmX5 : ∀ a, a < 7 → ∀ b, b < 7 → a ≠ b → (TX5 a).2.1 ≠ (TX5 b).2.1 := by decide +kernel
theorem tyX5_ok : ∀ k, k < 7 → parseFieldDescriptor (TX5 k).2.2.1 = some (tyX5 k) := by decide +kernel
abbrev cX5_init : ByteArray := prog_7_method_1_code
def yX5_init : MethodName := ⟨RX5, "<init>", "(I)V"⟩
abbrev cX5_become : ByteArray := prog_7_method_2_code
def yX5_become : MethodName := ⟨RX5, "become", "(LHalfTickets$Window;)V"⟩
def RX6 : String := "HalfTickets"
def TX6 : u_T := fun k => match k with
  | 0 => ("HalfTickets", "now", "LHalfTickets$Ministry;", true)
  | 1 => ("HalfTickets", "trial", "LHalfTickets$Ministry;", true)
  | 2 => ("HalfTickets", "history", "LHalfTickets$History;", true)
  | 3 => ("HalfTickets", "slots", "[LHalfTickets$Ministry;", true)
  | 4 => ("HalfTickets", "isSaved", "[Z", true)
  | _ => ("HalfTickets", "pad", "LHalfTickets$Pad;", true)
def tyX6 : Nat → FieldType := fun k => match k with
  | 0 => .object "HalfTickets$Ministry"
  | 1 => .object "HalfTickets$Ministry"
  | 2 => .object "HalfTickets$History"
  | 3 => .array (.object "HalfTickets$Ministry")
  | 4 => .array .boolean
  | _ => .object "HalfTickets$Pad"
abbrev wsX60 : List Cond := u_ws RX6 TX6 6
theorem nmX6 : ∀ a, a < 6 → ∀ b, b < 6 → a ≠ b → (TX6 a).2.1 ≠ (TX6 b).2.1 := by decide +kernel
theorem tyX6_ok : ∀ k, k < 6 → parseFieldDescriptor (TX6 k).2.2.1 = some (tyX6 k) := by decide +kernel
abbrev cX6_init : ByteArray := prog_1_method_1_code
def yX6_init : MethodName := ⟨RX6, "<init>", "()V"⟩
abbrev cX6_set : ByteArray := prog_1_method_2_code
def yX6_set : MethodName := ⟨RX6, "set", "(II)I"⟩
abbrev cX6_window : ByteArray := prog_1_method_3_code
def yX6_window : MethodName := ⟨RX6, "window", "(IZ)I"⟩
abbrev cX6_clerks : ByteArray := prog_1_method_4_code
def yX6_clerks : MethodName := ⟨RX6, "clerks", "(II)I"⟩
abbrev cX6_bring : ByteArray := prog_1_method_5_code
def yX6_bring : MethodName := ⟨RX6, "bring", "(I)I"⟩
abbrev cX6_read : ByteArray := prog_1_method_6_code
def yX6_read : MethodName := ⟨RX6, "read", "()I"⟩
abbrev cX6_leave : ByteArray := prog_1_method_7_code
def yX6_leave : MethodName := ⟨RX6, "leave", "(I)I"⟩
abbrev cX6_pass : ByteArray := prog_1_method_8_code
def yX6_pass : MethodName := ⟨RX6, "pass", "(I)I"⟩
abbrev cX6_person : ByteArray := prog_1_method_9_code
def yX6_person : MethodName := ⟨RX6, "person", "(II)I"⟩
abbrev cX6_windowOf : ByteArray := prog_1_method_10_code
def yX6_windowOf : MethodName := ⟨RX6, "windowOf", "(II)I"⟩
abbrev cX6_count : ByteArray := prog_1_method_11_code
def yX6_count : MethodName := ⟨RX6, "count", "(I)I"⟩
abbrev cX6_untilDone : ByteArray := prog_1_method_12_code
def yX6_untilDone : MethodName := ⟨RX6, "untilDone", "(I)I"⟩
abbrev cX6_ifPassed : ByteArray := prog_1_method_13_code
def yX6_ifPassed : MethodName := ⟨RX6, "ifPassed", "(II)I"⟩
abbrev cX6_bestClerk : ByteArray := prog_1_method_14_code
def yX6_bestClerk : MethodName := ⟨RX6, "bestClerk", "()I"⟩
abbrev cX6_doneWithOneMoreAt : ByteArray := prog_1_method_15_code
def yX6_doneWithOneMoreAt : MethodName := ⟨RX6, "doneWithOneMoreAt", "(I)I"⟩
abbrev cX6_longest : ByteArray := prog_1_method_16_code
def yX6_longest : MethodName := ⟨RX6, "longest", "()I"⟩
abbrev cX6_put : ByteArray := prog_1_method_17_code
def yX6_put : MethodName := ⟨RX6, "put", "(J)I"⟩
abbrev cX6_wipe : ByteArray := prog_1_method_18_code
def yX6_wipe : MethodName := ⟨RX6, "wipe", "()I"⟩
abbrev cX6_save : ByteArray := prog_1_method_21_code
def yX6_save : MethodName := ⟨RX6, "save", "(I)I"⟩
abbrev cX6_restore : ByteArray := prog_1_method_22_code
def yX6_restore : MethodName := ⟨RX6, "restore", "(I)I"⟩
def RX7 : String := "HalfTicketsModel"
def TX7 : u_T := fun k => match k with
  | _ => ("", "", "", false)
def tyX7 : Nat → FieldType := fun k => match k with
  | _ => .int
abbrev wsX70 : List Cond := u_ws RX7 TX7 0
theorem nmX7 : ∀ a, a < 0 → ∀ b, b < 0 → a ≠ b → (TX7 a).2.1 ≠ (TX7 b).2.1 := by decide +kernel
theorem tyX7_ok : ∀ k, k < 0 → parseFieldDescriptor (TX7 k).2.2.1 = some (tyX7 k) := by decide +kernel
def RJx8e188 : String := "java/lang/Cloneable"
def TJx8e188 : u_T := fun k => match k with
  | _ => ("", "", "", false)
def tyJx8e188 : Nat → FieldType := fun k => match k with
  | _ => .int
abbrev wsJx8e1880 : List Cond := u_ws RJx8e188 TJx8e188 0
theorem nmJx8e188 : ∀ a, a < 0 → ∀ b, b < 0 → a ≠ b → (TJx8e188 a).2.1 ≠ (TJx8e188 b).2.1 := by decide +kernel
theorem tyJx8e188_ok : ∀ k, k < 0 → parseFieldDescriptor (TJx8e188 k).2.2.1 = some (tyJx8e188 k) := by decide +kernel
def RJ9 : String := "java/lang/Math"
def TJ9 : u_T := fun k => match k with
  | _ => ("", "", "", false)
def tyJ9 : Nat → FieldType := fun k => match k with
  | _ => .int
abbrev wsJ90 : List Cond := u_ws RJ9 TJ9 0
theorem nmJ9 : ∀ a, a < 0 → ∀ b, b < 0 → a ≠ b → (TJ9 a).2.1 ≠ (TJ9 b).2.1 := by decide +kernel
theorem tyJ9_ok : ∀ k, k < 0 → parseFieldDescriptor (TJ9 k).2.2.1 = some (tyJ9 k) := by decide +kernel
abbrev cJ9_max_7cf53 : ByteArray := prog_11_method_65_code
def yJ9_max_7cf53 : MethodName := ⟨RJ9, "max", "(II)I"⟩
abbrev cJ9_min_7cf53 : ByteArray := prog_11_method_69_code
def yJ9_min_7cf53 : MethodName := ⟨RJ9, "min", "(II)I"⟩
def RJ10 : String := "java/lang/System"
def TJ10 : u_T := fun k => match k with
  | _ => ("", "", "", false)
def tyJ10 : Nat → FieldType := fun k => match k with
  | _ => .int
abbrev wsJ100 : List Cond := u_ws RJ10 TJ10 0
theorem nmJ10 : ∀ a, a < 0 → ∀ b, b < 0 → a ≠ b → (TJ10 a).2.1 ≠ (TJ10 b).2.1 := by decide +kernel
theorem tyJ10_ok : ∀ k, k < 0 → parseFieldDescriptor (TJ10 k).2.2.1 = some (tyJ10 k) := by decide +kernel
def RL : String := "HalfTicketsLaw"
abbrev cL_cell : ByteArray := method_2_code
def yL_cell : MethodName := ⟨RL, "cell", "([II)I"⟩
abbrev cL_up : ByteArray := method_3_code
def yL_up : MethodName := ⟨RL, "up", "(II)I"⟩
abbrev cL_isRead : ByteArray := method_4_code
def yL_isRead : MethodName := ⟨RL, "isRead", "(LHalfTickets;LHalfTickets;II)Z"⟩
abbrev cL_isStep : ByteArray := method_5_code
def yL_isStep : MethodName := ⟨RL, "isStep", "(LHalfTickets;LHalfTickets;II)Z"⟩
abbrev cL_areAlike : ByteArray := method_6_code
def yL_areAlike : MethodName := ⟨RL, "areAlike", "(LHalfTickets;LHalfTickets;I)Z"⟩
abbrev cL_isWell : ByteArray := method_7_code
def yL_isWell : MethodName := ⟨RL, "isWell", "(LHalfTickets;)Z"⟩
abbrev cL_law : ByteArray := code
def yL_law : MethodName := ⟨RL, "law", "([I)Z"⟩
def wsX1_init : List Cond := .code yX1_init cX1_init 1 none :: ([.methodLink RX1 3 objectInit, .instanceMethod objectInit, .code objectInit ⟨#[0xb1]⟩ 1 none, .arrayClass .int, .fieldLink RX1 9 "HalfTickets$Line" "numbers" "[I"] ++ wsX10)
def wsX5_init : List Cond := .code yX5_init cX5_init 2 none :: ([.methodLink RX5 1 objectInit, .instanceMethod objectInit, .code objectInit ⟨#[0xb1]⟩ 1 none, .fieldLink RX5 7 "HalfTickets$Window" "isOpen" "Z", .fieldLink RX5 13 "HalfTickets$Window" "clerks" "I", .classLink RX5 17 RX1, .instantiable RX1 2, .initialized RX1, .fieldLink RX5 20 "HalfTickets$Window" "queue" "LHalfTickets$Line;", .fieldLink RX5 24 "HalfTickets$Window" "serving" "LHalfTickets$Line;", .fieldLink RX5 27 "HalfTickets$Window" "halves" "I", .instanceMethod yX1_init, .code yX1_init cX1_init 1 none, .methodLink RX1 3 objectInit, .arrayClass .int, .fieldLink RX1 9 "HalfTickets$Line" "numbers" "[I"] ++ wsX50 ++ wsX10)
def wsX4_init : List Cond := .code yX4_init cX4_init 2 none :: ([.methodLink RX4 3 objectInit, .instanceMethod objectInit, .code objectInit ⟨#[0xb1]⟩ 1 none, .arrayClass .int, .fieldLink RX4 9 "HalfTickets$Person" "errand" "[I", .fieldLink RX4 15 "HalfTickets$Person" "where" "I", .fieldLink RX4 19 "HalfTickets$Person" "goneBehind" "I", .fieldLink RX4 22 "HalfTickets$Person" "number" "I"] ++ wsX40)
def wsX2_init_r1 : List Cond := [Cond.methodLink RX2 3 objectInit, Cond.instanceMethod objectInit, Cond.code objectInit ⟨#[0xb1]⟩ 1 none, Cond.methodLink RX2 13 ⟨"[I", "clone", "()Ljava/lang/Object;"⟩, Cond.sameMethod "[I" "java/lang/Object" "clone" "()Ljava/lang/Object;", Cond.native ⟨"java/lang/Object", "clone", "()Ljava/lang/Object;"⟩, Cond.instanceMethod ⟨"java/lang/Object", "clone", "()Ljava/lang/Object;"⟩, Cond.selects "[I" ⟨"[I", "clone", "()Ljava/lang/Object;"⟩ ⟨"java/lang/Object", "clone", "()Ljava/lang/Object;"⟩, Cond.classLink RX2 14 "[I", Cond.fieldLink RX2 18 "HalfTickets$Ministry" "settings" "[I", Cond.classLink RX2 23 RX5, Cond.fieldLink RX2 25 "HalfTickets$Ministry" "windows" "[LHalfTickets$Window;", Cond.classLink RX2 29 RX4, Cond.fieldLink RX2 31 "HalfTickets$Ministry" "persons" "[LHalfTickets$Person;", Cond.instantiable RX5 7, Cond.initialized RX5, Cond.instantiable RX4 12, Cond.initialized RX4, Cond.methodLink RX2 35 yX5_init, Cond.instanceMethod yX5_init, Cond.code yX5_init cX5_init 2 none, Cond.methodLink RX5 1 objectInit, Cond.fieldLink RX5 7 "HalfTickets$Window" "isOpen" "Z", Cond.fieldLink RX5 13 "HalfTickets$Window" "clerks" "I"]
def wsX2_init_r2 : List Cond := [Cond.classLink RX5 17 RX1, Cond.instantiable RX1 2, Cond.initialized RX1, Cond.fieldLink RX5 20 "HalfTickets$Window" "queue" "LHalfTickets$Line;", Cond.fieldLink RX5 24 "HalfTickets$Window" "serving" "LHalfTickets$Line;", Cond.fieldLink RX5 27 "HalfTickets$Window" "halves" "I", Cond.instanceMethod yX1_init, Cond.code yX1_init cX1_init 1 none, Cond.methodLink RX1 3 objectInit, Cond.arrayClass .int, Cond.fieldLink RX1 9 "HalfTickets$Line" "numbers" "[I", Cond.methodLink RX2 38 yX4_init, Cond.instanceMethod yX4_init, Cond.code yX4_init cX4_init 2 none, Cond.methodLink RX4 3 objectInit, Cond.fieldLink RX4 9 "HalfTickets$Person" "errand" "[I", Cond.fieldLink RX4 15 "HalfTickets$Person" "where" "I", Cond.fieldLink RX4 19 "HalfTickets$Person" "goneBehind" "I", Cond.fieldLink RX4 22 "HalfTickets$Person" "number" "I"]
def wsX2_init : List Cond := .code yX2_init cX2_init 2 none :: ((wsX2_init_r1 ++ wsX2_init_r2) ++ wsX20 ++ wsX50 ++ wsX40 ++ wsX10)
def wsX0_init_r1 : List Cond := [Cond.methodLink RX0 3 objectInit, Cond.instanceMethod objectInit, Cond.code objectInit ⟨#[0xb1]⟩ 1 none, Cond.classLink RX0 9 RX2, Cond.fieldLink RX0 11 "HalfTickets$History" "states" "[LHalfTickets$Ministry;", Cond.instantiable RX2 7, Cond.initialized RX2, Cond.methodLink RX0 17 yX2_init, Cond.instanceMethod yX2_init, Cond.code yX2_init cX2_init 2 none, Cond.methodLink RX2 3 objectInit, Cond.methodLink RX2 13 ⟨"[I", "clone", "()Ljava/lang/Object;"⟩, Cond.sameMethod "[I" "java/lang/Object" "clone" "()Ljava/lang/Object;", Cond.native ⟨"java/lang/Object", "clone", "()Ljava/lang/Object;"⟩, Cond.instanceMethod ⟨"java/lang/Object", "clone", "()Ljava/lang/Object;"⟩, Cond.selects "[I" ⟨"[I", "clone", "()Ljava/lang/Object;"⟩ ⟨"java/lang/Object", "clone", "()Ljava/lang/Object;"⟩, Cond.classLink RX2 14 "[I", Cond.fieldLink RX2 18 "HalfTickets$Ministry" "settings" "[I", Cond.classLink RX2 23 RX5, Cond.fieldLink RX2 25 "HalfTickets$Ministry" "windows" "[LHalfTickets$Window;", Cond.classLink RX2 29 RX4, Cond.fieldLink RX2 31 "HalfTickets$Ministry" "persons" "[LHalfTickets$Person;", Cond.instantiable RX5 7, Cond.initialized RX5]
def wsX0_init_r2 : List Cond := [Cond.instantiable RX4 12, Cond.initialized RX4, Cond.methodLink RX2 35 yX5_init, Cond.instanceMethod yX5_init, Cond.code yX5_init cX5_init 2 none, Cond.methodLink RX5 1 objectInit, Cond.fieldLink RX5 7 "HalfTickets$Window" "isOpen" "Z", Cond.fieldLink RX5 13 "HalfTickets$Window" "clerks" "I", Cond.classLink RX5 17 RX1, Cond.instantiable RX1 2, Cond.initialized RX1, Cond.fieldLink RX5 20 "HalfTickets$Window" "queue" "LHalfTickets$Line;", Cond.fieldLink RX5 24 "HalfTickets$Window" "serving" "LHalfTickets$Line;", Cond.fieldLink RX5 27 "HalfTickets$Window" "halves" "I", Cond.instanceMethod yX1_init, Cond.code yX1_init cX1_init 1 none, Cond.methodLink RX1 3 objectInit, Cond.arrayClass .int, Cond.fieldLink RX1 9 "HalfTickets$Line" "numbers" "[I", Cond.methodLink RX2 38 yX4_init, Cond.instanceMethod yX4_init, Cond.code yX4_init cX4_init 2 none, Cond.methodLink RX4 3 objectInit, Cond.fieldLink RX4 9 "HalfTickets$Person" "errand" "[I"]
def wsX0_init_r3 : List Cond := [Cond.fieldLink RX4 15 "HalfTickets$Person" "where" "I", Cond.fieldLink RX4 19 "HalfTickets$Person" "goneBehind" "I", Cond.fieldLink RX4 22 "HalfTickets$Person" "number" "I"]
def wsX0_init : List Cond := .code yX0_init cX0_init 2 none :: ((wsX0_init_r1 ++ (wsX0_init_r2 ++ wsX0_init_r3)) ++ wsX00 ++ wsX20 ++ wsX50 ++ wsX40 ++ wsX10)
def wsX0_kept : List Cond := .code yX0_kept cX0_kept 1 (some .int) :: ([.fieldLink RX0 18 "HalfTickets$History" "kept" "I"] ++ wsX00)
def wsX1_become : List Cond := .code yX1_become cX1_become 2 none :: ([.fieldLink RX1 9 "HalfTickets$Line" "numbers" "[I", .methodLink RX1 23 arraycopyName, .native arraycopyName, .static arraycopyName, .initialized "java/lang/System", .fieldLink RX1 15 "HalfTickets$Line" "length" "I"] ++ wsX10)
def wsX5_become : List Cond := .code yX5_become cX5_become 2 none :: ([.fieldLink RX5 7 "HalfTickets$Window" "isOpen" "Z", .fieldLink RX5 13 "HalfTickets$Window" "clerks" "I", .fieldLink RX5 27 "HalfTickets$Window" "halves" "I", .fieldLink RX5 30 "HalfTickets$Window" "servings" "I", .fieldLink RX5 33 "HalfTickets$Window" "sentBack" "I", .fieldLink RX5 20 "HalfTickets$Window" "queue" "LHalfTickets$Line;", .fieldLink RX5 24 "HalfTickets$Window" "serving" "LHalfTickets$Line;", .methodLink RX5 36 yX1_become, .instanceMethod yX1_become, .selects RX1 yX1_become yX1_become, .initialized RX1, .code yX1_become cX1_become 2 none, .fieldLink RX1 9 "HalfTickets$Line" "numbers" "[I", .methodLink RX1 23 arraycopyName, .native arraycopyName, .static arraycopyName, .initialized "java/lang/System", .fieldLink RX1 15 "HalfTickets$Line" "length" "I"] ++ wsX50 ++ wsX10)
def wsX4_become : List Cond := .code yX4_become cX4_become 2 none :: ([.fieldLink RX4 9 "HalfTickets$Person" "errand" "[I", .methodLink RX4 25 arraycopyName, .native arraycopyName, .static arraycopyName, .initialized "java/lang/System", .fieldLink RX4 31 "HalfTickets$Person" "errandLength" "I", .fieldLink RX4 15 "HalfTickets$Person" "where" "I", .fieldLink RX4 34 "HalfTickets$Person" "through" "I", .fieldLink RX4 37 "HalfTickets$Person" "hasHalf" "Z", .fieldLink RX4 41 "HalfTickets$Person" "servedFor" "I", .fieldLink RX4 44 "HalfTickets$Person" "waits" "I", .fieldLink RX4 47 "HalfTickets$Person" "waitsHere" "I", .fieldLink RX4 50 "HalfTickets$Person" "sentBack" "I", .fieldLink RX4 19 "HalfTickets$Person" "goneBehind" "I", .fieldLink RX4 53 "HalfTickets$Person" "cameInThisTick" "Z"] ++ wsX40)
def wsX2_become_r1 : List Cond := [Cond.fieldLink RX2 18 "HalfTickets$Ministry" "settings" "[I", Cond.methodLink RX2 39 arraycopyName, Cond.native arraycopyName, Cond.static arraycopyName, Cond.initialized "java/lang/System", Cond.fieldLink RX2 25 "HalfTickets$Ministry" "windows" "[LHalfTickets$Window;", Cond.fieldLink RX2 31 "HalfTickets$Ministry" "persons" "[LHalfTickets$Person;", Cond.fieldLink RX2 52 "HalfTickets$Ministry" "people" "I", Cond.fieldLink RX2 56 "HalfTickets$Ministry" "ticks" "I", Cond.fieldLink RX2 59 "HalfTickets$Ministry" "lost" "I", Cond.fieldLink RX2 62 "HalfTickets$Ministry" "brought" "I", Cond.methodLink RX2 45 yX5_become, Cond.instanceMethod yX5_become, Cond.selects RX5 yX5_become yX5_become, Cond.initialized RX5, Cond.code yX5_become cX5_become 2 none, Cond.fieldLink RX5 7 "HalfTickets$Window" "isOpen" "Z", Cond.fieldLink RX5 13 "HalfTickets$Window" "clerks" "I", Cond.fieldLink RX5 27 "HalfTickets$Window" "halves" "I", Cond.fieldLink RX5 30 "HalfTickets$Window" "servings" "I", Cond.fieldLink RX5 33 "HalfTickets$Window" "sentBack" "I", Cond.fieldLink RX5 20 "HalfTickets$Window" "queue" "LHalfTickets$Line;", Cond.fieldLink RX5 24 "HalfTickets$Window" "serving" "LHalfTickets$Line;", Cond.methodLink RX5 36 yX1_become]
def wsX2_become_r2 : List Cond := [Cond.instanceMethod yX1_become, Cond.selects RX1 yX1_become yX1_become, Cond.initialized RX1, Cond.code yX1_become cX1_become 2 none, Cond.fieldLink RX1 9 "HalfTickets$Line" "numbers" "[I", Cond.methodLink RX1 23 arraycopyName, Cond.fieldLink RX1 15 "HalfTickets$Line" "length" "I", Cond.methodLink RX2 49 yX4_become, Cond.instanceMethod yX4_become, Cond.selects RX4 yX4_become yX4_become, Cond.initialized RX4, Cond.code yX4_become cX4_become 2 none, Cond.fieldLink RX4 9 "HalfTickets$Person" "errand" "[I", Cond.methodLink RX4 25 arraycopyName, Cond.fieldLink RX4 31 "HalfTickets$Person" "errandLength" "I", Cond.fieldLink RX4 15 "HalfTickets$Person" "where" "I", Cond.fieldLink RX4 34 "HalfTickets$Person" "through" "I", Cond.fieldLink RX4 37 "HalfTickets$Person" "hasHalf" "Z", Cond.fieldLink RX4 41 "HalfTickets$Person" "servedFor" "I", Cond.fieldLink RX4 44 "HalfTickets$Person" "waits" "I", Cond.fieldLink RX4 47 "HalfTickets$Person" "waitsHere" "I", Cond.fieldLink RX4 50 "HalfTickets$Person" "sentBack" "I", Cond.fieldLink RX4 19 "HalfTickets$Person" "goneBehind" "I", Cond.fieldLink RX4 53 "HalfTickets$Person" "cameInThisTick" "Z"]
def wsX2_become : List Cond := .code yX2_become cX2_become 3 none :: ((wsX2_become_r1 ++ wsX2_become_r2) ++ wsX20 ++ wsX50 ++ wsX10 ++ wsX40)
def wsX0_remember_r1 : List Cond := [Cond.fieldLink RX0 22 "HalfTickets$History" "next" "I", Cond.fieldLink RX0 11 "HalfTickets$History" "states" "[LHalfTickets$Ministry;", Cond.fieldLink RX0 18 "HalfTickets$History" "kept" "I", Cond.methodLink RX0 29 Lib.Math.min.name, Cond.static Lib.Math.min.name, Cond.initialized "java/lang/Math", Cond.code Lib.Math.min.name Lib.Math.min.code 2 (some .int), Cond.methodLink RX0 25 yX2_become, Cond.instanceMethod yX2_become, Cond.selects RX2 yX2_become yX2_become, Cond.initialized RX2, Cond.code yX2_become cX2_become 3 none, Cond.fieldLink RX2 18 "HalfTickets$Ministry" "settings" "[I", Cond.methodLink RX2 39 arraycopyName, Cond.native arraycopyName, Cond.static arraycopyName, Cond.initialized "java/lang/System", Cond.fieldLink RX2 25 "HalfTickets$Ministry" "windows" "[LHalfTickets$Window;", Cond.fieldLink RX2 31 "HalfTickets$Ministry" "persons" "[LHalfTickets$Person;", Cond.fieldLink RX2 52 "HalfTickets$Ministry" "people" "I", Cond.fieldLink RX2 56 "HalfTickets$Ministry" "ticks" "I", Cond.fieldLink RX2 59 "HalfTickets$Ministry" "lost" "I", Cond.fieldLink RX2 62 "HalfTickets$Ministry" "brought" "I", Cond.methodLink RX2 45 yX5_become]
def wsX0_remember_r2 : List Cond := [Cond.instanceMethod yX5_become, Cond.selects RX5 yX5_become yX5_become, Cond.initialized RX5, Cond.code yX5_become cX5_become 2 none, Cond.fieldLink RX5 7 "HalfTickets$Window" "isOpen" "Z", Cond.fieldLink RX5 13 "HalfTickets$Window" "clerks" "I", Cond.fieldLink RX5 27 "HalfTickets$Window" "halves" "I", Cond.fieldLink RX5 30 "HalfTickets$Window" "servings" "I", Cond.fieldLink RX5 33 "HalfTickets$Window" "sentBack" "I", Cond.fieldLink RX5 20 "HalfTickets$Window" "queue" "LHalfTickets$Line;", Cond.fieldLink RX5 24 "HalfTickets$Window" "serving" "LHalfTickets$Line;", Cond.methodLink RX5 36 yX1_become, Cond.instanceMethod yX1_become, Cond.selects RX1 yX1_become yX1_become, Cond.initialized RX1, Cond.code yX1_become cX1_become 2 none, Cond.fieldLink RX1 9 "HalfTickets$Line" "numbers" "[I", Cond.methodLink RX1 23 arraycopyName, Cond.fieldLink RX1 15 "HalfTickets$Line" "length" "I", Cond.methodLink RX2 49 yX4_become, Cond.instanceMethod yX4_become, Cond.selects RX4 yX4_become yX4_become, Cond.initialized RX4, Cond.code yX4_become cX4_become 2 none]
def wsX0_remember_r3 : List Cond := [Cond.fieldLink RX4 9 "HalfTickets$Person" "errand" "[I", Cond.methodLink RX4 25 arraycopyName, Cond.fieldLink RX4 31 "HalfTickets$Person" "errandLength" "I", Cond.fieldLink RX4 15 "HalfTickets$Person" "where" "I", Cond.fieldLink RX4 34 "HalfTickets$Person" "through" "I", Cond.fieldLink RX4 37 "HalfTickets$Person" "hasHalf" "Z", Cond.fieldLink RX4 41 "HalfTickets$Person" "servedFor" "I", Cond.fieldLink RX4 44 "HalfTickets$Person" "waits" "I", Cond.fieldLink RX4 47 "HalfTickets$Person" "waitsHere" "I", Cond.fieldLink RX4 50 "HalfTickets$Person" "sentBack" "I", Cond.fieldLink RX4 19 "HalfTickets$Person" "goneBehind" "I", Cond.fieldLink RX4 53 "HalfTickets$Person" "cameInThisTick" "Z"]
def wsX0_remember : List Cond := .code yX0_remember cX0_remember 2 none :: ((wsX0_remember_r1 ++ (wsX0_remember_r2 ++ wsX0_remember_r3)) ++ wsX00 ++ wsX20 ++ wsX50 ++ wsX10 ++ wsX40)
def wsX1_length : List Cond := .code yX1_length cX1_length 1 (some .int) :: ([.fieldLink RX1 15 "HalfTickets$Line" "length" "I"] ++ wsX10)
def wsX1_numberAt : List Cond := .code yX1_numberAt cX1_numberAt 2 (some .int) :: ([.fieldLink RX1 15 "HalfTickets$Line" "length" "I", .fieldLink RX1 9 "HalfTickets$Line" "numbers" "[I"] ++ wsX10)
def wsX1_placeOf : List Cond := .code yX1_placeOf cX1_placeOf 3 (some .int) :: ([.fieldLink RX1 15 "HalfTickets$Line" "length" "I", .fieldLink RX1 9 "HalfTickets$Line" "numbers" "[I"] ++ wsX10)
def wsX1_append : List Cond := .code yX1_append cX1_append 2 none :: ([.fieldLink RX1 15 "HalfTickets$Line" "length" "I", .fieldLink RX1 9 "HalfTickets$Line" "numbers" "[I"] ++ wsX10)
def wsX1_remove : List Cond := .code yX1_remove cX1_remove 4 none :: ([.fieldLink RX1 15 "HalfTickets$Line" "length" "I", .fieldLink RX1 9 "HalfTickets$Line" "numbers" "[I", .methodLink RX1 19 yX1_placeOf, .instanceMethod yX1_placeOf, .selects RX1 yX1_placeOf yX1_placeOf, .initialized RX1, .code yX1_placeOf cX1_placeOf 3 (some .int)] ++ wsX10)
def wsX2_windowAt : List Cond := .code yX2_windowAt cX2_windowAt 2 (some (.object "HalfTickets$Window")) :: ([.fieldLink RX2 25 "HalfTickets$Ministry" "windows" "[LHalfTickets$Window;"] ++ wsX20)
def wsX2_personAt : List Cond := .code yX2_personAt cX2_personAt 2 (some (.object "HalfTickets$Person")) :: ([.fieldLink RX2 52 "HalfTickets$Ministry" "people" "I", .fieldLink RX2 31 "HalfTickets$Ministry" "persons" "[LHalfTickets$Person;"] ++ wsX20)
def wsX2_openWindows : List Cond := .code yX2_openWindows cX2_openWindows 6 (some .int) :: ([.fieldLink RX2 25 "HalfTickets$Ministry" "windows" "[LHalfTickets$Window;", .fieldLink RX2 65 "HalfTickets$Window" "isOpen" "Z"] ++ wsX20 ++ wsX50)
def wsX2_peopleWho : List Cond := .code yX2_peopleWho cX2_peopleWho 7 (some .int) :: ([.fieldLink RX2 31 "HalfTickets$Ministry" "persons" "[LHalfTickets$Person;", .fieldLink RX2 69 "HalfTickets$Person" "where" "I"] ++ wsX20 ++ wsX40)
def wsX2_halvesOfWindows : List Cond := .code yX2_halvesOfWindows cX2_halvesOfWindows 6 (some .int) :: ([.fieldLink RX2 25 "HalfTickets$Ministry" "windows" "[LHalfTickets$Window;", .fieldLink RX2 72 "HalfTickets$Window" "halves" "I"] ++ wsX20 ++ wsX50)
def wsX2_halvesOfPeople : List Cond := .code yX2_halvesOfPeople cX2_halvesOfPeople 6 (some .int) :: ([.fieldLink RX2 31 "HalfTickets$Ministry" "persons" "[LHalfTickets$Person;", .fieldLink RX2 75 "HalfTickets$Person" "hasHalf" "Z"] ++ wsX20 ++ wsX40)
def wsX2_waits : List Cond := .code yX2_waits cX2_waits 6 (some .int) :: ([.fieldLink RX2 31 "HalfTickets$Ministry" "persons" "[LHalfTickets$Person;", .fieldLink RX2 78 "HalfTickets$Person" "waits" "I"] ++ wsX20 ++ wsX40)
def wsX2_timesSentBack : List Cond := .code yX2_timesSentBack cX2_timesSentBack 6 (some .int) :: ([.fieldLink RX2 31 "HalfTickets$Ministry" "persons" "[LHalfTickets$Person;", .fieldLink RX2 81 "HalfTickets$Person" "sentBack" "I"] ++ wsX20 ++ wsX40)
def wsX4_standsAt : List Cond := .code yX4_standsAt cX4_standsAt 2 (some .int) :: ([.fieldLink RX4 15 "HalfTickets$Person" "where" "I", .fieldLink RX4 34 "HalfTickets$Person" "through" "I", .fieldLink RX4 31 "HalfTickets$Person" "errandLength" "I", .fieldLink RX4 9 "HalfTickets$Person" "errand" "[I"] ++ wsX40)
def wsX2_placeInQueue : List Cond := .code yX2_placeInQueue cX2_placeInQueue 3 (some .int) :: ([.fieldLink RX2 92 "HalfTickets$Window" "queue" "LHalfTickets$Line;", .fieldLink RX2 96 "HalfTickets$Person" "number" "I", .methodLink RX2 84 yX4_standsAt, .instanceMethod yX4_standsAt, .selects RX4 yX4_standsAt yX4_standsAt, .initialized RX4, .code yX4_standsAt cX4_standsAt 2 (some .int), .fieldLink RX4 15 "HalfTickets$Person" "where" "I", .fieldLink RX4 34 "HalfTickets$Person" "through" "I", .fieldLink RX4 31 "HalfTickets$Person" "errandLength" "I", .fieldLink RX4 9 "HalfTickets$Person" "errand" "[I", .methodLink RX2 88 yX2_windowAt, .instanceMethod yX2_windowAt, .selects RX2 yX2_windowAt yX2_windowAt, .initialized RX2, .code yX2_windowAt cX2_windowAt 2 (some (.object "HalfTickets$Window")), .fieldLink RX2 25 "HalfTickets$Ministry" "windows" "[LHalfTickets$Window;", .methodLink RX2 99 yX1_placeOf, .instanceMethod yX1_placeOf, .selects RX1 yX1_placeOf yX1_placeOf, .initialized RX1, .code yX1_placeOf cX1_placeOf 3 (some .int), .fieldLink RX1 15 "HalfTickets$Line" "length" "I", .fieldLink RX1 9 "HalfTickets$Line" "numbers" "[I"] ++ wsX50 ++ wsX40 ++ wsX20 ++ wsX10)
def wsX3_errands : List Cond := .code yX3_errands cX3_errands 3 (some .int) :: ([.fieldLink RX3 21 "HalfTickets$Pad" "length" "I", .fieldLink RX3 9 "HalfTickets$Pad" "text" "[C"] ++ wsX30)
def wsX3_endOfErrand : List Cond := .code yX3_endOfErrand cX3_endOfErrand 3 (some .int) :: ([.methodLink RX3 33 Lib.Math.max.name, .static Lib.Math.max.name, .initialized "java/lang/Math", .code Lib.Math.max.name Lib.Math.max.code 2 (some .int), .fieldLink RX3 21 "HalfTickets$Pad" "length" "I", .fieldLink RX3 9 "HalfTickets$Pad" "text" "[C"] ++ wsX30)
def wsX3_isWindow : List Cond := .code yX3_isWindow cX3_isWindow 1 (some .boolean) :: ([])
def wsX3_windowAt : List Cond := .code yX3_windowAt cX3_windowAt 2 (some .int) :: ([.fieldLink RX3 21 "HalfTickets$Pad" "length" "I", .fieldLink RX3 9 "HalfTickets$Pad" "text" "[C", .methodLink RX3 25 yX3_isWindow, .static yX3_isWindow, .initialized RX3, .code yX3_isWindow cX3_isWindow 1 (some .boolean)] ++ wsX30)
def wsX4_addToErrand : List Cond := .code yX4_addToErrand cX4_addToErrand 2 none :: ([.fieldLink RX4 31 "HalfTickets$Person" "errandLength" "I", .fieldLink RX4 9 "HalfTickets$Person" "errand" "[I"] ++ wsX40)
def wsX2_joinQueue_r1 : List Cond := [Cond.fieldLink RX2 69 "HalfTickets$Person" "where" "I", Cond.fieldLink RX2 125 "HalfTickets$Person" "waitsHere" "I", Cond.fieldLink RX2 92 "HalfTickets$Window" "queue" "LHalfTickets$Line;", Cond.fieldLink RX2 96 "HalfTickets$Person" "number" "I", Cond.methodLink RX2 84 yX4_standsAt, Cond.instanceMethod yX4_standsAt, Cond.selects RX4 yX4_standsAt yX4_standsAt, Cond.initialized RX4, Cond.code yX4_standsAt cX4_standsAt 2 (some .int), Cond.fieldLink RX4 15 "HalfTickets$Person" "where" "I", Cond.fieldLink RX4 34 "HalfTickets$Person" "through" "I", Cond.fieldLink RX4 31 "HalfTickets$Person" "errandLength" "I", Cond.fieldLink RX4 9 "HalfTickets$Person" "errand" "[I", Cond.methodLink RX2 88 yX2_windowAt, Cond.instanceMethod yX2_windowAt, Cond.selects RX2 yX2_windowAt yX2_windowAt, Cond.initialized RX2, Cond.code yX2_windowAt cX2_windowAt 2 (some (.object "HalfTickets$Window")), Cond.fieldLink RX2 25 "HalfTickets$Ministry" "windows" "[LHalfTickets$Window;", Cond.methodLink RX2 128 yX1_append, Cond.instanceMethod yX1_append, Cond.selects RX1 yX1_append yX1_append, Cond.initialized RX1, Cond.code yX1_append cX1_append 2 none]
def wsX2_joinQueue_r2 : List Cond := [Cond.fieldLink RX1 15 "HalfTickets$Line" "length" "I", Cond.fieldLink RX1 9 "HalfTickets$Line" "numbers" "[I"]
def wsX2_joinQueue : List Cond := .code yX2_joinQueue cX2_joinQueue 3 none :: ((wsX2_joinQueue_r1 ++ wsX2_joinQueue_r2) ++ wsX40 ++ wsX50 ++ wsX20 ++ wsX10)
def wsX2_admit_r1 : List Cond := [Cond.fieldLink RX2 52 "HalfTickets$Ministry" "people" "I", Cond.fieldLink RX2 31 "HalfTickets$Ministry" "persons" "[LHalfTickets$Person;", Cond.methodLink RX2 117 yX3_windowAt, Cond.instanceMethod yX3_windowAt, Cond.selects RX3 yX3_windowAt yX3_windowAt, Cond.initialized RX3, Cond.code yX3_windowAt cX3_windowAt 2 (some .int), Cond.fieldLink RX3 21 "HalfTickets$Pad" "length" "I", Cond.fieldLink RX3 9 "HalfTickets$Pad" "text" "[C", Cond.methodLink RX3 25 yX3_isWindow, Cond.static yX3_isWindow, Cond.code yX3_isWindow cX3_isWindow 1 (some .boolean), Cond.methodLink RX2 119 yX4_addToErrand, Cond.instanceMethod yX4_addToErrand, Cond.selects RX4 yX4_addToErrand yX4_addToErrand, Cond.initialized RX4, Cond.code yX4_addToErrand cX4_addToErrand 2 none, Cond.fieldLink RX4 31 "HalfTickets$Person" "errandLength" "I", Cond.fieldLink RX4 9 "HalfTickets$Person" "errand" "[I", Cond.methodLink RX2 122 yX2_joinQueue, Cond.instanceMethod yX2_joinQueue, Cond.selects RX2 yX2_joinQueue yX2_joinQueue, Cond.initialized RX2, Cond.code yX2_joinQueue cX2_joinQueue 3 none]
def wsX2_admit_r2 : List Cond := [Cond.fieldLink RX2 69 "HalfTickets$Person" "where" "I", Cond.fieldLink RX2 125 "HalfTickets$Person" "waitsHere" "I", Cond.fieldLink RX2 92 "HalfTickets$Window" "queue" "LHalfTickets$Line;", Cond.fieldLink RX2 96 "HalfTickets$Person" "number" "I", Cond.methodLink RX2 84 yX4_standsAt, Cond.instanceMethod yX4_standsAt, Cond.selects RX4 yX4_standsAt yX4_standsAt, Cond.code yX4_standsAt cX4_standsAt 2 (some .int), Cond.fieldLink RX4 15 "HalfTickets$Person" "where" "I", Cond.fieldLink RX4 34 "HalfTickets$Person" "through" "I", Cond.methodLink RX2 88 yX2_windowAt, Cond.instanceMethod yX2_windowAt, Cond.selects RX2 yX2_windowAt yX2_windowAt, Cond.code yX2_windowAt cX2_windowAt 2 (some (.object "HalfTickets$Window")), Cond.fieldLink RX2 25 "HalfTickets$Ministry" "windows" "[LHalfTickets$Window;", Cond.methodLink RX2 128 yX1_append, Cond.instanceMethod yX1_append, Cond.selects RX1 yX1_append yX1_append, Cond.initialized RX1, Cond.code yX1_append cX1_append 2 none, Cond.fieldLink RX1 15 "HalfTickets$Line" "length" "I", Cond.fieldLink RX1 9 "HalfTickets$Line" "numbers" "[I"]
def wsX2_admit : List Cond := .code yX2_admit cX2_admit 6 none :: ((wsX2_admit_r1 ++ wsX2_admit_r2) ++ wsX20 ++ wsX30 ++ wsX40 ++ wsX50 ++ wsX10)
def wsX2_admitAll_r1 : List Cond := [Cond.methodLink RX2 105 yX3_errands, Cond.instanceMethod yX3_errands, Cond.selects RX3 yX3_errands yX3_errands, Cond.initialized RX3, Cond.code yX3_errands cX3_errands 3 (some .int), Cond.fieldLink RX3 21 "HalfTickets$Pad" "length" "I", Cond.fieldLink RX3 9 "HalfTickets$Pad" "text" "[C", Cond.methodLink RX2 110 yX3_endOfErrand, Cond.instanceMethod yX3_endOfErrand, Cond.selects RX3 yX3_endOfErrand yX3_endOfErrand, Cond.code yX3_endOfErrand cX3_endOfErrand 3 (some .int), Cond.methodLink RX3 33 Lib.Math.max.name, Cond.static Lib.Math.max.name, Cond.initialized "java/lang/Math", Cond.code Lib.Math.max.name Lib.Math.max.code 2 (some .int), Cond.methodLink RX2 113 yX2_admit, Cond.instanceMethod yX2_admit, Cond.selects RX2 yX2_admit yX2_admit, Cond.initialized RX2, Cond.code yX2_admit cX2_admit 6 none, Cond.fieldLink RX2 52 "HalfTickets$Ministry" "people" "I", Cond.fieldLink RX2 31 "HalfTickets$Ministry" "persons" "[LHalfTickets$Person;", Cond.methodLink RX2 117 yX3_windowAt, Cond.instanceMethod yX3_windowAt]
def wsX2_admitAll_r2 : List Cond := [Cond.selects RX3 yX3_windowAt yX3_windowAt, Cond.code yX3_windowAt cX3_windowAt 2 (some .int), Cond.methodLink RX3 25 yX3_isWindow, Cond.static yX3_isWindow, Cond.code yX3_isWindow cX3_isWindow 1 (some .boolean), Cond.methodLink RX2 119 yX4_addToErrand, Cond.instanceMethod yX4_addToErrand, Cond.selects RX4 yX4_addToErrand yX4_addToErrand, Cond.initialized RX4, Cond.code yX4_addToErrand cX4_addToErrand 2 none, Cond.fieldLink RX4 31 "HalfTickets$Person" "errandLength" "I", Cond.fieldLink RX4 9 "HalfTickets$Person" "errand" "[I", Cond.methodLink RX2 122 yX2_joinQueue, Cond.instanceMethod yX2_joinQueue, Cond.selects RX2 yX2_joinQueue yX2_joinQueue, Cond.code yX2_joinQueue cX2_joinQueue 3 none, Cond.fieldLink RX2 69 "HalfTickets$Person" "where" "I", Cond.fieldLink RX2 125 "HalfTickets$Person" "waitsHere" "I", Cond.fieldLink RX2 92 "HalfTickets$Window" "queue" "LHalfTickets$Line;", Cond.fieldLink RX2 96 "HalfTickets$Person" "number" "I", Cond.methodLink RX2 84 yX4_standsAt, Cond.instanceMethod yX4_standsAt, Cond.selects RX4 yX4_standsAt yX4_standsAt, Cond.code yX4_standsAt cX4_standsAt 2 (some .int)]
def wsX2_admitAll_r3 : List Cond := [Cond.fieldLink RX4 15 "HalfTickets$Person" "where" "I", Cond.fieldLink RX4 34 "HalfTickets$Person" "through" "I", Cond.methodLink RX2 88 yX2_windowAt, Cond.instanceMethod yX2_windowAt, Cond.selects RX2 yX2_windowAt yX2_windowAt, Cond.code yX2_windowAt cX2_windowAt 2 (some (.object "HalfTickets$Window")), Cond.fieldLink RX2 25 "HalfTickets$Ministry" "windows" "[LHalfTickets$Window;", Cond.methodLink RX2 128 yX1_append, Cond.instanceMethod yX1_append, Cond.selects RX1 yX1_append yX1_append, Cond.initialized RX1, Cond.code yX1_append cX1_append 2 none, Cond.fieldLink RX1 15 "HalfTickets$Line" "length" "I", Cond.fieldLink RX1 9 "HalfTickets$Line" "numbers" "[I"]
def wsX2_admitAll : List Cond := .code yX2_admitAll cX2_admitAll 6 none :: ((wsX2_admitAll_r1 ++ (wsX2_admitAll_r2 ++ wsX2_admitAll_r3)) ++ wsX30 ++ wsX20 ++ wsX40 ++ wsX50 ++ wsX10)
def wsX4_goAs : List Cond := .code yX4_goAs cX4_goAs 3 none :: ([.fieldLink RX4 15 "HalfTickets$Person" "where" "I", .fieldLink RX4 37 "HalfTickets$Person" "hasHalf" "Z", .fieldLink RX4 19 "HalfTickets$Person" "goneBehind" "I"] ++ wsX40)
def wsX2_sendAway_r1 : List Cond := [Cond.fieldLink RX2 92 "HalfTickets$Window" "queue" "LHalfTickets$Line;", Cond.fieldLink RX2 96 "HalfTickets$Person" "number" "I", Cond.fieldLink RX2 59 "HalfTickets$Ministry" "lost" "I", Cond.fieldLink RX2 75 "HalfTickets$Person" "hasHalf" "Z", Cond.methodLink RX2 84 yX4_standsAt, Cond.instanceMethod yX4_standsAt, Cond.selects RX4 yX4_standsAt yX4_standsAt, Cond.initialized RX4, Cond.code yX4_standsAt cX4_standsAt 2 (some .int), Cond.fieldLink RX4 15 "HalfTickets$Person" "where" "I", Cond.fieldLink RX4 34 "HalfTickets$Person" "through" "I", Cond.fieldLink RX4 31 "HalfTickets$Person" "errandLength" "I", Cond.fieldLink RX4 9 "HalfTickets$Person" "errand" "[I", Cond.methodLink RX2 88 yX2_windowAt, Cond.instanceMethod yX2_windowAt, Cond.selects RX2 yX2_windowAt yX2_windowAt, Cond.initialized RX2, Cond.code yX2_windowAt cX2_windowAt 2 (some (.object "HalfTickets$Window")), Cond.fieldLink RX2 25 "HalfTickets$Ministry" "windows" "[LHalfTickets$Window;", Cond.methodLink RX2 131 yX1_remove, Cond.instanceMethod yX1_remove, Cond.selects RX1 yX1_remove yX1_remove, Cond.initialized RX1, Cond.code yX1_remove cX1_remove 4 none]
def wsX2_sendAway_r2 : List Cond := [Cond.fieldLink RX1 15 "HalfTickets$Line" "length" "I", Cond.fieldLink RX1 9 "HalfTickets$Line" "numbers" "[I", Cond.methodLink RX1 19 yX1_placeOf, Cond.instanceMethod yX1_placeOf, Cond.selects RX1 yX1_placeOf yX1_placeOf, Cond.code yX1_placeOf cX1_placeOf 3 (some .int), Cond.methodLink RX2 134 yX4_goAs, Cond.instanceMethod yX4_goAs, Cond.selects RX4 yX4_goAs yX4_goAs, Cond.code yX4_goAs cX4_goAs 3 none, Cond.fieldLink RX4 37 "HalfTickets$Person" "hasHalf" "Z", Cond.fieldLink RX4 19 "HalfTickets$Person" "goneBehind" "I"]
def wsX2_sendAway : List Cond := .code yX2_sendAway cX2_sendAway 4 none :: ((wsX2_sendAway_r1 ++ wsX2_sendAway_r2) ++ wsX50 ++ wsX40 ++ wsX20 ++ wsX10)
def wsX2_finishAt_r1 : List Cond := [Cond.fieldLink RX2 170 "HalfTickets$Window" "servings" "I", Cond.fieldLink RX2 173 "HalfTickets$Person" "through" "I", Cond.fieldLink RX2 176 "HalfTickets$Person" "errandLength" "I", Cond.fieldLink RX2 72 "HalfTickets$Window" "halves" "I", Cond.fieldLink RX2 75 "HalfTickets$Person" "hasHalf" "Z", Cond.fieldLink RX2 56 "HalfTickets$Ministry" "ticks" "I", Cond.fieldLink RX2 81 "HalfTickets$Person" "sentBack" "I", Cond.fieldLink RX2 179 "HalfTickets$Window" "sentBack" "I", Cond.fieldLink RX2 138 "HalfTickets$Person" "cameInThisTick" "Z", Cond.methodLink RX2 134 yX4_goAs, Cond.instanceMethod yX4_goAs, Cond.selects RX4 yX4_goAs yX4_goAs, Cond.initialized RX4, Cond.code yX4_goAs cX4_goAs 3 none, Cond.fieldLink RX4 15 "HalfTickets$Person" "where" "I", Cond.fieldLink RX4 37 "HalfTickets$Person" "hasHalf" "Z", Cond.fieldLink RX4 19 "HalfTickets$Person" "goneBehind" "I", Cond.methodLink RX2 122 yX2_joinQueue, Cond.instanceMethod yX2_joinQueue, Cond.selects RX2 yX2_joinQueue yX2_joinQueue, Cond.initialized RX2, Cond.code yX2_joinQueue cX2_joinQueue 3 none, Cond.fieldLink RX2 69 "HalfTickets$Person" "where" "I", Cond.fieldLink RX2 125 "HalfTickets$Person" "waitsHere" "I"]
def wsX2_finishAt_r2 : List Cond := [Cond.fieldLink RX2 92 "HalfTickets$Window" "queue" "LHalfTickets$Line;", Cond.fieldLink RX2 96 "HalfTickets$Person" "number" "I", Cond.methodLink RX2 84 yX4_standsAt, Cond.instanceMethod yX4_standsAt, Cond.selects RX4 yX4_standsAt yX4_standsAt, Cond.code yX4_standsAt cX4_standsAt 2 (some .int), Cond.fieldLink RX4 34 "HalfTickets$Person" "through" "I", Cond.fieldLink RX4 31 "HalfTickets$Person" "errandLength" "I", Cond.fieldLink RX4 9 "HalfTickets$Person" "errand" "[I", Cond.methodLink RX2 88 yX2_windowAt, Cond.instanceMethod yX2_windowAt, Cond.selects RX2 yX2_windowAt yX2_windowAt, Cond.code yX2_windowAt cX2_windowAt 2 (some (.object "HalfTickets$Window")), Cond.fieldLink RX2 25 "HalfTickets$Ministry" "windows" "[LHalfTickets$Window;", Cond.methodLink RX2 128 yX1_append, Cond.instanceMethod yX1_append, Cond.selects RX1 yX1_append yX1_append, Cond.initialized RX1, Cond.code yX1_append cX1_append 2 none, Cond.fieldLink RX1 15 "HalfTickets$Line" "length" "I", Cond.fieldLink RX1 9 "HalfTickets$Line" "numbers" "[I"]
def wsX2_finishAt : List Cond := .code yX2_finishAt cX2_finishAt 3 none :: ((wsX2_finishAt_r1 ++ wsX2_finishAt_r2) ++ wsX50 ++ wsX40 ++ wsX20 ++ wsX10)
def wsX2_serveAt_r1 : List Cond := [Cond.fieldLink RX2 150 "HalfTickets$Window" "serving" "LHalfTickets$Line;", Cond.fieldLink RX2 163 "HalfTickets$Person" "servedFor" "I", Cond.fieldLink RX2 18 "HalfTickets$Ministry" "settings" "[I", Cond.fieldLink RX2 96 "HalfTickets$Person" "number" "I", Cond.methodLink RX2 153 yX1_length, Cond.instanceMethod yX1_length, Cond.selects RX1 yX1_length yX1_length, Cond.initialized RX1, Cond.code yX1_length cX1_length 1 (some .int), Cond.fieldLink RX1 15 "HalfTickets$Line" "length" "I", Cond.methodLink RX2 156 yX1_numberAt, Cond.instanceMethod yX1_numberAt, Cond.selects RX1 yX1_numberAt yX1_numberAt, Cond.code yX1_numberAt cX1_numberAt 2 (some .int), Cond.fieldLink RX1 9 "HalfTickets$Line" "numbers" "[I", Cond.methodLink RX2 159 yX2_personAt, Cond.instanceMethod yX2_personAt, Cond.selects RX2 yX2_personAt yX2_personAt, Cond.initialized RX2, Cond.code yX2_personAt cX2_personAt 2 (some (.object "HalfTickets$Person")), Cond.fieldLink RX2 52 "HalfTickets$Ministry" "people" "I", Cond.fieldLink RX2 31 "HalfTickets$Ministry" "persons" "[LHalfTickets$Person;", Cond.methodLink RX2 131 yX1_remove, Cond.instanceMethod yX1_remove]
def wsX2_serveAt_r2 : List Cond := [Cond.selects RX1 yX1_remove yX1_remove, Cond.code yX1_remove cX1_remove 4 none, Cond.methodLink RX1 19 yX1_placeOf, Cond.instanceMethod yX1_placeOf, Cond.selects RX1 yX1_placeOf yX1_placeOf, Cond.code yX1_placeOf cX1_placeOf 3 (some .int), Cond.methodLink RX2 166 yX2_finishAt, Cond.instanceMethod yX2_finishAt, Cond.selects RX2 yX2_finishAt yX2_finishAt, Cond.code yX2_finishAt cX2_finishAt 3 none, Cond.fieldLink RX2 170 "HalfTickets$Window" "servings" "I", Cond.fieldLink RX2 173 "HalfTickets$Person" "through" "I", Cond.fieldLink RX2 176 "HalfTickets$Person" "errandLength" "I", Cond.fieldLink RX2 72 "HalfTickets$Window" "halves" "I", Cond.fieldLink RX2 75 "HalfTickets$Person" "hasHalf" "Z", Cond.fieldLink RX2 56 "HalfTickets$Ministry" "ticks" "I", Cond.fieldLink RX2 81 "HalfTickets$Person" "sentBack" "I", Cond.fieldLink RX2 179 "HalfTickets$Window" "sentBack" "I", Cond.fieldLink RX2 138 "HalfTickets$Person" "cameInThisTick" "Z", Cond.methodLink RX2 134 yX4_goAs, Cond.instanceMethod yX4_goAs, Cond.selects RX4 yX4_goAs yX4_goAs, Cond.initialized RX4, Cond.code yX4_goAs cX4_goAs 3 none]
def wsX2_serveAt_r3 : List Cond := [Cond.fieldLink RX4 15 "HalfTickets$Person" "where" "I", Cond.fieldLink RX4 37 "HalfTickets$Person" "hasHalf" "Z", Cond.fieldLink RX4 19 "HalfTickets$Person" "goneBehind" "I", Cond.methodLink RX2 122 yX2_joinQueue, Cond.instanceMethod yX2_joinQueue, Cond.selects RX2 yX2_joinQueue yX2_joinQueue, Cond.code yX2_joinQueue cX2_joinQueue 3 none, Cond.fieldLink RX2 69 "HalfTickets$Person" "where" "I", Cond.fieldLink RX2 125 "HalfTickets$Person" "waitsHere" "I", Cond.fieldLink RX2 92 "HalfTickets$Window" "queue" "LHalfTickets$Line;", Cond.methodLink RX2 84 yX4_standsAt, Cond.instanceMethod yX4_standsAt, Cond.selects RX4 yX4_standsAt yX4_standsAt, Cond.code yX4_standsAt cX4_standsAt 2 (some .int), Cond.fieldLink RX4 34 "HalfTickets$Person" "through" "I", Cond.fieldLink RX4 31 "HalfTickets$Person" "errandLength" "I", Cond.fieldLink RX4 9 "HalfTickets$Person" "errand" "[I", Cond.methodLink RX2 88 yX2_windowAt, Cond.instanceMethod yX2_windowAt, Cond.selects RX2 yX2_windowAt yX2_windowAt, Cond.code yX2_windowAt cX2_windowAt 2 (some (.object "HalfTickets$Window")), Cond.fieldLink RX2 25 "HalfTickets$Ministry" "windows" "[LHalfTickets$Window;", Cond.methodLink RX2 128 yX1_append, Cond.instanceMethod yX1_append]
def wsX2_serveAt_r4 : List Cond := [Cond.selects RX1 yX1_append yX1_append, Cond.code yX1_append cX1_append 2 none]
def wsX2_serveAt : List Cond := .code yX2_serveAt cX2_serveAt 6 none :: ((wsX2_serveAt_r1 ++ (wsX2_serveAt_r2 ++ (wsX2_serveAt_r3 ++ wsX2_serveAt_r4))) ++ wsX50 ++ wsX40 ++ wsX20 ++ wsX10)
def wsX2_callAt_r1 : List Cond := [Cond.fieldLink RX2 180 "HalfTickets$Window" "clerks" "I", Cond.fieldLink RX2 150 "HalfTickets$Window" "serving" "LHalfTickets$Line;", Cond.fieldLink RX2 92 "HalfTickets$Window" "queue" "LHalfTickets$Line;", Cond.fieldLink RX2 138 "HalfTickets$Person" "cameInThisTick" "Z", Cond.fieldLink RX2 96 "HalfTickets$Person" "number" "I", Cond.fieldLink RX2 69 "HalfTickets$Person" "where" "I", Cond.fieldLink RX2 163 "HalfTickets$Person" "servedFor" "I", Cond.methodLink RX2 153 yX1_length, Cond.instanceMethod yX1_length, Cond.selects RX1 yX1_length yX1_length, Cond.initialized RX1, Cond.code yX1_length cX1_length 1 (some .int), Cond.fieldLink RX1 15 "HalfTickets$Line" "length" "I", Cond.methodLink RX2 156 yX1_numberAt, Cond.instanceMethod yX1_numberAt, Cond.selects RX1 yX1_numberAt yX1_numberAt, Cond.code yX1_numberAt cX1_numberAt 2 (some .int), Cond.fieldLink RX1 9 "HalfTickets$Line" "numbers" "[I", Cond.methodLink RX2 159 yX2_personAt, Cond.instanceMethod yX2_personAt, Cond.selects RX2 yX2_personAt yX2_personAt, Cond.initialized RX2, Cond.code yX2_personAt cX2_personAt 2 (some (.object "HalfTickets$Person")), Cond.fieldLink RX2 52 "HalfTickets$Ministry" "people" "I"]
def wsX2_callAt_r2 : List Cond := [Cond.fieldLink RX2 31 "HalfTickets$Ministry" "persons" "[LHalfTickets$Person;", Cond.methodLink RX2 131 yX1_remove, Cond.instanceMethod yX1_remove, Cond.selects RX1 yX1_remove yX1_remove, Cond.code yX1_remove cX1_remove 4 none, Cond.methodLink RX1 19 yX1_placeOf, Cond.instanceMethod yX1_placeOf, Cond.selects RX1 yX1_placeOf yX1_placeOf, Cond.code yX1_placeOf cX1_placeOf 3 (some .int), Cond.methodLink RX2 128 yX1_append, Cond.instanceMethod yX1_append, Cond.selects RX1 yX1_append yX1_append, Cond.code yX1_append cX1_append 2 none]
def wsX2_callAt : List Cond := .code yX2_callAt cX2_callAt 5 none :: ((wsX2_callAt_r1 ++ wsX2_callAt_r2) ++ wsX50 ++ wsX40 ++ wsX10 ++ wsX20)
def wsX2_waitInQueues_r1 : List Cond := [Cond.fieldLink RX2 18 "HalfTickets$Ministry" "settings" "[I", Cond.fieldLink RX2 31 "HalfTickets$Ministry" "persons" "[LHalfTickets$Person;", Cond.fieldLink RX2 69 "HalfTickets$Person" "where" "I", Cond.fieldLink RX2 78 "HalfTickets$Person" "waits" "I", Cond.fieldLink RX2 125 "HalfTickets$Person" "waitsHere" "I", Cond.fieldLink RX2 56 "HalfTickets$Ministry" "ticks" "I", Cond.methodLink RX2 183 yX2_sendAway, Cond.instanceMethod yX2_sendAway, Cond.selects RX2 yX2_sendAway yX2_sendAway, Cond.initialized RX2, Cond.code yX2_sendAway cX2_sendAway 4 none, Cond.fieldLink RX2 92 "HalfTickets$Window" "queue" "LHalfTickets$Line;", Cond.fieldLink RX2 96 "HalfTickets$Person" "number" "I", Cond.fieldLink RX2 59 "HalfTickets$Ministry" "lost" "I", Cond.fieldLink RX2 75 "HalfTickets$Person" "hasHalf" "Z", Cond.methodLink RX2 84 yX4_standsAt, Cond.instanceMethod yX4_standsAt, Cond.selects RX4 yX4_standsAt yX4_standsAt, Cond.initialized RX4, Cond.code yX4_standsAt cX4_standsAt 2 (some .int), Cond.fieldLink RX4 15 "HalfTickets$Person" "where" "I", Cond.fieldLink RX4 34 "HalfTickets$Person" "through" "I", Cond.fieldLink RX4 31 "HalfTickets$Person" "errandLength" "I", Cond.fieldLink RX4 9 "HalfTickets$Person" "errand" "[I"]
def wsX2_waitInQueues_r2 : List Cond := [Cond.methodLink RX2 88 yX2_windowAt, Cond.instanceMethod yX2_windowAt, Cond.selects RX2 yX2_windowAt yX2_windowAt, Cond.code yX2_windowAt cX2_windowAt 2 (some (.object "HalfTickets$Window")), Cond.fieldLink RX2 25 "HalfTickets$Ministry" "windows" "[LHalfTickets$Window;", Cond.methodLink RX2 131 yX1_remove, Cond.instanceMethod yX1_remove, Cond.selects RX1 yX1_remove yX1_remove, Cond.initialized RX1, Cond.code yX1_remove cX1_remove 4 none, Cond.fieldLink RX1 15 "HalfTickets$Line" "length" "I", Cond.fieldLink RX1 9 "HalfTickets$Line" "numbers" "[I", Cond.methodLink RX1 19 yX1_placeOf, Cond.instanceMethod yX1_placeOf, Cond.selects RX1 yX1_placeOf yX1_placeOf, Cond.code yX1_placeOf cX1_placeOf 3 (some .int), Cond.methodLink RX2 134 yX4_goAs, Cond.instanceMethod yX4_goAs, Cond.selects RX4 yX4_goAs yX4_goAs, Cond.code yX4_goAs cX4_goAs 3 none, Cond.fieldLink RX4 37 "HalfTickets$Person" "hasHalf" "Z", Cond.fieldLink RX4 19 "HalfTickets$Person" "goneBehind" "I"]
def wsX2_waitInQueues : List Cond := .code yX2_waitInQueues cX2_waitInQueues 6 none :: ((wsX2_waitInQueues_r1 ++ wsX2_waitInQueues_r2) ++ wsX20 ++ wsX40 ++ wsX50 ++ wsX10)
def wsX2_tick_r1 : List Cond := [Cond.fieldLink RX2 31 "HalfTickets$Ministry" "persons" "[LHalfTickets$Person;", Cond.fieldLink RX2 138 "HalfTickets$Person" "cameInThisTick" "Z", Cond.fieldLink RX2 25 "HalfTickets$Ministry" "windows" "[LHalfTickets$Window;", Cond.fieldLink RX2 65 "HalfTickets$Window" "isOpen" "Z", Cond.fieldLink RX2 56 "HalfTickets$Ministry" "ticks" "I", Cond.methodLink RX2 141 yX2_serveAt, Cond.instanceMethod yX2_serveAt, Cond.selects RX2 yX2_serveAt yX2_serveAt, Cond.initialized RX2, Cond.code yX2_serveAt cX2_serveAt 6 none, Cond.fieldLink RX2 150 "HalfTickets$Window" "serving" "LHalfTickets$Line;", Cond.fieldLink RX2 163 "HalfTickets$Person" "servedFor" "I", Cond.fieldLink RX2 18 "HalfTickets$Ministry" "settings" "[I", Cond.fieldLink RX2 96 "HalfTickets$Person" "number" "I", Cond.methodLink RX2 153 yX1_length, Cond.instanceMethod yX1_length, Cond.selects RX1 yX1_length yX1_length, Cond.initialized RX1, Cond.code yX1_length cX1_length 1 (some .int), Cond.fieldLink RX1 15 "HalfTickets$Line" "length" "I", Cond.methodLink RX2 156 yX1_numberAt, Cond.instanceMethod yX1_numberAt, Cond.selects RX1 yX1_numberAt yX1_numberAt, Cond.code yX1_numberAt cX1_numberAt 2 (some .int)]
def wsX2_tick_r2 : List Cond := [Cond.fieldLink RX1 9 "HalfTickets$Line" "numbers" "[I", Cond.methodLink RX2 159 yX2_personAt, Cond.instanceMethod yX2_personAt, Cond.selects RX2 yX2_personAt yX2_personAt, Cond.code yX2_personAt cX2_personAt 2 (some (.object "HalfTickets$Person")), Cond.fieldLink RX2 52 "HalfTickets$Ministry" "people" "I", Cond.methodLink RX2 131 yX1_remove, Cond.instanceMethod yX1_remove, Cond.selects RX1 yX1_remove yX1_remove, Cond.code yX1_remove cX1_remove 4 none, Cond.methodLink RX1 19 yX1_placeOf, Cond.instanceMethod yX1_placeOf, Cond.selects RX1 yX1_placeOf yX1_placeOf, Cond.code yX1_placeOf cX1_placeOf 3 (some .int), Cond.methodLink RX2 166 yX2_finishAt, Cond.instanceMethod yX2_finishAt, Cond.selects RX2 yX2_finishAt yX2_finishAt, Cond.code yX2_finishAt cX2_finishAt 3 none, Cond.fieldLink RX2 170 "HalfTickets$Window" "servings" "I", Cond.fieldLink RX2 173 "HalfTickets$Person" "through" "I", Cond.fieldLink RX2 176 "HalfTickets$Person" "errandLength" "I", Cond.fieldLink RX2 72 "HalfTickets$Window" "halves" "I", Cond.fieldLink RX2 75 "HalfTickets$Person" "hasHalf" "Z", Cond.fieldLink RX2 81 "HalfTickets$Person" "sentBack" "I"]
def wsX2_tick_r3 : List Cond := [Cond.fieldLink RX2 179 "HalfTickets$Window" "sentBack" "I", Cond.methodLink RX2 134 yX4_goAs, Cond.instanceMethod yX4_goAs, Cond.selects RX4 yX4_goAs yX4_goAs, Cond.initialized RX4, Cond.code yX4_goAs cX4_goAs 3 none, Cond.fieldLink RX4 15 "HalfTickets$Person" "where" "I", Cond.fieldLink RX4 37 "HalfTickets$Person" "hasHalf" "Z", Cond.fieldLink RX4 19 "HalfTickets$Person" "goneBehind" "I", Cond.methodLink RX2 122 yX2_joinQueue, Cond.instanceMethod yX2_joinQueue, Cond.selects RX2 yX2_joinQueue yX2_joinQueue, Cond.code yX2_joinQueue cX2_joinQueue 3 none, Cond.fieldLink RX2 69 "HalfTickets$Person" "where" "I", Cond.fieldLink RX2 125 "HalfTickets$Person" "waitsHere" "I", Cond.fieldLink RX2 92 "HalfTickets$Window" "queue" "LHalfTickets$Line;", Cond.methodLink RX2 84 yX4_standsAt, Cond.instanceMethod yX4_standsAt, Cond.selects RX4 yX4_standsAt yX4_standsAt, Cond.code yX4_standsAt cX4_standsAt 2 (some .int), Cond.fieldLink RX4 34 "HalfTickets$Person" "through" "I", Cond.fieldLink RX4 31 "HalfTickets$Person" "errandLength" "I", Cond.fieldLink RX4 9 "HalfTickets$Person" "errand" "[I", Cond.methodLink RX2 88 yX2_windowAt]
def wsX2_tick_r4 : List Cond := [Cond.instanceMethod yX2_windowAt, Cond.selects RX2 yX2_windowAt yX2_windowAt, Cond.code yX2_windowAt cX2_windowAt 2 (some (.object "HalfTickets$Window")), Cond.methodLink RX2 128 yX1_append, Cond.instanceMethod yX1_append, Cond.selects RX1 yX1_append yX1_append, Cond.code yX1_append cX1_append 2 none, Cond.methodLink RX2 144 yX2_callAt, Cond.instanceMethod yX2_callAt, Cond.selects RX2 yX2_callAt yX2_callAt, Cond.code yX2_callAt cX2_callAt 5 none, Cond.fieldLink RX2 180 "HalfTickets$Window" "clerks" "I", Cond.methodLink RX2 147 yX2_waitInQueues, Cond.instanceMethod yX2_waitInQueues, Cond.selects RX2 yX2_waitInQueues yX2_waitInQueues, Cond.code yX2_waitInQueues cX2_waitInQueues 6 none, Cond.fieldLink RX2 78 "HalfTickets$Person" "waits" "I", Cond.methodLink RX2 183 yX2_sendAway, Cond.instanceMethod yX2_sendAway, Cond.selects RX2 yX2_sendAway yX2_sendAway, Cond.code yX2_sendAway cX2_sendAway 4 none, Cond.fieldLink RX2 59 "HalfTickets$Ministry" "lost" "I"]
def wsX2_tick : List Cond := .code yX2_tick cX2_tick 5 none :: ((wsX2_tick_r1 ++ (wsX2_tick_r2 ++ (wsX2_tick_r3 ++ wsX2_tick_r4))) ++ wsX20 ++ wsX40 ++ wsX50 ++ wsX10)
def wsX3_init : List Cond := .code yX3_init cX3_init 1 none :: ([.methodLink RX3 3 objectInit, .instanceMethod objectInit, .code objectInit ⟨#[0xb1]⟩ 1 none, .arrayClass .char, .fieldLink RX3 9 "HalfTickets$Pad" "text" "[C"] ++ wsX30)
def wsX3_charactersIn : List Cond := .code yX3_charactersIn cX3_charactersIn 8 (some .int) :: ([.constantLong RX3 15 (255), .constantLong RX3 17 (33), .constantLong RX3 19 (126)])
def wsX3_append : List Cond := .code yX3_append cX3_append 5 none :: ([.fieldLink RX3 21 "HalfTickets$Pad" "length" "I", .fieldLink RX3 9 "HalfTickets$Pad" "text" "[C", .constantLong RX3 15 (255)] ++ wsX30)
def wsX3_clear : List Cond := .code yX3_clear cX3_clear 1 none :: ([.fieldLink RX3 21 "HalfTickets$Pad" "length" "I"] ++ wsX30)
def wsX3_length : List Cond := .code yX3_length cX3_length 1 (some .int) :: ([.fieldLink RX3 21 "HalfTickets$Pad" "length" "I"] ++ wsX30)
def wsX3_repeatsAt : List Cond := .code yX3_repeatsAt cX3_repeatsAt 2 (some .boolean) :: ([.fieldLink RX3 21 "HalfTickets$Pad" "length" "I", .fieldLink RX3 9 "HalfTickets$Pad" "text" "[C"] ++ wsX30)
def wsX3_firstFault : List Cond := .code yX3_firstFault cX3_firstFault 4 (some .int) :: ([.fieldLink RX3 21 "HalfTickets$Pad" "length" "I", .fieldLink RX3 9 "HalfTickets$Pad" "text" "[C", .methodLink RX3 25 yX3_isWindow, .static yX3_isWindow, .initialized RX3, .code yX3_isWindow cX3_isWindow 1 (some .boolean), .methodLink RX3 29 yX3_repeatsAt, .instanceMethod yX3_repeatsAt, .selects RX3 yX3_repeatsAt yX3_repeatsAt, .code yX3_repeatsAt cX3_repeatsAt 2 (some .boolean)] ++ wsX30)
def wsX6_init_r1 : List Cond := [Cond.methodLink RX6 1 objectInit, Cond.instanceMethod objectInit, Cond.code objectInit ⟨#[0xb1]⟩ 1 none, Cond.classLink RX6 7 RX2, Cond.instantiable RX2 7, Cond.initialized RX2, Cond.fieldLink RX6 10 "HalfTickets" "now" "LHalfTickets$Ministry;", Cond.fieldLink RX6 16 "HalfTickets" "trial" "LHalfTickets$Ministry;", Cond.classLink RX6 19 RX0, Cond.instantiable RX0 3, Cond.initialized RX0, Cond.fieldLink RX6 22 "HalfTickets" "history" "LHalfTickets$History;", Cond.fieldLink RX6 26 "HalfTickets" "slots" "[LHalfTickets$Ministry;", Cond.arrayClass .boolean, Cond.fieldLink RX6 30 "HalfTickets" "isSaved" "[Z", Cond.classLink RX6 34 RX3, Cond.instantiable RX3 2, Cond.initialized RX3, Cond.fieldLink RX6 37 "HalfTickets" "pad" "LHalfTickets$Pad;", Cond.methodLink RX6 9 yX2_init, Cond.instanceMethod yX2_init, Cond.code yX2_init cX2_init 2 none, Cond.methodLink RX2 3 objectInit, Cond.methodLink RX2 13 ⟨"[I", "clone", "()Ljava/lang/Object;"⟩]
def wsX6_init_r2 : List Cond := [Cond.sameMethod "[I" "java/lang/Object" "clone" "()Ljava/lang/Object;", Cond.native ⟨"java/lang/Object", "clone", "()Ljava/lang/Object;"⟩, Cond.instanceMethod ⟨"java/lang/Object", "clone", "()Ljava/lang/Object;"⟩, Cond.selects "[I" ⟨"[I", "clone", "()Ljava/lang/Object;"⟩ ⟨"java/lang/Object", "clone", "()Ljava/lang/Object;"⟩, Cond.classLink RX2 14 "[I", Cond.fieldLink RX2 18 "HalfTickets$Ministry" "settings" "[I", Cond.classLink RX2 23 RX5, Cond.fieldLink RX2 25 "HalfTickets$Ministry" "windows" "[LHalfTickets$Window;", Cond.classLink RX2 29 RX4, Cond.fieldLink RX2 31 "HalfTickets$Ministry" "persons" "[LHalfTickets$Person;", Cond.instantiable RX5 7, Cond.initialized RX5, Cond.instantiable RX4 12, Cond.initialized RX4, Cond.methodLink RX2 35 yX5_init, Cond.instanceMethod yX5_init, Cond.code yX5_init cX5_init 2 none, Cond.methodLink RX5 1 objectInit, Cond.fieldLink RX5 7 "HalfTickets$Window" "isOpen" "Z", Cond.fieldLink RX5 13 "HalfTickets$Window" "clerks" "I", Cond.classLink RX5 17 RX1, Cond.instantiable RX1 2, Cond.initialized RX1, Cond.fieldLink RX5 20 "HalfTickets$Window" "queue" "LHalfTickets$Line;"]
def wsX6_init_r3 : List Cond := [Cond.fieldLink RX5 24 "HalfTickets$Window" "serving" "LHalfTickets$Line;", Cond.fieldLink RX5 27 "HalfTickets$Window" "halves" "I", Cond.instanceMethod yX1_init, Cond.code yX1_init cX1_init 1 none, Cond.methodLink RX1 3 objectInit, Cond.arrayClass .int, Cond.fieldLink RX1 9 "HalfTickets$Line" "numbers" "[I", Cond.methodLink RX2 38 yX4_init, Cond.instanceMethod yX4_init, Cond.code yX4_init cX4_init 2 none, Cond.methodLink RX4 3 objectInit, Cond.fieldLink RX4 9 "HalfTickets$Person" "errand" "[I", Cond.fieldLink RX4 15 "HalfTickets$Person" "where" "I", Cond.fieldLink RX4 19 "HalfTickets$Person" "goneBehind" "I", Cond.fieldLink RX4 22 "HalfTickets$Person" "number" "I", Cond.methodLink RX6 21 yX0_init, Cond.instanceMethod yX0_init, Cond.code yX0_init cX0_init 2 none, Cond.methodLink RX0 3 objectInit, Cond.classLink RX0 9 RX2, Cond.fieldLink RX0 11 "HalfTickets$History" "states" "[LHalfTickets$Ministry;", Cond.methodLink RX0 17 yX2_init, Cond.instanceMethod yX3_init, Cond.code yX3_init cX3_init 1 none]
def wsX6_init_r4 : List Cond := [Cond.methodLink RX3 3 objectInit, Cond.arrayClass .char, Cond.fieldLink RX3 9 "HalfTickets$Pad" "text" "[C"]
def wsX6_init : List Cond := .code yX6_init cX6_init 2 none :: ((wsX6_init_r1 ++ (wsX6_init_r2 ++ (wsX6_init_r3 ++ wsX6_init_r4))) ++ wsX20 ++ wsX60 ++ wsX00 ++ wsX30 ++ wsX50 ++ wsX40 ++ wsX10)
def wsX6_set_r1 : List Cond := [Cond.fieldLink RX6 41 "HalfTickets" "FIRST_SETTING" "[I", Cond.fieldLink RX6 45 "HalfTickets" "LOWEST_SETTING" "[I", Cond.fieldLink RX6 48 "HalfTickets" "HIGHEST_SETTING" "[I", Cond.fieldLink RX6 22 "HalfTickets" "history" "LHalfTickets$History;", Cond.fieldLink RX6 10 "HalfTickets" "now" "LHalfTickets$Ministry;", Cond.fieldLink RX6 55 "HalfTickets$Ministry" "settings" "[I", Cond.methodLink RX6 51 yX0_remember, Cond.instanceMethod yX0_remember, Cond.selects RX0 yX0_remember yX0_remember, Cond.initialized RX0, Cond.code yX0_remember cX0_remember 2 none, Cond.fieldLink RX0 22 "HalfTickets$History" "next" "I", Cond.fieldLink RX0 11 "HalfTickets$History" "states" "[LHalfTickets$Ministry;", Cond.fieldLink RX0 18 "HalfTickets$History" "kept" "I", Cond.methodLink RX0 29 Lib.Math.min.name, Cond.static Lib.Math.min.name, Cond.initialized "java/lang/Math", Cond.code Lib.Math.min.name Lib.Math.min.code 2 (some .int), Cond.methodLink RX0 25 yX2_become, Cond.instanceMethod yX2_become, Cond.selects RX2 yX2_become yX2_become, Cond.initialized RX2, Cond.code yX2_become cX2_become 3 none, Cond.fieldLink RX2 18 "HalfTickets$Ministry" "settings" "[I"]
def wsX6_set_r2 : List Cond := [Cond.methodLink RX2 39 arraycopyName, Cond.native arraycopyName, Cond.static arraycopyName, Cond.initialized "java/lang/System", Cond.fieldLink RX2 25 "HalfTickets$Ministry" "windows" "[LHalfTickets$Window;", Cond.fieldLink RX2 31 "HalfTickets$Ministry" "persons" "[LHalfTickets$Person;", Cond.fieldLink RX2 52 "HalfTickets$Ministry" "people" "I", Cond.fieldLink RX2 56 "HalfTickets$Ministry" "ticks" "I", Cond.fieldLink RX2 59 "HalfTickets$Ministry" "lost" "I", Cond.fieldLink RX2 62 "HalfTickets$Ministry" "brought" "I", Cond.methodLink RX2 45 yX5_become, Cond.instanceMethod yX5_become, Cond.selects RX5 yX5_become yX5_become, Cond.initialized RX5, Cond.code yX5_become cX5_become 2 none, Cond.fieldLink RX5 7 "HalfTickets$Window" "isOpen" "Z", Cond.fieldLink RX5 13 "HalfTickets$Window" "clerks" "I", Cond.fieldLink RX5 27 "HalfTickets$Window" "halves" "I", Cond.fieldLink RX5 30 "HalfTickets$Window" "servings" "I", Cond.fieldLink RX5 33 "HalfTickets$Window" "sentBack" "I", Cond.fieldLink RX5 20 "HalfTickets$Window" "queue" "LHalfTickets$Line;", Cond.fieldLink RX5 24 "HalfTickets$Window" "serving" "LHalfTickets$Line;", Cond.methodLink RX5 36 yX1_become, Cond.instanceMethod yX1_become]
def wsX6_set_r3 : List Cond := [Cond.selects RX1 yX1_become yX1_become, Cond.initialized RX1, Cond.code yX1_become cX1_become 2 none, Cond.fieldLink RX1 9 "HalfTickets$Line" "numbers" "[I", Cond.methodLink RX1 23 arraycopyName, Cond.fieldLink RX1 15 "HalfTickets$Line" "length" "I", Cond.methodLink RX2 49 yX4_become, Cond.instanceMethod yX4_become, Cond.selects RX4 yX4_become yX4_become, Cond.initialized RX4, Cond.code yX4_become cX4_become 2 none, Cond.fieldLink RX4 9 "HalfTickets$Person" "errand" "[I", Cond.methodLink RX4 25 arraycopyName, Cond.fieldLink RX4 31 "HalfTickets$Person" "errandLength" "I", Cond.fieldLink RX4 15 "HalfTickets$Person" "where" "I", Cond.fieldLink RX4 34 "HalfTickets$Person" "through" "I", Cond.fieldLink RX4 37 "HalfTickets$Person" "hasHalf" "Z", Cond.fieldLink RX4 41 "HalfTickets$Person" "servedFor" "I", Cond.fieldLink RX4 44 "HalfTickets$Person" "waits" "I", Cond.fieldLink RX4 47 "HalfTickets$Person" "waitsHere" "I", Cond.fieldLink RX4 50 "HalfTickets$Person" "sentBack" "I", Cond.fieldLink RX4 19 "HalfTickets$Person" "goneBehind" "I", Cond.fieldLink RX4 53 "HalfTickets$Person" "cameInThisTick" "Z"]
def wsX6_set : List Cond := .code yX6_set cX6_set 4 (some .int) :: ((wsX6_set_r1 ++ (wsX6_set_r2 ++ wsX6_set_r3)) ++ wsX60 ++ wsX20 ++ wsX00 ++ wsX50 ++ wsX10 ++ wsX40)
def wsX6_window_r1 : List Cond := [Cond.fieldLink RX6 10 "HalfTickets" "now" "LHalfTickets$Ministry;", Cond.fieldLink RX6 62 "HalfTickets$Window" "isOpen" "Z", Cond.fieldLink RX6 22 "HalfTickets" "history" "LHalfTickets$History;", Cond.methodLink RX6 58 yX2_windowAt, Cond.instanceMethod yX2_windowAt, Cond.selects RX2 yX2_windowAt yX2_windowAt, Cond.initialized RX2, Cond.code yX2_windowAt cX2_windowAt 2 (some (.object "HalfTickets$Window")), Cond.fieldLink RX2 25 "HalfTickets$Ministry" "windows" "[LHalfTickets$Window;", Cond.methodLink RX6 51 yX0_remember, Cond.instanceMethod yX0_remember, Cond.selects RX0 yX0_remember yX0_remember, Cond.initialized RX0, Cond.code yX0_remember cX0_remember 2 none, Cond.fieldLink RX0 22 "HalfTickets$History" "next" "I", Cond.fieldLink RX0 11 "HalfTickets$History" "states" "[LHalfTickets$Ministry;", Cond.fieldLink RX0 18 "HalfTickets$History" "kept" "I", Cond.methodLink RX0 29 Lib.Math.min.name, Cond.static Lib.Math.min.name, Cond.initialized "java/lang/Math", Cond.code Lib.Math.min.name Lib.Math.min.code 2 (some .int), Cond.methodLink RX0 25 yX2_become, Cond.instanceMethod yX2_become, Cond.selects RX2 yX2_become yX2_become]
def wsX6_window_r2 : List Cond := [Cond.code yX2_become cX2_become 3 none, Cond.fieldLink RX2 18 "HalfTickets$Ministry" "settings" "[I", Cond.methodLink RX2 39 arraycopyName, Cond.native arraycopyName, Cond.static arraycopyName, Cond.initialized "java/lang/System", Cond.fieldLink RX2 31 "HalfTickets$Ministry" "persons" "[LHalfTickets$Person;", Cond.fieldLink RX2 52 "HalfTickets$Ministry" "people" "I", Cond.fieldLink RX2 56 "HalfTickets$Ministry" "ticks" "I", Cond.fieldLink RX2 59 "HalfTickets$Ministry" "lost" "I", Cond.fieldLink RX2 62 "HalfTickets$Ministry" "brought" "I", Cond.methodLink RX2 45 yX5_become, Cond.instanceMethod yX5_become, Cond.selects RX5 yX5_become yX5_become, Cond.initialized RX5, Cond.code yX5_become cX5_become 2 none, Cond.fieldLink RX5 7 "HalfTickets$Window" "isOpen" "Z", Cond.fieldLink RX5 13 "HalfTickets$Window" "clerks" "I", Cond.fieldLink RX5 27 "HalfTickets$Window" "halves" "I", Cond.fieldLink RX5 30 "HalfTickets$Window" "servings" "I", Cond.fieldLink RX5 33 "HalfTickets$Window" "sentBack" "I", Cond.fieldLink RX5 20 "HalfTickets$Window" "queue" "LHalfTickets$Line;", Cond.fieldLink RX5 24 "HalfTickets$Window" "serving" "LHalfTickets$Line;", Cond.methodLink RX5 36 yX1_become]
def wsX6_window_r3 : List Cond := [Cond.instanceMethod yX1_become, Cond.selects RX1 yX1_become yX1_become, Cond.initialized RX1, Cond.code yX1_become cX1_become 2 none, Cond.fieldLink RX1 9 "HalfTickets$Line" "numbers" "[I", Cond.methodLink RX1 23 arraycopyName, Cond.fieldLink RX1 15 "HalfTickets$Line" "length" "I", Cond.methodLink RX2 49 yX4_become, Cond.instanceMethod yX4_become, Cond.selects RX4 yX4_become yX4_become, Cond.initialized RX4, Cond.code yX4_become cX4_become 2 none, Cond.fieldLink RX4 9 "HalfTickets$Person" "errand" "[I", Cond.methodLink RX4 25 arraycopyName, Cond.fieldLink RX4 31 "HalfTickets$Person" "errandLength" "I", Cond.fieldLink RX4 15 "HalfTickets$Person" "where" "I", Cond.fieldLink RX4 34 "HalfTickets$Person" "through" "I", Cond.fieldLink RX4 37 "HalfTickets$Person" "hasHalf" "Z", Cond.fieldLink RX4 41 "HalfTickets$Person" "servedFor" "I", Cond.fieldLink RX4 44 "HalfTickets$Person" "waits" "I", Cond.fieldLink RX4 47 "HalfTickets$Person" "waitsHere" "I", Cond.fieldLink RX4 50 "HalfTickets$Person" "sentBack" "I", Cond.fieldLink RX4 19 "HalfTickets$Person" "goneBehind" "I", Cond.fieldLink RX4 53 "HalfTickets$Person" "cameInThisTick" "Z"]
def wsX6_window_r4 : List Cond := [Cond.methodLink RX6 68 yX2_openWindows, Cond.instanceMethod yX2_openWindows, Cond.selects RX2 yX2_openWindows yX2_openWindows, Cond.code yX2_openWindows cX2_openWindows 6 (some .int), Cond.fieldLink RX2 65 "HalfTickets$Window" "isOpen" "Z"]
def wsX6_window : List Cond := .code yX6_window cX6_window 4 (some .int) :: ((wsX6_window_r1 ++ (wsX6_window_r2 ++ (wsX6_window_r3 ++ wsX6_window_r4))) ++ wsX60 ++ wsX50 ++ wsX20 ++ wsX00 ++ wsX10 ++ wsX40)
def wsX6_clerks_r1 : List Cond := [Cond.fieldLink RX6 10 "HalfTickets" "now" "LHalfTickets$Ministry;", Cond.fieldLink RX6 22 "HalfTickets" "history" "LHalfTickets$History;", Cond.fieldLink RX6 72 "HalfTickets$Window" "clerks" "I", Cond.methodLink RX6 58 yX2_windowAt, Cond.instanceMethod yX2_windowAt, Cond.selects RX2 yX2_windowAt yX2_windowAt, Cond.initialized RX2, Cond.code yX2_windowAt cX2_windowAt 2 (some (.object "HalfTickets$Window")), Cond.fieldLink RX2 25 "HalfTickets$Ministry" "windows" "[LHalfTickets$Window;", Cond.methodLink RX6 51 yX0_remember, Cond.instanceMethod yX0_remember, Cond.selects RX0 yX0_remember yX0_remember, Cond.initialized RX0, Cond.code yX0_remember cX0_remember 2 none, Cond.fieldLink RX0 22 "HalfTickets$History" "next" "I", Cond.fieldLink RX0 11 "HalfTickets$History" "states" "[LHalfTickets$Ministry;", Cond.fieldLink RX0 18 "HalfTickets$History" "kept" "I", Cond.methodLink RX0 29 Lib.Math.min.name, Cond.static Lib.Math.min.name, Cond.initialized "java/lang/Math", Cond.code Lib.Math.min.name Lib.Math.min.code 2 (some .int), Cond.methodLink RX0 25 yX2_become, Cond.instanceMethod yX2_become, Cond.selects RX2 yX2_become yX2_become]
def wsX6_clerks_r2 : List Cond := [Cond.code yX2_become cX2_become 3 none, Cond.fieldLink RX2 18 "HalfTickets$Ministry" "settings" "[I", Cond.methodLink RX2 39 arraycopyName, Cond.native arraycopyName, Cond.static arraycopyName, Cond.initialized "java/lang/System", Cond.fieldLink RX2 31 "HalfTickets$Ministry" "persons" "[LHalfTickets$Person;", Cond.fieldLink RX2 52 "HalfTickets$Ministry" "people" "I", Cond.fieldLink RX2 56 "HalfTickets$Ministry" "ticks" "I", Cond.fieldLink RX2 59 "HalfTickets$Ministry" "lost" "I", Cond.fieldLink RX2 62 "HalfTickets$Ministry" "brought" "I", Cond.methodLink RX2 45 yX5_become, Cond.instanceMethod yX5_become, Cond.selects RX5 yX5_become yX5_become, Cond.initialized RX5, Cond.code yX5_become cX5_become 2 none, Cond.fieldLink RX5 7 "HalfTickets$Window" "isOpen" "Z", Cond.fieldLink RX5 13 "HalfTickets$Window" "clerks" "I", Cond.fieldLink RX5 27 "HalfTickets$Window" "halves" "I", Cond.fieldLink RX5 30 "HalfTickets$Window" "servings" "I", Cond.fieldLink RX5 33 "HalfTickets$Window" "sentBack" "I", Cond.fieldLink RX5 20 "HalfTickets$Window" "queue" "LHalfTickets$Line;", Cond.fieldLink RX5 24 "HalfTickets$Window" "serving" "LHalfTickets$Line;", Cond.methodLink RX5 36 yX1_become]
def wsX6_clerks_r3 : List Cond := [Cond.instanceMethod yX1_become, Cond.selects RX1 yX1_become yX1_become, Cond.initialized RX1, Cond.code yX1_become cX1_become 2 none, Cond.fieldLink RX1 9 "HalfTickets$Line" "numbers" "[I", Cond.methodLink RX1 23 arraycopyName, Cond.fieldLink RX1 15 "HalfTickets$Line" "length" "I", Cond.methodLink RX2 49 yX4_become, Cond.instanceMethod yX4_become, Cond.selects RX4 yX4_become yX4_become, Cond.initialized RX4, Cond.code yX4_become cX4_become 2 none, Cond.fieldLink RX4 9 "HalfTickets$Person" "errand" "[I", Cond.methodLink RX4 25 arraycopyName, Cond.fieldLink RX4 31 "HalfTickets$Person" "errandLength" "I", Cond.fieldLink RX4 15 "HalfTickets$Person" "where" "I", Cond.fieldLink RX4 34 "HalfTickets$Person" "through" "I", Cond.fieldLink RX4 37 "HalfTickets$Person" "hasHalf" "Z", Cond.fieldLink RX4 41 "HalfTickets$Person" "servedFor" "I", Cond.fieldLink RX4 44 "HalfTickets$Person" "waits" "I", Cond.fieldLink RX4 47 "HalfTickets$Person" "waitsHere" "I", Cond.fieldLink RX4 50 "HalfTickets$Person" "sentBack" "I", Cond.fieldLink RX4 19 "HalfTickets$Person" "goneBehind" "I", Cond.fieldLink RX4 53 "HalfTickets$Person" "cameInThisTick" "Z"]
def wsX6_clerks : List Cond := .code yX6_clerks cX6_clerks 5 (some .int) :: ((wsX6_clerks_r1 ++ (wsX6_clerks_r2 ++ wsX6_clerks_r3)) ++ wsX60 ++ wsX50 ++ wsX20 ++ wsX00 ++ wsX10 ++ wsX40)
def wsX6_bring_r1 : List Cond := [Cond.fieldLink RX6 10 "HalfTickets" "now" "LHalfTickets$Ministry;", Cond.fieldLink RX6 22 "HalfTickets" "history" "LHalfTickets$History;", Cond.fieldLink RX6 55 "HalfTickets$Ministry" "settings" "[I", Cond.fieldLink RX6 76 "HalfTickets$Window" "halves" "I", Cond.methodLink RX6 79 Lib.Math.max.name, Cond.static Lib.Math.max.name, Cond.initialized "java/lang/Math", Cond.code Lib.Math.max.name Lib.Math.max.code 2 (some .int), Cond.fieldLink RX6 85 "HalfTickets$Ministry" "brought" "I", Cond.methodLink RX6 58 yX2_windowAt, Cond.instanceMethod yX2_windowAt, Cond.selects RX2 yX2_windowAt yX2_windowAt, Cond.initialized RX2, Cond.code yX2_windowAt cX2_windowAt 2 (some (.object "HalfTickets$Window")), Cond.fieldLink RX2 25 "HalfTickets$Ministry" "windows" "[LHalfTickets$Window;", Cond.methodLink RX6 51 yX0_remember, Cond.instanceMethod yX0_remember, Cond.selects RX0 yX0_remember yX0_remember, Cond.initialized RX0, Cond.code yX0_remember cX0_remember 2 none, Cond.fieldLink RX0 22 "HalfTickets$History" "next" "I", Cond.fieldLink RX0 11 "HalfTickets$History" "states" "[LHalfTickets$Ministry;", Cond.fieldLink RX0 18 "HalfTickets$History" "kept" "I", Cond.methodLink RX0 29 Lib.Math.min.name]
def wsX6_bring_r2 : List Cond := [Cond.static Lib.Math.min.name, Cond.code Lib.Math.min.name Lib.Math.min.code 2 (some .int), Cond.methodLink RX0 25 yX2_become, Cond.instanceMethod yX2_become, Cond.selects RX2 yX2_become yX2_become, Cond.code yX2_become cX2_become 3 none, Cond.fieldLink RX2 18 "HalfTickets$Ministry" "settings" "[I", Cond.methodLink RX2 39 arraycopyName, Cond.native arraycopyName, Cond.static arraycopyName, Cond.initialized "java/lang/System", Cond.fieldLink RX2 31 "HalfTickets$Ministry" "persons" "[LHalfTickets$Person;", Cond.fieldLink RX2 52 "HalfTickets$Ministry" "people" "I", Cond.fieldLink RX2 56 "HalfTickets$Ministry" "ticks" "I", Cond.fieldLink RX2 59 "HalfTickets$Ministry" "lost" "I", Cond.fieldLink RX2 62 "HalfTickets$Ministry" "brought" "I", Cond.methodLink RX2 45 yX5_become, Cond.instanceMethod yX5_become, Cond.selects RX5 yX5_become yX5_become, Cond.initialized RX5, Cond.code yX5_become cX5_become 2 none, Cond.fieldLink RX5 7 "HalfTickets$Window" "isOpen" "Z", Cond.fieldLink RX5 13 "HalfTickets$Window" "clerks" "I", Cond.fieldLink RX5 27 "HalfTickets$Window" "halves" "I"]
def wsX6_bring_r3 : List Cond := [Cond.fieldLink RX5 30 "HalfTickets$Window" "servings" "I", Cond.fieldLink RX5 33 "HalfTickets$Window" "sentBack" "I", Cond.fieldLink RX5 20 "HalfTickets$Window" "queue" "LHalfTickets$Line;", Cond.fieldLink RX5 24 "HalfTickets$Window" "serving" "LHalfTickets$Line;", Cond.methodLink RX5 36 yX1_become, Cond.instanceMethod yX1_become, Cond.selects RX1 yX1_become yX1_become, Cond.initialized RX1, Cond.code yX1_become cX1_become 2 none, Cond.fieldLink RX1 9 "HalfTickets$Line" "numbers" "[I", Cond.methodLink RX1 23 arraycopyName, Cond.fieldLink RX1 15 "HalfTickets$Line" "length" "I", Cond.methodLink RX2 49 yX4_become, Cond.instanceMethod yX4_become, Cond.selects RX4 yX4_become yX4_become, Cond.initialized RX4, Cond.code yX4_become cX4_become 2 none, Cond.fieldLink RX4 9 "HalfTickets$Person" "errand" "[I", Cond.methodLink RX4 25 arraycopyName, Cond.fieldLink RX4 31 "HalfTickets$Person" "errandLength" "I", Cond.fieldLink RX4 15 "HalfTickets$Person" "where" "I", Cond.fieldLink RX4 34 "HalfTickets$Person" "through" "I", Cond.fieldLink RX4 37 "HalfTickets$Person" "hasHalf" "Z", Cond.fieldLink RX4 41 "HalfTickets$Person" "servedFor" "I"]
def wsX6_bring_r4 : List Cond := [Cond.fieldLink RX4 44 "HalfTickets$Person" "waits" "I", Cond.fieldLink RX4 47 "HalfTickets$Person" "waitsHere" "I", Cond.fieldLink RX4 50 "HalfTickets$Person" "sentBack" "I", Cond.fieldLink RX4 19 "HalfTickets$Person" "goneBehind" "I", Cond.fieldLink RX4 53 "HalfTickets$Person" "cameInThisTick" "Z"]
def wsX6_bring : List Cond := .code yX6_bring cX6_bring 4 (some .int) :: ((wsX6_bring_r1 ++ (wsX6_bring_r2 ++ (wsX6_bring_r3 ++ wsX6_bring_r4))) ++ wsX60 ++ wsX20 ++ wsX50 ++ wsX00 ++ wsX10 ++ wsX40)
def wsX6_read_r1 : List Cond := [Cond.fieldLink RX6 37 "HalfTickets" "pad" "LHalfTickets$Pad;", Cond.fieldLink RX6 10 "HalfTickets" "now" "LHalfTickets$Ministry;", Cond.fieldLink RX6 91 "HalfTickets$Ministry" "people" "I", Cond.fieldLink RX6 22 "HalfTickets" "history" "LHalfTickets$History;", Cond.methodLink RX6 88 yX3_firstFault, Cond.instanceMethod yX3_firstFault, Cond.selects RX3 yX3_firstFault yX3_firstFault, Cond.initialized RX3, Cond.code yX3_firstFault cX3_firstFault 4 (some .int), Cond.fieldLink RX3 21 "HalfTickets$Pad" "length" "I", Cond.fieldLink RX3 9 "HalfTickets$Pad" "text" "[C", Cond.methodLink RX3 25 yX3_isWindow, Cond.static yX3_isWindow, Cond.code yX3_isWindow cX3_isWindow 1 (some .boolean), Cond.methodLink RX3 29 yX3_repeatsAt, Cond.instanceMethod yX3_repeatsAt, Cond.selects RX3 yX3_repeatsAt yX3_repeatsAt, Cond.code yX3_repeatsAt cX3_repeatsAt 2 (some .boolean), Cond.methodLink RX6 94 yX3_errands, Cond.instanceMethod yX3_errands, Cond.selects RX3 yX3_errands yX3_errands, Cond.code yX3_errands cX3_errands 3 (some .int), Cond.methodLink RX6 51 yX0_remember, Cond.instanceMethod yX0_remember]
def wsX6_read_r2 : List Cond := [Cond.selects RX0 yX0_remember yX0_remember, Cond.initialized RX0, Cond.code yX0_remember cX0_remember 2 none, Cond.fieldLink RX0 22 "HalfTickets$History" "next" "I", Cond.fieldLink RX0 11 "HalfTickets$History" "states" "[LHalfTickets$Ministry;", Cond.fieldLink RX0 18 "HalfTickets$History" "kept" "I", Cond.methodLink RX0 29 Lib.Math.min.name, Cond.static Lib.Math.min.name, Cond.initialized "java/lang/Math", Cond.code Lib.Math.min.name Lib.Math.min.code 2 (some .int), Cond.methodLink RX0 25 yX2_become, Cond.instanceMethod yX2_become, Cond.selects RX2 yX2_become yX2_become, Cond.initialized RX2, Cond.code yX2_become cX2_become 3 none, Cond.fieldLink RX2 18 "HalfTickets$Ministry" "settings" "[I", Cond.methodLink RX2 39 arraycopyName, Cond.native arraycopyName, Cond.static arraycopyName, Cond.initialized "java/lang/System", Cond.fieldLink RX2 25 "HalfTickets$Ministry" "windows" "[LHalfTickets$Window;", Cond.fieldLink RX2 31 "HalfTickets$Ministry" "persons" "[LHalfTickets$Person;", Cond.fieldLink RX2 52 "HalfTickets$Ministry" "people" "I", Cond.fieldLink RX2 56 "HalfTickets$Ministry" "ticks" "I"]
def wsX6_read_r3 : List Cond := [Cond.fieldLink RX2 59 "HalfTickets$Ministry" "lost" "I", Cond.fieldLink RX2 62 "HalfTickets$Ministry" "brought" "I", Cond.methodLink RX2 45 yX5_become, Cond.instanceMethod yX5_become, Cond.selects RX5 yX5_become yX5_become, Cond.initialized RX5, Cond.code yX5_become cX5_become 2 none, Cond.fieldLink RX5 7 "HalfTickets$Window" "isOpen" "Z", Cond.fieldLink RX5 13 "HalfTickets$Window" "clerks" "I", Cond.fieldLink RX5 27 "HalfTickets$Window" "halves" "I", Cond.fieldLink RX5 30 "HalfTickets$Window" "servings" "I", Cond.fieldLink RX5 33 "HalfTickets$Window" "sentBack" "I", Cond.fieldLink RX5 20 "HalfTickets$Window" "queue" "LHalfTickets$Line;", Cond.fieldLink RX5 24 "HalfTickets$Window" "serving" "LHalfTickets$Line;", Cond.methodLink RX5 36 yX1_become, Cond.instanceMethod yX1_become, Cond.selects RX1 yX1_become yX1_become, Cond.initialized RX1, Cond.code yX1_become cX1_become 2 none, Cond.fieldLink RX1 9 "HalfTickets$Line" "numbers" "[I", Cond.methodLink RX1 23 arraycopyName, Cond.fieldLink RX1 15 "HalfTickets$Line" "length" "I", Cond.methodLink RX2 49 yX4_become, Cond.instanceMethod yX4_become]
def wsX6_read_r4 : List Cond := [Cond.selects RX4 yX4_become yX4_become, Cond.initialized RX4, Cond.code yX4_become cX4_become 2 none, Cond.fieldLink RX4 9 "HalfTickets$Person" "errand" "[I", Cond.methodLink RX4 25 arraycopyName, Cond.fieldLink RX4 31 "HalfTickets$Person" "errandLength" "I", Cond.fieldLink RX4 15 "HalfTickets$Person" "where" "I", Cond.fieldLink RX4 34 "HalfTickets$Person" "through" "I", Cond.fieldLink RX4 37 "HalfTickets$Person" "hasHalf" "Z", Cond.fieldLink RX4 41 "HalfTickets$Person" "servedFor" "I", Cond.fieldLink RX4 44 "HalfTickets$Person" "waits" "I", Cond.fieldLink RX4 47 "HalfTickets$Person" "waitsHere" "I", Cond.fieldLink RX4 50 "HalfTickets$Person" "sentBack" "I", Cond.fieldLink RX4 19 "HalfTickets$Person" "goneBehind" "I", Cond.fieldLink RX4 53 "HalfTickets$Person" "cameInThisTick" "Z", Cond.methodLink RX6 97 yX2_admitAll, Cond.instanceMethod yX2_admitAll, Cond.selects RX2 yX2_admitAll yX2_admitAll, Cond.code yX2_admitAll cX2_admitAll 6 none, Cond.methodLink RX2 105 yX3_errands, Cond.methodLink RX2 110 yX3_endOfErrand, Cond.instanceMethod yX3_endOfErrand, Cond.selects RX3 yX3_endOfErrand yX3_endOfErrand, Cond.code yX3_endOfErrand cX3_endOfErrand 3 (some .int)]
def wsX6_read_r5 : List Cond := [Cond.methodLink RX3 33 Lib.Math.max.name, Cond.static Lib.Math.max.name, Cond.code Lib.Math.max.name Lib.Math.max.code 2 (some .int), Cond.methodLink RX2 113 yX2_admit, Cond.instanceMethod yX2_admit, Cond.selects RX2 yX2_admit yX2_admit, Cond.code yX2_admit cX2_admit 6 none, Cond.methodLink RX2 117 yX3_windowAt, Cond.instanceMethod yX3_windowAt, Cond.selects RX3 yX3_windowAt yX3_windowAt, Cond.code yX3_windowAt cX3_windowAt 2 (some .int), Cond.methodLink RX2 119 yX4_addToErrand, Cond.instanceMethod yX4_addToErrand, Cond.selects RX4 yX4_addToErrand yX4_addToErrand, Cond.code yX4_addToErrand cX4_addToErrand 2 none, Cond.methodLink RX2 122 yX2_joinQueue, Cond.instanceMethod yX2_joinQueue, Cond.selects RX2 yX2_joinQueue yX2_joinQueue, Cond.code yX2_joinQueue cX2_joinQueue 3 none, Cond.fieldLink RX2 69 "HalfTickets$Person" "where" "I", Cond.fieldLink RX2 125 "HalfTickets$Person" "waitsHere" "I", Cond.fieldLink RX2 92 "HalfTickets$Window" "queue" "LHalfTickets$Line;", Cond.fieldLink RX2 96 "HalfTickets$Person" "number" "I", Cond.methodLink RX2 84 yX4_standsAt]
def wsX6_read_r6 : List Cond := [Cond.instanceMethod yX4_standsAt, Cond.selects RX4 yX4_standsAt yX4_standsAt, Cond.code yX4_standsAt cX4_standsAt 2 (some .int), Cond.methodLink RX2 88 yX2_windowAt, Cond.instanceMethod yX2_windowAt, Cond.selects RX2 yX2_windowAt yX2_windowAt, Cond.code yX2_windowAt cX2_windowAt 2 (some (.object "HalfTickets$Window")), Cond.methodLink RX2 128 yX1_append, Cond.instanceMethod yX1_append, Cond.selects RX1 yX1_append yX1_append, Cond.code yX1_append cX1_append 2 none, Cond.methodLink RX6 101 yX3_clear, Cond.instanceMethod yX3_clear, Cond.selects RX3 yX3_clear yX3_clear, Cond.code yX3_clear cX3_clear 1 none]
def wsX6_read : List Cond := .code yX6_read cX6_read 1 (some .int) :: ((wsX6_read_r1 ++ (wsX6_read_r2 ++ (wsX6_read_r3 ++ (wsX6_read_r4 ++ (wsX6_read_r5 ++ wsX6_read_r6))))) ++ wsX60 ++ wsX20 ++ wsX30 ++ wsX00 ++ wsX50 ++ wsX10 ++ wsX40)
def wsX6_leave_r1 : List Cond := [Cond.fieldLink RX6 10 "HalfTickets" "now" "LHalfTickets$Ministry;", Cond.fieldLink RX6 108 "HalfTickets$Person" "where" "I", Cond.fieldLink RX6 22 "HalfTickets" "history" "LHalfTickets$History;", Cond.fieldLink RX6 113 "HalfTickets$Ministry" "ticks" "I", Cond.fieldLink RX6 120 "HalfTickets$Person" "through" "I", Cond.methodLink RX6 104 yX2_personAt, Cond.instanceMethod yX2_personAt, Cond.selects RX2 yX2_personAt yX2_personAt, Cond.initialized RX2, Cond.code yX2_personAt cX2_personAt 2 (some (.object "HalfTickets$Person")), Cond.fieldLink RX2 52 "HalfTickets$Ministry" "people" "I", Cond.fieldLink RX2 31 "HalfTickets$Ministry" "persons" "[LHalfTickets$Person;", Cond.methodLink RX6 51 yX0_remember, Cond.instanceMethod yX0_remember, Cond.selects RX0 yX0_remember yX0_remember, Cond.initialized RX0, Cond.code yX0_remember cX0_remember 2 none, Cond.fieldLink RX0 22 "HalfTickets$History" "next" "I", Cond.fieldLink RX0 11 "HalfTickets$History" "states" "[LHalfTickets$Ministry;", Cond.fieldLink RX0 18 "HalfTickets$History" "kept" "I", Cond.methodLink RX0 29 Lib.Math.min.name, Cond.static Lib.Math.min.name, Cond.initialized "java/lang/Math", Cond.code Lib.Math.min.name Lib.Math.min.code 2 (some .int)]
def wsX6_leave_r2 : List Cond := [Cond.methodLink RX0 25 yX2_become, Cond.instanceMethod yX2_become, Cond.selects RX2 yX2_become yX2_become, Cond.code yX2_become cX2_become 3 none, Cond.fieldLink RX2 18 "HalfTickets$Ministry" "settings" "[I", Cond.methodLink RX2 39 arraycopyName, Cond.native arraycopyName, Cond.static arraycopyName, Cond.initialized "java/lang/System", Cond.fieldLink RX2 25 "HalfTickets$Ministry" "windows" "[LHalfTickets$Window;", Cond.fieldLink RX2 56 "HalfTickets$Ministry" "ticks" "I", Cond.fieldLink RX2 59 "HalfTickets$Ministry" "lost" "I", Cond.fieldLink RX2 62 "HalfTickets$Ministry" "brought" "I", Cond.methodLink RX2 45 yX5_become, Cond.instanceMethod yX5_become, Cond.selects RX5 yX5_become yX5_become, Cond.initialized RX5, Cond.code yX5_become cX5_become 2 none, Cond.fieldLink RX5 7 "HalfTickets$Window" "isOpen" "Z", Cond.fieldLink RX5 13 "HalfTickets$Window" "clerks" "I", Cond.fieldLink RX5 27 "HalfTickets$Window" "halves" "I", Cond.fieldLink RX5 30 "HalfTickets$Window" "servings" "I", Cond.fieldLink RX5 33 "HalfTickets$Window" "sentBack" "I", Cond.fieldLink RX5 20 "HalfTickets$Window" "queue" "LHalfTickets$Line;"]
def wsX6_leave_r3 : List Cond := [Cond.fieldLink RX5 24 "HalfTickets$Window" "serving" "LHalfTickets$Line;", Cond.methodLink RX5 36 yX1_become, Cond.instanceMethod yX1_become, Cond.selects RX1 yX1_become yX1_become, Cond.initialized RX1, Cond.code yX1_become cX1_become 2 none, Cond.fieldLink RX1 9 "HalfTickets$Line" "numbers" "[I", Cond.methodLink RX1 23 arraycopyName, Cond.fieldLink RX1 15 "HalfTickets$Line" "length" "I", Cond.methodLink RX2 49 yX4_become, Cond.instanceMethod yX4_become, Cond.selects RX4 yX4_become yX4_become, Cond.initialized RX4, Cond.code yX4_become cX4_become 2 none, Cond.fieldLink RX4 9 "HalfTickets$Person" "errand" "[I", Cond.methodLink RX4 25 arraycopyName, Cond.fieldLink RX4 31 "HalfTickets$Person" "errandLength" "I", Cond.fieldLink RX4 15 "HalfTickets$Person" "where" "I", Cond.fieldLink RX4 34 "HalfTickets$Person" "through" "I", Cond.fieldLink RX4 37 "HalfTickets$Person" "hasHalf" "Z", Cond.fieldLink RX4 41 "HalfTickets$Person" "servedFor" "I", Cond.fieldLink RX4 44 "HalfTickets$Person" "waits" "I", Cond.fieldLink RX4 47 "HalfTickets$Person" "waitsHere" "I", Cond.fieldLink RX4 50 "HalfTickets$Person" "sentBack" "I"]
def wsX6_leave_r4 : List Cond := [Cond.fieldLink RX4 19 "HalfTickets$Person" "goneBehind" "I", Cond.fieldLink RX4 53 "HalfTickets$Person" "cameInThisTick" "Z", Cond.methodLink RX6 116 yX2_sendAway, Cond.instanceMethod yX2_sendAway, Cond.selects RX2 yX2_sendAway yX2_sendAway, Cond.code yX2_sendAway cX2_sendAway 4 none, Cond.fieldLink RX2 92 "HalfTickets$Window" "queue" "LHalfTickets$Line;", Cond.fieldLink RX2 96 "HalfTickets$Person" "number" "I", Cond.fieldLink RX2 75 "HalfTickets$Person" "hasHalf" "Z", Cond.methodLink RX2 84 yX4_standsAt, Cond.instanceMethod yX4_standsAt, Cond.selects RX4 yX4_standsAt yX4_standsAt, Cond.code yX4_standsAt cX4_standsAt 2 (some .int), Cond.methodLink RX2 88 yX2_windowAt, Cond.instanceMethod yX2_windowAt, Cond.selects RX2 yX2_windowAt yX2_windowAt, Cond.code yX2_windowAt cX2_windowAt 2 (some (.object "HalfTickets$Window")), Cond.methodLink RX2 131 yX1_remove, Cond.instanceMethod yX1_remove, Cond.selects RX1 yX1_remove yX1_remove, Cond.code yX1_remove cX1_remove 4 none, Cond.methodLink RX1 19 yX1_placeOf, Cond.instanceMethod yX1_placeOf, Cond.selects RX1 yX1_placeOf yX1_placeOf]
def wsX6_leave_r5 : List Cond := [Cond.code yX1_placeOf cX1_placeOf 3 (some .int), Cond.methodLink RX2 134 yX4_goAs, Cond.instanceMethod yX4_goAs, Cond.selects RX4 yX4_goAs yX4_goAs, Cond.code yX4_goAs cX4_goAs 3 none]
def wsX6_leave : List Cond := .code yX6_leave cX6_leave 3 (some .int) :: ((wsX6_leave_r1 ++ (wsX6_leave_r2 ++ (wsX6_leave_r3 ++ (wsX6_leave_r4 ++ wsX6_leave_r5)))) ++ wsX60 ++ wsX40 ++ wsX20 ++ wsX00 ++ wsX50 ++ wsX10)
def wsX6_pass_r1 : List Cond := [Cond.fieldLink RX6 10 "HalfTickets" "now" "LHalfTickets$Ministry;", Cond.fieldLink RX6 113 "HalfTickets$Ministry" "ticks" "I", Cond.fieldLink RX6 22 "HalfTickets" "history" "LHalfTickets$History;", Cond.methodLink RX6 51 yX0_remember, Cond.instanceMethod yX0_remember, Cond.selects RX0 yX0_remember yX0_remember, Cond.initialized RX0, Cond.code yX0_remember cX0_remember 2 none, Cond.fieldLink RX0 22 "HalfTickets$History" "next" "I", Cond.fieldLink RX0 11 "HalfTickets$History" "states" "[LHalfTickets$Ministry;", Cond.fieldLink RX0 18 "HalfTickets$History" "kept" "I", Cond.methodLink RX0 29 Lib.Math.min.name, Cond.static Lib.Math.min.name, Cond.initialized "java/lang/Math", Cond.code Lib.Math.min.name Lib.Math.min.code 2 (some .int), Cond.methodLink RX0 25 yX2_become, Cond.instanceMethod yX2_become, Cond.selects RX2 yX2_become yX2_become, Cond.initialized RX2, Cond.code yX2_become cX2_become 3 none, Cond.fieldLink RX2 18 "HalfTickets$Ministry" "settings" "[I", Cond.methodLink RX2 39 arraycopyName, Cond.native arraycopyName, Cond.static arraycopyName]
def wsX6_pass_r2 : List Cond := [Cond.initialized "java/lang/System", Cond.fieldLink RX2 25 "HalfTickets$Ministry" "windows" "[LHalfTickets$Window;", Cond.fieldLink RX2 31 "HalfTickets$Ministry" "persons" "[LHalfTickets$Person;", Cond.fieldLink RX2 52 "HalfTickets$Ministry" "people" "I", Cond.fieldLink RX2 56 "HalfTickets$Ministry" "ticks" "I", Cond.fieldLink RX2 59 "HalfTickets$Ministry" "lost" "I", Cond.fieldLink RX2 62 "HalfTickets$Ministry" "brought" "I", Cond.methodLink RX2 45 yX5_become, Cond.instanceMethod yX5_become, Cond.selects RX5 yX5_become yX5_become, Cond.initialized RX5, Cond.code yX5_become cX5_become 2 none, Cond.fieldLink RX5 7 "HalfTickets$Window" "isOpen" "Z", Cond.fieldLink RX5 13 "HalfTickets$Window" "clerks" "I", Cond.fieldLink RX5 27 "HalfTickets$Window" "halves" "I", Cond.fieldLink RX5 30 "HalfTickets$Window" "servings" "I", Cond.fieldLink RX5 33 "HalfTickets$Window" "sentBack" "I", Cond.fieldLink RX5 20 "HalfTickets$Window" "queue" "LHalfTickets$Line;", Cond.fieldLink RX5 24 "HalfTickets$Window" "serving" "LHalfTickets$Line;", Cond.methodLink RX5 36 yX1_become, Cond.instanceMethod yX1_become, Cond.selects RX1 yX1_become yX1_become, Cond.initialized RX1, Cond.code yX1_become cX1_become 2 none]
def wsX6_pass_r3 : List Cond := [Cond.fieldLink RX1 9 "HalfTickets$Line" "numbers" "[I", Cond.methodLink RX1 23 arraycopyName, Cond.fieldLink RX1 15 "HalfTickets$Line" "length" "I", Cond.methodLink RX2 49 yX4_become, Cond.instanceMethod yX4_become, Cond.selects RX4 yX4_become yX4_become, Cond.initialized RX4, Cond.code yX4_become cX4_become 2 none, Cond.fieldLink RX4 9 "HalfTickets$Person" "errand" "[I", Cond.methodLink RX4 25 arraycopyName, Cond.fieldLink RX4 31 "HalfTickets$Person" "errandLength" "I", Cond.fieldLink RX4 15 "HalfTickets$Person" "where" "I", Cond.fieldLink RX4 34 "HalfTickets$Person" "through" "I", Cond.fieldLink RX4 37 "HalfTickets$Person" "hasHalf" "Z", Cond.fieldLink RX4 41 "HalfTickets$Person" "servedFor" "I", Cond.fieldLink RX4 44 "HalfTickets$Person" "waits" "I", Cond.fieldLink RX4 47 "HalfTickets$Person" "waitsHere" "I", Cond.fieldLink RX4 50 "HalfTickets$Person" "sentBack" "I", Cond.fieldLink RX4 19 "HalfTickets$Person" "goneBehind" "I", Cond.fieldLink RX4 53 "HalfTickets$Person" "cameInThisTick" "Z", Cond.methodLink RX6 123 yX2_peopleWho, Cond.instanceMethod yX2_peopleWho, Cond.selects RX2 yX2_peopleWho yX2_peopleWho, Cond.code yX2_peopleWho cX2_peopleWho 7 (some .int)]
def wsX6_pass_r4 : List Cond := [Cond.fieldLink RX2 69 "HalfTickets$Person" "where" "I", Cond.methodLink RX6 127 yX2_tick, Cond.instanceMethod yX2_tick, Cond.selects RX2 yX2_tick yX2_tick, Cond.code yX2_tick cX2_tick 5 none, Cond.fieldLink RX2 138 "HalfTickets$Person" "cameInThisTick" "Z", Cond.fieldLink RX2 65 "HalfTickets$Window" "isOpen" "Z", Cond.methodLink RX2 141 yX2_serveAt, Cond.instanceMethod yX2_serveAt, Cond.selects RX2 yX2_serveAt yX2_serveAt, Cond.code yX2_serveAt cX2_serveAt 6 none, Cond.fieldLink RX2 150 "HalfTickets$Window" "serving" "LHalfTickets$Line;", Cond.fieldLink RX2 163 "HalfTickets$Person" "servedFor" "I", Cond.fieldLink RX2 96 "HalfTickets$Person" "number" "I", Cond.methodLink RX2 153 yX1_length, Cond.instanceMethod yX1_length, Cond.selects RX1 yX1_length yX1_length, Cond.code yX1_length cX1_length 1 (some .int), Cond.methodLink RX2 156 yX1_numberAt, Cond.instanceMethod yX1_numberAt, Cond.selects RX1 yX1_numberAt yX1_numberAt, Cond.code yX1_numberAt cX1_numberAt 2 (some .int), Cond.methodLink RX2 159 yX2_personAt, Cond.instanceMethod yX2_personAt]
def wsX6_pass_r5 : List Cond := [Cond.selects RX2 yX2_personAt yX2_personAt, Cond.code yX2_personAt cX2_personAt 2 (some (.object "HalfTickets$Person")), Cond.methodLink RX2 131 yX1_remove, Cond.instanceMethod yX1_remove, Cond.selects RX1 yX1_remove yX1_remove, Cond.code yX1_remove cX1_remove 4 none, Cond.methodLink RX1 19 yX1_placeOf, Cond.instanceMethod yX1_placeOf, Cond.selects RX1 yX1_placeOf yX1_placeOf, Cond.code yX1_placeOf cX1_placeOf 3 (some .int), Cond.methodLink RX2 166 yX2_finishAt, Cond.instanceMethod yX2_finishAt, Cond.selects RX2 yX2_finishAt yX2_finishAt, Cond.code yX2_finishAt cX2_finishAt 3 none, Cond.fieldLink RX2 170 "HalfTickets$Window" "servings" "I", Cond.fieldLink RX2 173 "HalfTickets$Person" "through" "I", Cond.fieldLink RX2 176 "HalfTickets$Person" "errandLength" "I", Cond.fieldLink RX2 72 "HalfTickets$Window" "halves" "I", Cond.fieldLink RX2 75 "HalfTickets$Person" "hasHalf" "Z", Cond.fieldLink RX2 81 "HalfTickets$Person" "sentBack" "I", Cond.fieldLink RX2 179 "HalfTickets$Window" "sentBack" "I", Cond.methodLink RX2 134 yX4_goAs, Cond.instanceMethod yX4_goAs, Cond.selects RX4 yX4_goAs yX4_goAs]
def wsX6_pass_r6 : List Cond := [Cond.code yX4_goAs cX4_goAs 3 none, Cond.methodLink RX2 122 yX2_joinQueue, Cond.instanceMethod yX2_joinQueue, Cond.selects RX2 yX2_joinQueue yX2_joinQueue, Cond.code yX2_joinQueue cX2_joinQueue 3 none, Cond.fieldLink RX2 125 "HalfTickets$Person" "waitsHere" "I", Cond.fieldLink RX2 92 "HalfTickets$Window" "queue" "LHalfTickets$Line;", Cond.methodLink RX2 84 yX4_standsAt, Cond.instanceMethod yX4_standsAt, Cond.selects RX4 yX4_standsAt yX4_standsAt, Cond.code yX4_standsAt cX4_standsAt 2 (some .int), Cond.methodLink RX2 88 yX2_windowAt, Cond.instanceMethod yX2_windowAt, Cond.selects RX2 yX2_windowAt yX2_windowAt, Cond.code yX2_windowAt cX2_windowAt 2 (some (.object "HalfTickets$Window")), Cond.methodLink RX2 128 yX1_append, Cond.instanceMethod yX1_append, Cond.selects RX1 yX1_append yX1_append, Cond.code yX1_append cX1_append 2 none, Cond.methodLink RX2 144 yX2_callAt, Cond.instanceMethod yX2_callAt, Cond.selects RX2 yX2_callAt yX2_callAt, Cond.code yX2_callAt cX2_callAt 5 none, Cond.fieldLink RX2 180 "HalfTickets$Window" "clerks" "I"]
def wsX6_pass_r7 : List Cond := [Cond.methodLink RX2 147 yX2_waitInQueues, Cond.instanceMethod yX2_waitInQueues, Cond.selects RX2 yX2_waitInQueues yX2_waitInQueues, Cond.code yX2_waitInQueues cX2_waitInQueues 6 none, Cond.fieldLink RX2 78 "HalfTickets$Person" "waits" "I", Cond.methodLink RX2 183 yX2_sendAway, Cond.instanceMethod yX2_sendAway, Cond.selects RX2 yX2_sendAway yX2_sendAway, Cond.code yX2_sendAway cX2_sendAway 4 none]
def wsX6_pass : List Cond := .code yX6_pass cX6_pass 4 (some .int) :: ((wsX6_pass_r1 ++ (wsX6_pass_r2 ++ (wsX6_pass_r3 ++ (wsX6_pass_r4 ++ (wsX6_pass_r5 ++ (wsX6_pass_r6 ++ wsX6_pass_r7)))))) ++ wsX60 ++ wsX20 ++ wsX00 ++ wsX50 ++ wsX10 ++ wsX40)
def wsX6_person_r1 : List Cond := [Cond.fieldLink RX6 10 "HalfTickets" "now" "LHalfTickets$Ministry;", Cond.fieldLink RX6 108 "HalfTickets$Person" "where" "I", Cond.fieldLink RX6 137 "HalfTickets$Person" "hasHalf" "Z", Cond.fieldLink RX6 120 "HalfTickets$Person" "through" "I", Cond.fieldLink RX6 140 "HalfTickets$Person" "errandLength" "I", Cond.fieldLink RX6 143 "HalfTickets$Person" "waits" "I", Cond.fieldLink RX6 146 "HalfTickets$Person" "sentBack" "I", Cond.fieldLink RX6 149 "HalfTickets$Person" "goneBehind" "I", Cond.methodLink RX6 104 yX2_personAt, Cond.instanceMethod yX2_personAt, Cond.selects RX2 yX2_personAt yX2_personAt, Cond.initialized RX2, Cond.code yX2_personAt cX2_personAt 2 (some (.object "HalfTickets$Person")), Cond.fieldLink RX2 52 "HalfTickets$Ministry" "people" "I", Cond.fieldLink RX2 31 "HalfTickets$Ministry" "persons" "[LHalfTickets$Person;", Cond.methodLink RX6 130 yX4_standsAt, Cond.instanceMethod yX4_standsAt, Cond.selects RX4 yX4_standsAt yX4_standsAt, Cond.initialized RX4, Cond.code yX4_standsAt cX4_standsAt 2 (some .int), Cond.fieldLink RX4 15 "HalfTickets$Person" "where" "I", Cond.fieldLink RX4 34 "HalfTickets$Person" "through" "I", Cond.fieldLink RX4 31 "HalfTickets$Person" "errandLength" "I", Cond.fieldLink RX4 9 "HalfTickets$Person" "errand" "[I"]
def wsX6_person_r2 : List Cond := [Cond.methodLink RX6 133 yX2_placeInQueue, Cond.instanceMethod yX2_placeInQueue, Cond.selects RX2 yX2_placeInQueue yX2_placeInQueue, Cond.code yX2_placeInQueue cX2_placeInQueue 3 (some .int), Cond.fieldLink RX2 92 "HalfTickets$Window" "queue" "LHalfTickets$Line;", Cond.fieldLink RX2 96 "HalfTickets$Person" "number" "I", Cond.methodLink RX2 84 yX4_standsAt, Cond.methodLink RX2 88 yX2_windowAt, Cond.instanceMethod yX2_windowAt, Cond.selects RX2 yX2_windowAt yX2_windowAt, Cond.code yX2_windowAt cX2_windowAt 2 (some (.object "HalfTickets$Window")), Cond.fieldLink RX2 25 "HalfTickets$Ministry" "windows" "[LHalfTickets$Window;", Cond.methodLink RX2 99 yX1_placeOf, Cond.instanceMethod yX1_placeOf, Cond.selects RX1 yX1_placeOf yX1_placeOf, Cond.initialized RX1, Cond.code yX1_placeOf cX1_placeOf 3 (some .int), Cond.fieldLink RX1 15 "HalfTickets$Line" "length" "I", Cond.fieldLink RX1 9 "HalfTickets$Line" "numbers" "[I"]
def wsX6_person : List Cond := .code yX6_person cX6_person 4 (some .int) :: ((wsX6_person_r1 ++ wsX6_person_r2) ++ wsX60 ++ wsX40 ++ wsX20 ++ wsX50 ++ wsX10)
def wsX6_windowOf : List Cond := .code yX6_windowOf cX6_windowOf 4 (some .int) :: ([.fieldLink RX6 10 "HalfTickets" "now" "LHalfTickets$Ministry;", .fieldLink RX6 62 "HalfTickets$Window" "isOpen" "Z", .fieldLink RX6 72 "HalfTickets$Window" "clerks" "I", .fieldLink RX6 76 "HalfTickets$Window" "halves" "I", .fieldLink RX6 152 "HalfTickets$Window" "queue" "LHalfTickets$Line;", .fieldLink RX6 161 "HalfTickets$Window" "serving" "LHalfTickets$Line;", .fieldLink RX6 164 "HalfTickets$Window" "servings" "I", .fieldLink RX6 167 "HalfTickets$Window" "sentBack" "I", .methodLink RX6 58 yX2_windowAt, .instanceMethod yX2_windowAt, .selects RX2 yX2_windowAt yX2_windowAt, .initialized RX2, .code yX2_windowAt cX2_windowAt 2 (some (.object "HalfTickets$Window")), .fieldLink RX2 25 "HalfTickets$Ministry" "windows" "[LHalfTickets$Window;", .methodLink RX6 156 yX1_length, .instanceMethod yX1_length, .selects RX1 yX1_length yX1_length, .initialized RX1, .code yX1_length cX1_length 1 (some .int), .fieldLink RX1 15 "HalfTickets$Line" "length" "I"] ++ wsX60 ++ wsX50 ++ wsX20 ++ wsX10)
def wsX6_count_r1 : List Cond := [Cond.fieldLink RX6 10 "HalfTickets" "now" "LHalfTickets$Ministry;", Cond.fieldLink RX6 55 "HalfTickets$Ministry" "settings" "[I", Cond.fieldLink RX6 113 "HalfTickets$Ministry" "ticks" "I", Cond.fieldLink RX6 91 "HalfTickets$Ministry" "people" "I", Cond.fieldLink RX6 174 "HalfTickets$Ministry" "lost" "I", Cond.fieldLink RX6 85 "HalfTickets$Ministry" "brought" "I", Cond.fieldLink RX6 37 "HalfTickets" "pad" "LHalfTickets$Pad;", Cond.fieldLink RX6 22 "HalfTickets" "history" "LHalfTickets$History;", Cond.methodLink RX6 123 yX2_peopleWho, Cond.instanceMethod yX2_peopleWho, Cond.selects RX2 yX2_peopleWho yX2_peopleWho, Cond.initialized RX2, Cond.code yX2_peopleWho cX2_peopleWho 7 (some .int), Cond.fieldLink RX2 31 "HalfTickets$Ministry" "persons" "[LHalfTickets$Person;", Cond.fieldLink RX2 69 "HalfTickets$Person" "where" "I", Cond.methodLink RX6 168 yX2_halvesOfWindows, Cond.instanceMethod yX2_halvesOfWindows, Cond.selects RX2 yX2_halvesOfWindows yX2_halvesOfWindows, Cond.code yX2_halvesOfWindows cX2_halvesOfWindows 6 (some .int), Cond.fieldLink RX2 25 "HalfTickets$Ministry" "windows" "[LHalfTickets$Window;", Cond.fieldLink RX2 72 "HalfTickets$Window" "halves" "I", Cond.methodLink RX6 171 yX2_halvesOfPeople, Cond.instanceMethod yX2_halvesOfPeople, Cond.selects RX2 yX2_halvesOfPeople yX2_halvesOfPeople]
def wsX6_count_r2 : List Cond := [Cond.code yX2_halvesOfPeople cX2_halvesOfPeople 6 (some .int), Cond.fieldLink RX2 75 "HalfTickets$Person" "hasHalf" "Z", Cond.methodLink RX6 177 yX2_waits, Cond.instanceMethod yX2_waits, Cond.selects RX2 yX2_waits yX2_waits, Cond.code yX2_waits cX2_waits 6 (some .int), Cond.fieldLink RX2 78 "HalfTickets$Person" "waits" "I", Cond.methodLink RX6 179 yX2_timesSentBack, Cond.instanceMethod yX2_timesSentBack, Cond.selects RX2 yX2_timesSentBack yX2_timesSentBack, Cond.code yX2_timesSentBack cX2_timesSentBack 6 (some .int), Cond.fieldLink RX2 81 "HalfTickets$Person" "sentBack" "I", Cond.methodLink RX6 182 yX3_length, Cond.instanceMethod yX3_length, Cond.selects RX3 yX3_length yX3_length, Cond.initialized RX3, Cond.code yX3_length cX3_length 1 (some .int), Cond.fieldLink RX3 21 "HalfTickets$Pad" "length" "I", Cond.methodLink RX6 183 yX0_kept, Cond.instanceMethod yX0_kept, Cond.selects RX0 yX0_kept yX0_kept, Cond.initialized RX0, Cond.code yX0_kept cX0_kept 1 (some .int), Cond.fieldLink RX0 18 "HalfTickets$History" "kept" "I"]
def wsX6_count : List Cond := .code yX6_count cX6_count 2 (some .int) :: ((wsX6_count_r1 ++ wsX6_count_r2) ++ wsX60 ++ wsX20 ++ wsX40 ++ wsX50 ++ wsX30 ++ wsX00)
def wsX6_untilDone_r1 : List Cond := [Cond.fieldLink RX6 10 "HalfTickets" "now" "LHalfTickets$Ministry;", Cond.fieldLink RX6 108 "HalfTickets$Person" "where" "I", Cond.fieldLink RX6 16 "HalfTickets" "trial" "LHalfTickets$Ministry;", Cond.methodLink RX6 104 yX2_personAt, Cond.instanceMethod yX2_personAt, Cond.selects RX2 yX2_personAt yX2_personAt, Cond.initialized RX2, Cond.code yX2_personAt cX2_personAt 2 (some (.object "HalfTickets$Person")), Cond.fieldLink RX2 52 "HalfTickets$Ministry" "people" "I", Cond.fieldLink RX2 31 "HalfTickets$Ministry" "persons" "[LHalfTickets$Person;", Cond.methodLink RX6 186 yX2_become, Cond.instanceMethod yX2_become, Cond.selects RX2 yX2_become yX2_become, Cond.code yX2_become cX2_become 3 none, Cond.fieldLink RX2 18 "HalfTickets$Ministry" "settings" "[I", Cond.methodLink RX2 39 arraycopyName, Cond.native arraycopyName, Cond.static arraycopyName, Cond.initialized "java/lang/System", Cond.fieldLink RX2 25 "HalfTickets$Ministry" "windows" "[LHalfTickets$Window;", Cond.fieldLink RX2 56 "HalfTickets$Ministry" "ticks" "I", Cond.fieldLink RX2 59 "HalfTickets$Ministry" "lost" "I", Cond.fieldLink RX2 62 "HalfTickets$Ministry" "brought" "I", Cond.methodLink RX2 45 yX5_become]
def wsX6_untilDone_r2 : List Cond := [Cond.instanceMethod yX5_become, Cond.selects RX5 yX5_become yX5_become, Cond.initialized RX5, Cond.code yX5_become cX5_become 2 none, Cond.fieldLink RX5 7 "HalfTickets$Window" "isOpen" "Z", Cond.fieldLink RX5 13 "HalfTickets$Window" "clerks" "I", Cond.fieldLink RX5 27 "HalfTickets$Window" "halves" "I", Cond.fieldLink RX5 30 "HalfTickets$Window" "servings" "I", Cond.fieldLink RX5 33 "HalfTickets$Window" "sentBack" "I", Cond.fieldLink RX5 20 "HalfTickets$Window" "queue" "LHalfTickets$Line;", Cond.fieldLink RX5 24 "HalfTickets$Window" "serving" "LHalfTickets$Line;", Cond.methodLink RX5 36 yX1_become, Cond.instanceMethod yX1_become, Cond.selects RX1 yX1_become yX1_become, Cond.initialized RX1, Cond.code yX1_become cX1_become 2 none, Cond.fieldLink RX1 9 "HalfTickets$Line" "numbers" "[I", Cond.methodLink RX1 23 arraycopyName, Cond.fieldLink RX1 15 "HalfTickets$Line" "length" "I", Cond.methodLink RX2 49 yX4_become, Cond.instanceMethod yX4_become, Cond.selects RX4 yX4_become yX4_become, Cond.initialized RX4, Cond.code yX4_become cX4_become 2 none]
def wsX6_untilDone_r3 : List Cond := [Cond.fieldLink RX4 9 "HalfTickets$Person" "errand" "[I", Cond.methodLink RX4 25 arraycopyName, Cond.fieldLink RX4 31 "HalfTickets$Person" "errandLength" "I", Cond.fieldLink RX4 15 "HalfTickets$Person" "where" "I", Cond.fieldLink RX4 34 "HalfTickets$Person" "through" "I", Cond.fieldLink RX4 37 "HalfTickets$Person" "hasHalf" "Z", Cond.fieldLink RX4 41 "HalfTickets$Person" "servedFor" "I", Cond.fieldLink RX4 44 "HalfTickets$Person" "waits" "I", Cond.fieldLink RX4 47 "HalfTickets$Person" "waitsHere" "I", Cond.fieldLink RX4 50 "HalfTickets$Person" "sentBack" "I", Cond.fieldLink RX4 19 "HalfTickets$Person" "goneBehind" "I", Cond.fieldLink RX4 53 "HalfTickets$Person" "cameInThisTick" "Z", Cond.methodLink RX6 127 yX2_tick, Cond.instanceMethod yX2_tick, Cond.selects RX2 yX2_tick yX2_tick, Cond.code yX2_tick cX2_tick 5 none, Cond.fieldLink RX2 138 "HalfTickets$Person" "cameInThisTick" "Z", Cond.fieldLink RX2 65 "HalfTickets$Window" "isOpen" "Z", Cond.methodLink RX2 141 yX2_serveAt, Cond.instanceMethod yX2_serveAt, Cond.selects RX2 yX2_serveAt yX2_serveAt, Cond.code yX2_serveAt cX2_serveAt 6 none, Cond.fieldLink RX2 150 "HalfTickets$Window" "serving" "LHalfTickets$Line;", Cond.fieldLink RX2 163 "HalfTickets$Person" "servedFor" "I"]
def wsX6_untilDone_r4 : List Cond := [Cond.fieldLink RX2 96 "HalfTickets$Person" "number" "I", Cond.methodLink RX2 153 yX1_length, Cond.instanceMethod yX1_length, Cond.selects RX1 yX1_length yX1_length, Cond.code yX1_length cX1_length 1 (some .int), Cond.methodLink RX2 156 yX1_numberAt, Cond.instanceMethod yX1_numberAt, Cond.selects RX1 yX1_numberAt yX1_numberAt, Cond.code yX1_numberAt cX1_numberAt 2 (some .int), Cond.methodLink RX2 159 yX2_personAt, Cond.methodLink RX2 131 yX1_remove, Cond.instanceMethod yX1_remove, Cond.selects RX1 yX1_remove yX1_remove, Cond.code yX1_remove cX1_remove 4 none, Cond.methodLink RX1 19 yX1_placeOf, Cond.instanceMethod yX1_placeOf, Cond.selects RX1 yX1_placeOf yX1_placeOf, Cond.code yX1_placeOf cX1_placeOf 3 (some .int), Cond.methodLink RX2 166 yX2_finishAt, Cond.instanceMethod yX2_finishAt, Cond.selects RX2 yX2_finishAt yX2_finishAt, Cond.code yX2_finishAt cX2_finishAt 3 none, Cond.fieldLink RX2 170 "HalfTickets$Window" "servings" "I", Cond.fieldLink RX2 173 "HalfTickets$Person" "through" "I"]
def wsX6_untilDone_r5 : List Cond := [Cond.fieldLink RX2 176 "HalfTickets$Person" "errandLength" "I", Cond.fieldLink RX2 72 "HalfTickets$Window" "halves" "I", Cond.fieldLink RX2 75 "HalfTickets$Person" "hasHalf" "Z", Cond.fieldLink RX2 81 "HalfTickets$Person" "sentBack" "I", Cond.fieldLink RX2 179 "HalfTickets$Window" "sentBack" "I", Cond.methodLink RX2 134 yX4_goAs, Cond.instanceMethod yX4_goAs, Cond.selects RX4 yX4_goAs yX4_goAs, Cond.code yX4_goAs cX4_goAs 3 none, Cond.methodLink RX2 122 yX2_joinQueue, Cond.instanceMethod yX2_joinQueue, Cond.selects RX2 yX2_joinQueue yX2_joinQueue, Cond.code yX2_joinQueue cX2_joinQueue 3 none, Cond.fieldLink RX2 69 "HalfTickets$Person" "where" "I", Cond.fieldLink RX2 125 "HalfTickets$Person" "waitsHere" "I", Cond.fieldLink RX2 92 "HalfTickets$Window" "queue" "LHalfTickets$Line;", Cond.methodLink RX2 84 yX4_standsAt, Cond.instanceMethod yX4_standsAt, Cond.selects RX4 yX4_standsAt yX4_standsAt, Cond.code yX4_standsAt cX4_standsAt 2 (some .int), Cond.methodLink RX2 88 yX2_windowAt, Cond.instanceMethod yX2_windowAt, Cond.selects RX2 yX2_windowAt yX2_windowAt, Cond.code yX2_windowAt cX2_windowAt 2 (some (.object "HalfTickets$Window"))]
def wsX6_untilDone_r6 : List Cond := [Cond.methodLink RX2 128 yX1_append, Cond.instanceMethod yX1_append, Cond.selects RX1 yX1_append yX1_append, Cond.code yX1_append cX1_append 2 none, Cond.methodLink RX2 144 yX2_callAt, Cond.instanceMethod yX2_callAt, Cond.selects RX2 yX2_callAt yX2_callAt, Cond.code yX2_callAt cX2_callAt 5 none, Cond.fieldLink RX2 180 "HalfTickets$Window" "clerks" "I", Cond.methodLink RX2 147 yX2_waitInQueues, Cond.instanceMethod yX2_waitInQueues, Cond.selects RX2 yX2_waitInQueues yX2_waitInQueues, Cond.code yX2_waitInQueues cX2_waitInQueues 6 none, Cond.fieldLink RX2 78 "HalfTickets$Person" "waits" "I", Cond.methodLink RX2 183 yX2_sendAway, Cond.instanceMethod yX2_sendAway, Cond.selects RX2 yX2_sendAway yX2_sendAway, Cond.code yX2_sendAway cX2_sendAway 4 none]
def wsX6_untilDone : List Cond := .code yX6_untilDone cX6_untilDone 5 (some .int) :: ((wsX6_untilDone_r1 ++ (wsX6_untilDone_r2 ++ (wsX6_untilDone_r3 ++ (wsX6_untilDone_r4 ++ (wsX6_untilDone_r5 ++ wsX6_untilDone_r6))))) ++ wsX60 ++ wsX40 ++ wsX20 ++ wsX50 ++ wsX10)
def wsX6_ifPassed_r1 : List Cond := [Cond.fieldLink RX6 16 "HalfTickets" "trial" "LHalfTickets$Ministry;", Cond.fieldLink RX6 10 "HalfTickets" "now" "LHalfTickets$Ministry;", Cond.methodLink RX6 186 yX2_become, Cond.instanceMethod yX2_become, Cond.selects RX2 yX2_become yX2_become, Cond.initialized RX2, Cond.code yX2_become cX2_become 3 none, Cond.fieldLink RX2 18 "HalfTickets$Ministry" "settings" "[I", Cond.methodLink RX2 39 arraycopyName, Cond.native arraycopyName, Cond.static arraycopyName, Cond.initialized "java/lang/System", Cond.fieldLink RX2 25 "HalfTickets$Ministry" "windows" "[LHalfTickets$Window;", Cond.fieldLink RX2 31 "HalfTickets$Ministry" "persons" "[LHalfTickets$Person;", Cond.fieldLink RX2 52 "HalfTickets$Ministry" "people" "I", Cond.fieldLink RX2 56 "HalfTickets$Ministry" "ticks" "I", Cond.fieldLink RX2 59 "HalfTickets$Ministry" "lost" "I", Cond.fieldLink RX2 62 "HalfTickets$Ministry" "brought" "I", Cond.methodLink RX2 45 yX5_become, Cond.instanceMethod yX5_become, Cond.selects RX5 yX5_become yX5_become, Cond.initialized RX5, Cond.code yX5_become cX5_become 2 none, Cond.fieldLink RX5 7 "HalfTickets$Window" "isOpen" "Z"]
def wsX6_ifPassed_r2 : List Cond := [Cond.fieldLink RX5 13 "HalfTickets$Window" "clerks" "I", Cond.fieldLink RX5 27 "HalfTickets$Window" "halves" "I", Cond.fieldLink RX5 30 "HalfTickets$Window" "servings" "I", Cond.fieldLink RX5 33 "HalfTickets$Window" "sentBack" "I", Cond.fieldLink RX5 20 "HalfTickets$Window" "queue" "LHalfTickets$Line;", Cond.fieldLink RX5 24 "HalfTickets$Window" "serving" "LHalfTickets$Line;", Cond.methodLink RX5 36 yX1_become, Cond.instanceMethod yX1_become, Cond.selects RX1 yX1_become yX1_become, Cond.initialized RX1, Cond.code yX1_become cX1_become 2 none, Cond.fieldLink RX1 9 "HalfTickets$Line" "numbers" "[I", Cond.methodLink RX1 23 arraycopyName, Cond.fieldLink RX1 15 "HalfTickets$Line" "length" "I", Cond.methodLink RX2 49 yX4_become, Cond.instanceMethod yX4_become, Cond.selects RX4 yX4_become yX4_become, Cond.initialized RX4, Cond.code yX4_become cX4_become 2 none, Cond.fieldLink RX4 9 "HalfTickets$Person" "errand" "[I", Cond.methodLink RX4 25 arraycopyName, Cond.fieldLink RX4 31 "HalfTickets$Person" "errandLength" "I", Cond.fieldLink RX4 15 "HalfTickets$Person" "where" "I", Cond.fieldLink RX4 34 "HalfTickets$Person" "through" "I"]
def wsX6_ifPassed_r3 : List Cond := [Cond.fieldLink RX4 37 "HalfTickets$Person" "hasHalf" "Z", Cond.fieldLink RX4 41 "HalfTickets$Person" "servedFor" "I", Cond.fieldLink RX4 44 "HalfTickets$Person" "waits" "I", Cond.fieldLink RX4 47 "HalfTickets$Person" "waitsHere" "I", Cond.fieldLink RX4 50 "HalfTickets$Person" "sentBack" "I", Cond.fieldLink RX4 19 "HalfTickets$Person" "goneBehind" "I", Cond.fieldLink RX4 53 "HalfTickets$Person" "cameInThisTick" "Z", Cond.methodLink RX6 127 yX2_tick, Cond.instanceMethod yX2_tick, Cond.selects RX2 yX2_tick yX2_tick, Cond.code yX2_tick cX2_tick 5 none, Cond.fieldLink RX2 138 "HalfTickets$Person" "cameInThisTick" "Z", Cond.fieldLink RX2 65 "HalfTickets$Window" "isOpen" "Z", Cond.methodLink RX2 141 yX2_serveAt, Cond.instanceMethod yX2_serveAt, Cond.selects RX2 yX2_serveAt yX2_serveAt, Cond.code yX2_serveAt cX2_serveAt 6 none, Cond.fieldLink RX2 150 "HalfTickets$Window" "serving" "LHalfTickets$Line;", Cond.fieldLink RX2 163 "HalfTickets$Person" "servedFor" "I", Cond.fieldLink RX2 96 "HalfTickets$Person" "number" "I", Cond.methodLink RX2 153 yX1_length, Cond.instanceMethod yX1_length, Cond.selects RX1 yX1_length yX1_length, Cond.code yX1_length cX1_length 1 (some .int)]
def wsX6_ifPassed_r4 : List Cond := [Cond.methodLink RX2 156 yX1_numberAt, Cond.instanceMethod yX1_numberAt, Cond.selects RX1 yX1_numberAt yX1_numberAt, Cond.code yX1_numberAt cX1_numberAt 2 (some .int), Cond.methodLink RX2 159 yX2_personAt, Cond.instanceMethod yX2_personAt, Cond.selects RX2 yX2_personAt yX2_personAt, Cond.code yX2_personAt cX2_personAt 2 (some (.object "HalfTickets$Person")), Cond.methodLink RX2 131 yX1_remove, Cond.instanceMethod yX1_remove, Cond.selects RX1 yX1_remove yX1_remove, Cond.code yX1_remove cX1_remove 4 none, Cond.methodLink RX1 19 yX1_placeOf, Cond.instanceMethod yX1_placeOf, Cond.selects RX1 yX1_placeOf yX1_placeOf, Cond.code yX1_placeOf cX1_placeOf 3 (some .int), Cond.methodLink RX2 166 yX2_finishAt, Cond.instanceMethod yX2_finishAt, Cond.selects RX2 yX2_finishAt yX2_finishAt, Cond.code yX2_finishAt cX2_finishAt 3 none, Cond.fieldLink RX2 170 "HalfTickets$Window" "servings" "I", Cond.fieldLink RX2 173 "HalfTickets$Person" "through" "I", Cond.fieldLink RX2 176 "HalfTickets$Person" "errandLength" "I", Cond.fieldLink RX2 72 "HalfTickets$Window" "halves" "I"]
def wsX6_ifPassed_r5 : List Cond := [Cond.fieldLink RX2 75 "HalfTickets$Person" "hasHalf" "Z", Cond.fieldLink RX2 81 "HalfTickets$Person" "sentBack" "I", Cond.fieldLink RX2 179 "HalfTickets$Window" "sentBack" "I", Cond.methodLink RX2 134 yX4_goAs, Cond.instanceMethod yX4_goAs, Cond.selects RX4 yX4_goAs yX4_goAs, Cond.code yX4_goAs cX4_goAs 3 none, Cond.methodLink RX2 122 yX2_joinQueue, Cond.instanceMethod yX2_joinQueue, Cond.selects RX2 yX2_joinQueue yX2_joinQueue, Cond.code yX2_joinQueue cX2_joinQueue 3 none, Cond.fieldLink RX2 69 "HalfTickets$Person" "where" "I", Cond.fieldLink RX2 125 "HalfTickets$Person" "waitsHere" "I", Cond.fieldLink RX2 92 "HalfTickets$Window" "queue" "LHalfTickets$Line;", Cond.methodLink RX2 84 yX4_standsAt, Cond.instanceMethod yX4_standsAt, Cond.selects RX4 yX4_standsAt yX4_standsAt, Cond.code yX4_standsAt cX4_standsAt 2 (some .int), Cond.methodLink RX2 88 yX2_windowAt, Cond.instanceMethod yX2_windowAt, Cond.selects RX2 yX2_windowAt yX2_windowAt, Cond.code yX2_windowAt cX2_windowAt 2 (some (.object "HalfTickets$Window")), Cond.methodLink RX2 128 yX1_append, Cond.instanceMethod yX1_append]
def wsX6_ifPassed_r6 : List Cond := [Cond.selects RX1 yX1_append yX1_append, Cond.code yX1_append cX1_append 2 none, Cond.methodLink RX2 144 yX2_callAt, Cond.instanceMethod yX2_callAt, Cond.selects RX2 yX2_callAt yX2_callAt, Cond.code yX2_callAt cX2_callAt 5 none, Cond.fieldLink RX2 180 "HalfTickets$Window" "clerks" "I", Cond.methodLink RX2 147 yX2_waitInQueues, Cond.instanceMethod yX2_waitInQueues, Cond.selects RX2 yX2_waitInQueues yX2_waitInQueues, Cond.code yX2_waitInQueues cX2_waitInQueues 6 none, Cond.fieldLink RX2 78 "HalfTickets$Person" "waits" "I", Cond.methodLink RX2 183 yX2_sendAway, Cond.instanceMethod yX2_sendAway, Cond.selects RX2 yX2_sendAway yX2_sendAway, Cond.code yX2_sendAway cX2_sendAway 4 none, Cond.methodLink RX6 123 yX2_peopleWho, Cond.instanceMethod yX2_peopleWho, Cond.selects RX2 yX2_peopleWho yX2_peopleWho, Cond.code yX2_peopleWho cX2_peopleWho 7 (some .int), Cond.methodLink RX6 177 yX2_waits, Cond.instanceMethod yX2_waits, Cond.selects RX2 yX2_waits yX2_waits, Cond.code yX2_waits cX2_waits 6 (some .int)]
def wsX6_ifPassed_r7 : List Cond := [Cond.methodLink RX6 179 yX2_timesSentBack, Cond.instanceMethod yX2_timesSentBack, Cond.selects RX2 yX2_timesSentBack yX2_timesSentBack, Cond.code yX2_timesSentBack cX2_timesSentBack 6 (some .int)]
def wsX6_ifPassed : List Cond := .code yX6_ifPassed cX6_ifPassed 4 (some .int) :: ((wsX6_ifPassed_r1 ++ (wsX6_ifPassed_r2 ++ (wsX6_ifPassed_r3 ++ (wsX6_ifPassed_r4 ++ (wsX6_ifPassed_r5 ++ (wsX6_ifPassed_r6 ++ wsX6_ifPassed_r7)))))) ++ wsX60 ++ wsX20 ++ wsX50 ++ wsX10 ++ wsX40)
def wsX6_doneWithOneMoreAt_r1 : List Cond := [Cond.fieldLink RX6 16 "HalfTickets" "trial" "LHalfTickets$Ministry;", Cond.fieldLink RX6 10 "HalfTickets" "now" "LHalfTickets$Ministry;", Cond.fieldLink RX6 72 "HalfTickets$Window" "clerks" "I", Cond.methodLink RX6 186 yX2_become, Cond.instanceMethod yX2_become, Cond.selects RX2 yX2_become yX2_become, Cond.initialized RX2, Cond.code yX2_become cX2_become 3 none, Cond.fieldLink RX2 18 "HalfTickets$Ministry" "settings" "[I", Cond.methodLink RX2 39 arraycopyName, Cond.native arraycopyName, Cond.static arraycopyName, Cond.initialized "java/lang/System", Cond.fieldLink RX2 25 "HalfTickets$Ministry" "windows" "[LHalfTickets$Window;", Cond.fieldLink RX2 31 "HalfTickets$Ministry" "persons" "[LHalfTickets$Person;", Cond.fieldLink RX2 52 "HalfTickets$Ministry" "people" "I", Cond.fieldLink RX2 56 "HalfTickets$Ministry" "ticks" "I", Cond.fieldLink RX2 59 "HalfTickets$Ministry" "lost" "I", Cond.fieldLink RX2 62 "HalfTickets$Ministry" "brought" "I", Cond.methodLink RX2 45 yX5_become, Cond.instanceMethod yX5_become, Cond.selects RX5 yX5_become yX5_become, Cond.initialized RX5, Cond.code yX5_become cX5_become 2 none]
def wsX6_doneWithOneMoreAt_r2 : List Cond := [Cond.fieldLink RX5 7 "HalfTickets$Window" "isOpen" "Z", Cond.fieldLink RX5 13 "HalfTickets$Window" "clerks" "I", Cond.fieldLink RX5 27 "HalfTickets$Window" "halves" "I", Cond.fieldLink RX5 30 "HalfTickets$Window" "servings" "I", Cond.fieldLink RX5 33 "HalfTickets$Window" "sentBack" "I", Cond.fieldLink RX5 20 "HalfTickets$Window" "queue" "LHalfTickets$Line;", Cond.fieldLink RX5 24 "HalfTickets$Window" "serving" "LHalfTickets$Line;", Cond.methodLink RX5 36 yX1_become, Cond.instanceMethod yX1_become, Cond.selects RX1 yX1_become yX1_become, Cond.initialized RX1, Cond.code yX1_become cX1_become 2 none, Cond.fieldLink RX1 9 "HalfTickets$Line" "numbers" "[I", Cond.methodLink RX1 23 arraycopyName, Cond.fieldLink RX1 15 "HalfTickets$Line" "length" "I", Cond.methodLink RX2 49 yX4_become, Cond.instanceMethod yX4_become, Cond.selects RX4 yX4_become yX4_become, Cond.initialized RX4, Cond.code yX4_become cX4_become 2 none, Cond.fieldLink RX4 9 "HalfTickets$Person" "errand" "[I", Cond.methodLink RX4 25 arraycopyName, Cond.fieldLink RX4 31 "HalfTickets$Person" "errandLength" "I", Cond.fieldLink RX4 15 "HalfTickets$Person" "where" "I"]
def wsX6_doneWithOneMoreAt_r3 : List Cond := [Cond.fieldLink RX4 34 "HalfTickets$Person" "through" "I", Cond.fieldLink RX4 37 "HalfTickets$Person" "hasHalf" "Z", Cond.fieldLink RX4 41 "HalfTickets$Person" "servedFor" "I", Cond.fieldLink RX4 44 "HalfTickets$Person" "waits" "I", Cond.fieldLink RX4 47 "HalfTickets$Person" "waitsHere" "I", Cond.fieldLink RX4 50 "HalfTickets$Person" "sentBack" "I", Cond.fieldLink RX4 19 "HalfTickets$Person" "goneBehind" "I", Cond.fieldLink RX4 53 "HalfTickets$Person" "cameInThisTick" "Z", Cond.methodLink RX6 58 yX2_windowAt, Cond.instanceMethod yX2_windowAt, Cond.selects RX2 yX2_windowAt yX2_windowAt, Cond.code yX2_windowAt cX2_windowAt 2 (some (.object "HalfTickets$Window")), Cond.methodLink RX6 127 yX2_tick, Cond.instanceMethod yX2_tick, Cond.selects RX2 yX2_tick yX2_tick, Cond.code yX2_tick cX2_tick 5 none, Cond.fieldLink RX2 138 "HalfTickets$Person" "cameInThisTick" "Z", Cond.fieldLink RX2 65 "HalfTickets$Window" "isOpen" "Z", Cond.methodLink RX2 141 yX2_serveAt, Cond.instanceMethod yX2_serveAt, Cond.selects RX2 yX2_serveAt yX2_serveAt, Cond.code yX2_serveAt cX2_serveAt 6 none, Cond.fieldLink RX2 150 "HalfTickets$Window" "serving" "LHalfTickets$Line;", Cond.fieldLink RX2 163 "HalfTickets$Person" "servedFor" "I"]
def wsX6_doneWithOneMoreAt_r4 : List Cond := [Cond.fieldLink RX2 96 "HalfTickets$Person" "number" "I", Cond.methodLink RX2 153 yX1_length, Cond.instanceMethod yX1_length, Cond.selects RX1 yX1_length yX1_length, Cond.code yX1_length cX1_length 1 (some .int), Cond.methodLink RX2 156 yX1_numberAt, Cond.instanceMethod yX1_numberAt, Cond.selects RX1 yX1_numberAt yX1_numberAt, Cond.code yX1_numberAt cX1_numberAt 2 (some .int), Cond.methodLink RX2 159 yX2_personAt, Cond.instanceMethod yX2_personAt, Cond.selects RX2 yX2_personAt yX2_personAt, Cond.code yX2_personAt cX2_personAt 2 (some (.object "HalfTickets$Person")), Cond.methodLink RX2 131 yX1_remove, Cond.instanceMethod yX1_remove, Cond.selects RX1 yX1_remove yX1_remove, Cond.code yX1_remove cX1_remove 4 none, Cond.methodLink RX1 19 yX1_placeOf, Cond.instanceMethod yX1_placeOf, Cond.selects RX1 yX1_placeOf yX1_placeOf, Cond.code yX1_placeOf cX1_placeOf 3 (some .int), Cond.methodLink RX2 166 yX2_finishAt, Cond.instanceMethod yX2_finishAt, Cond.selects RX2 yX2_finishAt yX2_finishAt]
def wsX6_doneWithOneMoreAt_r5 : List Cond := [Cond.code yX2_finishAt cX2_finishAt 3 none, Cond.fieldLink RX2 170 "HalfTickets$Window" "servings" "I", Cond.fieldLink RX2 173 "HalfTickets$Person" "through" "I", Cond.fieldLink RX2 176 "HalfTickets$Person" "errandLength" "I", Cond.fieldLink RX2 72 "HalfTickets$Window" "halves" "I", Cond.fieldLink RX2 75 "HalfTickets$Person" "hasHalf" "Z", Cond.fieldLink RX2 81 "HalfTickets$Person" "sentBack" "I", Cond.fieldLink RX2 179 "HalfTickets$Window" "sentBack" "I", Cond.methodLink RX2 134 yX4_goAs, Cond.instanceMethod yX4_goAs, Cond.selects RX4 yX4_goAs yX4_goAs, Cond.code yX4_goAs cX4_goAs 3 none, Cond.methodLink RX2 122 yX2_joinQueue, Cond.instanceMethod yX2_joinQueue, Cond.selects RX2 yX2_joinQueue yX2_joinQueue, Cond.code yX2_joinQueue cX2_joinQueue 3 none, Cond.fieldLink RX2 69 "HalfTickets$Person" "where" "I", Cond.fieldLink RX2 125 "HalfTickets$Person" "waitsHere" "I", Cond.fieldLink RX2 92 "HalfTickets$Window" "queue" "LHalfTickets$Line;", Cond.methodLink RX2 84 yX4_standsAt, Cond.instanceMethod yX4_standsAt, Cond.selects RX4 yX4_standsAt yX4_standsAt, Cond.code yX4_standsAt cX4_standsAt 2 (some .int), Cond.methodLink RX2 88 yX2_windowAt]
def wsX6_doneWithOneMoreAt_r6 : List Cond := [Cond.methodLink RX2 128 yX1_append, Cond.instanceMethod yX1_append, Cond.selects RX1 yX1_append yX1_append, Cond.code yX1_append cX1_append 2 none, Cond.methodLink RX2 144 yX2_callAt, Cond.instanceMethod yX2_callAt, Cond.selects RX2 yX2_callAt yX2_callAt, Cond.code yX2_callAt cX2_callAt 5 none, Cond.fieldLink RX2 180 "HalfTickets$Window" "clerks" "I", Cond.methodLink RX2 147 yX2_waitInQueues, Cond.instanceMethod yX2_waitInQueues, Cond.selects RX2 yX2_waitInQueues yX2_waitInQueues, Cond.code yX2_waitInQueues cX2_waitInQueues 6 none, Cond.fieldLink RX2 78 "HalfTickets$Person" "waits" "I", Cond.methodLink RX2 183 yX2_sendAway, Cond.instanceMethod yX2_sendAway, Cond.selects RX2 yX2_sendAway yX2_sendAway, Cond.code yX2_sendAway cX2_sendAway 4 none, Cond.methodLink RX6 123 yX2_peopleWho, Cond.instanceMethod yX2_peopleWho, Cond.selects RX2 yX2_peopleWho yX2_peopleWho, Cond.code yX2_peopleWho cX2_peopleWho 7 (some .int)]
def wsX6_doneWithOneMoreAt : List Cond := .code yX6_doneWithOneMoreAt cX6_doneWithOneMoreAt 4 (some .int) :: ((wsX6_doneWithOneMoreAt_r1 ++ (wsX6_doneWithOneMoreAt_r2 ++ (wsX6_doneWithOneMoreAt_r3 ++ (wsX6_doneWithOneMoreAt_r4 ++ (wsX6_doneWithOneMoreAt_r5 ++ wsX6_doneWithOneMoreAt_r6))))) ++ wsX60 ++ wsX50 ++ wsX20 ++ wsX10 ++ wsX40)
def wsX6_bestClerk_r1 : List Cond := [Cond.fieldLink RX6 10 "HalfTickets" "now" "LHalfTickets$Ministry;", Cond.fieldLink RX6 72 "HalfTickets$Window" "clerks" "I", Cond.methodLink RX6 189 yX6_doneWithOneMoreAt, Cond.instanceMethod yX6_doneWithOneMoreAt, Cond.selects RX6 yX6_doneWithOneMoreAt yX6_doneWithOneMoreAt, Cond.initialized RX6, Cond.code yX6_doneWithOneMoreAt cX6_doneWithOneMoreAt 4 (some .int), Cond.fieldLink RX6 16 "HalfTickets" "trial" "LHalfTickets$Ministry;", Cond.methodLink RX6 186 yX2_become, Cond.instanceMethod yX2_become, Cond.selects RX2 yX2_become yX2_become, Cond.initialized RX2, Cond.code yX2_become cX2_become 3 none, Cond.fieldLink RX2 18 "HalfTickets$Ministry" "settings" "[I", Cond.methodLink RX2 39 arraycopyName, Cond.native arraycopyName, Cond.static arraycopyName, Cond.initialized "java/lang/System", Cond.fieldLink RX2 25 "HalfTickets$Ministry" "windows" "[LHalfTickets$Window;", Cond.fieldLink RX2 31 "HalfTickets$Ministry" "persons" "[LHalfTickets$Person;", Cond.fieldLink RX2 52 "HalfTickets$Ministry" "people" "I", Cond.fieldLink RX2 56 "HalfTickets$Ministry" "ticks" "I", Cond.fieldLink RX2 59 "HalfTickets$Ministry" "lost" "I", Cond.fieldLink RX2 62 "HalfTickets$Ministry" "brought" "I"]
def wsX6_bestClerk_r2 : List Cond := [Cond.methodLink RX2 45 yX5_become, Cond.instanceMethod yX5_become, Cond.selects RX5 yX5_become yX5_become, Cond.initialized RX5, Cond.code yX5_become cX5_become 2 none, Cond.fieldLink RX5 7 "HalfTickets$Window" "isOpen" "Z", Cond.fieldLink RX5 13 "HalfTickets$Window" "clerks" "I", Cond.fieldLink RX5 27 "HalfTickets$Window" "halves" "I", Cond.fieldLink RX5 30 "HalfTickets$Window" "servings" "I", Cond.fieldLink RX5 33 "HalfTickets$Window" "sentBack" "I", Cond.fieldLink RX5 20 "HalfTickets$Window" "queue" "LHalfTickets$Line;", Cond.fieldLink RX5 24 "HalfTickets$Window" "serving" "LHalfTickets$Line;", Cond.methodLink RX5 36 yX1_become, Cond.instanceMethod yX1_become, Cond.selects RX1 yX1_become yX1_become, Cond.initialized RX1, Cond.code yX1_become cX1_become 2 none, Cond.fieldLink RX1 9 "HalfTickets$Line" "numbers" "[I", Cond.methodLink RX1 23 arraycopyName, Cond.fieldLink RX1 15 "HalfTickets$Line" "length" "I", Cond.methodLink RX2 49 yX4_become, Cond.instanceMethod yX4_become, Cond.selects RX4 yX4_become yX4_become, Cond.initialized RX4]
def wsX6_bestClerk_r3 : List Cond := [Cond.code yX4_become cX4_become 2 none, Cond.fieldLink RX4 9 "HalfTickets$Person" "errand" "[I", Cond.methodLink RX4 25 arraycopyName, Cond.fieldLink RX4 31 "HalfTickets$Person" "errandLength" "I", Cond.fieldLink RX4 15 "HalfTickets$Person" "where" "I", Cond.fieldLink RX4 34 "HalfTickets$Person" "through" "I", Cond.fieldLink RX4 37 "HalfTickets$Person" "hasHalf" "Z", Cond.fieldLink RX4 41 "HalfTickets$Person" "servedFor" "I", Cond.fieldLink RX4 44 "HalfTickets$Person" "waits" "I", Cond.fieldLink RX4 47 "HalfTickets$Person" "waitsHere" "I", Cond.fieldLink RX4 50 "HalfTickets$Person" "sentBack" "I", Cond.fieldLink RX4 19 "HalfTickets$Person" "goneBehind" "I", Cond.fieldLink RX4 53 "HalfTickets$Person" "cameInThisTick" "Z", Cond.methodLink RX6 58 yX2_windowAt, Cond.instanceMethod yX2_windowAt, Cond.selects RX2 yX2_windowAt yX2_windowAt, Cond.code yX2_windowAt cX2_windowAt 2 (some (.object "HalfTickets$Window")), Cond.methodLink RX6 127 yX2_tick, Cond.instanceMethod yX2_tick, Cond.selects RX2 yX2_tick yX2_tick, Cond.code yX2_tick cX2_tick 5 none, Cond.fieldLink RX2 138 "HalfTickets$Person" "cameInThisTick" "Z", Cond.fieldLink RX2 65 "HalfTickets$Window" "isOpen" "Z", Cond.methodLink RX2 141 yX2_serveAt]
def wsX6_bestClerk_r4 : List Cond := [Cond.instanceMethod yX2_serveAt, Cond.selects RX2 yX2_serveAt yX2_serveAt, Cond.code yX2_serveAt cX2_serveAt 6 none, Cond.fieldLink RX2 150 "HalfTickets$Window" "serving" "LHalfTickets$Line;", Cond.fieldLink RX2 163 "HalfTickets$Person" "servedFor" "I", Cond.fieldLink RX2 96 "HalfTickets$Person" "number" "I", Cond.methodLink RX2 153 yX1_length, Cond.instanceMethod yX1_length, Cond.selects RX1 yX1_length yX1_length, Cond.code yX1_length cX1_length 1 (some .int), Cond.methodLink RX2 156 yX1_numberAt, Cond.instanceMethod yX1_numberAt, Cond.selects RX1 yX1_numberAt yX1_numberAt, Cond.code yX1_numberAt cX1_numberAt 2 (some .int), Cond.methodLink RX2 159 yX2_personAt, Cond.instanceMethod yX2_personAt, Cond.selects RX2 yX2_personAt yX2_personAt, Cond.code yX2_personAt cX2_personAt 2 (some (.object "HalfTickets$Person")), Cond.methodLink RX2 131 yX1_remove, Cond.instanceMethod yX1_remove, Cond.selects RX1 yX1_remove yX1_remove, Cond.code yX1_remove cX1_remove 4 none, Cond.methodLink RX1 19 yX1_placeOf, Cond.instanceMethod yX1_placeOf]
def wsX6_bestClerk_r5 : List Cond := [Cond.selects RX1 yX1_placeOf yX1_placeOf, Cond.code yX1_placeOf cX1_placeOf 3 (some .int), Cond.methodLink RX2 166 yX2_finishAt, Cond.instanceMethod yX2_finishAt, Cond.selects RX2 yX2_finishAt yX2_finishAt, Cond.code yX2_finishAt cX2_finishAt 3 none, Cond.fieldLink RX2 170 "HalfTickets$Window" "servings" "I", Cond.fieldLink RX2 173 "HalfTickets$Person" "through" "I", Cond.fieldLink RX2 176 "HalfTickets$Person" "errandLength" "I", Cond.fieldLink RX2 72 "HalfTickets$Window" "halves" "I", Cond.fieldLink RX2 75 "HalfTickets$Person" "hasHalf" "Z", Cond.fieldLink RX2 81 "HalfTickets$Person" "sentBack" "I", Cond.fieldLink RX2 179 "HalfTickets$Window" "sentBack" "I", Cond.methodLink RX2 134 yX4_goAs, Cond.instanceMethod yX4_goAs, Cond.selects RX4 yX4_goAs yX4_goAs, Cond.code yX4_goAs cX4_goAs 3 none, Cond.methodLink RX2 122 yX2_joinQueue, Cond.instanceMethod yX2_joinQueue, Cond.selects RX2 yX2_joinQueue yX2_joinQueue, Cond.code yX2_joinQueue cX2_joinQueue 3 none, Cond.fieldLink RX2 69 "HalfTickets$Person" "where" "I", Cond.fieldLink RX2 125 "HalfTickets$Person" "waitsHere" "I", Cond.fieldLink RX2 92 "HalfTickets$Window" "queue" "LHalfTickets$Line;"]
def wsX6_bestClerk_r6 : List Cond := [Cond.methodLink RX2 84 yX4_standsAt, Cond.instanceMethod yX4_standsAt, Cond.selects RX4 yX4_standsAt yX4_standsAt, Cond.code yX4_standsAt cX4_standsAt 2 (some .int), Cond.methodLink RX2 88 yX2_windowAt, Cond.methodLink RX2 128 yX1_append, Cond.instanceMethod yX1_append, Cond.selects RX1 yX1_append yX1_append, Cond.code yX1_append cX1_append 2 none, Cond.methodLink RX2 144 yX2_callAt, Cond.instanceMethod yX2_callAt, Cond.selects RX2 yX2_callAt yX2_callAt, Cond.code yX2_callAt cX2_callAt 5 none, Cond.fieldLink RX2 180 "HalfTickets$Window" "clerks" "I", Cond.methodLink RX2 147 yX2_waitInQueues, Cond.instanceMethod yX2_waitInQueues, Cond.selects RX2 yX2_waitInQueues yX2_waitInQueues, Cond.code yX2_waitInQueues cX2_waitInQueues 6 none, Cond.fieldLink RX2 78 "HalfTickets$Person" "waits" "I", Cond.methodLink RX2 183 yX2_sendAway, Cond.instanceMethod yX2_sendAway, Cond.selects RX2 yX2_sendAway yX2_sendAway, Cond.code yX2_sendAway cX2_sendAway 4 none, Cond.methodLink RX6 123 yX2_peopleWho]
def wsX6_bestClerk_r7 : List Cond := [Cond.instanceMethod yX2_peopleWho, Cond.selects RX2 yX2_peopleWho yX2_peopleWho, Cond.code yX2_peopleWho cX2_peopleWho 7 (some .int)]
def wsX6_bestClerk : List Cond := .code yX6_bestClerk cX6_bestClerk 6 (some .int) :: ((wsX6_bestClerk_r1 ++ (wsX6_bestClerk_r2 ++ (wsX6_bestClerk_r3 ++ (wsX6_bestClerk_r4 ++ (wsX6_bestClerk_r5 ++ (wsX6_bestClerk_r6 ++ wsX6_bestClerk_r7)))))) ++ wsX60 ++ wsX50 ++ wsX20 ++ wsX10 ++ wsX40)
def wsX6_longest : List Cond := .code yX6_longest cX6_longest 5 (some .int) :: ([.fieldLink RX6 10 "HalfTickets" "now" "LHalfTickets$Ministry;", .fieldLink RX6 152 "HalfTickets$Window" "queue" "LHalfTickets$Line;", .methodLink RX6 58 yX2_windowAt, .instanceMethod yX2_windowAt, .selects RX2 yX2_windowAt yX2_windowAt, .initialized RX2, .code yX2_windowAt cX2_windowAt 2 (some (.object "HalfTickets$Window")), .fieldLink RX2 25 "HalfTickets$Ministry" "windows" "[LHalfTickets$Window;", .methodLink RX6 156 yX1_length, .instanceMethod yX1_length, .selects RX1 yX1_length yX1_length, .initialized RX1, .code yX1_length cX1_length 1 (some .int), .fieldLink RX1 15 "HalfTickets$Line" "length" "I"] ++ wsX60 ++ wsX50 ++ wsX20 ++ wsX10)
def wsX6_put : List Cond := .code yX6_put cX6_put 4 (some .int) :: ([.fieldLink RX6 37 "HalfTickets" "pad" "LHalfTickets$Pad;", .methodLink RX6 192 yX3_charactersIn, .static yX3_charactersIn, .initialized RX3, .code yX3_charactersIn cX3_charactersIn 8 (some .int), .constantLong RX3 15 (255), .constantLong RX3 17 (33), .constantLong RX3 19 (126), .methodLink RX6 182 yX3_length, .instanceMethod yX3_length, .selects RX3 yX3_length yX3_length, .code yX3_length cX3_length 1 (some .int), .fieldLink RX3 21 "HalfTickets$Pad" "length" "I", .methodLink RX6 196 yX3_append, .instanceMethod yX3_append, .selects RX3 yX3_append yX3_append, .code yX3_append cX3_append 5 none, .fieldLink RX3 9 "HalfTickets$Pad" "text" "[C"] ++ wsX60 ++ wsX30)
def wsX6_wipe : List Cond := .code yX6_wipe cX6_wipe 2 (some .int) :: ([.fieldLink RX6 37 "HalfTickets" "pad" "LHalfTickets$Pad;", .methodLink RX6 182 yX3_length, .instanceMethod yX3_length, .selects RX3 yX3_length yX3_length, .initialized RX3, .code yX3_length cX3_length 1 (some .int), .fieldLink RX3 21 "HalfTickets$Pad" "length" "I", .methodLink RX6 101 yX3_clear, .instanceMethod yX3_clear, .selects RX3 yX3_clear yX3_clear, .code yX3_clear cX3_clear 1 none] ++ wsX60 ++ wsX30)
def wsX6_save_r1 : List Cond := [Cond.fieldLink RX6 26 "HalfTickets" "slots" "[LHalfTickets$Ministry;", Cond.fieldLink RX6 10 "HalfTickets" "now" "LHalfTickets$Ministry;", Cond.fieldLink RX6 30 "HalfTickets" "isSaved" "[Z", Cond.fieldLink RX6 113 "HalfTickets$Ministry" "ticks" "I", Cond.methodLink RX6 186 yX2_become, Cond.instanceMethod yX2_become, Cond.selects RX2 yX2_become yX2_become, Cond.initialized RX2, Cond.code yX2_become cX2_become 3 none, Cond.fieldLink RX2 18 "HalfTickets$Ministry" "settings" "[I", Cond.methodLink RX2 39 arraycopyName, Cond.native arraycopyName, Cond.static arraycopyName, Cond.initialized "java/lang/System", Cond.fieldLink RX2 25 "HalfTickets$Ministry" "windows" "[LHalfTickets$Window;", Cond.fieldLink RX2 31 "HalfTickets$Ministry" "persons" "[LHalfTickets$Person;", Cond.fieldLink RX2 52 "HalfTickets$Ministry" "people" "I", Cond.fieldLink RX2 56 "HalfTickets$Ministry" "ticks" "I", Cond.fieldLink RX2 59 "HalfTickets$Ministry" "lost" "I", Cond.fieldLink RX2 62 "HalfTickets$Ministry" "brought" "I", Cond.methodLink RX2 45 yX5_become, Cond.instanceMethod yX5_become, Cond.selects RX5 yX5_become yX5_become, Cond.initialized RX5]
def wsX6_save_r2 : List Cond := [Cond.code yX5_become cX5_become 2 none, Cond.fieldLink RX5 7 "HalfTickets$Window" "isOpen" "Z", Cond.fieldLink RX5 13 "HalfTickets$Window" "clerks" "I", Cond.fieldLink RX5 27 "HalfTickets$Window" "halves" "I", Cond.fieldLink RX5 30 "HalfTickets$Window" "servings" "I", Cond.fieldLink RX5 33 "HalfTickets$Window" "sentBack" "I", Cond.fieldLink RX5 20 "HalfTickets$Window" "queue" "LHalfTickets$Line;", Cond.fieldLink RX5 24 "HalfTickets$Window" "serving" "LHalfTickets$Line;", Cond.methodLink RX5 36 yX1_become, Cond.instanceMethod yX1_become, Cond.selects RX1 yX1_become yX1_become, Cond.initialized RX1, Cond.code yX1_become cX1_become 2 none, Cond.fieldLink RX1 9 "HalfTickets$Line" "numbers" "[I", Cond.methodLink RX1 23 arraycopyName, Cond.fieldLink RX1 15 "HalfTickets$Line" "length" "I", Cond.methodLink RX2 49 yX4_become, Cond.instanceMethod yX4_become, Cond.selects RX4 yX4_become yX4_become, Cond.initialized RX4, Cond.code yX4_become cX4_become 2 none, Cond.fieldLink RX4 9 "HalfTickets$Person" "errand" "[I", Cond.methodLink RX4 25 arraycopyName, Cond.fieldLink RX4 31 "HalfTickets$Person" "errandLength" "I"]
def wsX6_save_r3 : List Cond := [Cond.fieldLink RX4 15 "HalfTickets$Person" "where" "I", Cond.fieldLink RX4 34 "HalfTickets$Person" "through" "I", Cond.fieldLink RX4 37 "HalfTickets$Person" "hasHalf" "Z", Cond.fieldLink RX4 41 "HalfTickets$Person" "servedFor" "I", Cond.fieldLink RX4 44 "HalfTickets$Person" "waits" "I", Cond.fieldLink RX4 47 "HalfTickets$Person" "waitsHere" "I", Cond.fieldLink RX4 50 "HalfTickets$Person" "sentBack" "I", Cond.fieldLink RX4 19 "HalfTickets$Person" "goneBehind" "I", Cond.fieldLink RX4 53 "HalfTickets$Person" "cameInThisTick" "Z"]
def wsX6_save : List Cond := .code yX6_save cX6_save 2 (some .int) :: ((wsX6_save_r1 ++ (wsX6_save_r2 ++ wsX6_save_r3)) ++ wsX60 ++ wsX20 ++ wsX50 ++ wsX10 ++ wsX40)
def wsX6_restore_r1 : List Cond := [Cond.fieldLink RX6 30 "HalfTickets" "isSaved" "[Z", Cond.fieldLink RX6 22 "HalfTickets" "history" "LHalfTickets$History;", Cond.fieldLink RX6 10 "HalfTickets" "now" "LHalfTickets$Ministry;", Cond.fieldLink RX6 26 "HalfTickets" "slots" "[LHalfTickets$Ministry;", Cond.fieldLink RX6 113 "HalfTickets$Ministry" "ticks" "I", Cond.methodLink RX6 51 yX0_remember, Cond.instanceMethod yX0_remember, Cond.selects RX0 yX0_remember yX0_remember, Cond.initialized RX0, Cond.code yX0_remember cX0_remember 2 none, Cond.fieldLink RX0 22 "HalfTickets$History" "next" "I", Cond.fieldLink RX0 11 "HalfTickets$History" "states" "[LHalfTickets$Ministry;", Cond.fieldLink RX0 18 "HalfTickets$History" "kept" "I", Cond.methodLink RX0 29 Lib.Math.min.name, Cond.static Lib.Math.min.name, Cond.initialized "java/lang/Math", Cond.code Lib.Math.min.name Lib.Math.min.code 2 (some .int), Cond.methodLink RX0 25 yX2_become, Cond.instanceMethod yX2_become, Cond.selects RX2 yX2_become yX2_become, Cond.initialized RX2, Cond.code yX2_become cX2_become 3 none, Cond.fieldLink RX2 18 "HalfTickets$Ministry" "settings" "[I", Cond.methodLink RX2 39 arraycopyName]
def wsX6_restore_r2 : List Cond := [Cond.native arraycopyName, Cond.static arraycopyName, Cond.initialized "java/lang/System", Cond.fieldLink RX2 25 "HalfTickets$Ministry" "windows" "[LHalfTickets$Window;", Cond.fieldLink RX2 31 "HalfTickets$Ministry" "persons" "[LHalfTickets$Person;", Cond.fieldLink RX2 52 "HalfTickets$Ministry" "people" "I", Cond.fieldLink RX2 56 "HalfTickets$Ministry" "ticks" "I", Cond.fieldLink RX2 59 "HalfTickets$Ministry" "lost" "I", Cond.fieldLink RX2 62 "HalfTickets$Ministry" "brought" "I", Cond.methodLink RX2 45 yX5_become, Cond.instanceMethod yX5_become, Cond.selects RX5 yX5_become yX5_become, Cond.initialized RX5, Cond.code yX5_become cX5_become 2 none, Cond.fieldLink RX5 7 "HalfTickets$Window" "isOpen" "Z", Cond.fieldLink RX5 13 "HalfTickets$Window" "clerks" "I", Cond.fieldLink RX5 27 "HalfTickets$Window" "halves" "I", Cond.fieldLink RX5 30 "HalfTickets$Window" "servings" "I", Cond.fieldLink RX5 33 "HalfTickets$Window" "sentBack" "I", Cond.fieldLink RX5 20 "HalfTickets$Window" "queue" "LHalfTickets$Line;", Cond.fieldLink RX5 24 "HalfTickets$Window" "serving" "LHalfTickets$Line;", Cond.methodLink RX5 36 yX1_become, Cond.instanceMethod yX1_become, Cond.selects RX1 yX1_become yX1_become]
def wsX6_restore_r3 : List Cond := [Cond.initialized RX1, Cond.code yX1_become cX1_become 2 none, Cond.fieldLink RX1 9 "HalfTickets$Line" "numbers" "[I", Cond.methodLink RX1 23 arraycopyName, Cond.fieldLink RX1 15 "HalfTickets$Line" "length" "I", Cond.methodLink RX2 49 yX4_become, Cond.instanceMethod yX4_become, Cond.selects RX4 yX4_become yX4_become, Cond.initialized RX4, Cond.code yX4_become cX4_become 2 none, Cond.fieldLink RX4 9 "HalfTickets$Person" "errand" "[I", Cond.methodLink RX4 25 arraycopyName, Cond.fieldLink RX4 31 "HalfTickets$Person" "errandLength" "I", Cond.fieldLink RX4 15 "HalfTickets$Person" "where" "I", Cond.fieldLink RX4 34 "HalfTickets$Person" "through" "I", Cond.fieldLink RX4 37 "HalfTickets$Person" "hasHalf" "Z", Cond.fieldLink RX4 41 "HalfTickets$Person" "servedFor" "I", Cond.fieldLink RX4 44 "HalfTickets$Person" "waits" "I", Cond.fieldLink RX4 47 "HalfTickets$Person" "waitsHere" "I", Cond.fieldLink RX4 50 "HalfTickets$Person" "sentBack" "I", Cond.fieldLink RX4 19 "HalfTickets$Person" "goneBehind" "I", Cond.fieldLink RX4 53 "HalfTickets$Person" "cameInThisTick" "Z", Cond.methodLink RX6 186 yX2_become]
def wsX6_restore : List Cond := .code yX6_restore cX6_restore 2 (some .int) :: ((wsX6_restore_r1 ++ (wsX6_restore_r2 ++ wsX6_restore_r3)) ++ wsX60 ++ wsX20 ++ wsX00 ++ wsX50 ++ wsX10 ++ wsX40)
def wsJ9_max_7cf53 : List Cond := .code yJ9_max_7cf53 cJ9_max_7cf53 2 (some .int) :: ([])
def wsJ9_min_7cf53 : List Cond := .code yJ9_min_7cf53 cJ9_min_7cf53 2 (some .int) :: ([])
def wsL_cell : List Cond := .code yL_cell cL_cell 2 (some .int) :: ([.constant RL 7 (2143413209)])
def wsL_up : List Cond := .code yL_up cL_up 2 (some .int) :: ([.constant RL 8 (2147483647)])
def wsL_isRead_r1 : List Cond := [Cond.constantLong RL 25 (48), Cond.constantLong RL 31 (44), Cond.methodLink RL 9 yX6_wipe, Cond.instanceMethod yX6_wipe, Cond.selects RX6 yX6_wipe yX6_wipe, Cond.initialized RX6, Cond.code yX6_wipe cX6_wipe 2 (some .int), Cond.fieldLink RX6 37 "HalfTickets" "pad" "LHalfTickets$Pad;", Cond.methodLink RX6 182 yX3_length, Cond.instanceMethod yX3_length, Cond.selects RX3 yX3_length yX3_length, Cond.initialized RX3, Cond.code yX3_length cX3_length 1 (some .int), Cond.fieldLink RX3 21 "HalfTickets$Pad" "length" "I", Cond.methodLink RX6 101 yX3_clear, Cond.instanceMethod yX3_clear, Cond.selects RX3 yX3_clear yX3_clear, Cond.code yX3_clear cX3_clear 1 none, Cond.methodLink RL 15 yX6_count, Cond.instanceMethod yX6_count, Cond.selects RX6 yX6_count yX6_count, Cond.code yX6_count cX6_count 2 (some .int), Cond.fieldLink RX6 10 "HalfTickets" "now" "LHalfTickets$Ministry;", Cond.fieldLink RX6 55 "HalfTickets$Ministry" "settings" "[I"]
def wsL_isRead_r2 : List Cond := [Cond.fieldLink RX6 113 "HalfTickets$Ministry" "ticks" "I", Cond.fieldLink RX6 91 "HalfTickets$Ministry" "people" "I", Cond.fieldLink RX6 174 "HalfTickets$Ministry" "lost" "I", Cond.fieldLink RX6 85 "HalfTickets$Ministry" "brought" "I", Cond.fieldLink RX6 22 "HalfTickets" "history" "LHalfTickets$History;", Cond.methodLink RX6 123 yX2_peopleWho, Cond.instanceMethod yX2_peopleWho, Cond.selects RX2 yX2_peopleWho yX2_peopleWho, Cond.initialized RX2, Cond.code yX2_peopleWho cX2_peopleWho 7 (some .int), Cond.fieldLink RX2 31 "HalfTickets$Ministry" "persons" "[LHalfTickets$Person;", Cond.fieldLink RX2 69 "HalfTickets$Person" "where" "I", Cond.methodLink RX6 168 yX2_halvesOfWindows, Cond.instanceMethod yX2_halvesOfWindows, Cond.selects RX2 yX2_halvesOfWindows yX2_halvesOfWindows, Cond.code yX2_halvesOfWindows cX2_halvesOfWindows 6 (some .int), Cond.fieldLink RX2 25 "HalfTickets$Ministry" "windows" "[LHalfTickets$Window;", Cond.fieldLink RX2 72 "HalfTickets$Window" "halves" "I", Cond.methodLink RX6 171 yX2_halvesOfPeople, Cond.instanceMethod yX2_halvesOfPeople, Cond.selects RX2 yX2_halvesOfPeople yX2_halvesOfPeople, Cond.code yX2_halvesOfPeople cX2_halvesOfPeople 6 (some .int), Cond.fieldLink RX2 75 "HalfTickets$Person" "hasHalf" "Z", Cond.methodLink RX6 177 yX2_waits]
def wsL_isRead_r3 : List Cond := [Cond.instanceMethod yX2_waits, Cond.selects RX2 yX2_waits yX2_waits, Cond.code yX2_waits cX2_waits 6 (some .int), Cond.fieldLink RX2 78 "HalfTickets$Person" "waits" "I", Cond.methodLink RX6 179 yX2_timesSentBack, Cond.instanceMethod yX2_timesSentBack, Cond.selects RX2 yX2_timesSentBack yX2_timesSentBack, Cond.code yX2_timesSentBack cX2_timesSentBack 6 (some .int), Cond.fieldLink RX2 81 "HalfTickets$Person" "sentBack" "I", Cond.methodLink RX6 183 yX0_kept, Cond.instanceMethod yX0_kept, Cond.selects RX0 yX0_kept yX0_kept, Cond.initialized RX0, Cond.code yX0_kept cX0_kept 1 (some .int), Cond.fieldLink RX0 18 "HalfTickets$History" "kept" "I", Cond.methodLink RL 19 yL_up, Cond.static yL_up, Cond.initialized RL, Cond.code yL_up cL_up 2 (some .int), Cond.constant RL 8 (2147483647), Cond.methodLink RL 27 yX6_put, Cond.instanceMethod yX6_put, Cond.selects RX6 yX6_put yX6_put, Cond.code yX6_put cX6_put 4 (some .int)]
def wsL_isRead_r4 : List Cond := [Cond.methodLink RX6 192 yX3_charactersIn, Cond.static yX3_charactersIn, Cond.code yX3_charactersIn cX3_charactersIn 8 (some .int), Cond.constantLong RX3 15 (255), Cond.constantLong RX3 17 (33), Cond.constantLong RX3 19 (126), Cond.methodLink RX6 196 yX3_append, Cond.instanceMethod yX3_append, Cond.selects RX3 yX3_append yX3_append, Cond.code yX3_append cX3_append 5 none, Cond.fieldLink RX3 9 "HalfTickets$Pad" "text" "[C", Cond.methodLink RL 33 yX6_read, Cond.instanceMethod yX6_read, Cond.selects RX6 yX6_read yX6_read, Cond.code yX6_read cX6_read 1 (some .int), Cond.methodLink RX6 88 yX3_firstFault, Cond.instanceMethod yX3_firstFault, Cond.selects RX3 yX3_firstFault yX3_firstFault, Cond.code yX3_firstFault cX3_firstFault 4 (some .int), Cond.methodLink RX3 25 yX3_isWindow, Cond.static yX3_isWindow, Cond.code yX3_isWindow cX3_isWindow 1 (some .boolean), Cond.methodLink RX3 29 yX3_repeatsAt, Cond.instanceMethod yX3_repeatsAt]
def wsL_isRead_r5 : List Cond := [Cond.selects RX3 yX3_repeatsAt yX3_repeatsAt, Cond.code yX3_repeatsAt cX3_repeatsAt 2 (some .boolean), Cond.methodLink RX6 94 yX3_errands, Cond.instanceMethod yX3_errands, Cond.selects RX3 yX3_errands yX3_errands, Cond.code yX3_errands cX3_errands 3 (some .int), Cond.methodLink RX6 51 yX0_remember, Cond.instanceMethod yX0_remember, Cond.selects RX0 yX0_remember yX0_remember, Cond.code yX0_remember cX0_remember 2 none, Cond.fieldLink RX0 22 "HalfTickets$History" "next" "I", Cond.fieldLink RX0 11 "HalfTickets$History" "states" "[LHalfTickets$Ministry;", Cond.methodLink RX0 29 Lib.Math.min.name, Cond.static Lib.Math.min.name, Cond.initialized "java/lang/Math", Cond.code Lib.Math.min.name Lib.Math.min.code 2 (some .int), Cond.methodLink RX0 25 yX2_become, Cond.instanceMethod yX2_become, Cond.selects RX2 yX2_become yX2_become, Cond.code yX2_become cX2_become 3 none, Cond.fieldLink RX2 18 "HalfTickets$Ministry" "settings" "[I", Cond.methodLink RX2 39 arraycopyName, Cond.native arraycopyName, Cond.static arraycopyName]
def wsL_isRead_r6 : List Cond := [Cond.initialized "java/lang/System", Cond.fieldLink RX2 52 "HalfTickets$Ministry" "people" "I", Cond.fieldLink RX2 56 "HalfTickets$Ministry" "ticks" "I", Cond.fieldLink RX2 59 "HalfTickets$Ministry" "lost" "I", Cond.fieldLink RX2 62 "HalfTickets$Ministry" "brought" "I", Cond.methodLink RX2 45 yX5_become, Cond.instanceMethod yX5_become, Cond.selects RX5 yX5_become yX5_become, Cond.initialized RX5, Cond.code yX5_become cX5_become 2 none, Cond.fieldLink RX5 7 "HalfTickets$Window" "isOpen" "Z", Cond.fieldLink RX5 13 "HalfTickets$Window" "clerks" "I", Cond.fieldLink RX5 27 "HalfTickets$Window" "halves" "I", Cond.fieldLink RX5 30 "HalfTickets$Window" "servings" "I", Cond.fieldLink RX5 33 "HalfTickets$Window" "sentBack" "I", Cond.fieldLink RX5 20 "HalfTickets$Window" "queue" "LHalfTickets$Line;", Cond.fieldLink RX5 24 "HalfTickets$Window" "serving" "LHalfTickets$Line;", Cond.methodLink RX5 36 yX1_become, Cond.instanceMethod yX1_become, Cond.selects RX1 yX1_become yX1_become, Cond.initialized RX1, Cond.code yX1_become cX1_become 2 none, Cond.fieldLink RX1 9 "HalfTickets$Line" "numbers" "[I", Cond.methodLink RX1 23 arraycopyName]
def wsL_isRead_r7 : List Cond := [Cond.fieldLink RX1 15 "HalfTickets$Line" "length" "I", Cond.methodLink RX2 49 yX4_become, Cond.instanceMethod yX4_become, Cond.selects RX4 yX4_become yX4_become, Cond.initialized RX4, Cond.code yX4_become cX4_become 2 none, Cond.fieldLink RX4 9 "HalfTickets$Person" "errand" "[I", Cond.methodLink RX4 25 arraycopyName, Cond.fieldLink RX4 31 "HalfTickets$Person" "errandLength" "I", Cond.fieldLink RX4 15 "HalfTickets$Person" "where" "I", Cond.fieldLink RX4 34 "HalfTickets$Person" "through" "I", Cond.fieldLink RX4 37 "HalfTickets$Person" "hasHalf" "Z", Cond.fieldLink RX4 41 "HalfTickets$Person" "servedFor" "I", Cond.fieldLink RX4 44 "HalfTickets$Person" "waits" "I", Cond.fieldLink RX4 47 "HalfTickets$Person" "waitsHere" "I", Cond.fieldLink RX4 50 "HalfTickets$Person" "sentBack" "I", Cond.fieldLink RX4 19 "HalfTickets$Person" "goneBehind" "I", Cond.fieldLink RX4 53 "HalfTickets$Person" "cameInThisTick" "Z", Cond.methodLink RX6 97 yX2_admitAll, Cond.instanceMethod yX2_admitAll, Cond.selects RX2 yX2_admitAll yX2_admitAll, Cond.code yX2_admitAll cX2_admitAll 6 none, Cond.methodLink RX2 105 yX3_errands, Cond.methodLink RX2 110 yX3_endOfErrand]
def wsL_isRead_r8 : List Cond := [Cond.instanceMethod yX3_endOfErrand, Cond.selects RX3 yX3_endOfErrand yX3_endOfErrand, Cond.code yX3_endOfErrand cX3_endOfErrand 3 (some .int), Cond.methodLink RX3 33 Lib.Math.max.name, Cond.static Lib.Math.max.name, Cond.code Lib.Math.max.name Lib.Math.max.code 2 (some .int), Cond.methodLink RX2 113 yX2_admit, Cond.instanceMethod yX2_admit, Cond.selects RX2 yX2_admit yX2_admit, Cond.code yX2_admit cX2_admit 6 none, Cond.methodLink RX2 117 yX3_windowAt, Cond.instanceMethod yX3_windowAt, Cond.selects RX3 yX3_windowAt yX3_windowAt, Cond.code yX3_windowAt cX3_windowAt 2 (some .int), Cond.methodLink RX2 119 yX4_addToErrand, Cond.instanceMethod yX4_addToErrand, Cond.selects RX4 yX4_addToErrand yX4_addToErrand, Cond.code yX4_addToErrand cX4_addToErrand 2 none, Cond.methodLink RX2 122 yX2_joinQueue, Cond.instanceMethod yX2_joinQueue, Cond.selects RX2 yX2_joinQueue yX2_joinQueue, Cond.code yX2_joinQueue cX2_joinQueue 3 none, Cond.fieldLink RX2 125 "HalfTickets$Person" "waitsHere" "I", Cond.fieldLink RX2 92 "HalfTickets$Window" "queue" "LHalfTickets$Line;"]
def wsL_isRead_r9 : List Cond := [Cond.fieldLink RX2 96 "HalfTickets$Person" "number" "I", Cond.methodLink RX2 84 yX4_standsAt, Cond.instanceMethod yX4_standsAt, Cond.selects RX4 yX4_standsAt yX4_standsAt, Cond.code yX4_standsAt cX4_standsAt 2 (some .int), Cond.methodLink RX2 88 yX2_windowAt, Cond.instanceMethod yX2_windowAt, Cond.selects RX2 yX2_windowAt yX2_windowAt, Cond.code yX2_windowAt cX2_windowAt 2 (some (.object "HalfTickets$Window")), Cond.methodLink RX2 128 yX1_append, Cond.instanceMethod yX1_append, Cond.selects RX1 yX1_append yX1_append, Cond.code yX1_append cX1_append 2 none, Cond.methodLink RL 36 yX6_person, Cond.instanceMethod yX6_person, Cond.selects RX6 yX6_person yX6_person, Cond.code yX6_person cX6_person 4 (some .int), Cond.fieldLink RX6 108 "HalfTickets$Person" "where" "I", Cond.fieldLink RX6 137 "HalfTickets$Person" "hasHalf" "Z", Cond.fieldLink RX6 120 "HalfTickets$Person" "through" "I", Cond.fieldLink RX6 140 "HalfTickets$Person" "errandLength" "I", Cond.fieldLink RX6 143 "HalfTickets$Person" "waits" "I", Cond.fieldLink RX6 146 "HalfTickets$Person" "sentBack" "I", Cond.fieldLink RX6 149 "HalfTickets$Person" "goneBehind" "I"]
def wsL_isRead_r10 : List Cond := [Cond.methodLink RX6 104 yX2_personAt, Cond.instanceMethod yX2_personAt, Cond.selects RX2 yX2_personAt yX2_personAt, Cond.code yX2_personAt cX2_personAt 2 (some (.object "HalfTickets$Person")), Cond.methodLink RX6 130 yX4_standsAt, Cond.methodLink RX6 133 yX2_placeInQueue, Cond.instanceMethod yX2_placeInQueue, Cond.selects RX2 yX2_placeInQueue yX2_placeInQueue, Cond.code yX2_placeInQueue cX2_placeInQueue 3 (some .int), Cond.methodLink RX2 99 yX1_placeOf, Cond.instanceMethod yX1_placeOf, Cond.selects RX1 yX1_placeOf yX1_placeOf, Cond.code yX1_placeOf cX1_placeOf 3 (some .int)]
def wsL_isRead : List Cond := .code yL_isRead cL_isRead 13 (some .boolean) :: ((wsL_isRead_r1 ++ (wsL_isRead_r2 ++ (wsL_isRead_r3 ++ (wsL_isRead_r4 ++ (wsL_isRead_r5 ++ (wsL_isRead_r6 ++ (wsL_isRead_r7 ++ (wsL_isRead_r8 ++ (wsL_isRead_r9 ++ wsL_isRead_r10))))))))) ++ wsX60 ++ wsX30 ++ wsX20 ++ wsX40 ++ wsX50 ++ wsX00 ++ wsX10)
def wsL_isStep_r1 : List Cond := [Cond.methodLink RL 19 yL_up, Cond.static yL_up, Cond.initialized RL, Cond.code yL_up cL_up 2 (some .int), Cond.constant RL 8 (2147483647), Cond.methodLink RL 15 yX6_count, Cond.instanceMethod yX6_count, Cond.selects RX6 yX6_count yX6_count, Cond.initialized RX6, Cond.code yX6_count cX6_count 2 (some .int), Cond.fieldLink RX6 10 "HalfTickets" "now" "LHalfTickets$Ministry;", Cond.fieldLink RX6 55 "HalfTickets$Ministry" "settings" "[I", Cond.fieldLink RX6 113 "HalfTickets$Ministry" "ticks" "I", Cond.fieldLink RX6 91 "HalfTickets$Ministry" "people" "I", Cond.fieldLink RX6 174 "HalfTickets$Ministry" "lost" "I", Cond.fieldLink RX6 85 "HalfTickets$Ministry" "brought" "I", Cond.fieldLink RX6 37 "HalfTickets" "pad" "LHalfTickets$Pad;", Cond.fieldLink RX6 22 "HalfTickets" "history" "LHalfTickets$History;", Cond.methodLink RX6 123 yX2_peopleWho, Cond.instanceMethod yX2_peopleWho, Cond.selects RX2 yX2_peopleWho yX2_peopleWho, Cond.initialized RX2, Cond.code yX2_peopleWho cX2_peopleWho 7 (some .int), Cond.fieldLink RX2 31 "HalfTickets$Ministry" "persons" "[LHalfTickets$Person;"]
def wsL_isStep_r2 : List Cond := [Cond.fieldLink RX2 69 "HalfTickets$Person" "where" "I", Cond.methodLink RX6 168 yX2_halvesOfWindows, Cond.instanceMethod yX2_halvesOfWindows, Cond.selects RX2 yX2_halvesOfWindows yX2_halvesOfWindows, Cond.code yX2_halvesOfWindows cX2_halvesOfWindows 6 (some .int), Cond.fieldLink RX2 25 "HalfTickets$Ministry" "windows" "[LHalfTickets$Window;", Cond.fieldLink RX2 72 "HalfTickets$Window" "halves" "I", Cond.methodLink RX6 171 yX2_halvesOfPeople, Cond.instanceMethod yX2_halvesOfPeople, Cond.selects RX2 yX2_halvesOfPeople yX2_halvesOfPeople, Cond.code yX2_halvesOfPeople cX2_halvesOfPeople 6 (some .int), Cond.fieldLink RX2 75 "HalfTickets$Person" "hasHalf" "Z", Cond.methodLink RX6 177 yX2_waits, Cond.instanceMethod yX2_waits, Cond.selects RX2 yX2_waits yX2_waits, Cond.code yX2_waits cX2_waits 6 (some .int), Cond.fieldLink RX2 78 "HalfTickets$Person" "waits" "I", Cond.methodLink RX6 179 yX2_timesSentBack, Cond.instanceMethod yX2_timesSentBack, Cond.selects RX2 yX2_timesSentBack yX2_timesSentBack, Cond.code yX2_timesSentBack cX2_timesSentBack 6 (some .int), Cond.fieldLink RX2 81 "HalfTickets$Person" "sentBack" "I", Cond.methodLink RX6 182 yX3_length, Cond.instanceMethod yX3_length]
def wsL_isStep_r3 : List Cond := [Cond.selects RX3 yX3_length yX3_length, Cond.initialized RX3, Cond.code yX3_length cX3_length 1 (some .int), Cond.fieldLink RX3 21 "HalfTickets$Pad" "length" "I", Cond.methodLink RX6 183 yX0_kept, Cond.instanceMethod yX0_kept, Cond.selects RX0 yX0_kept yX0_kept, Cond.initialized RX0, Cond.code yX0_kept cX0_kept 1 (some .int), Cond.fieldLink RX0 18 "HalfTickets$History" "kept" "I", Cond.methodLink RL 39 yX6_set, Cond.instanceMethod yX6_set, Cond.selects RX6 yX6_set yX6_set, Cond.code yX6_set cX6_set 4 (some .int), Cond.fieldLink RX6 41 "HalfTickets" "FIRST_SETTING" "[I", Cond.fieldLink RX6 45 "HalfTickets" "LOWEST_SETTING" "[I", Cond.fieldLink RX6 48 "HalfTickets" "HIGHEST_SETTING" "[I", Cond.methodLink RX6 51 yX0_remember, Cond.instanceMethod yX0_remember, Cond.selects RX0 yX0_remember yX0_remember, Cond.code yX0_remember cX0_remember 2 none, Cond.fieldLink RX0 22 "HalfTickets$History" "next" "I", Cond.fieldLink RX0 11 "HalfTickets$History" "states" "[LHalfTickets$Ministry;", Cond.methodLink RX0 29 Lib.Math.min.name]
def wsL_isStep_r4 : List Cond := [Cond.static Lib.Math.min.name, Cond.initialized "java/lang/Math", Cond.code Lib.Math.min.name Lib.Math.min.code 2 (some .int), Cond.methodLink RX0 25 yX2_become, Cond.instanceMethod yX2_become, Cond.selects RX2 yX2_become yX2_become, Cond.code yX2_become cX2_become 3 none, Cond.fieldLink RX2 18 "HalfTickets$Ministry" "settings" "[I", Cond.methodLink RX2 39 arraycopyName, Cond.native arraycopyName, Cond.static arraycopyName, Cond.initialized "java/lang/System", Cond.fieldLink RX2 52 "HalfTickets$Ministry" "people" "I", Cond.fieldLink RX2 56 "HalfTickets$Ministry" "ticks" "I", Cond.fieldLink RX2 59 "HalfTickets$Ministry" "lost" "I", Cond.fieldLink RX2 62 "HalfTickets$Ministry" "brought" "I", Cond.methodLink RX2 45 yX5_become, Cond.instanceMethod yX5_become, Cond.selects RX5 yX5_become yX5_become, Cond.initialized RX5, Cond.code yX5_become cX5_become 2 none, Cond.fieldLink RX5 7 "HalfTickets$Window" "isOpen" "Z", Cond.fieldLink RX5 13 "HalfTickets$Window" "clerks" "I", Cond.fieldLink RX5 27 "HalfTickets$Window" "halves" "I"]
def wsL_isStep_r5 : List Cond := [Cond.fieldLink RX5 30 "HalfTickets$Window" "servings" "I", Cond.fieldLink RX5 33 "HalfTickets$Window" "sentBack" "I", Cond.fieldLink RX5 20 "HalfTickets$Window" "queue" "LHalfTickets$Line;", Cond.fieldLink RX5 24 "HalfTickets$Window" "serving" "LHalfTickets$Line;", Cond.methodLink RX5 36 yX1_become, Cond.instanceMethod yX1_become, Cond.selects RX1 yX1_become yX1_become, Cond.initialized RX1, Cond.code yX1_become cX1_become 2 none, Cond.fieldLink RX1 9 "HalfTickets$Line" "numbers" "[I", Cond.methodLink RX1 23 arraycopyName, Cond.fieldLink RX1 15 "HalfTickets$Line" "length" "I", Cond.methodLink RX2 49 yX4_become, Cond.instanceMethod yX4_become, Cond.selects RX4 yX4_become yX4_become, Cond.initialized RX4, Cond.code yX4_become cX4_become 2 none, Cond.fieldLink RX4 9 "HalfTickets$Person" "errand" "[I", Cond.methodLink RX4 25 arraycopyName, Cond.fieldLink RX4 31 "HalfTickets$Person" "errandLength" "I", Cond.fieldLink RX4 15 "HalfTickets$Person" "where" "I", Cond.fieldLink RX4 34 "HalfTickets$Person" "through" "I", Cond.fieldLink RX4 37 "HalfTickets$Person" "hasHalf" "Z", Cond.fieldLink RX4 41 "HalfTickets$Person" "servedFor" "I"]
def wsL_isStep_r6 : List Cond := [Cond.fieldLink RX4 44 "HalfTickets$Person" "waits" "I", Cond.fieldLink RX4 47 "HalfTickets$Person" "waitsHere" "I", Cond.fieldLink RX4 50 "HalfTickets$Person" "sentBack" "I", Cond.fieldLink RX4 19 "HalfTickets$Person" "goneBehind" "I", Cond.fieldLink RX4 53 "HalfTickets$Person" "cameInThisTick" "Z", Cond.methodLink RL 42 yX6_windowOf, Cond.instanceMethod yX6_windowOf, Cond.selects RX6 yX6_windowOf yX6_windowOf, Cond.code yX6_windowOf cX6_windowOf 4 (some .int), Cond.fieldLink RX6 62 "HalfTickets$Window" "isOpen" "Z", Cond.fieldLink RX6 72 "HalfTickets$Window" "clerks" "I", Cond.fieldLink RX6 76 "HalfTickets$Window" "halves" "I", Cond.fieldLink RX6 152 "HalfTickets$Window" "queue" "LHalfTickets$Line;", Cond.fieldLink RX6 161 "HalfTickets$Window" "serving" "LHalfTickets$Line;", Cond.fieldLink RX6 164 "HalfTickets$Window" "servings" "I", Cond.fieldLink RX6 167 "HalfTickets$Window" "sentBack" "I", Cond.methodLink RX6 58 yX2_windowAt, Cond.instanceMethod yX2_windowAt, Cond.selects RX2 yX2_windowAt yX2_windowAt, Cond.code yX2_windowAt cX2_windowAt 2 (some (.object "HalfTickets$Window")), Cond.methodLink RX6 156 yX1_length, Cond.instanceMethod yX1_length, Cond.selects RX1 yX1_length yX1_length, Cond.code yX1_length cX1_length 1 (some .int)]
def wsL_isStep_r7 : List Cond := [Cond.methodLink RL 45 yX6_window, Cond.instanceMethod yX6_window, Cond.selects RX6 yX6_window yX6_window, Cond.code yX6_window cX6_window 4 (some .int), Cond.methodLink RX6 68 yX2_openWindows, Cond.instanceMethod yX2_openWindows, Cond.selects RX2 yX2_openWindows yX2_openWindows, Cond.code yX2_openWindows cX2_openWindows 6 (some .int), Cond.fieldLink RX2 65 "HalfTickets$Window" "isOpen" "Z", Cond.methodLink RL 49 yX6_clerks, Cond.instanceMethod yX6_clerks, Cond.selects RX6 yX6_clerks yX6_clerks, Cond.code yX6_clerks cX6_clerks 5 (some .int), Cond.methodLink RL 52 yX6_bring, Cond.instanceMethod yX6_bring, Cond.selects RX6 yX6_bring yX6_bring, Cond.code yX6_bring cX6_bring 4 (some .int), Cond.methodLink RX6 79 Lib.Math.max.name, Cond.static Lib.Math.max.name, Cond.code Lib.Math.max.name Lib.Math.max.code 2 (some .int), Cond.methodLink RL 36 yX6_person, Cond.instanceMethod yX6_person, Cond.selects RX6 yX6_person yX6_person, Cond.code yX6_person cX6_person 4 (some .int)]
def wsL_isStep_r8 : List Cond := [Cond.fieldLink RX6 108 "HalfTickets$Person" "where" "I", Cond.fieldLink RX6 137 "HalfTickets$Person" "hasHalf" "Z", Cond.fieldLink RX6 120 "HalfTickets$Person" "through" "I", Cond.fieldLink RX6 140 "HalfTickets$Person" "errandLength" "I", Cond.fieldLink RX6 143 "HalfTickets$Person" "waits" "I", Cond.fieldLink RX6 146 "HalfTickets$Person" "sentBack" "I", Cond.fieldLink RX6 149 "HalfTickets$Person" "goneBehind" "I", Cond.methodLink RX6 104 yX2_personAt, Cond.instanceMethod yX2_personAt, Cond.selects RX2 yX2_personAt yX2_personAt, Cond.code yX2_personAt cX2_personAt 2 (some (.object "HalfTickets$Person")), Cond.methodLink RX6 130 yX4_standsAt, Cond.instanceMethod yX4_standsAt, Cond.selects RX4 yX4_standsAt yX4_standsAt, Cond.code yX4_standsAt cX4_standsAt 2 (some .int), Cond.methodLink RX6 133 yX2_placeInQueue, Cond.instanceMethod yX2_placeInQueue, Cond.selects RX2 yX2_placeInQueue yX2_placeInQueue, Cond.code yX2_placeInQueue cX2_placeInQueue 3 (some .int), Cond.fieldLink RX2 92 "HalfTickets$Window" "queue" "LHalfTickets$Line;", Cond.fieldLink RX2 96 "HalfTickets$Person" "number" "I", Cond.methodLink RX2 84 yX4_standsAt, Cond.methodLink RX2 88 yX2_windowAt, Cond.methodLink RX2 99 yX1_placeOf]
def wsL_isStep_r9 : List Cond := [Cond.instanceMethod yX1_placeOf, Cond.selects RX1 yX1_placeOf yX1_placeOf, Cond.code yX1_placeOf cX1_placeOf 3 (some .int), Cond.methodLink RL 55 yX6_leave, Cond.instanceMethod yX6_leave, Cond.selects RX6 yX6_leave yX6_leave, Cond.code yX6_leave cX6_leave 3 (some .int), Cond.methodLink RX6 116 yX2_sendAway, Cond.instanceMethod yX2_sendAway, Cond.selects RX2 yX2_sendAway yX2_sendAway, Cond.code yX2_sendAway cX2_sendAway 4 none, Cond.methodLink RX2 131 yX1_remove, Cond.instanceMethod yX1_remove, Cond.selects RX1 yX1_remove yX1_remove, Cond.code yX1_remove cX1_remove 4 none, Cond.methodLink RX1 19 yX1_placeOf, Cond.methodLink RX2 134 yX4_goAs, Cond.instanceMethod yX4_goAs, Cond.selects RX4 yX4_goAs yX4_goAs, Cond.code yX4_goAs cX4_goAs 3 none, Cond.methodLink RL 58 yX6_save, Cond.instanceMethod yX6_save, Cond.selects RX6 yX6_save yX6_save, Cond.code yX6_save cX6_save 2 (some .int)]
def wsL_isStep_r10 : List Cond := [Cond.fieldLink RX6 26 "HalfTickets" "slots" "[LHalfTickets$Ministry;", Cond.fieldLink RX6 30 "HalfTickets" "isSaved" "[Z", Cond.methodLink RX6 186 yX2_become, Cond.methodLink RL 61 yX6_restore, Cond.instanceMethod yX6_restore, Cond.selects RX6 yX6_restore yX6_restore, Cond.code yX6_restore cX6_restore 2 (some .int), Cond.methodLink RL 64 yL_isRead, Cond.static yL_isRead, Cond.code yL_isRead cL_isRead 13 (some .boolean), Cond.constantLong RL 25 (48), Cond.constantLong RL 31 (44), Cond.methodLink RL 9 yX6_wipe, Cond.instanceMethod yX6_wipe, Cond.selects RX6 yX6_wipe yX6_wipe, Cond.code yX6_wipe cX6_wipe 2 (some .int), Cond.methodLink RX6 101 yX3_clear, Cond.instanceMethod yX3_clear, Cond.selects RX3 yX3_clear yX3_clear, Cond.code yX3_clear cX3_clear 1 none, Cond.methodLink RL 27 yX6_put, Cond.instanceMethod yX6_put, Cond.selects RX6 yX6_put yX6_put, Cond.code yX6_put cX6_put 4 (some .int)]
def wsL_isStep_r11 : List Cond := [Cond.methodLink RX6 192 yX3_charactersIn, Cond.static yX3_charactersIn, Cond.code yX3_charactersIn cX3_charactersIn 8 (some .int), Cond.constantLong RX3 15 (255), Cond.constantLong RX3 17 (33), Cond.constantLong RX3 19 (126), Cond.methodLink RX6 196 yX3_append, Cond.instanceMethod yX3_append, Cond.selects RX3 yX3_append yX3_append, Cond.code yX3_append cX3_append 5 none, Cond.fieldLink RX3 9 "HalfTickets$Pad" "text" "[C", Cond.methodLink RL 33 yX6_read, Cond.instanceMethod yX6_read, Cond.selects RX6 yX6_read yX6_read, Cond.code yX6_read cX6_read 1 (some .int), Cond.methodLink RX6 88 yX3_firstFault, Cond.instanceMethod yX3_firstFault, Cond.selects RX3 yX3_firstFault yX3_firstFault, Cond.code yX3_firstFault cX3_firstFault 4 (some .int), Cond.methodLink RX3 25 yX3_isWindow, Cond.static yX3_isWindow, Cond.code yX3_isWindow cX3_isWindow 1 (some .boolean), Cond.methodLink RX3 29 yX3_repeatsAt, Cond.instanceMethod yX3_repeatsAt]
def wsL_isStep_r12 : List Cond := [Cond.selects RX3 yX3_repeatsAt yX3_repeatsAt, Cond.code yX3_repeatsAt cX3_repeatsAt 2 (some .boolean), Cond.methodLink RX6 94 yX3_errands, Cond.instanceMethod yX3_errands, Cond.selects RX3 yX3_errands yX3_errands, Cond.code yX3_errands cX3_errands 3 (some .int), Cond.methodLink RX6 97 yX2_admitAll, Cond.instanceMethod yX2_admitAll, Cond.selects RX2 yX2_admitAll yX2_admitAll, Cond.code yX2_admitAll cX2_admitAll 6 none, Cond.methodLink RX2 105 yX3_errands, Cond.methodLink RX2 110 yX3_endOfErrand, Cond.instanceMethod yX3_endOfErrand, Cond.selects RX3 yX3_endOfErrand yX3_endOfErrand, Cond.code yX3_endOfErrand cX3_endOfErrand 3 (some .int), Cond.methodLink RX3 33 Lib.Math.max.name, Cond.methodLink RX2 113 yX2_admit, Cond.instanceMethod yX2_admit, Cond.selects RX2 yX2_admit yX2_admit, Cond.code yX2_admit cX2_admit 6 none, Cond.methodLink RX2 117 yX3_windowAt, Cond.instanceMethod yX3_windowAt, Cond.selects RX3 yX3_windowAt yX3_windowAt, Cond.code yX3_windowAt cX3_windowAt 2 (some .int)]
def wsL_isStep_r13 : List Cond := [Cond.methodLink RX2 119 yX4_addToErrand, Cond.instanceMethod yX4_addToErrand, Cond.selects RX4 yX4_addToErrand yX4_addToErrand, Cond.code yX4_addToErrand cX4_addToErrand 2 none, Cond.methodLink RX2 122 yX2_joinQueue, Cond.instanceMethod yX2_joinQueue, Cond.selects RX2 yX2_joinQueue yX2_joinQueue, Cond.code yX2_joinQueue cX2_joinQueue 3 none, Cond.fieldLink RX2 125 "HalfTickets$Person" "waitsHere" "I", Cond.methodLink RX2 128 yX1_append, Cond.instanceMethod yX1_append, Cond.selects RX1 yX1_append yX1_append, Cond.code yX1_append cX1_append 2 none, Cond.methodLink RL 68 yX6_pass, Cond.instanceMethod yX6_pass, Cond.selects RX6 yX6_pass yX6_pass, Cond.code yX6_pass cX6_pass 4 (some .int), Cond.methodLink RX6 127 yX2_tick, Cond.instanceMethod yX2_tick, Cond.selects RX2 yX2_tick yX2_tick, Cond.code yX2_tick cX2_tick 5 none, Cond.fieldLink RX2 138 "HalfTickets$Person" "cameInThisTick" "Z", Cond.methodLink RX2 141 yX2_serveAt, Cond.instanceMethod yX2_serveAt]
def wsL_isStep_r14 : List Cond := [Cond.selects RX2 yX2_serveAt yX2_serveAt, Cond.code yX2_serveAt cX2_serveAt 6 none, Cond.fieldLink RX2 150 "HalfTickets$Window" "serving" "LHalfTickets$Line;", Cond.fieldLink RX2 163 "HalfTickets$Person" "servedFor" "I", Cond.methodLink RX2 153 yX1_length, Cond.methodLink RX2 156 yX1_numberAt, Cond.instanceMethod yX1_numberAt, Cond.selects RX1 yX1_numberAt yX1_numberAt, Cond.code yX1_numberAt cX1_numberAt 2 (some .int), Cond.methodLink RX2 159 yX2_personAt, Cond.methodLink RX2 166 yX2_finishAt, Cond.instanceMethod yX2_finishAt, Cond.selects RX2 yX2_finishAt yX2_finishAt, Cond.code yX2_finishAt cX2_finishAt 3 none, Cond.fieldLink RX2 170 "HalfTickets$Window" "servings" "I", Cond.fieldLink RX2 173 "HalfTickets$Person" "through" "I", Cond.fieldLink RX2 176 "HalfTickets$Person" "errandLength" "I", Cond.fieldLink RX2 179 "HalfTickets$Window" "sentBack" "I", Cond.methodLink RX2 144 yX2_callAt, Cond.instanceMethod yX2_callAt, Cond.selects RX2 yX2_callAt yX2_callAt, Cond.code yX2_callAt cX2_callAt 5 none, Cond.fieldLink RX2 180 "HalfTickets$Window" "clerks" "I", Cond.methodLink RX2 147 yX2_waitInQueues]
def wsL_isStep_r15 : List Cond := [Cond.instanceMethod yX2_waitInQueues, Cond.selects RX2 yX2_waitInQueues yX2_waitInQueues, Cond.code yX2_waitInQueues cX2_waitInQueues 6 none, Cond.methodLink RX2 183 yX2_sendAway]
def wsL_isStep : List Cond := .code yL_isStep cL_isStep 12 (some .boolean) :: ((wsL_isStep_r1 ++ (wsL_isStep_r2 ++ (wsL_isStep_r3 ++ (wsL_isStep_r4 ++ (wsL_isStep_r5 ++ (wsL_isStep_r6 ++ (wsL_isStep_r7 ++ (wsL_isStep_r8 ++ (wsL_isStep_r9 ++ (wsL_isStep_r10 ++ (wsL_isStep_r11 ++ (wsL_isStep_r12 ++ (wsL_isStep_r13 ++ (wsL_isStep_r14 ++ wsL_isStep_r15)))))))))))))) ++ wsX60 ++ wsX20 ++ wsX40 ++ wsX50 ++ wsX30 ++ wsX00 ++ wsX10)
def wsL_areAlike_r1 : List Cond := [Cond.methodLink RL 19 yL_up, Cond.static yL_up, Cond.initialized RL, Cond.code yL_up cL_up 2 (some .int), Cond.constant RL 8 (2147483647), Cond.methodLink RL 71 yX6_longest, Cond.instanceMethod yX6_longest, Cond.selects RX6 yX6_longest yX6_longest, Cond.initialized RX6, Cond.code yX6_longest cX6_longest 5 (some .int), Cond.fieldLink RX6 10 "HalfTickets" "now" "LHalfTickets$Ministry;", Cond.fieldLink RX6 152 "HalfTickets$Window" "queue" "LHalfTickets$Line;", Cond.methodLink RX6 58 yX2_windowAt, Cond.instanceMethod yX2_windowAt, Cond.selects RX2 yX2_windowAt yX2_windowAt, Cond.initialized RX2, Cond.code yX2_windowAt cX2_windowAt 2 (some (.object "HalfTickets$Window")), Cond.fieldLink RX2 25 "HalfTickets$Ministry" "windows" "[LHalfTickets$Window;", Cond.methodLink RX6 156 yX1_length, Cond.instanceMethod yX1_length, Cond.selects RX1 yX1_length yX1_length, Cond.initialized RX1, Cond.code yX1_length cX1_length 1 (some .int), Cond.fieldLink RX1 15 "HalfTickets$Line" "length" "I"]
def wsL_areAlike_r2 : List Cond := [Cond.methodLink RL 74 yX6_bestClerk, Cond.instanceMethod yX6_bestClerk, Cond.selects RX6 yX6_bestClerk yX6_bestClerk, Cond.code yX6_bestClerk cX6_bestClerk 6 (some .int), Cond.fieldLink RX6 72 "HalfTickets$Window" "clerks" "I", Cond.methodLink RX6 189 yX6_doneWithOneMoreAt, Cond.instanceMethod yX6_doneWithOneMoreAt, Cond.selects RX6 yX6_doneWithOneMoreAt yX6_doneWithOneMoreAt, Cond.code yX6_doneWithOneMoreAt cX6_doneWithOneMoreAt 4 (some .int), Cond.fieldLink RX6 16 "HalfTickets" "trial" "LHalfTickets$Ministry;", Cond.methodLink RX6 186 yX2_become, Cond.instanceMethod yX2_become, Cond.selects RX2 yX2_become yX2_become, Cond.code yX2_become cX2_become 3 none, Cond.fieldLink RX2 18 "HalfTickets$Ministry" "settings" "[I", Cond.methodLink RX2 39 arraycopyName, Cond.native arraycopyName, Cond.static arraycopyName, Cond.initialized "java/lang/System", Cond.fieldLink RX2 31 "HalfTickets$Ministry" "persons" "[LHalfTickets$Person;", Cond.fieldLink RX2 52 "HalfTickets$Ministry" "people" "I", Cond.fieldLink RX2 56 "HalfTickets$Ministry" "ticks" "I", Cond.fieldLink RX2 59 "HalfTickets$Ministry" "lost" "I", Cond.fieldLink RX2 62 "HalfTickets$Ministry" "brought" "I"]
def wsL_areAlike_r3 : List Cond := [Cond.methodLink RX2 45 yX5_become, Cond.instanceMethod yX5_become, Cond.selects RX5 yX5_become yX5_become, Cond.initialized RX5, Cond.code yX5_become cX5_become 2 none, Cond.fieldLink RX5 7 "HalfTickets$Window" "isOpen" "Z", Cond.fieldLink RX5 13 "HalfTickets$Window" "clerks" "I", Cond.fieldLink RX5 27 "HalfTickets$Window" "halves" "I", Cond.fieldLink RX5 30 "HalfTickets$Window" "servings" "I", Cond.fieldLink RX5 33 "HalfTickets$Window" "sentBack" "I", Cond.fieldLink RX5 20 "HalfTickets$Window" "queue" "LHalfTickets$Line;", Cond.fieldLink RX5 24 "HalfTickets$Window" "serving" "LHalfTickets$Line;", Cond.methodLink RX5 36 yX1_become, Cond.instanceMethod yX1_become, Cond.selects RX1 yX1_become yX1_become, Cond.code yX1_become cX1_become 2 none, Cond.fieldLink RX1 9 "HalfTickets$Line" "numbers" "[I", Cond.methodLink RX1 23 arraycopyName, Cond.methodLink RX2 49 yX4_become, Cond.instanceMethod yX4_become, Cond.selects RX4 yX4_become yX4_become, Cond.initialized RX4, Cond.code yX4_become cX4_become 2 none, Cond.fieldLink RX4 9 "HalfTickets$Person" "errand" "[I"]
def wsL_areAlike_r4 : List Cond := [Cond.methodLink RX4 25 arraycopyName, Cond.fieldLink RX4 31 "HalfTickets$Person" "errandLength" "I", Cond.fieldLink RX4 15 "HalfTickets$Person" "where" "I", Cond.fieldLink RX4 34 "HalfTickets$Person" "through" "I", Cond.fieldLink RX4 37 "HalfTickets$Person" "hasHalf" "Z", Cond.fieldLink RX4 41 "HalfTickets$Person" "servedFor" "I", Cond.fieldLink RX4 44 "HalfTickets$Person" "waits" "I", Cond.fieldLink RX4 47 "HalfTickets$Person" "waitsHere" "I", Cond.fieldLink RX4 50 "HalfTickets$Person" "sentBack" "I", Cond.fieldLink RX4 19 "HalfTickets$Person" "goneBehind" "I", Cond.fieldLink RX4 53 "HalfTickets$Person" "cameInThisTick" "Z", Cond.methodLink RX6 127 yX2_tick, Cond.instanceMethod yX2_tick, Cond.selects RX2 yX2_tick yX2_tick, Cond.code yX2_tick cX2_tick 5 none, Cond.fieldLink RX2 138 "HalfTickets$Person" "cameInThisTick" "Z", Cond.fieldLink RX2 65 "HalfTickets$Window" "isOpen" "Z", Cond.methodLink RX2 141 yX2_serveAt, Cond.instanceMethod yX2_serveAt, Cond.selects RX2 yX2_serveAt yX2_serveAt, Cond.code yX2_serveAt cX2_serveAt 6 none, Cond.fieldLink RX2 150 "HalfTickets$Window" "serving" "LHalfTickets$Line;", Cond.fieldLink RX2 163 "HalfTickets$Person" "servedFor" "I", Cond.fieldLink RX2 96 "HalfTickets$Person" "number" "I"]
def wsL_areAlike_r5 : List Cond := [Cond.methodLink RX2 153 yX1_length, Cond.methodLink RX2 156 yX1_numberAt, Cond.instanceMethod yX1_numberAt, Cond.selects RX1 yX1_numberAt yX1_numberAt, Cond.code yX1_numberAt cX1_numberAt 2 (some .int), Cond.methodLink RX2 159 yX2_personAt, Cond.instanceMethod yX2_personAt, Cond.selects RX2 yX2_personAt yX2_personAt, Cond.code yX2_personAt cX2_personAt 2 (some (.object "HalfTickets$Person")), Cond.methodLink RX2 131 yX1_remove, Cond.instanceMethod yX1_remove, Cond.selects RX1 yX1_remove yX1_remove, Cond.code yX1_remove cX1_remove 4 none, Cond.methodLink RX1 19 yX1_placeOf, Cond.instanceMethod yX1_placeOf, Cond.selects RX1 yX1_placeOf yX1_placeOf, Cond.code yX1_placeOf cX1_placeOf 3 (some .int), Cond.methodLink RX2 166 yX2_finishAt, Cond.instanceMethod yX2_finishAt, Cond.selects RX2 yX2_finishAt yX2_finishAt, Cond.code yX2_finishAt cX2_finishAt 3 none, Cond.fieldLink RX2 170 "HalfTickets$Window" "servings" "I", Cond.fieldLink RX2 173 "HalfTickets$Person" "through" "I", Cond.fieldLink RX2 176 "HalfTickets$Person" "errandLength" "I"]
def wsL_areAlike_r6 : List Cond := [Cond.fieldLink RX2 72 "HalfTickets$Window" "halves" "I", Cond.fieldLink RX2 75 "HalfTickets$Person" "hasHalf" "Z", Cond.fieldLink RX2 81 "HalfTickets$Person" "sentBack" "I", Cond.fieldLink RX2 179 "HalfTickets$Window" "sentBack" "I", Cond.methodLink RX2 134 yX4_goAs, Cond.instanceMethod yX4_goAs, Cond.selects RX4 yX4_goAs yX4_goAs, Cond.code yX4_goAs cX4_goAs 3 none, Cond.methodLink RX2 122 yX2_joinQueue, Cond.instanceMethod yX2_joinQueue, Cond.selects RX2 yX2_joinQueue yX2_joinQueue, Cond.code yX2_joinQueue cX2_joinQueue 3 none, Cond.fieldLink RX2 69 "HalfTickets$Person" "where" "I", Cond.fieldLink RX2 125 "HalfTickets$Person" "waitsHere" "I", Cond.fieldLink RX2 92 "HalfTickets$Window" "queue" "LHalfTickets$Line;", Cond.methodLink RX2 84 yX4_standsAt, Cond.instanceMethod yX4_standsAt, Cond.selects RX4 yX4_standsAt yX4_standsAt, Cond.code yX4_standsAt cX4_standsAt 2 (some .int), Cond.methodLink RX2 88 yX2_windowAt, Cond.methodLink RX2 128 yX1_append, Cond.instanceMethod yX1_append, Cond.selects RX1 yX1_append yX1_append, Cond.code yX1_append cX1_append 2 none]
def wsL_areAlike_r7 : List Cond := [Cond.methodLink RX2 144 yX2_callAt, Cond.instanceMethod yX2_callAt, Cond.selects RX2 yX2_callAt yX2_callAt, Cond.code yX2_callAt cX2_callAt 5 none, Cond.fieldLink RX2 180 "HalfTickets$Window" "clerks" "I", Cond.methodLink RX2 147 yX2_waitInQueues, Cond.instanceMethod yX2_waitInQueues, Cond.selects RX2 yX2_waitInQueues yX2_waitInQueues, Cond.code yX2_waitInQueues cX2_waitInQueues 6 none, Cond.fieldLink RX2 78 "HalfTickets$Person" "waits" "I", Cond.methodLink RX2 183 yX2_sendAway, Cond.instanceMethod yX2_sendAway, Cond.selects RX2 yX2_sendAway yX2_sendAway, Cond.code yX2_sendAway cX2_sendAway 4 none, Cond.methodLink RX6 123 yX2_peopleWho, Cond.instanceMethod yX2_peopleWho, Cond.selects RX2 yX2_peopleWho yX2_peopleWho, Cond.code yX2_peopleWho cX2_peopleWho 7 (some .int), Cond.methodLink RL 15 yX6_count, Cond.instanceMethod yX6_count, Cond.selects RX6 yX6_count yX6_count, Cond.code yX6_count cX6_count 2 (some .int), Cond.fieldLink RX6 55 "HalfTickets$Ministry" "settings" "[I", Cond.fieldLink RX6 113 "HalfTickets$Ministry" "ticks" "I"]
def wsL_areAlike_r8 : List Cond := [Cond.fieldLink RX6 91 "HalfTickets$Ministry" "people" "I", Cond.fieldLink RX6 174 "HalfTickets$Ministry" "lost" "I", Cond.fieldLink RX6 85 "HalfTickets$Ministry" "brought" "I", Cond.fieldLink RX6 37 "HalfTickets" "pad" "LHalfTickets$Pad;", Cond.fieldLink RX6 22 "HalfTickets" "history" "LHalfTickets$History;", Cond.methodLink RX6 168 yX2_halvesOfWindows, Cond.instanceMethod yX2_halvesOfWindows, Cond.selects RX2 yX2_halvesOfWindows yX2_halvesOfWindows, Cond.code yX2_halvesOfWindows cX2_halvesOfWindows 6 (some .int), Cond.methodLink RX6 171 yX2_halvesOfPeople, Cond.instanceMethod yX2_halvesOfPeople, Cond.selects RX2 yX2_halvesOfPeople yX2_halvesOfPeople, Cond.code yX2_halvesOfPeople cX2_halvesOfPeople 6 (some .int), Cond.methodLink RX6 177 yX2_waits, Cond.instanceMethod yX2_waits, Cond.selects RX2 yX2_waits yX2_waits, Cond.code yX2_waits cX2_waits 6 (some .int), Cond.methodLink RX6 179 yX2_timesSentBack, Cond.instanceMethod yX2_timesSentBack, Cond.selects RX2 yX2_timesSentBack yX2_timesSentBack, Cond.code yX2_timesSentBack cX2_timesSentBack 6 (some .int), Cond.methodLink RX6 182 yX3_length, Cond.instanceMethod yX3_length, Cond.selects RX3 yX3_length yX3_length]
def wsL_areAlike_r9 : List Cond := [Cond.initialized RX3, Cond.code yX3_length cX3_length 1 (some .int), Cond.fieldLink RX3 21 "HalfTickets$Pad" "length" "I", Cond.methodLink RX6 183 yX0_kept, Cond.instanceMethod yX0_kept, Cond.selects RX0 yX0_kept yX0_kept, Cond.initialized RX0, Cond.code yX0_kept cX0_kept 1 (some .int), Cond.fieldLink RX0 18 "HalfTickets$History" "kept" "I", Cond.methodLink RL 77 yX6_ifPassed, Cond.instanceMethod yX6_ifPassed, Cond.selects RX6 yX6_ifPassed yX6_ifPassed, Cond.code yX6_ifPassed cX6_ifPassed 4 (some .int), Cond.methodLink RL 36 yX6_person, Cond.instanceMethod yX6_person, Cond.selects RX6 yX6_person yX6_person, Cond.code yX6_person cX6_person 4 (some .int), Cond.fieldLink RX6 108 "HalfTickets$Person" "where" "I", Cond.fieldLink RX6 137 "HalfTickets$Person" "hasHalf" "Z", Cond.fieldLink RX6 120 "HalfTickets$Person" "through" "I", Cond.fieldLink RX6 140 "HalfTickets$Person" "errandLength" "I", Cond.fieldLink RX6 143 "HalfTickets$Person" "waits" "I", Cond.fieldLink RX6 146 "HalfTickets$Person" "sentBack" "I", Cond.fieldLink RX6 149 "HalfTickets$Person" "goneBehind" "I"]
def wsL_areAlike_r10 : List Cond := [Cond.methodLink RX6 104 yX2_personAt, Cond.methodLink RX6 130 yX4_standsAt, Cond.methodLink RX6 133 yX2_placeInQueue, Cond.instanceMethod yX2_placeInQueue, Cond.selects RX2 yX2_placeInQueue yX2_placeInQueue, Cond.code yX2_placeInQueue cX2_placeInQueue 3 (some .int), Cond.methodLink RX2 99 yX1_placeOf, Cond.methodLink RL 42 yX6_windowOf, Cond.instanceMethod yX6_windowOf, Cond.selects RX6 yX6_windowOf yX6_windowOf, Cond.code yX6_windowOf cX6_windowOf 4 (some .int), Cond.fieldLink RX6 62 "HalfTickets$Window" "isOpen" "Z", Cond.fieldLink RX6 76 "HalfTickets$Window" "halves" "I", Cond.fieldLink RX6 161 "HalfTickets$Window" "serving" "LHalfTickets$Line;", Cond.fieldLink RX6 164 "HalfTickets$Window" "servings" "I", Cond.fieldLink RX6 167 "HalfTickets$Window" "sentBack" "I", Cond.methodLink RL 80 yX6_untilDone, Cond.instanceMethod yX6_untilDone, Cond.selects RX6 yX6_untilDone yX6_untilDone, Cond.code yX6_untilDone cX6_untilDone 5 (some .int)]
def wsL_areAlike : List Cond := .code yL_areAlike cL_areAlike 7 (some .boolean) :: ((wsL_areAlike_r1 ++ (wsL_areAlike_r2 ++ (wsL_areAlike_r3 ++ (wsL_areAlike_r4 ++ (wsL_areAlike_r5 ++ (wsL_areAlike_r6 ++ (wsL_areAlike_r7 ++ (wsL_areAlike_r8 ++ (wsL_areAlike_r9 ++ wsL_areAlike_r10))))))))) ++ wsX60 ++ wsX50 ++ wsX20 ++ wsX10 ++ wsX40 ++ wsX30 ++ wsX00)
def wsL_isWell_r1 : List Cond := [Cond.arrayClass .int, Cond.methodLink RL 15 yX6_count, Cond.instanceMethod yX6_count, Cond.selects RX6 yX6_count yX6_count, Cond.initialized RX6, Cond.code yX6_count cX6_count 2 (some .int), Cond.fieldLink RX6 10 "HalfTickets" "now" "LHalfTickets$Ministry;", Cond.fieldLink RX6 55 "HalfTickets$Ministry" "settings" "[I", Cond.fieldLink RX6 113 "HalfTickets$Ministry" "ticks" "I", Cond.fieldLink RX6 91 "HalfTickets$Ministry" "people" "I", Cond.fieldLink RX6 174 "HalfTickets$Ministry" "lost" "I", Cond.fieldLink RX6 85 "HalfTickets$Ministry" "brought" "I", Cond.fieldLink RX6 37 "HalfTickets" "pad" "LHalfTickets$Pad;", Cond.fieldLink RX6 22 "HalfTickets" "history" "LHalfTickets$History;", Cond.methodLink RX6 123 yX2_peopleWho, Cond.instanceMethod yX2_peopleWho, Cond.selects RX2 yX2_peopleWho yX2_peopleWho, Cond.initialized RX2, Cond.code yX2_peopleWho cX2_peopleWho 7 (some .int), Cond.fieldLink RX2 31 "HalfTickets$Ministry" "persons" "[LHalfTickets$Person;", Cond.fieldLink RX2 69 "HalfTickets$Person" "where" "I", Cond.methodLink RX6 168 yX2_halvesOfWindows, Cond.instanceMethod yX2_halvesOfWindows, Cond.selects RX2 yX2_halvesOfWindows yX2_halvesOfWindows]
def wsL_isWell_r2 : List Cond := [Cond.code yX2_halvesOfWindows cX2_halvesOfWindows 6 (some .int), Cond.fieldLink RX2 25 "HalfTickets$Ministry" "windows" "[LHalfTickets$Window;", Cond.fieldLink RX2 72 "HalfTickets$Window" "halves" "I", Cond.methodLink RX6 171 yX2_halvesOfPeople, Cond.instanceMethod yX2_halvesOfPeople, Cond.selects RX2 yX2_halvesOfPeople yX2_halvesOfPeople, Cond.code yX2_halvesOfPeople cX2_halvesOfPeople 6 (some .int), Cond.fieldLink RX2 75 "HalfTickets$Person" "hasHalf" "Z", Cond.methodLink RX6 177 yX2_waits, Cond.instanceMethod yX2_waits, Cond.selects RX2 yX2_waits yX2_waits, Cond.code yX2_waits cX2_waits 6 (some .int), Cond.fieldLink RX2 78 "HalfTickets$Person" "waits" "I", Cond.methodLink RX6 179 yX2_timesSentBack, Cond.instanceMethod yX2_timesSentBack, Cond.selects RX2 yX2_timesSentBack yX2_timesSentBack, Cond.code yX2_timesSentBack cX2_timesSentBack 6 (some .int), Cond.fieldLink RX2 81 "HalfTickets$Person" "sentBack" "I", Cond.methodLink RX6 182 yX3_length, Cond.instanceMethod yX3_length, Cond.selects RX3 yX3_length yX3_length, Cond.initialized RX3, Cond.code yX3_length cX3_length 1 (some .int), Cond.fieldLink RX3 21 "HalfTickets$Pad" "length" "I"]
def wsL_isWell_r3 : List Cond := [Cond.methodLink RX6 183 yX0_kept, Cond.instanceMethod yX0_kept, Cond.selects RX0 yX0_kept yX0_kept, Cond.initialized RX0, Cond.code yX0_kept cX0_kept 1 (some .int), Cond.fieldLink RX0 18 "HalfTickets$History" "kept" "I", Cond.methodLink RL 36 yX6_person, Cond.instanceMethod yX6_person, Cond.selects RX6 yX6_person yX6_person, Cond.code yX6_person cX6_person 4 (some .int), Cond.fieldLink RX6 108 "HalfTickets$Person" "where" "I", Cond.fieldLink RX6 137 "HalfTickets$Person" "hasHalf" "Z", Cond.fieldLink RX6 120 "HalfTickets$Person" "through" "I", Cond.fieldLink RX6 140 "HalfTickets$Person" "errandLength" "I", Cond.fieldLink RX6 143 "HalfTickets$Person" "waits" "I", Cond.fieldLink RX6 146 "HalfTickets$Person" "sentBack" "I", Cond.fieldLink RX6 149 "HalfTickets$Person" "goneBehind" "I", Cond.methodLink RX6 104 yX2_personAt, Cond.instanceMethod yX2_personAt, Cond.selects RX2 yX2_personAt yX2_personAt, Cond.code yX2_personAt cX2_personAt 2 (some (.object "HalfTickets$Person")), Cond.fieldLink RX2 52 "HalfTickets$Ministry" "people" "I", Cond.methodLink RX6 130 yX4_standsAt, Cond.instanceMethod yX4_standsAt]
def wsL_isWell_r4 : List Cond := [Cond.selects RX4 yX4_standsAt yX4_standsAt, Cond.initialized RX4, Cond.code yX4_standsAt cX4_standsAt 2 (some .int), Cond.fieldLink RX4 15 "HalfTickets$Person" "where" "I", Cond.fieldLink RX4 34 "HalfTickets$Person" "through" "I", Cond.fieldLink RX4 31 "HalfTickets$Person" "errandLength" "I", Cond.fieldLink RX4 9 "HalfTickets$Person" "errand" "[I", Cond.methodLink RX6 133 yX2_placeInQueue, Cond.instanceMethod yX2_placeInQueue, Cond.selects RX2 yX2_placeInQueue yX2_placeInQueue, Cond.code yX2_placeInQueue cX2_placeInQueue 3 (some .int), Cond.fieldLink RX2 92 "HalfTickets$Window" "queue" "LHalfTickets$Line;", Cond.fieldLink RX2 96 "HalfTickets$Person" "number" "I", Cond.methodLink RX2 84 yX4_standsAt, Cond.methodLink RX2 88 yX2_windowAt, Cond.instanceMethod yX2_windowAt, Cond.selects RX2 yX2_windowAt yX2_windowAt, Cond.code yX2_windowAt cX2_windowAt 2 (some (.object "HalfTickets$Window")), Cond.methodLink RX2 99 yX1_placeOf, Cond.instanceMethod yX1_placeOf, Cond.selects RX1 yX1_placeOf yX1_placeOf, Cond.initialized RX1, Cond.code yX1_placeOf cX1_placeOf 3 (some .int), Cond.fieldLink RX1 15 "HalfTickets$Line" "length" "I"]
def wsL_isWell_r5 : List Cond := [Cond.fieldLink RX1 9 "HalfTickets$Line" "numbers" "[I", Cond.methodLink RL 42 yX6_windowOf, Cond.instanceMethod yX6_windowOf, Cond.selects RX6 yX6_windowOf yX6_windowOf, Cond.code yX6_windowOf cX6_windowOf 4 (some .int), Cond.fieldLink RX6 62 "HalfTickets$Window" "isOpen" "Z", Cond.fieldLink RX6 72 "HalfTickets$Window" "clerks" "I", Cond.fieldLink RX6 76 "HalfTickets$Window" "halves" "I", Cond.fieldLink RX6 152 "HalfTickets$Window" "queue" "LHalfTickets$Line;", Cond.fieldLink RX6 161 "HalfTickets$Window" "serving" "LHalfTickets$Line;", Cond.fieldLink RX6 164 "HalfTickets$Window" "servings" "I", Cond.fieldLink RX6 167 "HalfTickets$Window" "sentBack" "I", Cond.methodLink RX6 58 yX2_windowAt, Cond.methodLink RX6 156 yX1_length, Cond.instanceMethod yX1_length, Cond.selects RX1 yX1_length yX1_length, Cond.code yX1_length cX1_length 1 (some .int)]
def wsL_isWell : List Cond := .code yL_isWell cL_isWell 14 (some .boolean) :: ((wsL_isWell_r1 ++ (wsL_isWell_r2 ++ (wsL_isWell_r3 ++ (wsL_isWell_r4 ++ wsL_isWell_r5)))) ++ wsX60 ++ wsX20 ++ wsX40 ++ wsX50 ++ wsX30 ++ wsX00 ++ wsX10)
def wsL_law_r1 : List Cond := [Cond.classLink RL 10 RX6, Cond.instantiable RX6 6, Cond.initialized RX6, Cond.methodLink RL 83 yX6_init, Cond.instanceMethod yX6_init, Cond.code yX6_init cX6_init 2 none, Cond.methodLink RX6 1 objectInit, Cond.instanceMethod objectInit, Cond.code objectInit ⟨#[0xb1]⟩ 1 none, Cond.classLink RX6 7 RX2, Cond.instantiable RX2 7, Cond.initialized RX2, Cond.fieldLink RX6 10 "HalfTickets" "now" "LHalfTickets$Ministry;", Cond.fieldLink RX6 16 "HalfTickets" "trial" "LHalfTickets$Ministry;", Cond.classLink RX6 19 RX0, Cond.instantiable RX0 3, Cond.initialized RX0, Cond.fieldLink RX6 22 "HalfTickets" "history" "LHalfTickets$History;", Cond.fieldLink RX6 26 "HalfTickets" "slots" "[LHalfTickets$Ministry;", Cond.arrayClass .boolean, Cond.fieldLink RX6 30 "HalfTickets" "isSaved" "[Z", Cond.classLink RX6 34 RX3, Cond.instantiable RX3 2, Cond.initialized RX3]
def wsL_law_r2 : List Cond := [Cond.fieldLink RX6 37 "HalfTickets" "pad" "LHalfTickets$Pad;", Cond.methodLink RX6 9 yX2_init, Cond.instanceMethod yX2_init, Cond.code yX2_init cX2_init 2 none, Cond.methodLink RX2 3 objectInit, Cond.methodLink RX2 13 ⟨"[I", "clone", "()Ljava/lang/Object;"⟩, Cond.sameMethod "[I" "java/lang/Object" "clone" "()Ljava/lang/Object;", Cond.native ⟨"java/lang/Object", "clone", "()Ljava/lang/Object;"⟩, Cond.instanceMethod ⟨"java/lang/Object", "clone", "()Ljava/lang/Object;"⟩, Cond.selects "[I" ⟨"[I", "clone", "()Ljava/lang/Object;"⟩ ⟨"java/lang/Object", "clone", "()Ljava/lang/Object;"⟩, Cond.classLink RX2 14 "[I", Cond.fieldLink RX2 18 "HalfTickets$Ministry" "settings" "[I", Cond.classLink RX2 23 RX5, Cond.fieldLink RX2 25 "HalfTickets$Ministry" "windows" "[LHalfTickets$Window;", Cond.classLink RX2 29 RX4, Cond.fieldLink RX2 31 "HalfTickets$Ministry" "persons" "[LHalfTickets$Person;", Cond.instantiable RX5 7, Cond.initialized RX5, Cond.instantiable RX4 12, Cond.initialized RX4, Cond.methodLink RX2 35 yX5_init, Cond.instanceMethod yX5_init, Cond.code yX5_init cX5_init 2 none, Cond.methodLink RX5 1 objectInit]
def wsL_law_r3 : List Cond := [Cond.fieldLink RX5 7 "HalfTickets$Window" "isOpen" "Z", Cond.fieldLink RX5 13 "HalfTickets$Window" "clerks" "I", Cond.classLink RX5 17 RX1, Cond.instantiable RX1 2, Cond.initialized RX1, Cond.fieldLink RX5 20 "HalfTickets$Window" "queue" "LHalfTickets$Line;", Cond.fieldLink RX5 24 "HalfTickets$Window" "serving" "LHalfTickets$Line;", Cond.fieldLink RX5 27 "HalfTickets$Window" "halves" "I", Cond.instanceMethod yX1_init, Cond.code yX1_init cX1_init 1 none, Cond.methodLink RX1 3 objectInit, Cond.arrayClass .int, Cond.fieldLink RX1 9 "HalfTickets$Line" "numbers" "[I", Cond.methodLink RX2 38 yX4_init, Cond.instanceMethod yX4_init, Cond.code yX4_init cX4_init 2 none, Cond.methodLink RX4 3 objectInit, Cond.fieldLink RX4 9 "HalfTickets$Person" "errand" "[I", Cond.fieldLink RX4 15 "HalfTickets$Person" "where" "I", Cond.fieldLink RX4 19 "HalfTickets$Person" "goneBehind" "I", Cond.fieldLink RX4 22 "HalfTickets$Person" "number" "I", Cond.methodLink RX6 21 yX0_init, Cond.instanceMethod yX0_init, Cond.code yX0_init cX0_init 2 none]
def wsL_law_r4 : List Cond := [Cond.methodLink RX0 3 objectInit, Cond.classLink RX0 9 RX2, Cond.fieldLink RX0 11 "HalfTickets$History" "states" "[LHalfTickets$Ministry;", Cond.methodLink RX0 17 yX2_init, Cond.instanceMethod yX3_init, Cond.code yX3_init cX3_init 1 none, Cond.methodLink RX3 3 objectInit, Cond.arrayClass .char, Cond.fieldLink RX3 9 "HalfTickets$Pad" "text" "[C", Cond.methodLink RL 84 yL_cell, Cond.static yL_cell, Cond.initialized RL, Cond.code yL_cell cL_cell 2 (some .int), Cond.constant RL 7 (2143413209), Cond.methodLink RL 64 yL_isRead, Cond.static yL_isRead, Cond.code yL_isRead cL_isRead 13 (some .boolean), Cond.constantLong RL 25 (48), Cond.constantLong RL 31 (44), Cond.methodLink RL 9 yX6_wipe, Cond.instanceMethod yX6_wipe, Cond.selects RX6 yX6_wipe yX6_wipe, Cond.code yX6_wipe cX6_wipe 2 (some .int), Cond.methodLink RX6 182 yX3_length]
def wsL_law_r5 : List Cond := [Cond.instanceMethod yX3_length, Cond.selects RX3 yX3_length yX3_length, Cond.code yX3_length cX3_length 1 (some .int), Cond.fieldLink RX3 21 "HalfTickets$Pad" "length" "I", Cond.methodLink RX6 101 yX3_clear, Cond.instanceMethod yX3_clear, Cond.selects RX3 yX3_clear yX3_clear, Cond.code yX3_clear cX3_clear 1 none, Cond.methodLink RL 15 yX6_count, Cond.instanceMethod yX6_count, Cond.selects RX6 yX6_count yX6_count, Cond.code yX6_count cX6_count 2 (some .int), Cond.fieldLink RX6 55 "HalfTickets$Ministry" "settings" "[I", Cond.fieldLink RX6 113 "HalfTickets$Ministry" "ticks" "I", Cond.fieldLink RX6 91 "HalfTickets$Ministry" "people" "I", Cond.fieldLink RX6 174 "HalfTickets$Ministry" "lost" "I", Cond.fieldLink RX6 85 "HalfTickets$Ministry" "brought" "I", Cond.methodLink RX6 123 yX2_peopleWho, Cond.instanceMethod yX2_peopleWho, Cond.selects RX2 yX2_peopleWho yX2_peopleWho, Cond.code yX2_peopleWho cX2_peopleWho 7 (some .int), Cond.fieldLink RX2 69 "HalfTickets$Person" "where" "I", Cond.methodLink RX6 168 yX2_halvesOfWindows, Cond.instanceMethod yX2_halvesOfWindows]
def wsL_law_r6 : List Cond := [Cond.selects RX2 yX2_halvesOfWindows yX2_halvesOfWindows, Cond.code yX2_halvesOfWindows cX2_halvesOfWindows 6 (some .int), Cond.fieldLink RX2 72 "HalfTickets$Window" "halves" "I", Cond.methodLink RX6 171 yX2_halvesOfPeople, Cond.instanceMethod yX2_halvesOfPeople, Cond.selects RX2 yX2_halvesOfPeople yX2_halvesOfPeople, Cond.code yX2_halvesOfPeople cX2_halvesOfPeople 6 (some .int), Cond.fieldLink RX2 75 "HalfTickets$Person" "hasHalf" "Z", Cond.methodLink RX6 177 yX2_waits, Cond.instanceMethod yX2_waits, Cond.selects RX2 yX2_waits yX2_waits, Cond.code yX2_waits cX2_waits 6 (some .int), Cond.fieldLink RX2 78 "HalfTickets$Person" "waits" "I", Cond.methodLink RX6 179 yX2_timesSentBack, Cond.instanceMethod yX2_timesSentBack, Cond.selects RX2 yX2_timesSentBack yX2_timesSentBack, Cond.code yX2_timesSentBack cX2_timesSentBack 6 (some .int), Cond.fieldLink RX2 81 "HalfTickets$Person" "sentBack" "I", Cond.methodLink RX6 183 yX0_kept, Cond.instanceMethod yX0_kept, Cond.selects RX0 yX0_kept yX0_kept, Cond.code yX0_kept cX0_kept 1 (some .int), Cond.fieldLink RX0 18 "HalfTickets$History" "kept" "I", Cond.methodLink RL 19 yL_up]
def wsL_law_r7 : List Cond := [Cond.static yL_up, Cond.code yL_up cL_up 2 (some .int), Cond.constant RL 8 (2147483647), Cond.methodLink RL 27 yX6_put, Cond.instanceMethod yX6_put, Cond.selects RX6 yX6_put yX6_put, Cond.code yX6_put cX6_put 4 (some .int), Cond.methodLink RX6 192 yX3_charactersIn, Cond.static yX3_charactersIn, Cond.code yX3_charactersIn cX3_charactersIn 8 (some .int), Cond.constantLong RX3 15 (255), Cond.constantLong RX3 17 (33), Cond.constantLong RX3 19 (126), Cond.methodLink RX6 196 yX3_append, Cond.instanceMethod yX3_append, Cond.selects RX3 yX3_append yX3_append, Cond.code yX3_append cX3_append 5 none, Cond.methodLink RL 33 yX6_read, Cond.instanceMethod yX6_read, Cond.selects RX6 yX6_read yX6_read, Cond.code yX6_read cX6_read 1 (some .int), Cond.methodLink RX6 88 yX3_firstFault, Cond.instanceMethod yX3_firstFault, Cond.selects RX3 yX3_firstFault yX3_firstFault]
def wsL_law_r8 : List Cond := [Cond.code yX3_firstFault cX3_firstFault 4 (some .int), Cond.methodLink RX3 25 yX3_isWindow, Cond.static yX3_isWindow, Cond.code yX3_isWindow cX3_isWindow 1 (some .boolean), Cond.methodLink RX3 29 yX3_repeatsAt, Cond.instanceMethod yX3_repeatsAt, Cond.selects RX3 yX3_repeatsAt yX3_repeatsAt, Cond.code yX3_repeatsAt cX3_repeatsAt 2 (some .boolean), Cond.methodLink RX6 94 yX3_errands, Cond.instanceMethod yX3_errands, Cond.selects RX3 yX3_errands yX3_errands, Cond.code yX3_errands cX3_errands 3 (some .int), Cond.methodLink RX6 51 yX0_remember, Cond.instanceMethod yX0_remember, Cond.selects RX0 yX0_remember yX0_remember, Cond.code yX0_remember cX0_remember 2 none, Cond.fieldLink RX0 22 "HalfTickets$History" "next" "I", Cond.methodLink RX0 29 Lib.Math.min.name, Cond.static Lib.Math.min.name, Cond.initialized "java/lang/Math", Cond.code Lib.Math.min.name Lib.Math.min.code 2 (some .int), Cond.methodLink RX0 25 yX2_become, Cond.instanceMethod yX2_become, Cond.selects RX2 yX2_become yX2_become]
def wsL_law_r9 : List Cond := [Cond.code yX2_become cX2_become 3 none, Cond.methodLink RX2 39 arraycopyName, Cond.native arraycopyName, Cond.static arraycopyName, Cond.initialized "java/lang/System", Cond.fieldLink RX2 52 "HalfTickets$Ministry" "people" "I", Cond.fieldLink RX2 56 "HalfTickets$Ministry" "ticks" "I", Cond.fieldLink RX2 59 "HalfTickets$Ministry" "lost" "I", Cond.fieldLink RX2 62 "HalfTickets$Ministry" "brought" "I", Cond.methodLink RX2 45 yX5_become, Cond.instanceMethod yX5_become, Cond.selects RX5 yX5_become yX5_become, Cond.code yX5_become cX5_become 2 none, Cond.fieldLink RX5 30 "HalfTickets$Window" "servings" "I", Cond.fieldLink RX5 33 "HalfTickets$Window" "sentBack" "I", Cond.methodLink RX5 36 yX1_become, Cond.instanceMethod yX1_become, Cond.selects RX1 yX1_become yX1_become, Cond.code yX1_become cX1_become 2 none, Cond.methodLink RX1 23 arraycopyName, Cond.fieldLink RX1 15 "HalfTickets$Line" "length" "I", Cond.methodLink RX2 49 yX4_become, Cond.instanceMethod yX4_become, Cond.selects RX4 yX4_become yX4_become]
def wsL_law_r10 : List Cond := [Cond.code yX4_become cX4_become 2 none, Cond.methodLink RX4 25 arraycopyName, Cond.fieldLink RX4 31 "HalfTickets$Person" "errandLength" "I", Cond.fieldLink RX4 34 "HalfTickets$Person" "through" "I", Cond.fieldLink RX4 37 "HalfTickets$Person" "hasHalf" "Z", Cond.fieldLink RX4 41 "HalfTickets$Person" "servedFor" "I", Cond.fieldLink RX4 44 "HalfTickets$Person" "waits" "I", Cond.fieldLink RX4 47 "HalfTickets$Person" "waitsHere" "I", Cond.fieldLink RX4 50 "HalfTickets$Person" "sentBack" "I", Cond.fieldLink RX4 53 "HalfTickets$Person" "cameInThisTick" "Z", Cond.methodLink RX6 97 yX2_admitAll, Cond.instanceMethod yX2_admitAll, Cond.selects RX2 yX2_admitAll yX2_admitAll, Cond.code yX2_admitAll cX2_admitAll 6 none, Cond.methodLink RX2 105 yX3_errands, Cond.methodLink RX2 110 yX3_endOfErrand, Cond.instanceMethod yX3_endOfErrand, Cond.selects RX3 yX3_endOfErrand yX3_endOfErrand, Cond.code yX3_endOfErrand cX3_endOfErrand 3 (some .int), Cond.methodLink RX3 33 Lib.Math.max.name, Cond.static Lib.Math.max.name, Cond.code Lib.Math.max.name Lib.Math.max.code 2 (some .int), Cond.methodLink RX2 113 yX2_admit, Cond.instanceMethod yX2_admit]
def wsL_law_r11 : List Cond := [Cond.selects RX2 yX2_admit yX2_admit, Cond.code yX2_admit cX2_admit 6 none, Cond.methodLink RX2 117 yX3_windowAt, Cond.instanceMethod yX3_windowAt, Cond.selects RX3 yX3_windowAt yX3_windowAt, Cond.code yX3_windowAt cX3_windowAt 2 (some .int), Cond.methodLink RX2 119 yX4_addToErrand, Cond.instanceMethod yX4_addToErrand, Cond.selects RX4 yX4_addToErrand yX4_addToErrand, Cond.code yX4_addToErrand cX4_addToErrand 2 none, Cond.methodLink RX2 122 yX2_joinQueue, Cond.instanceMethod yX2_joinQueue, Cond.selects RX2 yX2_joinQueue yX2_joinQueue, Cond.code yX2_joinQueue cX2_joinQueue 3 none, Cond.fieldLink RX2 125 "HalfTickets$Person" "waitsHere" "I", Cond.fieldLink RX2 92 "HalfTickets$Window" "queue" "LHalfTickets$Line;", Cond.fieldLink RX2 96 "HalfTickets$Person" "number" "I", Cond.methodLink RX2 84 yX4_standsAt, Cond.instanceMethod yX4_standsAt, Cond.selects RX4 yX4_standsAt yX4_standsAt, Cond.code yX4_standsAt cX4_standsAt 2 (some .int), Cond.methodLink RX2 88 yX2_windowAt, Cond.instanceMethod yX2_windowAt, Cond.selects RX2 yX2_windowAt yX2_windowAt]
def wsL_law_r12 : List Cond := [Cond.code yX2_windowAt cX2_windowAt 2 (some (.object "HalfTickets$Window")), Cond.methodLink RX2 128 yX1_append, Cond.instanceMethod yX1_append, Cond.selects RX1 yX1_append yX1_append, Cond.code yX1_append cX1_append 2 none, Cond.methodLink RL 36 yX6_person, Cond.instanceMethod yX6_person, Cond.selects RX6 yX6_person yX6_person, Cond.code yX6_person cX6_person 4 (some .int), Cond.fieldLink RX6 108 "HalfTickets$Person" "where" "I", Cond.fieldLink RX6 137 "HalfTickets$Person" "hasHalf" "Z", Cond.fieldLink RX6 120 "HalfTickets$Person" "through" "I", Cond.fieldLink RX6 140 "HalfTickets$Person" "errandLength" "I", Cond.fieldLink RX6 143 "HalfTickets$Person" "waits" "I", Cond.fieldLink RX6 146 "HalfTickets$Person" "sentBack" "I", Cond.fieldLink RX6 149 "HalfTickets$Person" "goneBehind" "I", Cond.methodLink RX6 104 yX2_personAt, Cond.instanceMethod yX2_personAt, Cond.selects RX2 yX2_personAt yX2_personAt, Cond.code yX2_personAt cX2_personAt 2 (some (.object "HalfTickets$Person")), Cond.methodLink RX6 130 yX4_standsAt, Cond.methodLink RX6 133 yX2_placeInQueue, Cond.instanceMethod yX2_placeInQueue, Cond.selects RX2 yX2_placeInQueue yX2_placeInQueue]
def wsL_law_r13 : List Cond := [Cond.code yX2_placeInQueue cX2_placeInQueue 3 (some .int), Cond.methodLink RX2 99 yX1_placeOf, Cond.instanceMethod yX1_placeOf, Cond.selects RX1 yX1_placeOf yX1_placeOf, Cond.code yX1_placeOf cX1_placeOf 3 (some .int), Cond.methodLink RL 88 yL_isStep, Cond.static yL_isStep, Cond.code yL_isStep cL_isStep 12 (some .boolean), Cond.methodLink RL 39 yX6_set, Cond.instanceMethod yX6_set, Cond.selects RX6 yX6_set yX6_set, Cond.code yX6_set cX6_set 4 (some .int), Cond.fieldLink RX6 41 "HalfTickets" "FIRST_SETTING" "[I", Cond.fieldLink RX6 45 "HalfTickets" "LOWEST_SETTING" "[I", Cond.fieldLink RX6 48 "HalfTickets" "HIGHEST_SETTING" "[I", Cond.methodLink RL 42 yX6_windowOf, Cond.instanceMethod yX6_windowOf, Cond.selects RX6 yX6_windowOf yX6_windowOf, Cond.code yX6_windowOf cX6_windowOf 4 (some .int), Cond.fieldLink RX6 62 "HalfTickets$Window" "isOpen" "Z", Cond.fieldLink RX6 72 "HalfTickets$Window" "clerks" "I", Cond.fieldLink RX6 76 "HalfTickets$Window" "halves" "I", Cond.fieldLink RX6 152 "HalfTickets$Window" "queue" "LHalfTickets$Line;", Cond.fieldLink RX6 161 "HalfTickets$Window" "serving" "LHalfTickets$Line;"]
def wsL_law_r14 : List Cond := [Cond.fieldLink RX6 164 "HalfTickets$Window" "servings" "I", Cond.fieldLink RX6 167 "HalfTickets$Window" "sentBack" "I", Cond.methodLink RX6 58 yX2_windowAt, Cond.methodLink RX6 156 yX1_length, Cond.instanceMethod yX1_length, Cond.selects RX1 yX1_length yX1_length, Cond.code yX1_length cX1_length 1 (some .int), Cond.methodLink RL 45 yX6_window, Cond.instanceMethod yX6_window, Cond.selects RX6 yX6_window yX6_window, Cond.code yX6_window cX6_window 4 (some .int), Cond.methodLink RX6 68 yX2_openWindows, Cond.instanceMethod yX2_openWindows, Cond.selects RX2 yX2_openWindows yX2_openWindows, Cond.code yX2_openWindows cX2_openWindows 6 (some .int), Cond.fieldLink RX2 65 "HalfTickets$Window" "isOpen" "Z", Cond.methodLink RL 49 yX6_clerks, Cond.instanceMethod yX6_clerks, Cond.selects RX6 yX6_clerks yX6_clerks, Cond.code yX6_clerks cX6_clerks 5 (some .int), Cond.methodLink RL 52 yX6_bring, Cond.instanceMethod yX6_bring, Cond.selects RX6 yX6_bring yX6_bring, Cond.code yX6_bring cX6_bring 4 (some .int)]
def wsL_law_r15 : List Cond := [Cond.methodLink RX6 79 Lib.Math.max.name, Cond.methodLink RL 55 yX6_leave, Cond.instanceMethod yX6_leave, Cond.selects RX6 yX6_leave yX6_leave, Cond.code yX6_leave cX6_leave 3 (some .int), Cond.methodLink RX6 116 yX2_sendAway, Cond.instanceMethod yX2_sendAway, Cond.selects RX2 yX2_sendAway yX2_sendAway, Cond.code yX2_sendAway cX2_sendAway 4 none, Cond.methodLink RX2 131 yX1_remove, Cond.instanceMethod yX1_remove, Cond.selects RX1 yX1_remove yX1_remove, Cond.code yX1_remove cX1_remove 4 none, Cond.methodLink RX1 19 yX1_placeOf, Cond.methodLink RX2 134 yX4_goAs, Cond.instanceMethod yX4_goAs, Cond.selects RX4 yX4_goAs yX4_goAs, Cond.code yX4_goAs cX4_goAs 3 none, Cond.methodLink RL 58 yX6_save, Cond.instanceMethod yX6_save, Cond.selects RX6 yX6_save yX6_save, Cond.code yX6_save cX6_save 2 (some .int), Cond.methodLink RX6 186 yX2_become, Cond.methodLink RL 61 yX6_restore]
def wsL_law_r16 : List Cond := [Cond.instanceMethod yX6_restore, Cond.selects RX6 yX6_restore yX6_restore, Cond.code yX6_restore cX6_restore 2 (some .int), Cond.methodLink RL 68 yX6_pass, Cond.instanceMethod yX6_pass, Cond.selects RX6 yX6_pass yX6_pass, Cond.code yX6_pass cX6_pass 4 (some .int), Cond.methodLink RX6 127 yX2_tick, Cond.instanceMethod yX2_tick, Cond.selects RX2 yX2_tick yX2_tick, Cond.code yX2_tick cX2_tick 5 none, Cond.fieldLink RX2 138 "HalfTickets$Person" "cameInThisTick" "Z", Cond.methodLink RX2 141 yX2_serveAt, Cond.instanceMethod yX2_serveAt, Cond.selects RX2 yX2_serveAt yX2_serveAt, Cond.code yX2_serveAt cX2_serveAt 6 none, Cond.fieldLink RX2 150 "HalfTickets$Window" "serving" "LHalfTickets$Line;", Cond.fieldLink RX2 163 "HalfTickets$Person" "servedFor" "I", Cond.methodLink RX2 153 yX1_length, Cond.methodLink RX2 156 yX1_numberAt, Cond.instanceMethod yX1_numberAt, Cond.selects RX1 yX1_numberAt yX1_numberAt, Cond.code yX1_numberAt cX1_numberAt 2 (some .int), Cond.methodLink RX2 159 yX2_personAt]
def wsL_law_r17 : List Cond := [Cond.methodLink RX2 166 yX2_finishAt, Cond.instanceMethod yX2_finishAt, Cond.selects RX2 yX2_finishAt yX2_finishAt, Cond.code yX2_finishAt cX2_finishAt 3 none, Cond.fieldLink RX2 170 "HalfTickets$Window" "servings" "I", Cond.fieldLink RX2 173 "HalfTickets$Person" "through" "I", Cond.fieldLink RX2 176 "HalfTickets$Person" "errandLength" "I", Cond.fieldLink RX2 179 "HalfTickets$Window" "sentBack" "I", Cond.methodLink RX2 144 yX2_callAt, Cond.instanceMethod yX2_callAt, Cond.selects RX2 yX2_callAt yX2_callAt, Cond.code yX2_callAt cX2_callAt 5 none, Cond.fieldLink RX2 180 "HalfTickets$Window" "clerks" "I", Cond.methodLink RX2 147 yX2_waitInQueues, Cond.instanceMethod yX2_waitInQueues, Cond.selects RX2 yX2_waitInQueues yX2_waitInQueues, Cond.code yX2_waitInQueues cX2_waitInQueues 6 none, Cond.methodLink RX2 183 yX2_sendAway, Cond.methodLink RL 91 yL_isWell, Cond.static yL_isWell, Cond.code yL_isWell cL_isWell 14 (some .boolean), Cond.methodLink RL 95 yL_areAlike, Cond.static yL_areAlike, Cond.code yL_areAlike cL_areAlike 7 (some .boolean)]
def wsL_law_r18 : List Cond := [Cond.methodLink RL 71 yX6_longest, Cond.instanceMethod yX6_longest, Cond.selects RX6 yX6_longest yX6_longest, Cond.code yX6_longest cX6_longest 5 (some .int), Cond.methodLink RL 74 yX6_bestClerk, Cond.instanceMethod yX6_bestClerk, Cond.selects RX6 yX6_bestClerk yX6_bestClerk, Cond.code yX6_bestClerk cX6_bestClerk 6 (some .int), Cond.methodLink RX6 189 yX6_doneWithOneMoreAt, Cond.instanceMethod yX6_doneWithOneMoreAt, Cond.selects RX6 yX6_doneWithOneMoreAt yX6_doneWithOneMoreAt, Cond.code yX6_doneWithOneMoreAt cX6_doneWithOneMoreAt 4 (some .int), Cond.methodLink RL 77 yX6_ifPassed, Cond.instanceMethod yX6_ifPassed, Cond.selects RX6 yX6_ifPassed yX6_ifPassed, Cond.code yX6_ifPassed cX6_ifPassed 4 (some .int), Cond.methodLink RL 80 yX6_untilDone, Cond.instanceMethod yX6_untilDone, Cond.selects RX6 yX6_untilDone yX6_untilDone, Cond.code yX6_untilDone cX6_untilDone 5 (some .int)]
def wsL_law : List Cond := (wsL_law_r1 ++ (wsL_law_r2 ++ (wsL_law_r3 ++ (wsL_law_r4 ++ (wsL_law_r5 ++ (wsL_law_r6 ++ (wsL_law_r7 ++ (wsL_law_r8 ++ (wsL_law_r9 ++ (wsL_law_r10 ++ (wsL_law_r11 ++ (wsL_law_r12 ++ (wsL_law_r13 ++ (wsL_law_r14 ++ (wsL_law_r15 ++ (wsL_law_r16 ++ (wsL_law_r17 ++ wsL_law_r18))))))))))))))))) ++ wsX60 ++ wsX20 ++ wsX00 ++ wsX30 ++ wsX50 ++ wsX40 ++ wsX10 ++ ([] : List Cond)
set_option maxRecDepth 20000 in
set_option maxRecDepth 20000 in
theorem ggX0_init_X2_init : GoodIn wsX0_init wsX2_init := goodIn_r _ [10, 11, 2, 3, 12, 13, 14, 15, 16, 17, 18, 19, 20, 21, 22, 23, 24, 25, 26, 27, 28, 29, 30, 31, 32, 33, 34, 35, 36, 37, 38, 39, 40, 41, 42, 43, 44, 45, 46, 47, 48, 49, 50, 51, 55, 56, 57, 58, 59, 60, 61, 62, 63, 64, 65, 66, 67, 68, 69, 70, 71, 72, 73, 74, 75, 76, 77, 78, 79, 80, 81, 82] (by decide +kernel) (by decide +kernel)
set_option maxRecDepth 20000 in
theorem gX0_init_X2_init : GoodIn wsX0_init (wsX2_init) := ggX0_init_X2_init
set_option maxRecDepth 20000 in
theorem ggX0_remember_X2_become : GoodIn wsX0_remember wsX2_become := goodIn_r _ [12, 13, 14, 15, 16, 17, 18, 19, 20, 21, 22, 23, 24, 25, 26, 27, 28, 29, 30, 31, 32, 33, 34, 35, 36, 37, 38, 39, 40, 41, 42, 43, 44, 45, 46, 47, 48, 49, 50, 51, 52, 53, 54, 55, 56, 57, 58, 59, 60, 64, 65, 66, 67, 68, 69, 70, 71, 72, 73, 74, 75, 76, 77, 78, 79, 80, 81, 82, 83, 84, 85, 86, 87, 88, 89, 90, 91] (by decide +kernel) (by decide +kernel)
set_option maxRecDepth 20000 in
theorem gX0_remember_X2_become : GoodIn wsX0_remember (wsV RX0 25 RX2 yX2_become wsX2_become) := goodIn_app (goodIn_of _ (by decide +kernel)) ggX0_remember_X2_become
set_option maxRecDepth 20000 in
theorem ggX1_remove_X1_placeOf : GoodIn wsX1_remove wsX1_placeOf := goodIn_r _ [7, 1, 2, 8, 9] (by decide +kernel) (by decide +kernel)
set_option maxRecDepth 20000 in
theorem gX1_remove_X1_placeOf : GoodIn wsX1_remove (wsV RX1 19 RX1 yX1_placeOf wsX1_placeOf) := goodIn_app (goodIn_of _ (by decide +kernel)) ggX1_remove_X1_placeOf
set_option maxRecDepth 20000 in
theorem ggX2_init_X5_init : GoodIn wsX2_init wsX5_init := goodIn_r _ [21, 22, 2, 3, 23, 24, 25, 26, 27, 28, 29, 30, 31, 32, 33, 34, 35, 51, 52, 53, 54, 55, 56, 57, 70, 71] (by decide +kernel) (by decide +kernel)
set_option maxRecDepth 20000 in
theorem gX2_init_X5_init : GoodIn wsX2_init (wsX5_init) := ggX2_init_X5_init
set_option maxRecDepth 20000 in
theorem ggX2_init_X4_init : GoodIn wsX2_init wsX4_init := goodIn_r _ [38, 39, 2, 3, 34, 40, 41, 42, 43, 58, 59, 60, 61, 62, 63, 64, 65, 66, 67, 68, 69] (by decide +kernel) (by decide +kernel)
set_option maxRecDepth 20000 in
theorem gX2_init_X4_init : GoodIn wsX2_init (wsX4_init) := ggX2_init_X4_init
set_option maxRecDepth 20000 in
theorem ggX2_become_X5_become : GoodIn wsX2_become wsX5_become := goodIn_r _ [16, 17, 18, 19, 20, 21, 22, 23, 24, 25, 26, 27, 28, 29, 30, 3, 4, 5, 31, 56, 57, 58, 59, 60, 61, 62, 63, 64] (by decide +kernel) (by decide +kernel)
set_option maxRecDepth 20000 in
theorem gX2_become_X5_become : GoodIn wsX2_become (wsV RX2 45 RX5 yX5_become wsX5_become) := goodIn_app (goodIn_of _ (by decide +kernel)) ggX2_become_X5_become
set_option maxRecDepth 20000 in
theorem ggX2_become_X4_become : GoodIn wsX2_become wsX4_become := goodIn_r _ [36, 37, 38, 3, 4, 5, 39, 40, 41, 42, 43, 44, 45, 46, 47, 48, 65, 66, 67, 68, 69, 70, 71, 72, 73, 74, 75, 76] (by decide +kernel) (by decide +kernel)
set_option maxRecDepth 20000 in
theorem gX2_become_X4_become : GoodIn wsX2_become (wsV RX2 49 RX4 yX4_become wsX4_become) := goodIn_app (goodIn_of _ (by decide +kernel)) ggX2_become_X4_become
set_option maxRecDepth 20000 in
theorem ggX2_placeInQueue_X4_standsAt : GoodIn wsX2_placeInQueue wsX4_standsAt := goodIn_r _ [7, 8, 9, 10, 11, 32, 33, 34, 35, 36, 37, 38, 39, 40, 41, 42, 43] (by decide +kernel) (by decide +kernel)
set_option maxRecDepth 20000 in
theorem gX2_placeInQueue_X4_standsAt : GoodIn wsX2_placeInQueue (wsV RX2 84 RX4 yX4_standsAt wsX4_standsAt) := goodIn_app (goodIn_of _ (by decide +kernel)) ggX2_placeInQueue_X4_standsAt
set_option maxRecDepth 20000 in
theorem ggX2_placeInQueue_X2_windowAt : GoodIn wsX2_placeInQueue wsX2_windowAt := goodIn_r _ [16, 17, 44, 45, 46, 47, 48, 49, 50] (by decide +kernel) (by decide +kernel)
set_option maxRecDepth 20000 in
theorem gX2_placeInQueue_X2_windowAt : GoodIn wsX2_placeInQueue (wsV RX2 88 RX2 yX2_windowAt wsX2_windowAt) := goodIn_app (goodIn_of _ (by decide +kernel)) ggX2_placeInQueue_X2_windowAt
set_option maxRecDepth 20000 in
theorem ggX2_placeInQueue_X1_placeOf : GoodIn wsX2_placeInQueue wsX1_placeOf := goodIn_r _ [22, 23, 24, 51, 52] (by decide +kernel) (by decide +kernel)
set_option maxRecDepth 20000 in
theorem gX2_placeInQueue_X1_placeOf : GoodIn wsX2_placeInQueue (wsV RX2 99 RX1 yX1_placeOf wsX1_placeOf) := goodIn_app (goodIn_of _ (by decide +kernel)) ggX2_placeInQueue_X1_placeOf
set_option maxRecDepth 20000 in
theorem ggX2_admitAll_X3_errands : GoodIn wsX2_admitAll wsX3_errands := goodIn_r _ [5, 6, 7, 63, 64] (by decide +kernel) (by decide +kernel)
set_option maxRecDepth 20000 in
theorem gX2_admitAll_X3_errands : GoodIn wsX2_admitAll (wsV RX2 105 RX3 yX3_errands wsX3_errands) := goodIn_app (goodIn_of _ (by decide +kernel)) ggX2_admitAll_X3_errands
set_option maxRecDepth 20000 in
theorem ggX2_admitAll_X3_endOfErrand : GoodIn wsX2_admitAll wsX3_endOfErrand := goodIn_r _ [11, 12, 13, 14, 15, 6, 7, 63, 64] (by decide +kernel) (by decide +kernel)
set_option maxRecDepth 20000 in
theorem gX2_admitAll_X3_endOfErrand : GoodIn wsX2_admitAll (wsV RX2 110 RX3 yX3_endOfErrand wsX3_endOfErrand) := goodIn_app (goodIn_of _ (by decide +kernel)) ggX2_admitAll_X3_endOfErrand
set_option maxRecDepth 20000 in
theorem ggX2_admitAll_X2_admit : GoodIn wsX2_admitAll wsX2_admit := goodIn_r _ [20, 21, 22, 23, 24, 25, 4, 26, 6, 7, 27, 28, 29, 30, 31, 32, 33, 34, 35, 36, 37, 38, 39, 19, 40, 41, 42, 43, 44, 45, 46, 47, 48, 49, 50, 51, 52, 53, 54, 55, 56, 57, 58, 59, 60, 61, 62, 65, 66, 67, 68, 69, 70, 71, 63, 64, 72, 73, 74, 75, 76, 77, 78, 79, 80, 81, 82, 83, 84, 85, 86, 87, 88, 89, 90, 91, 92] (by decide +kernel) (by decide +kernel)
set_option maxRecDepth 20000 in
theorem gX2_admitAll_X2_admit : GoodIn wsX2_admitAll (wsV RX2 113 RX2 yX2_admit wsX2_admit) := goodIn_app (goodIn_of _ (by decide +kernel)) ggX2_admitAll_X2_admit
set_option maxRecDepth 20000 in
theorem ggX2_admit_X3_windowAt : GoodIn wsX2_admit wsX3_windowAt := goodIn_r _ [7, 8, 9, 10, 11, 6, 12, 54, 55] (by decide +kernel) (by decide +kernel)
set_option maxRecDepth 20000 in
theorem gX2_admit_X3_windowAt : GoodIn wsX2_admit (wsV RX2 117 RX3 yX3_windowAt wsX3_windowAt) := goodIn_app (goodIn_of _ (by decide +kernel)) ggX2_admit_X3_windowAt
set_option maxRecDepth 20000 in
theorem ggX2_admit_X4_addToErrand : GoodIn wsX2_admit wsX4_addToErrand := goodIn_r _ [17, 18, 19, 56, 57, 58, 59, 60, 61, 62, 63, 64, 65, 66, 67] (by decide +kernel) (by decide +kernel)
set_option maxRecDepth 20000 in
theorem gX2_admit_X4_addToErrand : GoodIn wsX2_admit (wsV RX2 119 RX4 yX4_addToErrand wsX4_addToErrand) := goodIn_app (goodIn_of _ (by decide +kernel)) ggX2_admit_X4_addToErrand
set_option maxRecDepth 20000 in
theorem ggX2_admit_X2_joinQueue : GoodIn wsX2_admit wsX2_joinQueue := goodIn_r _ [24, 25, 26, 27, 28, 29, 30, 31, 16, 32, 33, 34, 18, 19, 35, 36, 37, 23, 38, 39, 40, 41, 42, 43, 44, 45, 46, 56, 57, 58, 59, 60, 61, 62, 63, 64, 65, 66, 67, 68, 69, 70, 71, 72, 73, 74, 47, 48, 49, 50, 51, 52, 53, 75, 76] (by decide +kernel) (by decide +kernel)
set_option maxRecDepth 20000 in
theorem gX2_admit_X2_joinQueue : GoodIn wsX2_admit (wsV RX2 122 RX2 yX2_joinQueue wsX2_joinQueue) := goodIn_app (goodIn_of _ (by decide +kernel)) ggX2_admit_X2_joinQueue
set_option maxRecDepth 20000 in
theorem ggX2_joinQueue_X4_standsAt : GoodIn wsX2_joinQueue wsX4_standsAt := goodIn_r _ [9, 10, 11, 12, 13, 27, 28, 29, 30, 31, 32, 33, 34, 35, 36, 37, 38] (by decide +kernel) (by decide +kernel)
set_option maxRecDepth 20000 in
theorem gX2_joinQueue_X4_standsAt : GoodIn wsX2_joinQueue (wsV RX2 84 RX4 yX4_standsAt wsX4_standsAt) := goodIn_app (goodIn_of _ (by decide +kernel)) ggX2_joinQueue_X4_standsAt
set_option maxRecDepth 20000 in
theorem ggX2_joinQueue_X2_windowAt : GoodIn wsX2_joinQueue wsX2_windowAt := goodIn_r _ [18, 19, 46, 47, 48, 49, 50, 51, 52] (by decide +kernel) (by decide +kernel)
set_option maxRecDepth 20000 in
theorem gX2_joinQueue_X2_windowAt : GoodIn wsX2_joinQueue (wsV RX2 88 RX2 yX2_windowAt wsX2_windowAt) := goodIn_app (goodIn_of _ (by decide +kernel)) ggX2_joinQueue_X2_windowAt
set_option maxRecDepth 20000 in
theorem ggX2_joinQueue_X1_append : GoodIn wsX2_joinQueue wsX1_append := goodIn_r _ [24, 25, 26, 53, 54] (by decide +kernel) (by decide +kernel)
set_option maxRecDepth 20000 in
theorem gX2_joinQueue_X1_append : GoodIn wsX2_joinQueue (wsV RX2 128 RX1 yX1_append wsX1_append) := goodIn_app (goodIn_of _ (by decide +kernel)) ggX2_joinQueue_X1_append
set_option maxRecDepth 20000 in
theorem ggX2_sendAway_X4_standsAt : GoodIn wsX2_sendAway wsX4_standsAt := goodIn_r _ [9, 10, 11, 12, 13, 44, 45, 46, 47, 48, 49, 50, 51, 52, 53, 54, 55] (by decide +kernel) (by decide +kernel)
set_option maxRecDepth 20000 in
theorem gX2_sendAway_X4_standsAt : GoodIn wsX2_sendAway (wsV RX2 84 RX4 yX4_standsAt wsX4_standsAt) := goodIn_app (goodIn_of _ (by decide +kernel)) ggX2_sendAway_X4_standsAt
set_option maxRecDepth 20000 in
theorem ggX2_sendAway_X2_windowAt : GoodIn wsX2_sendAway wsX2_windowAt := goodIn_r _ [18, 19, 56, 57, 58, 59, 60, 61, 62] (by decide +kernel) (by decide +kernel)
set_option maxRecDepth 20000 in
theorem gX2_sendAway_X2_windowAt : GoodIn wsX2_sendAway (wsV RX2 88 RX2 yX2_windowAt wsX2_windowAt) := goodIn_app (goodIn_of _ (by decide +kernel)) ggX2_sendAway_X2_windowAt
set_option maxRecDepth 20000 in
theorem ggX2_sendAway_X1_remove : GoodIn wsX2_sendAway wsX1_remove := goodIn_r _ [24, 25, 26, 27, 28, 29, 23, 30, 63, 64] (by decide +kernel) (by decide +kernel)
set_option maxRecDepth 20000 in
theorem gX2_sendAway_X1_remove : GoodIn wsX2_sendAway (wsV RX2 131 RX1 yX1_remove wsX1_remove) := goodIn_app (goodIn_of _ (by decide +kernel)) ggX2_sendAway_X1_remove
set_option maxRecDepth 20000 in
theorem ggX2_sendAway_X4_goAs : GoodIn wsX2_sendAway wsX4_goAs := goodIn_r _ [34, 10, 35, 36, 44, 45, 46, 47, 48, 49, 50, 51, 52, 53, 54, 55] (by decide +kernel) (by decide +kernel)
set_option maxRecDepth 20000 in
theorem gX2_sendAway_X4_goAs : GoodIn wsX2_sendAway (wsV RX2 134 RX4 yX4_goAs wsX4_goAs) := goodIn_app (goodIn_of _ (by decide +kernel)) ggX2_sendAway_X4_goAs
set_option maxRecDepth 20000 in
theorem ggX2_tick_X2_serveAt : GoodIn wsX2_tick wsX2_serveAt := goodIn_r _ [10, 11, 12, 13, 14, 15, 16, 17, 18, 19, 20, 21, 22, 23, 24, 25, 26, 27, 28, 9, 29, 30, 1, 31, 32, 33, 34, 35, 36, 37, 38, 39, 40, 41, 42, 43, 44, 45, 46, 47, 5, 48, 49, 2, 50, 51, 52, 53, 54, 55, 56, 57, 58, 59, 60, 61, 62, 63, 64, 65, 66, 67, 68, 69, 70, 71, 72, 73, 74, 75, 3, 76, 77, 78, 79, 114, 115, 116, 117, 118, 119, 120, 102, 103, 104, 105, 106, 107, 108, 109, 110, 111, 112, 113, 95, 96, 97, 98, 99, 100, 101, 121, 122] (by decide +kernel) (by decide +kernel)
set_option maxRecDepth 20000 in
theorem gX2_tick_X2_serveAt : GoodIn wsX2_tick (wsV RX2 141 RX2 yX2_serveAt wsX2_serveAt) := goodIn_app (goodIn_of _ (by decide +kernel)) ggX2_tick_X2_serveAt
set_option maxRecDepth 20000 in
theorem ggX2_tick_X2_callAt : GoodIn wsX2_tick wsX2_callAt := goodIn_r _ [83, 84, 11, 64, 2, 14, 62, 12, 15, 16, 17, 18, 19, 20, 21, 22, 23, 24, 25, 26, 27, 28, 9, 29, 30, 1, 31, 32, 33, 34, 35, 36, 37, 38, 76, 77, 78, 79, 114, 115, 116, 117, 118, 119, 120, 102, 103, 104, 105, 106, 107, 108, 109, 110, 111, 112, 113, 121, 122, 95, 96, 97, 98, 99, 100, 101] (by decide +kernel) (by decide +kernel)
set_option maxRecDepth 20000 in
theorem gX2_tick_X2_callAt : GoodIn wsX2_tick (wsV RX2 144 RX2 yX2_callAt wsX2_callAt) := goodIn_app (goodIn_of _ (by decide +kernel)) ggX2_tick_X2_callAt
set_option maxRecDepth 20000 in
theorem ggX2_tick_X2_waitInQueues : GoodIn wsX2_tick wsX2_waitInQueues := goodIn_r _ [88, 13, 1, 62, 89, 63, 5, 90, 91, 92, 9, 93, 64, 14, 94, 47, 65, 66, 67, 53, 68, 55, 69, 70, 71, 72, 73, 74, 75, 3, 31, 32, 33, 18, 34, 20, 25, 35, 36, 37, 38, 50, 51, 52, 54, 56, 57, 95, 96, 97, 98, 99, 100, 101, 102, 103, 104, 105, 106, 107, 108, 109, 110, 111, 112, 113, 114, 115, 116, 117, 118, 119, 120, 121, 122] (by decide +kernel) (by decide +kernel)
set_option maxRecDepth 20000 in
theorem gX2_tick_X2_waitInQueues : GoodIn wsX2_tick (wsV RX2 147 RX2 yX2_waitInQueues wsX2_waitInQueues) := goodIn_app (goodIn_of _ (by decide +kernel)) ggX2_tick_X2_waitInQueues
set_option maxRecDepth 20000 in
theorem ggX2_serveAt_X1_length : GoodIn wsX2_serveAt wsX1_length := goodIn_r _ [9, 10, 101, 102] (by decide +kernel) (by decide +kernel)
set_option maxRecDepth 20000 in
theorem gX2_serveAt_X1_length : GoodIn wsX2_serveAt (wsV RX2 153 RX1 yX1_length wsX1_length) := goodIn_app (goodIn_of _ (by decide +kernel)) ggX2_serveAt_X1_length
set_option maxRecDepth 20000 in
theorem ggX2_serveAt_X1_numberAt : GoodIn wsX2_serveAt wsX1_numberAt := goodIn_r _ [14, 10, 15, 101, 102] (by decide +kernel) (by decide +kernel)
set_option maxRecDepth 20000 in
theorem gX2_serveAt_X1_numberAt : GoodIn wsX2_serveAt (wsV RX2 156 RX1 yX1_numberAt wsX1_numberAt) := goodIn_app (goodIn_of _ (by decide +kernel)) ggX2_serveAt_X1_numberAt
set_option maxRecDepth 20000 in
theorem ggX2_serveAt_X2_personAt : GoodIn wsX2_serveAt wsX2_personAt := goodIn_r _ [20, 21, 22, 94, 95, 96, 97, 98, 99, 100] (by decide +kernel) (by decide +kernel)
set_option maxRecDepth 20000 in
theorem gX2_serveAt_X2_personAt : GoodIn wsX2_serveAt (wsV RX2 159 RX2 yX2_personAt wsX2_personAt) := goodIn_app (goodIn_of _ (by decide +kernel)) ggX2_serveAt_X2_personAt
set_option maxRecDepth 20000 in
theorem ggX2_serveAt_X1_remove : GoodIn wsX2_serveAt wsX1_remove := goodIn_r _ [26, 10, 15, 27, 28, 29, 8, 30, 101, 102] (by decide +kernel) (by decide +kernel)
set_option maxRecDepth 20000 in
theorem gX2_serveAt_X1_remove : GoodIn wsX2_serveAt (wsV RX2 131 RX1 yX1_remove wsX1_remove) := goodIn_app (goodIn_of _ (by decide +kernel)) ggX2_serveAt_X1_remove
set_option maxRecDepth 20000 in
theorem ggX2_serveAt_X2_finishAt : GoodIn wsX2_serveAt wsX2_finishAt := goodIn_r _ [34, 35, 36, 37, 38, 39, 40, 41, 42, 43, 44, 45, 46, 47, 48, 49, 50, 51, 52, 53, 54, 19, 55, 56, 57, 58, 4, 59, 60, 61, 62, 63, 64, 65, 66, 67, 68, 69, 70, 71, 72, 73, 8, 74, 10, 15, 75, 76, 77, 78, 79, 80, 81, 82, 83, 84, 85, 86, 87, 88, 89, 90, 91, 92, 93, 94, 95, 96, 97, 98, 99, 100, 101, 102] (by decide +kernel) (by decide +kernel)
set_option maxRecDepth 20000 in
theorem gX2_serveAt_X2_finishAt : GoodIn wsX2_serveAt (wsV RX2 166 RX2 yX2_finishAt wsX2_finishAt) := goodIn_app (goodIn_of _ (by decide +kernel)) ggX2_serveAt_X2_finishAt
set_option maxRecDepth 20000 in
theorem ggX2_finishAt_X4_goAs : GoodIn wsX2_finishAt wsX4_goAs := goodIn_r _ [14, 15, 16, 17, 53, 54, 55, 56, 57, 58, 59, 60, 61, 62, 63, 64] (by decide +kernel) (by decide +kernel)
set_option maxRecDepth 20000 in
theorem gX2_finishAt_X4_goAs : GoodIn wsX2_finishAt (wsV RX2 134 RX4 yX4_goAs wsX4_goAs) := goodIn_app (goodIn_of _ (by decide +kernel)) ggX2_finishAt_X4_goAs
set_option maxRecDepth 20000 in
theorem ggX2_finishAt_X2_joinQueue : GoodIn wsX2_finishAt wsX2_joinQueue := goodIn_r _ [22, 23, 24, 25, 26, 27, 28, 29, 13, 30, 15, 31, 32, 33, 34, 35, 36, 21, 37, 38, 39, 40, 41, 42, 43, 44, 45, 53, 54, 55, 56, 57, 58, 59, 60, 61, 62, 63, 64, 46, 47, 48, 49, 50, 51, 52, 65, 66, 67, 68, 69, 70, 71, 72, 73] (by decide +kernel) (by decide +kernel)
set_option maxRecDepth 20000 in
theorem gX2_finishAt_X2_joinQueue : GoodIn wsX2_finishAt (wsV RX2 122 RX2 yX2_joinQueue wsX2_joinQueue) := goodIn_app (goodIn_of _ (by decide +kernel)) ggX2_finishAt_X2_joinQueue
set_option maxRecDepth 20000 in
theorem ggX2_callAt_X1_length : GoodIn wsX2_callAt wsX1_length := goodIn_r _ [12, 13, 57, 58] (by decide +kernel) (by decide +kernel)
set_option maxRecDepth 20000 in
theorem gX2_callAt_X1_length : GoodIn wsX2_callAt (wsV RX2 153 RX1 yX1_length wsX1_length) := goodIn_app (goodIn_of _ (by decide +kernel)) ggX2_callAt_X1_length
set_option maxRecDepth 20000 in
theorem ggX2_callAt_X1_numberAt : GoodIn wsX2_callAt wsX1_numberAt := goodIn_r _ [17, 13, 18, 57, 58] (by decide +kernel) (by decide +kernel)
set_option maxRecDepth 20000 in
theorem gX2_callAt_X1_numberAt : GoodIn wsX2_callAt (wsV RX2 156 RX1 yX1_numberAt wsX1_numberAt) := goodIn_app (goodIn_of _ (by decide +kernel)) ggX2_callAt_X1_numberAt
set_option maxRecDepth 20000 in
theorem ggX2_callAt_X2_personAt : GoodIn wsX2_callAt wsX2_personAt := goodIn_r _ [23, 24, 25, 59, 60, 61, 62, 63, 64, 65] (by decide +kernel) (by decide +kernel)
set_option maxRecDepth 20000 in
theorem gX2_callAt_X2_personAt : GoodIn wsX2_callAt (wsV RX2 159 RX2 yX2_personAt wsX2_personAt) := goodIn_app (goodIn_of _ (by decide +kernel)) ggX2_callAt_X2_personAt
set_option maxRecDepth 20000 in
theorem ggX2_callAt_X1_remove : GoodIn wsX2_callAt wsX1_remove := goodIn_r _ [29, 13, 18, 30, 31, 32, 11, 33, 57, 58] (by decide +kernel) (by decide +kernel)
set_option maxRecDepth 20000 in
theorem gX2_callAt_X1_remove : GoodIn wsX2_callAt (wsV RX2 131 RX1 yX1_remove wsX1_remove) := goodIn_app (goodIn_of _ (by decide +kernel)) ggX2_callAt_X1_remove
set_option maxRecDepth 20000 in
theorem ggX2_callAt_X1_append : GoodIn wsX2_callAt wsX1_append := goodIn_r _ [37, 13, 18, 57, 58] (by decide +kernel) (by decide +kernel)
set_option maxRecDepth 20000 in
theorem gX2_callAt_X1_append : GoodIn wsX2_callAt (wsV RX2 128 RX1 yX1_append wsX1_append) := goodIn_app (goodIn_of _ (by decide +kernel)) ggX2_callAt_X1_append
set_option maxRecDepth 20000 in
theorem ggX2_waitInQueues_X2_sendAway : GoodIn wsX2_waitInQueues wsX2_sendAway := goodIn_r _ [11, 12, 13, 14, 15, 16, 17, 18, 19, 20, 21, 22, 23, 24, 25, 26, 27, 10, 28, 29, 30, 31, 32, 33, 34, 35, 36, 37, 38, 39, 40, 41, 42, 43, 44, 45, 46, 66, 67, 68, 69, 70, 71, 72, 54, 55, 56, 57, 58, 59, 60, 61, 62, 63, 64, 65, 47, 48, 49, 50, 51, 52, 53, 73, 74] (by decide +kernel) (by decide +kernel)
set_option maxRecDepth 20000 in
theorem gX2_waitInQueues_X2_sendAway : GoodIn wsX2_waitInQueues (wsV RX2 183 RX2 yX2_sendAway wsX2_sendAway) := goodIn_app (goodIn_of _ (by decide +kernel)) ggX2_waitInQueues_X2_sendAway
set_option maxRecDepth 20000 in
theorem ggX3_firstFault_X3_isWindow : GoodIn wsX3_firstFault wsX3_isWindow := goodIn_r _ [6] (by decide +kernel) (by decide +kernel)
set_option maxRecDepth 20000 in
theorem gX3_firstFault_X3_isWindow : GoodIn wsX3_firstFault (va_wsS RX3 25 yX3_isWindow wsX3_isWindow) := goodIn_app (goodIn_of _ (by decide +kernel)) ggX3_firstFault_X3_isWindow
set_option maxRecDepth 20000 in
theorem ggX3_firstFault_X3_repeatsAt : GoodIn wsX3_firstFault wsX3_repeatsAt := goodIn_r _ [10, 1, 2, 11, 12] (by decide +kernel) (by decide +kernel)
set_option maxRecDepth 20000 in
theorem gX3_firstFault_X3_repeatsAt : GoodIn wsX3_firstFault (wsV RX3 29 RX3 yX3_repeatsAt wsX3_repeatsAt) := goodIn_app (goodIn_of _ (by decide +kernel)) ggX3_firstFault_X3_repeatsAt
set_option maxRecDepth 20000 in
theorem ggX3_windowAt_X3_isWindow : GoodIn wsX3_windowAt wsX3_isWindow := goodIn_r _ [6] (by decide +kernel) (by decide +kernel)
set_option maxRecDepth 20000 in
theorem gX3_windowAt_X3_isWindow : GoodIn wsX3_windowAt (va_wsS RX3 25 yX3_isWindow wsX3_isWindow) := goodIn_app (goodIn_of _ (by decide +kernel)) ggX3_windowAt_X3_isWindow
set_option maxRecDepth 20000 in
theorem ggX5_init_X1_init : GoodIn wsX5_init wsX1_init := goodIn_r _ [13, 14, 2, 3, 15, 16, 24, 25] (by decide +kernel) (by decide +kernel)
set_option maxRecDepth 20000 in
theorem gX5_init_X1_init_n19 : GoodIn wsX5_init (wsX1_init) := ggX5_init_X1_init
set_option maxRecDepth 20000 in
theorem ggX5_become_X1_become : GoodIn wsX5_become wsX1_become := goodIn_r _ [12, 13, 14, 15, 16, 17, 18, 26, 27] (by decide +kernel) (by decide +kernel)
set_option maxRecDepth 20000 in
theorem gX5_become_X1_become : GoodIn wsX5_become (wsV RX5 36 RX1 yX1_become wsX1_become) := goodIn_app (goodIn_of _ (by decide +kernel)) ggX5_become_X1_become
set_option maxRecDepth 20000 in
theorem ggX6_init_X2_init : GoodIn wsX6_init wsX2_init := goodIn_r _ [22, 23, 2, 3, 24, 25, 26, 27, 28, 29, 30, 31, 32, 33, 34, 35, 36, 37, 38, 39, 40, 41, 42, 43, 44, 45, 46, 47, 48, 49, 50, 51, 52, 53, 54, 55, 56, 57, 58, 59, 60, 61, 62, 63, 76, 77, 78, 79, 80, 81, 82, 94, 95, 96, 97, 98, 99, 100, 101, 102, 103, 104, 105, 106, 107, 108, 109, 110, 111, 112, 113, 114] (by decide +kernel) (by decide +kernel)
set_option maxRecDepth 20000 in
theorem gX6_init_X2_init : GoodIn wsX6_init (wsX2_init) := ggX6_init_X2_init
set_option maxRecDepth 20000 in
theorem ggX6_init_X0_init : GoodIn wsX6_init wsX0_init := goodIn_r _ [66, 67, 2, 3, 68, 69, 5, 6, 70, 21, 22, 23, 24, 25, 26, 27, 28, 29, 30, 31, 32, 33, 34, 35, 36, 37, 38, 39, 40, 41, 42, 43, 44, 45, 46, 47, 48, 49, 50, 51, 52, 53, 54, 55, 56, 57, 58, 59, 60, 61, 62, 63, 89, 90, 91, 76, 77, 78, 79, 80, 81, 82, 94, 95, 96, 97, 98, 99, 100, 101, 102, 103, 104, 105, 106, 107, 108, 109, 110, 111, 112, 113, 114] (by decide +kernel) (by decide +kernel)
set_option maxRecDepth 20000 in
theorem gX6_init_X0_init : GoodIn wsX6_init (wsX0_init) := ggX6_init_X0_init
set_option maxRecDepth 20000 in
theorem ggX6_init_X3_init : GoodIn wsX6_init wsX3_init := goodIn_r _ [72, 73, 2, 3, 74, 75, 92, 93] (by decide +kernel) (by decide +kernel)
set_option maxRecDepth 20000 in
theorem gX6_init_X3_init_n36 : GoodIn wsX6_init (wsX3_init) := ggX6_init_X3_init
set_option maxRecDepth 20000 in
theorem ggX6_set_X0_remember : GoodIn wsX6_set wsX0_remember := goodIn_r _ [11, 12, 13, 14, 15, 16, 17, 18, 19, 20, 21, 22, 23, 24, 25, 26, 27, 28, 29, 30, 31, 32, 33, 34, 35, 36, 37, 38, 39, 40, 41, 42, 43, 44, 45, 46, 47, 48, 49, 50, 51, 52, 53, 54, 55, 56, 57, 58, 59, 60, 61, 62, 63, 64, 65, 66, 67, 68, 69, 70, 71, 85, 86, 87, 78, 79, 80, 81, 82, 83, 84, 88, 89, 90, 91, 92, 93, 94, 95, 96, 97, 98, 99, 100, 101, 102, 103, 104, 105, 106, 107, 108] (by decide +kernel) (by decide +kernel)
set_option maxRecDepth 20000 in
theorem gX6_set_X0_remember : GoodIn wsX6_set (wsV RX6 51 RX0 yX0_remember wsX0_remember) := goodIn_app (goodIn_of _ (by decide +kernel)) ggX6_set_X0_remember
set_option maxRecDepth 20000 in
theorem ggX6_window_X2_windowAt : GoodIn wsX6_window wsX2_windowAt := goodIn_r _ [8, 9, 91, 92, 93, 94, 95, 96, 97] (by decide +kernel) (by decide +kernel)
set_option maxRecDepth 20000 in
theorem gX6_window_X2_windowAt : GoodIn wsX6_window (wsV RX6 58 RX2 yX2_windowAt wsX2_windowAt) := goodIn_app (goodIn_of _ (by decide +kernel)) ggX6_window_X2_windowAt
set_option maxRecDepth 20000 in
theorem ggX6_window_X0_remember : GoodIn wsX6_window wsX0_remember := goodIn_r _ [14, 15, 16, 17, 18, 19, 20, 21, 22, 23, 24, 7, 25, 26, 27, 28, 29, 30, 9, 31, 32, 33, 34, 35, 36, 37, 38, 39, 40, 41, 42, 43, 44, 45, 46, 47, 48, 49, 50, 51, 52, 53, 54, 55, 56, 57, 58, 59, 60, 61, 62, 63, 64, 65, 66, 67, 68, 69, 70, 71, 72, 98, 99, 100, 91, 92, 93, 94, 95, 96, 97, 84, 85, 86, 87, 88, 89, 90, 101, 102, 103, 104, 105, 106, 107, 108, 109, 110, 111, 112, 113, 114] (by decide +kernel) (by decide +kernel)
set_option maxRecDepth 20000 in
theorem gX6_window_X0_remember : GoodIn wsX6_window (wsV RX6 51 RX0 yX0_remember wsX0_remember) := goodIn_app (goodIn_of _ (by decide +kernel)) ggX6_window_X0_remember
set_option maxRecDepth 20000 in
theorem ggX6_window_X2_openWindows : GoodIn wsX6_window wsX2_openWindows := goodIn_r _ [76, 9, 77, 91, 92, 93, 94, 95, 96, 97, 84, 85, 86, 87, 88, 89, 90] (by decide +kernel) (by decide +kernel)
set_option maxRecDepth 20000 in
theorem gX6_window_X2_openWindows : GoodIn wsX6_window (wsV RX6 68 RX2 yX2_openWindows wsX2_openWindows) := goodIn_app (goodIn_of _ (by decide +kernel)) ggX6_window_X2_openWindows
set_option maxRecDepth 20000 in
theorem ggX6_clerks_X2_windowAt : GoodIn wsX6_clerks wsX2_windowAt := goodIn_r _ [8, 9, 86, 87, 88, 89, 90, 91, 92] (by decide +kernel) (by decide +kernel)
set_option maxRecDepth 20000 in
theorem gX6_clerks_X2_windowAt : GoodIn wsX6_clerks (wsV RX6 58 RX2 yX2_windowAt wsX2_windowAt) := goodIn_app (goodIn_of _ (by decide +kernel)) ggX6_clerks_X2_windowAt
set_option maxRecDepth 20000 in
theorem ggX6_clerks_X0_remember : GoodIn wsX6_clerks wsX0_remember := goodIn_r _ [14, 15, 16, 17, 18, 19, 20, 21, 22, 23, 24, 7, 25, 26, 27, 28, 29, 30, 9, 31, 32, 33, 34, 35, 36, 37, 38, 39, 40, 41, 42, 43, 44, 45, 46, 47, 48, 49, 50, 51, 52, 53, 54, 55, 56, 57, 58, 59, 60, 61, 62, 63, 64, 65, 66, 67, 68, 69, 70, 71, 72, 93, 94, 95, 86, 87, 88, 89, 90, 91, 92, 79, 80, 81, 82, 83, 84, 85, 96, 97, 98, 99, 100, 101, 102, 103, 104, 105, 106, 107, 108, 109] (by decide +kernel) (by decide +kernel)
set_option maxRecDepth 20000 in
theorem gX6_clerks_X0_remember : GoodIn wsX6_clerks (wsV RX6 51 RX0 yX0_remember wsX0_remember) := goodIn_app (goodIn_of _ (by decide +kernel)) ggX6_clerks_X0_remember
set_option maxRecDepth 20000 in
theorem ggX6_bring_X2_windowAt : GoodIn wsX6_bring wsX2_windowAt := goodIn_r _ [14, 15, 84, 85, 86, 87, 88, 89, 90] (by decide +kernel) (by decide +kernel)
set_option maxRecDepth 20000 in
theorem gX6_bring_X2_windowAt : GoodIn wsX6_bring (wsV RX6 58 RX2 yX2_windowAt wsX2_windowAt) := goodIn_app (goodIn_of _ (by decide +kernel)) ggX6_bring_X2_windowAt
set_option maxRecDepth 20000 in
theorem ggX6_bring_X0_remember : GoodIn wsX6_bring wsX0_remember := goodIn_r _ [20, 21, 22, 23, 24, 25, 7, 26, 27, 28, 29, 13, 30, 31, 32, 33, 34, 35, 15, 36, 37, 38, 39, 40, 41, 42, 43, 44, 45, 46, 47, 48, 49, 50, 51, 52, 53, 54, 55, 56, 57, 58, 59, 60, 61, 62, 63, 64, 65, 66, 67, 68, 69, 70, 71, 72, 73, 74, 75, 76, 77, 98, 99, 100, 84, 85, 86, 87, 88, 89, 90, 91, 92, 93, 94, 95, 96, 97, 101, 102, 103, 104, 105, 106, 107, 108, 109, 110, 111, 112, 113, 114] (by decide +kernel) (by decide +kernel)
set_option maxRecDepth 20000 in
theorem gX6_bring_X0_remember : GoodIn wsX6_bring (wsV RX6 51 RX0 yX0_remember wsX0_remember) := goodIn_app (goodIn_of _ (by decide +kernel)) ggX6_bring_X0_remember
set_option maxRecDepth 20000 in
theorem ggX6_read_X3_firstFault : GoodIn wsX6_read wsX3_firstFault := goodIn_r _ [9, 10, 11, 12, 13, 8, 14, 15, 16, 17, 18, 149, 150] (by decide +kernel) (by decide +kernel)
set_option maxRecDepth 20000 in
theorem gX6_read_X3_firstFault : GoodIn wsX6_read (wsV RX6 88 RX3 yX3_firstFault wsX3_firstFault) := goodIn_app (goodIn_of _ (by decide +kernel)) ggX6_read_X3_firstFault
set_option maxRecDepth 20000 in
theorem ggX6_read_X3_errands : GoodIn wsX6_read wsX3_errands := goodIn_r _ [22, 10, 11, 149, 150] (by decide +kernel) (by decide +kernel)
set_option maxRecDepth 20000 in
theorem gX6_read_X3_errands : GoodIn wsX6_read (wsV RX6 94 RX3 yX3_errands wsX3_errands) := goodIn_app (goodIn_of _ (by decide +kernel)) ggX6_read_X3_errands
set_option maxRecDepth 20000 in
theorem ggX6_read_X0_remember : GoodIn wsX6_read wsX0_remember := goodIn_r _ [27, 28, 29, 30, 31, 32, 33, 34, 35, 36, 37, 38, 39, 40, 41, 42, 43, 44, 45, 46, 47, 48, 49, 50, 51, 52, 53, 54, 55, 56, 57, 58, 59, 60, 61, 62, 63, 64, 65, 66, 67, 68, 69, 70, 71, 72, 73, 74, 75, 76, 77, 78, 79, 80, 81, 82, 83, 84, 85, 86, 87, 151, 152, 153, 142, 143, 144, 145, 146, 147, 148, 154, 155, 156, 157, 158, 159, 160, 161, 162, 163, 164, 165, 166, 167, 168, 169, 170, 171, 172, 173, 174] (by decide +kernel) (by decide +kernel)
set_option maxRecDepth 20000 in
theorem gX6_read_X0_remember : GoodIn wsX6_read (wsV RX6 51 RX0 yX0_remember wsX0_remember) := goodIn_app (goodIn_of _ (by decide +kernel)) ggX6_read_X0_remember
set_option maxRecDepth 20000 in
theorem ggX6_read_X2_admitAll : GoodIn wsX6_read wsX2_admitAll := goodIn_r _ [91, 92, 20, 21, 8, 22, 10, 11, 93, 94, 95, 96, 97, 98, 33, 99, 100, 101, 102, 38, 103, 47, 46, 104, 105, 106, 107, 12, 13, 14, 108, 109, 110, 74, 111, 78, 76, 112, 113, 114, 115, 116, 117, 118, 119, 120, 121, 122, 123, 79, 80, 124, 125, 126, 127, 45, 128, 129, 130, 66, 131, 70, 68, 149, 150, 142, 143, 144, 145, 146, 147, 148, 163, 164, 165, 166, 167, 168, 169, 170, 171, 172, 173, 174, 154, 155, 156, 157, 158, 159, 160, 161, 162] (by decide +kernel) (by decide +kernel)
set_option maxRecDepth 20000 in
theorem gX6_read_X2_admitAll : GoodIn wsX6_read (wsV RX6 97 RX2 yX2_admitAll wsX2_admitAll) := goodIn_app (goodIn_of _ (by decide +kernel)) ggX6_read_X2_admitAll
set_option maxRecDepth 20000 in
theorem ggX6_read_X3_clear : GoodIn wsX6_read wsX3_clear := goodIn_r _ [135, 10, 149, 150] (by decide +kernel) (by decide +kernel)
set_option maxRecDepth 20000 in
theorem gX6_read_X3_clear : GoodIn wsX6_read (wsV RX6 101 RX3 yX3_clear wsX3_clear) := goodIn_app (goodIn_of _ (by decide +kernel)) ggX6_read_X3_clear
set_option maxRecDepth 20000 in
theorem ggX6_leave_X2_personAt : GoodIn wsX6_leave wsX2_personAt := goodIn_r _ [10, 11, 12, 120, 121, 122, 123, 124, 125, 126] (by decide +kernel) (by decide +kernel)
set_option maxRecDepth 20000 in
theorem gX6_leave_X2_personAt : GoodIn wsX6_leave (wsV RX6 104 RX2 yX2_personAt wsX2_personAt) := goodIn_app (goodIn_of _ (by decide +kernel)) ggX6_leave_X2_personAt
set_option maxRecDepth 20000 in
theorem ggX6_leave_X0_remember : GoodIn wsX6_leave wsX0_remember := goodIn_r _ [17, 18, 19, 20, 21, 22, 23, 24, 25, 26, 27, 9, 28, 29, 30, 31, 32, 33, 34, 12, 11, 35, 36, 37, 38, 39, 40, 41, 42, 43, 44, 45, 46, 47, 48, 49, 50, 51, 52, 53, 54, 55, 56, 57, 58, 59, 60, 61, 62, 63, 64, 65, 66, 67, 68, 69, 70, 71, 72, 73, 74, 127, 128, 129, 120, 121, 122, 123, 124, 125, 126, 130, 131, 132, 133, 134, 135, 136, 137, 138, 108, 109, 110, 111, 112, 113, 114, 115, 116, 117, 118, 119] (by decide +kernel) (by decide +kernel)
set_option maxRecDepth 20000 in
theorem gX6_leave_X0_remember : GoodIn wsX6_leave (wsV RX6 51 RX0 yX0_remember wsX0_remember) := goodIn_app (goodIn_of _ (by decide +kernel)) ggX6_leave_X0_remember
set_option maxRecDepth 20000 in
theorem ggX6_leave_X2_sendAway : GoodIn wsX6_leave wsX2_sendAway := goodIn_r _ [78, 79, 80, 36, 81, 82, 83, 84, 61, 85, 66, 67, 65, 63, 86, 87, 88, 9, 89, 34, 90, 91, 92, 53, 93, 57, 55, 94, 95, 96, 97, 98, 99, 100, 101, 68, 73, 130, 131, 132, 133, 134, 135, 136, 108, 109, 110, 111, 112, 113, 114, 115, 116, 117, 118, 119, 120, 121, 122, 123, 124, 125, 126, 137, 138] (by decide +kernel) (by decide +kernel)
set_option maxRecDepth 20000 in
theorem gX6_leave_X2_sendAway : GoodIn wsX6_leave (wsV RX6 116 RX2 yX2_sendAway wsX2_sendAway) := goodIn_app (goodIn_of _ (by decide +kernel)) ggX6_leave_X2_sendAway
set_option maxRecDepth 20000 in
theorem ggX6_pass_X0_remember : GoodIn wsX6_pass wsX0_remember := goodIn_r _ [8, 9, 10, 11, 12, 13, 14, 15, 16, 17, 18, 19, 20, 21, 22, 23, 24, 25, 26, 27, 28, 29, 30, 31, 32, 33, 34, 35, 36, 37, 38, 39, 40, 41, 42, 43, 44, 45, 46, 47, 48, 49, 50, 51, 52, 53, 54, 55, 56, 57, 58, 59, 60, 61, 62, 63, 64, 65, 66, 67, 68, 167, 168, 169, 160, 161, 162, 163, 164, 165, 166, 170, 171, 172, 173, 174, 175, 176, 177, 178, 179, 180, 181, 182, 183, 184, 185, 186, 187, 188, 189, 190] (by decide +kernel) (by decide +kernel)
set_option maxRecDepth 20000 in
theorem gX6_pass_X0_remember : GoodIn wsX6_pass (wsV RX6 51 RX0 yX0_remember wsX0_remember) := goodIn_app (goodIn_of _ (by decide +kernel)) ggX6_pass_X0_remember
set_option maxRecDepth 20000 in
theorem ggX6_pass_X2_peopleWho : GoodIn wsX6_pass wsX2_peopleWho := goodIn_r _ [72, 27, 73, 160, 161, 162, 163, 164, 165, 166, 179, 180, 181, 182, 183, 184, 185, 186, 187, 188, 189, 190] (by decide +kernel) (by decide +kernel)
set_option maxRecDepth 20000 in
theorem gX6_pass_X2_peopleWho : GoodIn wsX6_pass (wsV RX6 123 RX2 yX2_peopleWho wsX2_peopleWho) := goodIn_app (goodIn_of _ (by decide +kernel)) ggX6_pass_X2_peopleWho
set_option maxRecDepth 20000 in
theorem ggX6_pass_X2_tick : GoodIn wsX6_pass wsX2_tick := goodIn_r _ [77, 27, 78, 26, 79, 29, 80, 81, 82, 19, 83, 84, 85, 21, 86, 87, 88, 89, 47, 90, 51, 91, 92, 93, 94, 49, 95, 96, 97, 98, 28, 99, 100, 101, 102, 103, 104, 105, 106, 107, 108, 109, 110, 111, 112, 113, 114, 115, 116, 117, 118, 119, 120, 55, 121, 60, 62, 67, 122, 123, 124, 125, 73, 126, 127, 128, 129, 130, 131, 61, 59, 57, 132, 133, 134, 135, 136, 137, 138, 139, 140, 141, 142, 143, 144, 145, 146, 147, 148, 149, 150, 151, 152, 153, 30, 160, 161, 162, 163, 164, 165, 166, 179, 180, 181, 182, 183, 184, 185, 186, 187, 188, 189, 190, 170, 171, 172, 173, 174, 175, 176, 177, 178] (by decide +kernel) (by decide +kernel)
set_option maxRecDepth 20000 in
theorem gX6_pass_X2_tick : GoodIn wsX6_pass (wsV RX6 127 RX2 yX2_tick wsX2_tick) := goodIn_app (goodIn_of _ (by decide +kernel)) ggX6_pass_X2_tick
set_option maxRecDepth 20000 in
theorem ggX6_person_X2_personAt : GoodIn wsX6_person wsX2_personAt := goodIn_r _ [13, 14, 15, 62, 63, 64, 65, 66, 67, 68] (by decide +kernel) (by decide +kernel)
set_option maxRecDepth 20000 in
theorem gX6_person_X2_personAt : GoodIn wsX6_person (wsV RX6 104 RX2 yX2_personAt wsX2_personAt) := goodIn_app (goodIn_of _ (by decide +kernel)) ggX6_person_X2_personAt
set_option maxRecDepth 20000 in
theorem ggX6_person_X4_standsAt : GoodIn wsX6_person wsX4_standsAt := goodIn_r _ [20, 21, 22, 23, 24, 50, 51, 52, 53, 54, 55, 56, 57, 58, 59, 60, 61] (by decide +kernel) (by decide +kernel)
set_option maxRecDepth 20000 in
theorem gX6_person_X4_standsAt : GoodIn wsX6_person (wsV RX6 130 RX4 yX4_standsAt wsX4_standsAt) := goodIn_app (goodIn_of _ (by decide +kernel)) ggX6_person_X4_standsAt
set_option maxRecDepth 20000 in
theorem ggX6_person_X2_placeInQueue : GoodIn wsX6_person wsX2_placeInQueue := goodIn_r _ [28, 29, 30, 31, 17, 18, 19, 20, 21, 22, 23, 24, 32, 33, 34, 12, 35, 36, 37, 38, 39, 40, 41, 42, 43, 69, 70, 71, 72, 73, 74, 75, 50, 51, 52, 53, 54, 55, 56, 57, 58, 59, 60, 61, 62, 63, 64, 65, 66, 67, 68, 76, 77] (by decide +kernel) (by decide +kernel)
set_option maxRecDepth 20000 in
theorem gX6_person_X2_placeInQueue : GoodIn wsX6_person (wsV RX6 133 RX2 yX2_placeInQueue wsX2_placeInQueue) := goodIn_app (goodIn_of _ (by decide +kernel)) ggX6_person_X2_placeInQueue
set_option maxRecDepth 20000 in
theorem ggX6_windowOf_X2_windowAt : GoodIn wsX6_windowOf wsX2_windowAt := goodIn_r _ [13, 14, 34, 35, 36, 37, 38, 39, 40] (by decide +kernel) (by decide +kernel)
set_option maxRecDepth 20000 in
theorem gX6_windowOf_X2_windowAt : GoodIn wsX6_windowOf (wsV RX6 58 RX2 yX2_windowAt wsX2_windowAt) := goodIn_app (goodIn_of _ (by decide +kernel)) ggX6_windowOf_X2_windowAt
set_option maxRecDepth 20000 in
theorem ggX6_windowOf_X1_length : GoodIn wsX6_windowOf wsX1_length := goodIn_r _ [19, 20, 41, 42] (by decide +kernel) (by decide +kernel)
set_option maxRecDepth 20000 in
theorem gX6_windowOf_X1_length : GoodIn wsX6_windowOf (wsV RX6 156 RX1 yX1_length wsX1_length) := goodIn_app (goodIn_of _ (by decide +kernel)) ggX6_windowOf_X1_length
set_option maxRecDepth 20000 in
theorem ggX6_count_X2_peopleWho : GoodIn wsX6_count wsX2_peopleWho := goodIn_r _ [13, 14, 15, 55, 56, 57, 58, 59, 60, 61, 62, 63, 64, 65, 66, 67, 68, 69, 70, 71, 72, 73] (by decide +kernel) (by decide +kernel)
set_option maxRecDepth 20000 in
theorem gX6_count_X2_peopleWho : GoodIn wsX6_count (wsV RX6 123 RX2 yX2_peopleWho wsX2_peopleWho) := goodIn_app (goodIn_of _ (by decide +kernel)) ggX6_count_X2_peopleWho
set_option maxRecDepth 20000 in
theorem ggX6_count_X2_halvesOfWindows : GoodIn wsX6_count wsX2_halvesOfWindows := goodIn_r _ [19, 20, 21, 55, 56, 57, 58, 59, 60, 61, 74, 75, 76, 77, 78, 79, 80] (by decide +kernel) (by decide +kernel)
set_option maxRecDepth 20000 in
theorem gX6_count_X2_halvesOfWindows : GoodIn wsX6_count (wsV RX6 168 RX2 yX2_halvesOfWindows wsX2_halvesOfWindows) := goodIn_app (goodIn_of _ (by decide +kernel)) ggX6_count_X2_halvesOfWindows
set_option maxRecDepth 20000 in
theorem ggX6_count_X2_halvesOfPeople : GoodIn wsX6_count wsX2_halvesOfPeople := goodIn_r _ [25, 14, 26, 55, 56, 57, 58, 59, 60, 61, 62, 63, 64, 65, 66, 67, 68, 69, 70, 71, 72, 73] (by decide +kernel) (by decide +kernel)
set_option maxRecDepth 20000 in
theorem gX6_count_X2_halvesOfPeople : GoodIn wsX6_count (wsV RX6 171 RX2 yX2_halvesOfPeople wsX2_halvesOfPeople) := goodIn_app (goodIn_of _ (by decide +kernel)) ggX6_count_X2_halvesOfPeople
set_option maxRecDepth 20000 in
theorem ggX6_count_X2_waits : GoodIn wsX6_count wsX2_waits := goodIn_r _ [30, 14, 31, 55, 56, 57, 58, 59, 60, 61, 62, 63, 64, 65, 66, 67, 68, 69, 70, 71, 72, 73] (by decide +kernel) (by decide +kernel)
set_option maxRecDepth 20000 in
theorem gX6_count_X2_waits : GoodIn wsX6_count (wsV RX6 177 RX2 yX2_waits wsX2_waits) := goodIn_app (goodIn_of _ (by decide +kernel)) ggX6_count_X2_waits
set_option maxRecDepth 20000 in
theorem ggX6_count_X2_timesSentBack : GoodIn wsX6_count wsX2_timesSentBack := goodIn_r _ [35, 14, 36, 55, 56, 57, 58, 59, 60, 61, 62, 63, 64, 65, 66, 67, 68, 69, 70, 71, 72, 73] (by decide +kernel) (by decide +kernel)
set_option maxRecDepth 20000 in
theorem gX6_count_X2_timesSentBack : GoodIn wsX6_count (wsV RX6 179 RX2 yX2_timesSentBack wsX2_timesSentBack) := goodIn_app (goodIn_of _ (by decide +kernel)) ggX6_count_X2_timesSentBack
set_option maxRecDepth 20000 in
theorem ggX6_count_X3_length : GoodIn wsX6_count wsX3_length := goodIn_r _ [41, 42, 81, 82] (by decide +kernel) (by decide +kernel)
set_option maxRecDepth 20000 in
theorem gX6_count_X3_length : GoodIn wsX6_count (wsV RX6 182 RX3 yX3_length wsX3_length) := goodIn_app (goodIn_of _ (by decide +kernel)) ggX6_count_X3_length
set_option maxRecDepth 20000 in
theorem ggX6_count_X0_kept : GoodIn wsX6_count wsX0_kept := goodIn_r _ [47, 48, 83, 84, 85] (by decide +kernel) (by decide +kernel)
set_option maxRecDepth 20000 in
theorem gX6_count_X0_kept : GoodIn wsX6_count (wsV RX6 183 RX0 yX0_kept wsX0_kept) := goodIn_app (goodIn_of _ (by decide +kernel)) ggX6_count_X0_kept
set_option maxRecDepth 20000 in
theorem ggX6_untilDone_X2_personAt : GoodIn wsX6_untilDone wsX2_personAt := goodIn_r _ [8, 9, 10, 157, 158, 159, 160, 161, 162, 163] (by decide +kernel) (by decide +kernel)
set_option maxRecDepth 20000 in
theorem gX6_untilDone_X2_personAt : GoodIn wsX6_untilDone (wsV RX6 104 RX2 yX2_personAt wsX2_personAt) := goodIn_app (goodIn_of _ (by decide +kernel)) ggX6_untilDone_X2_personAt
set_option maxRecDepth 20000 in
theorem ggX6_untilDone_X2_become : GoodIn wsX6_untilDone wsX2_become := goodIn_r _ [14, 15, 16, 17, 18, 19, 20, 10, 9, 21, 22, 23, 24, 25, 26, 27, 28, 29, 30, 31, 32, 33, 34, 35, 36, 37, 38, 39, 40, 41, 42, 43, 44, 45, 46, 47, 48, 49, 50, 51, 52, 53, 54, 55, 56, 57, 58, 59, 60, 157, 158, 159, 160, 161, 162, 163, 164, 165, 166, 167, 168, 169, 170, 171, 172, 145, 146, 147, 148, 149, 150, 151, 152, 153, 154, 155, 156] (by decide +kernel) (by decide +kernel)
set_option maxRecDepth 20000 in
theorem gX6_untilDone_X2_become : GoodIn wsX6_untilDone (wsV RX6 186 RX2 yX2_become wsX2_become) := goodIn_app (goodIn_of _ (by decide +kernel)) ggX6_untilDone_X2_become
set_option maxRecDepth 20000 in
theorem ggX6_untilDone_X2_tick : GoodIn wsX6_untilDone wsX2_tick := goodIn_r _ [64, 10, 65, 20, 66, 21, 67, 68, 69, 7, 70, 71, 72, 15, 73, 74, 75, 76, 39, 77, 43, 78, 79, 80, 81, 41, 82, 5, 6, 8, 9, 83, 84, 85, 86, 87, 88, 89, 90, 91, 92, 93, 94, 95, 96, 97, 98, 99, 100, 101, 102, 103, 104, 47, 105, 52, 54, 59, 106, 107, 108, 109, 110, 111, 112, 113, 114, 115, 116, 53, 51, 49, 117, 118, 119, 120, 121, 122, 123, 124, 125, 126, 127, 128, 129, 130, 131, 132, 133, 134, 135, 136, 137, 138, 22, 157, 158, 159, 160, 161, 162, 163, 145, 146, 147, 148, 149, 150, 151, 152, 153, 154, 155, 156, 164, 165, 166, 167, 168, 169, 170, 171, 172] (by decide +kernel) (by decide +kernel)
set_option maxRecDepth 20000 in
theorem gX6_untilDone_X2_tick : GoodIn wsX6_untilDone (wsV RX6 127 RX2 yX2_tick wsX2_tick) := goodIn_app (goodIn_of _ (by decide +kernel)) ggX6_untilDone_X2_tick
set_option maxRecDepth 20000 in
theorem ggX6_ifPassed_X2_become : GoodIn wsX6_ifPassed wsX2_become := goodIn_r _ [7, 8, 9, 10, 11, 12, 13, 14, 15, 16, 17, 18, 19, 20, 21, 22, 23, 24, 25, 26, 27, 28, 29, 30, 31, 32, 33, 34, 35, 36, 37, 38, 39, 40, 41, 42, 43, 44, 45, 46, 47, 48, 49, 50, 51, 52, 53, 54, 55, 155, 156, 157, 158, 159, 160, 161, 162, 163, 164, 165, 166, 167, 168, 169, 170, 171, 172, 173, 174, 175, 176, 177, 178, 179, 180, 181, 182] (by decide +kernel) (by decide +kernel)
set_option maxRecDepth 20000 in
theorem gX6_ifPassed_X2_become : GoodIn wsX6_ifPassed (wsV RX6 186 RX2 yX2_become wsX2_become) := goodIn_app (goodIn_of _ (by decide +kernel)) ggX6_ifPassed_X2_become
set_option maxRecDepth 20000 in
theorem ggX6_ifPassed_X2_tick : GoodIn wsX6_ifPassed wsX2_tick := goodIn_r _ [59, 14, 60, 13, 61, 16, 62, 63, 64, 6, 65, 66, 67, 8, 68, 69, 70, 71, 34, 72, 38, 73, 74, 75, 76, 36, 77, 78, 79, 80, 15, 81, 82, 83, 84, 85, 86, 87, 88, 89, 90, 91, 92, 93, 94, 95, 96, 97, 98, 99, 100, 101, 102, 42, 103, 47, 49, 54, 104, 105, 106, 107, 108, 109, 110, 111, 112, 113, 114, 48, 46, 44, 115, 116, 117, 118, 119, 120, 121, 122, 123, 124, 125, 126, 127, 128, 129, 130, 131, 132, 133, 134, 135, 136, 17, 155, 156, 157, 158, 159, 160, 161, 171, 172, 173, 174, 175, 176, 177, 178, 179, 180, 181, 182, 162, 163, 164, 165, 166, 167, 168, 169, 170] (by decide +kernel) (by decide +kernel)
set_option maxRecDepth 20000 in
theorem gX6_ifPassed_X2_tick : GoodIn wsX6_ifPassed (wsV RX6 127 RX2 yX2_tick wsX2_tick) := goodIn_app (goodIn_of _ (by decide +kernel)) ggX6_ifPassed_X2_tick
set_option maxRecDepth 20000 in
theorem ggX6_ifPassed_X2_peopleWho : GoodIn wsX6_ifPassed wsX2_peopleWho := goodIn_r _ [140, 14, 108, 155, 156, 157, 158, 159, 160, 161, 171, 172, 173, 174, 175, 176, 177, 178, 179, 180, 181, 182] (by decide +kernel) (by decide +kernel)
set_option maxRecDepth 20000 in
theorem gX6_ifPassed_X2_peopleWho : GoodIn wsX6_ifPassed (wsV RX6 123 RX2 yX2_peopleWho wsX2_peopleWho) := goodIn_app (goodIn_of _ (by decide +kernel)) ggX6_ifPassed_X2_peopleWho
set_option maxRecDepth 20000 in
theorem ggX6_ifPassed_X2_waits : GoodIn wsX6_ifPassed wsX2_waits := goodIn_r _ [144, 14, 132, 155, 156, 157, 158, 159, 160, 161, 171, 172, 173, 174, 175, 176, 177, 178, 179, 180, 181, 182] (by decide +kernel) (by decide +kernel)
set_option maxRecDepth 20000 in
theorem gX6_ifPassed_X2_waits : GoodIn wsX6_ifPassed (wsV RX6 177 RX2 yX2_waits wsX2_waits) := goodIn_app (goodIn_of _ (by decide +kernel)) ggX6_ifPassed_X2_waits
set_option maxRecDepth 20000 in
theorem ggX6_ifPassed_X2_timesSentBack : GoodIn wsX6_ifPassed wsX2_timesSentBack := goodIn_r _ [148, 14, 98, 155, 156, 157, 158, 159, 160, 161, 171, 172, 173, 174, 175, 176, 177, 178, 179, 180, 181, 182] (by decide +kernel) (by decide +kernel)
set_option maxRecDepth 20000 in
theorem gX6_ifPassed_X2_timesSentBack : GoodIn wsX6_ifPassed (wsV RX6 179 RX2 yX2_timesSentBack wsX2_timesSentBack) := goodIn_app (goodIn_of _ (by decide +kernel)) ggX6_ifPassed_X2_timesSentBack
set_option maxRecDepth 20000 in
theorem ggX6_bestClerk_X6_doneWithOneMoreAt : GoodIn wsX6_bestClerk wsX6_doneWithOneMoreAt := goodIn_r _ [7, 8, 1, 2, 9, 10, 11, 12, 13, 14, 15, 16, 17, 18, 19, 20, 21, 22, 23, 24, 25, 26, 27, 28, 29, 30, 31, 32, 33, 34, 35, 36, 37, 38, 39, 40, 41, 42, 43, 44, 45, 46, 47, 48, 49, 50, 51, 52, 53, 54, 55, 56, 57, 58, 59, 60, 61, 62, 63, 64, 65, 66, 67, 68, 69, 70, 71, 72, 73, 74, 75, 76, 77, 78, 79, 80, 81, 82, 83, 84, 85, 86, 87, 88, 89, 90, 91, 92, 93, 94, 95, 96, 97, 98, 99, 100, 101, 102, 103, 104, 105, 106, 107, 108, 109, 110, 111, 112, 113, 114, 115, 116, 117, 118, 119, 120, 121, 122, 123, 124, 125, 126, 127, 128, 129, 130, 131, 132, 133, 134, 135, 136, 137, 138, 139, 140, 141, 142, 143, 144, 145, 146, 147, 148, 149, 150, 151, 152, 153, 154, 155, 156, 157, 158, 159, 160, 161, 162, 163, 164, 165, 166, 167, 168, 169, 170, 171, 172, 173, 174, 175, 176, 177, 178, 179, 180, 181] (by decide +kernel) (by decide +kernel)
set_option maxRecDepth 20000 in
theorem gX6_bestClerk_X6_doneWithOneMoreAt : GoodIn wsX6_bestClerk (wsV RX6 189 RX6 yX6_doneWithOneMoreAt wsX6_doneWithOneMoreAt) := goodIn_app (goodIn_of _ (by decide +kernel)) ggX6_bestClerk_X6_doneWithOneMoreAt
set_option maxRecDepth 20000 in
theorem ggX6_bestClerk_X2_windowAt : GoodIn wsX6_bestClerk wsX2_windowAt := goodIn_r _ [65, 19, 161, 162, 163, 164, 165, 166, 167] (by decide +kernel) (by decide +kernel)
set_option maxRecDepth 20000 in
theorem gX6_bestClerk_X2_windowAt : GoodIn wsX6_bestClerk (wsV RX6 58 RX2 yX2_windowAt wsX2_windowAt) := goodIn_app (goodIn_of _ (by decide +kernel)) ggX6_bestClerk_X2_windowAt
set_option maxRecDepth 20000 in
theorem ggX6_doneWithOneMoreAt_X2_become : GoodIn wsX6_doneWithOneMoreAt wsX2_become := goodIn_r _ [8, 9, 10, 11, 12, 13, 14, 15, 16, 17, 18, 19, 20, 21, 22, 23, 24, 25, 26, 27, 28, 29, 30, 31, 32, 33, 34, 35, 36, 37, 38, 39, 40, 41, 42, 43, 44, 45, 46, 47, 48, 49, 50, 51, 52, 53, 54, 55, 56, 156, 157, 158, 159, 160, 161, 162, 149, 150, 151, 152, 153, 154, 155, 163, 164, 165, 166, 167, 168, 169, 170, 171, 172, 173, 174, 175, 176] (by decide +kernel) (by decide +kernel)
set_option maxRecDepth 20000 in
theorem gX6_doneWithOneMoreAt_X2_become : GoodIn wsX6_doneWithOneMoreAt (wsV RX6 186 RX2 yX2_become wsX2_become) := goodIn_app (goodIn_of _ (by decide +kernel)) ggX6_doneWithOneMoreAt_X2_become
set_option maxRecDepth 20000 in
theorem ggX6_doneWithOneMoreAt_X2_windowAt : GoodIn wsX6_doneWithOneMoreAt wsX2_windowAt := goodIn_r _ [60, 14, 156, 157, 158, 159, 160, 161, 162] (by decide +kernel) (by decide +kernel)
set_option maxRecDepth 20000 in
theorem gX6_doneWithOneMoreAt_X2_windowAt : GoodIn wsX6_doneWithOneMoreAt (wsV RX6 58 RX2 yX2_windowAt wsX2_windowAt) := goodIn_app (goodIn_of _ (by decide +kernel)) ggX6_doneWithOneMoreAt_X2_windowAt
set_option maxRecDepth 20000 in
theorem ggX6_doneWithOneMoreAt_X2_tick : GoodIn wsX6_doneWithOneMoreAt wsX2_tick := goodIn_r _ [64, 15, 65, 14, 66, 17, 67, 68, 69, 7, 70, 71, 72, 9, 73, 74, 75, 76, 35, 77, 39, 78, 79, 80, 81, 37, 82, 83, 84, 85, 16, 86, 87, 88, 89, 90, 91, 92, 93, 94, 95, 96, 97, 98, 99, 100, 101, 102, 103, 104, 105, 106, 107, 43, 108, 48, 50, 55, 109, 110, 111, 112, 113, 114, 115, 116, 117, 118, 119, 49, 47, 45, 120, 58, 59, 60, 121, 122, 123, 124, 125, 126, 127, 128, 129, 130, 131, 132, 133, 134, 135, 136, 137, 138, 18, 156, 157, 158, 159, 160, 161, 162, 165, 166, 167, 168, 169, 170, 171, 172, 173, 174, 175, 176, 149, 150, 151, 152, 153, 154, 155, 163, 164] (by decide +kernel) (by decide +kernel)
set_option maxRecDepth 20000 in
theorem gX6_doneWithOneMoreAt_X2_tick : GoodIn wsX6_doneWithOneMoreAt (wsV RX6 127 RX2 yX2_tick wsX2_tick) := goodIn_app (goodIn_of _ (by decide +kernel)) ggX6_doneWithOneMoreAt_X2_tick
set_option maxRecDepth 20000 in
theorem ggX6_doneWithOneMoreAt_X2_peopleWho : GoodIn wsX6_doneWithOneMoreAt wsX2_peopleWho := goodIn_r _ [142, 15, 113, 156, 157, 158, 159, 160, 161, 162, 165, 166, 167, 168, 169, 170, 171, 172, 173, 174, 175, 176] (by decide +kernel) (by decide +kernel)
set_option maxRecDepth 20000 in
theorem gX6_doneWithOneMoreAt_X2_peopleWho : GoodIn wsX6_doneWithOneMoreAt (wsV RX6 123 RX2 yX2_peopleWho wsX2_peopleWho) := goodIn_app (goodIn_of _ (by decide +kernel)) ggX6_doneWithOneMoreAt_X2_peopleWho
set_option maxRecDepth 20000 in
theorem ggX6_longest_X2_windowAt : GoodIn wsX6_longest wsX2_windowAt := goodIn_r _ [7, 8, 28, 29, 30, 31, 32, 33, 34] (by decide +kernel) (by decide +kernel)
set_option maxRecDepth 20000 in
theorem gX6_longest_X2_windowAt : GoodIn wsX6_longest (wsV RX6 58 RX2 yX2_windowAt wsX2_windowAt) := goodIn_app (goodIn_of _ (by decide +kernel)) ggX6_longest_X2_windowAt
set_option maxRecDepth 20000 in
theorem ggX6_longest_X1_length : GoodIn wsX6_longest wsX1_length := goodIn_r _ [13, 14, 35, 36] (by decide +kernel) (by decide +kernel)
set_option maxRecDepth 20000 in
theorem gX6_longest_X1_length : GoodIn wsX6_longest (wsV RX6 156 RX1 yX1_length wsX1_length) := goodIn_app (goodIn_of _ (by decide +kernel)) ggX6_longest_X1_length
set_option maxRecDepth 20000 in
theorem ggX6_put_X3_charactersIn : GoodIn wsX6_put wsX3_charactersIn := goodIn_r _ [5, 6, 7, 8] (by decide +kernel) (by decide +kernel)
set_option maxRecDepth 20000 in
theorem gX6_put_X3_charactersIn : GoodIn wsX6_put (va_wsS RX6 192 yX3_charactersIn wsX3_charactersIn) := goodIn_app (goodIn_of _ (by decide +kernel)) ggX6_put_X3_charactersIn
set_option maxRecDepth 20000 in
theorem ggX6_put_X3_length : GoodIn wsX6_put wsX3_length := goodIn_r _ [12, 13, 25, 26] (by decide +kernel) (by decide +kernel)
set_option maxRecDepth 20000 in
theorem gX6_put_X3_length : GoodIn wsX6_put (wsV RX6 182 RX3 yX3_length wsX3_length) := goodIn_app (goodIn_of _ (by decide +kernel)) ggX6_put_X3_length
set_option maxRecDepth 20000 in
theorem ggX6_put_X3_append : GoodIn wsX6_put wsX3_append := goodIn_r _ [17, 13, 18, 6, 25, 26] (by decide +kernel) (by decide +kernel)
set_option maxRecDepth 20000 in
theorem gX6_put_X3_append : GoodIn wsX6_put (wsV RX6 196 RX3 yX3_append wsX3_append) := goodIn_app (goodIn_of _ (by decide +kernel)) ggX6_put_X3_append
set_option maxRecDepth 20000 in
theorem ggX6_wipe_X3_length : GoodIn wsX6_wipe wsX3_length := goodIn_r _ [6, 7, 18, 19] (by decide +kernel) (by decide +kernel)
set_option maxRecDepth 20000 in
theorem gX6_wipe_X3_length : GoodIn wsX6_wipe (wsV RX6 182 RX3 yX3_length wsX3_length) := goodIn_app (goodIn_of _ (by decide +kernel)) ggX6_wipe_X3_length
set_option maxRecDepth 20000 in
theorem ggX6_wipe_X3_clear : GoodIn wsX6_wipe wsX3_clear := goodIn_r _ [11, 7, 18, 19] (by decide +kernel) (by decide +kernel)
set_option maxRecDepth 20000 in
theorem gX6_wipe_X3_clear : GoodIn wsX6_wipe (wsV RX6 101 RX3 yX3_clear wsX3_clear) := goodIn_app (goodIn_of _ (by decide +kernel)) ggX6_wipe_X3_clear
set_option maxRecDepth 20000 in
theorem ggX6_save_X2_become : GoodIn wsX6_save wsX2_become := goodIn_r _ [9, 10, 11, 12, 13, 14, 15, 16, 17, 18, 19, 20, 21, 22, 23, 24, 25, 26, 27, 28, 29, 30, 31, 32, 33, 34, 35, 36, 37, 38, 39, 40, 41, 42, 43, 44, 45, 46, 47, 48, 49, 50, 51, 52, 53, 54, 55, 56, 57, 64, 65, 66, 67, 68, 69, 70, 71, 72, 73, 74, 75, 76, 77, 78, 79, 80, 81, 82, 83, 84, 85, 86, 87, 88, 89, 90, 91] (by decide +kernel) (by decide +kernel)
set_option maxRecDepth 20000 in
theorem gX6_save_X2_become : GoodIn wsX6_save (wsV RX6 186 RX2 yX2_become wsX2_become) := goodIn_app (goodIn_of _ (by decide +kernel)) ggX6_save_X2_become
set_option maxRecDepth 20000 in
theorem ggX6_restore_X0_remember : GoodIn wsX6_restore wsX0_remember := goodIn_r _ [10, 11, 12, 13, 14, 15, 16, 17, 18, 19, 20, 21, 22, 23, 24, 25, 26, 27, 28, 29, 30, 31, 32, 33, 34, 35, 36, 37, 38, 39, 40, 41, 42, 43, 44, 45, 46, 47, 48, 49, 50, 51, 52, 53, 54, 55, 56, 57, 58, 59, 60, 61, 62, 63, 64, 65, 66, 67, 68, 69, 70, 85, 86, 87, 78, 79, 80, 81, 82, 83, 84, 88, 89, 90, 91, 92, 93, 94, 95, 96, 97, 98, 99, 100, 101, 102, 103, 104, 105, 106, 107, 108] (by decide +kernel) (by decide +kernel)
set_option maxRecDepth 20000 in
theorem gX6_restore_X0_remember : GoodIn wsX6_restore (wsV RX6 51 RX0 yX0_remember wsX0_remember) := goodIn_app (goodIn_of _ (by decide +kernel)) ggX6_restore_X0_remember
set_option maxRecDepth 20000 in
theorem ggX6_restore_X2_become : GoodIn wsX6_restore wsX2_become := goodIn_r _ [22, 23, 24, 25, 26, 27, 28, 29, 30, 31, 32, 33, 34, 35, 36, 37, 38, 39, 40, 41, 42, 43, 44, 45, 46, 47, 48, 49, 50, 51, 52, 53, 54, 55, 56, 57, 58, 59, 60, 61, 62, 63, 64, 65, 66, 67, 68, 69, 70, 78, 79, 80, 81, 82, 83, 84, 88, 89, 90, 91, 92, 93, 94, 95, 96, 97, 98, 99, 100, 101, 102, 103, 104, 105, 106, 107, 108] (by decide +kernel) (by decide +kernel)
set_option maxRecDepth 20000 in
theorem gX6_restore_X2_become : GoodIn wsX6_restore (wsV RX6 186 RX2 yX2_become wsX2_become) := goodIn_app (goodIn_of _ (by decide +kernel)) ggX6_restore_X2_become
theorem dJ9_max_7cf53_0 : decode cJ9_max_7cf53 0 = .ok (.iload_n 0, 1) := by decide +kernel
theorem dJ9_max_7cf53_1 : decode cJ9_max_7cf53 1 = .ok (.iload_n 1, 1) := by decide +kernel
theorem dJ9_max_7cf53_2 : decode cJ9_max_7cf53 2 = .ok (.if_icmp .lt 7, 3) := by decide +kernel
theorem dJ9_max_7cf53_5 : decode cJ9_max_7cf53 5 = .ok (.iload_n 0, 1) := by decide +kernel
theorem dJ9_max_7cf53_6 : decode cJ9_max_7cf53 6 = .ok (.goto 4, 3) := by decide +kernel
theorem dJ9_max_7cf53_9 : decode cJ9_max_7cf53 9 = .ok (.iload_n 1, 1) := by decide +kernel
theorem dJ9_max_7cf53_10 : decode cJ9_max_7cf53 10 = .ok (.ireturn, 1) := by decide +kernel
theorem dJ9_min_7cf53_0 : decode cJ9_min_7cf53 0 = .ok (.iload_n 0, 1) := by decide +kernel
theorem dJ9_min_7cf53_1 : decode cJ9_min_7cf53 1 = .ok (.iload_n 1, 1) := by decide +kernel
theorem dJ9_min_7cf53_2 : decode cJ9_min_7cf53 2 = .ok (.if_icmp .gt 7, 3) := by decide +kernel
theorem dJ9_min_7cf53_5 : decode cJ9_min_7cf53 5 = .ok (.iload_n 0, 1) := by decide +kernel
theorem dJ9_min_7cf53_6 : decode cJ9_min_7cf53 6 = .ok (.goto 4, 3) := by decide +kernel
theorem dJ9_min_7cf53_9 : decode cJ9_min_7cf53 9 = .ok (.iload_n 1, 1) := by decide +kernel
theorem dJ9_min_7cf53_10 : decode cJ9_min_7cf53 10 = .ok (.ireturn, 1) := by decide +kernel
set_option maxRecDepth 20000 in
set_option maxRecDepth 20000 in
set_option maxRecDepth 20000 in
set_option maxRecDepth 20000 in
set_option maxRecDepth 20000 in
set_option maxRecDepth 20000 in
set_option maxRecDepth 20000 in
set_option maxRecDepth 20000 in
set_option maxRecDepth 20000 in
set_option maxRecDepth 20000 in
set_option maxRecDepth 20000 in
set_option maxRecDepth 20000 in
set_option maxRecDepth 20000 in
set_option maxRecDepth 20000 in
set_option maxRecDepth 20000 in
set_option maxRecDepth 20000 in
set_option maxRecDepth 20000 in
set_option maxRecDepth 20000 in
set_option maxRecDepth 20000 in
set_option maxRecDepth 20000 in
set_option maxRecDepth 20000 in
set_option maxRecDepth 20000 in
set_option maxRecDepth 20000 in
set_option maxRecDepth 20000 in
set_option maxRecDepth 20000 in
set_option maxRecDepth 20000 in
set_option maxRecDepth 20000 in
set_option maxRecDepth 20000 in
set_option maxRecDepth 20000 in
set_option maxRecDepth 20000 in
set_option maxRecDepth 20000 in
set_option maxRecDepth 20000 in
set_option maxRecDepth 20000 in
set_option maxRecDepth 20000 in
set_option maxRecDepth 20000 in
set_option maxRecDepth 20000 in
set_option maxRecDepth 20000 in
set_option maxRecDepth 20000 in
set_option maxRecDepth 20000 in
set_option maxRecDepth 20000 in
set_option maxRecDepth 20000 in
set_option maxRecDepth 20000 in
set_option maxRecDepth 20000 in
set_option maxRecDepth 20000 in
set_option maxRecDepth 20000 in
set_option maxRecDepth 20000 in
set_option maxRecDepth 20000 in
set_option maxRecDepth 20000 in
set_option maxRecDepth 20000 in
set_option maxRecDepth 20000 in
set_option maxRecDepth 20000 in
set_option maxRecDepth 20000 in
set_option maxRecDepth 20000 in
set_option maxRecDepth 20000 in
set_option maxRecDepth 20000 in
set_option maxRecDepth 20000 in
set_option maxRecDepth 20000 in
set_option maxRecDepth 20000 in
set_option maxRecDepth 20000 in
set_option maxRecDepth 20000 in
set_option maxRecDepth 20000 in
set_option maxRecDepth 20000 in
set_option maxRecDepth 20000 in
set_option maxRecDepth 20000 in
set_option maxRecDepth 20000 in
set_option maxRecDepth 20000 in
set_option maxRecDepth 20000 in
set_option maxRecDepth 20000 in
set_option maxRecDepth 20000 in
set_option maxRecDepth 20000 in
set_option maxRecDepth 20000 in
set_option maxRecDepth 20000 in
abbrev vwCl : List vw_C := [(RX0, TX0, 3), (RX1, TX1, 2), (RX2, TX2, 7), (RX3, TX3, 2), (RX4, TX4, 12), (RX5, TX5, 7), (RX6, TX6, 6)]
end
section
/-! THE WORLD OF THIS CLAIM: an address has a kind (τ), each cell its ints (M: address, slot, number); references follow from the layout: a ministry at a has its cells at a .. a + 81, an object of HalfTickets at b at b .. b + 826. -/
abbrev xm_T : Type := Nat → Nat → Int32
def xr_up (M : xm_T) (a : Nat) (f : Nat → Int32) : xm_T := fun y => if y = a then f else M y
def xu_p (M : xm_T) (a k : Nat) (v : Int32) : xm_T := xr_up M a (upd (M a) k v)
theorem xr_s (M : xm_T) (a : Nat) (f : Nat → Int32) : xr_up M a f a = f := if_pos rfl
theorem xr_n (M : xm_T) {a y : Nat} (f : Nat → Int32) (h : y ≠ a) : xr_up M a f y = M y := if_neg h
theorem xu_s (M : xm_T) (a k : Nat) (v : Int32) : xu_p M a k v a k = v := by unfold xu_p; rw [xr_s]; exact if_pos rfl
theorem xu_n {M : xm_T} {a k x j : Nat} (v : Int32) (h : x ≠ a ∨ j ≠ k) : xu_p M a k v x j = M x j := by
  unfold xu_p
  by_cases hx : x = a
  · subst hx
    rw [xr_s]
    exact if_neg (by rcases h with h | h; exact absurd rfl h; exact h)
  · rw [xr_n _ _ hx]
def xb_01 (v : Int32) : Prop := v = 0 ∨ v = 1
/-- what stands in a cell of a kind, with the ints r, at the address x -/
def xw_cell (g : Nat → ClassId) (κ : Nat) (r : Nat → Int32) (x : Nat) : va_E := match κ with
  | 1 => .inr (2, [.ref (x + 1), .ref (x + 2), .ref (x + 3), .int (r 3), .int (r 4), .int (r 5), .int (r 6)])
  | 3 => .inl (g 3, 6, .inr (.inr (.inr (.inr (fun w => some (x + 5 * w + 2))))))
  | 4 => .inl (g 4, 24, .inr (.inr (.inr (.inr (fun k => some (x + 2 * k + 31))))))
  | 5 => .inr (5, [.int (r 0), .int (r 1), .int (r 2), .int (r 3), .int (r 4), .ref (x + 1), .ref (x + 3)])
  | 6 => .inr (1, [.ref (x + 1), .int (r 1)])
  | 8 => .inr (4, [.int (r 0), .ref (x + 1), .int (r 2), .int (r 3), .int (r 4), .int (r 5), .int (r 6), .int (r 7), .int (r 8), .int (r 9), .int (r 10), .int (r 11)])
  | 10 => .inr (0, [.ref (x + 1), .int (r 1), .int (r 2)])
  | 11 => .inl (g 5, 6, .inr (.inr (.inr (.inr (fun i => some (x + 82 * i + 1))))))
  | 12 => .inl (g 5, 2, .inr (.inr (.inr (.inr (fun i => some (x + 82 * i + 1))))))
  | 13 => .inl (g 1, 2, .inl r)
  | 14 => .inr (3, [.ref (x + 1), .int (r 1)])
  | 15 => .inl (g 2, 60, .inl r)
  | 16 => .inr (6, [.ref (x + 1), .ref (x + 83), .ref (x + 165), .ref (x + 659), .ref (x + 824), .ref (x + 825)])
  | 20 => .inr (7, [.ref (x + 1), .ref (x + 2), .ref (x + 3), .int (r 3), .ref (x + 4), .ref (x + 5), .ref (x + 6), .ref (x + 7), .int (r 8), .ref (x + 8), .ref (x + 9), .int (r 11)])
  | κ => .inl (g 0, κ - 100, .inl r)
/-- booleans are 0 or 1 -/
def xw_ok (κ : Nat) (r : Nat → Int32) : Prop := match κ with
  | 5 => xb_01 (r 0)
  | 8 => xb_01 (r 5) ∧ xb_01 (r 11)
  | 13 => xb_01 (r 0) ∧ xb_01 (r 1)
  | _ => True
def xw_D (G : va_G) (g : Nat → ClassId) (τ : Nat → Nat) (M : xm_T) (H : Heap) : Prop := ∀ x, τ x ≠ 0 → va_at G vwCl (x, xw_cell g (τ x) (M x) x) H ∧ xw_ok (τ x) (M x)
def xw_tys (g : Nat → ClassId) : List (ClassId × FieldType) := [(g 0, .int), (g 1, .boolean), (g 2, .char), (g 3, .object RX5), (g 4, .object RX4), (g 5, .object RX2)]
/-- the static arrays -/
def xs_0 : Nat → Int32 := fun j => if j = 0 then 2 else if j = 1 then 8 else 0
def xs_1 : Nat → Int32 := fun j => if j = 0 then 1 else 0
def xs_2 : Nat → Int32 := fun j => if j = 0 then 6 else if j = 1 then 20 else 60
def xs_C (t : Nat) (A : Nat → Prop) (U : State) (H : Heap) : Prop := ∃ cell : Cell, H[t]? = some cell ∧ cell.slots.size = 3 ∧ cell.vm ≠ .unknown ∧ (∀ k, cell.vm ≠ .statics k) ∧ U.vm.findClass "[I" = some cell.cls ∧ (∀ j : Nat, j < 3 → cell.slots[j]? = some (.int (xs_0 j))) ∧ ¬ A t
def xw_st (t0 : Nat → Nat) (A : Nat → Prop) (U : State) (H : Heap) : Prop :=
  (va_Z RX6 "FIRST_SETTING" "[I" (.ref (t0 0)) A U H ∧ va_T .int (t0 0) 3 (fun j => .int (xs_0 j)) A U H) ∧
  (va_Z RX6 "LOWEST_SETTING" "[I" (.ref (t0 1)) A U H ∧ va_T .int (t0 1) 3 (fun j => .int (xs_1 j)) A U H) ∧
  (va_Z RX6 "HIGHEST_SETTING" "[I" (.ref (t0 2)) A U H ∧ va_T .int (t0 2) 3 (fun j => .int (xs_2 j)) A U H) ∧
  xs_C (t0 0) A U H
theorem xs_C.moved {t : Nat} {A : Nat → Prop} {u U : State} {H : Heap} (h : xs_C t A u H) (hvm : u.vm.Alike U.vm) : xs_C t A U H := by
  obtain ⟨cell, h1, h2, h3, h4, h5, h6⟩ := h
  exact ⟨cell, h1, h2, h3, h4, by rw [hvm.findClass]; exact h5, h6⟩
theorem xs_C.kept {t : Nat} {A : Nat → Prop} {U : State} {H H1 : Heap} (h : xs_C t A U H) (hq : ∀ a : Nat, a < H.size → ¬ A a → H1[a]? = H[a]?) : xs_C t A U H1 := by
  obtain ⟨cell, h1, h2, h3, h4, h5, h6, h7⟩ := h
  exact ⟨cell, by rw [hq t (Array.getElem?_eq_some_iff.mp h1).1 h7]; exact h1, h2, h3, h4, h5, h6, h7⟩
theorem xs_C.narrow {t : Nat} {A B : Nat → Prop} {U : State} {H : Heap} (h : xs_C t A U H) (hAB : ∀ q, B q → A q) : xs_C t B U H := by
  obtain ⟨cell, h1, h2, h3, h4, h5, h6, h7⟩ := h
  exact ⟨cell, h1, h2, h3, h4, h5, h6, fun z => h7 (hAB t z)⟩
/-- what the tables say across the nest, and of arrays -/
def xw_nw (g : Nat → ClassId) (U : State) : Prop :=
  va_Nw (.fieldLinkNest RX2 9 RX6 "FIRST_SETTING" "[I" RX6) U ∧ va_Nw (.castable "[I" "java/lang/Cloneable") U ∧
  va_Nw (.methodLinkNest RX5 19 yX1_init RX6) U ∧ va_Nw (.methodLinkNest RX6 36 yX3_init RX6) U ∧
  va_AO RX2 U ∧ va_AO RX4 U ∧ va_AO RX5 U ∧ U.vm.findClass "[I" = some (g 0)
theorem xw_nw.warm {g : Nat → ClassId} {s U : State} (h : xw_nw g s) (hW : s.WarmedH U.vm) : xw_nw g U :=
  ⟨va_Nw.warmF hW h.1, va_Nw.warmC hW h.2.1, va_Nw.warmM hW h.2.2.1, va_Nw.warmM hW h.2.2.2.1, h.2.2.2.2.1.moved hW.alike, h.2.2.2.2.2.1.moved hW.alike, h.2.2.2.2.2.2.1.moved hW.alike, by rw [hW.alike.findClass]; exact h.2.2.2.2.2.2.2⟩
theorem xw_nw.call {g : Nat → ClassId} {U : State} {f : JFrame} {mk : MethodId} {a : Array Value} (h : xw_nw g U) : xw_nw g (U.calling f mk a) :=
  ⟨va_Nw.same rfl rfl h.1, va_Nw.same rfl rfl h.2.1, va_Nw.same rfl rfl h.2.2.1, va_Nw.same rfl rfl h.2.2.2.1, h.2.2.2.2.1.moved (Vm.Alike.refl U.vm), h.2.2.2.2.2.1.moved (Vm.Alike.refl U.vm), h.2.2.2.2.2.2.1.moved (Vm.Alike.refl U.vm), h.2.2.2.2.2.2.2⟩
theorem xw_st.moved {t0 : Nat → Nat} {A : Nat → Prop} {u U : State} {H : Heap} (h : xw_st t0 A u H) (hvm : u.vm.Alike U.vm) : xw_st t0 A U H :=
  ⟨⟨va_Z.moved hvm h.1.1, va_T.moved hvm h.1.2⟩, ⟨va_Z.moved hvm h.2.1.1, va_T.moved hvm h.2.1.2⟩, ⟨va_Z.moved hvm h.2.2.1.1, va_T.moved hvm h.2.2.1.2⟩, h.2.2.2.moved hvm⟩
theorem xw_st.kept {t0 : Nat → Nat} {A : Nat → Prop} {U : State} {H H1 : Heap} (h : xw_st t0 A U H) (hq : ∀ a : Nat, a < H.size → ¬ A a → H1[a]? = H[a]?) : xw_st t0 A U H1 :=
  ⟨⟨h.1.1.kept hq, h.1.2.kept hq⟩, ⟨h.2.1.1.kept hq, h.2.1.2.kept hq⟩, ⟨h.2.2.1.1.kept hq, h.2.2.1.2.kept hq⟩, h.2.2.2.kept hq⟩
theorem xw_st.narrow {t0 : Nat → Nat} {A B : Nat → Prop} {U : State} {H : Heap} (h : xw_st t0 A U H) (hAB : ∀ q, B q → A q) : xw_st t0 B U H :=
  ⟨⟨h.1.1.narrow hAB, h.1.2.narrow hAB⟩, ⟨h.2.1.1.narrow hAB, h.2.1.2.narrow hAB⟩, ⟨h.2.2.1.1.narrow hAB, h.2.2.1.2.narrow hAB⟩, h.2.2.2.narrow hAB⟩
/-- what holds at a method's start -/
def xS_t (G : va_G) (g : Nat → ClassId) (t0 τ : Nat → Nat) (A : Nat → Prop) (M : xm_T) (U : State) : Prop :=
  xw_D G g τ M U.heap ∧ va_K G vwCl (xw_tys g) U ∧ xw_st t0 A U U.heap ∧ xw_nw g U
theorem xS_mk {G : va_G} {g : Nat → ClassId} {t0 τ : Nat → Nat} {A : Nat → Prop} {M : xm_T} {s U : State} {H : Heap} {locs : List Loc} (hK : va_K G vwCl (xw_tys g) s) (hst : xw_st t0 A s s.heap) (hnw : xw_nw g s) (hS : va_S A s.heap H locs) (hW : xw_D G g τ M H) (hU : U.heap = H) (hWm : s.WarmedH U.vm) : xS_t G g t0 τ A M U :=
  ⟨by rw [hU]; exact hW, va_K.moved hWm.alike hK, (hst.moved hWm.alike).kept (fun a h1 h2 => by rw [hU]; exact hS.2.1 a h1 h2), hnw.warm hWm⟩
theorem xS_call {G : va_G} {g : Nat → ClassId} {t0 τ : Nat → Nat} {A : Nat → Prop} {M : xm_T} {U : State} {f : JFrame} {mk : MethodId} {a : Array Value} (h : xS_t G g t0 τ A M U) : xS_t G g t0 τ A M (U.calling f mk a) :=
  ⟨h.1, va_K.moved (u := U) (U := U.calling f mk a) (Vm.Alike.refl U.vm) h.2.1, h.2.2.1.moved (u := U) (U := U.calling f mk a) (Vm.Alike.refl U.vm), h.2.2.2.call⟩
theorem xS_blind {G : va_G} {g : Nat → ClassId} {t0 τ : Nat → Nat} {A : Nat → Prop} {M : xm_T} (av : List Value) : FrameBlind (va_Pc av (xS_t G g t0 τ A M)) := fun _ _ _ _ h => ⟨h.1, xS_call h.2⟩
/-- the kinds of the cells that a cell refers to -/
def xk_O (τ : Nat → Nat) (A : Nat → Prop) : Prop :=
  (∀ x, τ x ≠ 0 → A x) ∧
  (∀ x, τ x = 1 → τ (x + 1) = 103 ∧ τ (x + 2) = 3 ∧ τ (x + 3) = 4 ∧ (∀ w, w < 6 → τ (x + 5 * w + 4) = 5) ∧ ∀ k, k < 24 → τ (x + 2 * k + 34) = 8) ∧
  (∀ x, τ x = 5 → τ (x + 1) = 6 ∧ τ (x + 3) = 6) ∧
  (∀ x, τ x = 6 → τ (x + 1) = 124) ∧
  (∀ x, τ x = 8 → τ (x + 1) = 108) ∧
  (∀ x, τ x = 10 → τ (x + 1) = 11 ∧ ∀ i, i < 6 → τ (x + 82 * i + 2) = 1) ∧
  (∀ x, τ x = 14 → τ (x + 1) = 15) ∧
  (∀ x, τ x = 16 → τ (x + 1) = 1 ∧ τ (x + 83) = 1 ∧ τ (x + 165) = 10 ∧ τ (x + 659) = 12 ∧ (∀ i, i < 2 → τ (x + 82 * i + 660) = 1) ∧ τ (x + 824) = 13 ∧ τ (x + 825) = 14) ∧
  (∀ x, τ x = 20 → τ (x + 1) = 426 ∧ τ (x + 2) = 426 ∧ τ (x + 3) = 2056 ∧ τ (x + 4) = 752 ∧ τ (x + 5) = 102 ∧ τ (x + 6) = 124 ∧ τ (x + 7) = 160 ∧ τ (x + 8) = 130 ∧ τ (x + 9) = 130)
theorem xk_O.a {τ : Nat → Nat} {A : Nat → Prop} (O : xk_O τ A) {x κ : Nat} (h : τ x = κ) (hκ : κ ≠ 0) : A x := O.1 x (by rw [h]; exact hκ)
theorem xk_O.m1 {τ : Nat → Nat} {A : Nat → Prop} (O : xk_O τ A) {x : Nat} (h : τ x = 1) : τ (x + 1) = 103 := (O.2.1 x h).1
theorem xk_O.m2 {τ : Nat → Nat} {A : Nat → Prop} (O : xk_O τ A) {x : Nat} (h : τ x = 1) : τ (x + 2) = 3 := (O.2.1 x h).2.1
theorem xk_O.m3 {τ : Nat → Nat} {A : Nat → Prop} (O : xk_O τ A) {x : Nat} (h : τ x = 1) : τ (x + 3) = 4 := (O.2.1 x h).2.2.1
theorem xk_O.w {τ : Nat → Nat} {A : Nat → Prop} (O : xk_O τ A) {x w : Nat} (h : τ x = 1) (hw : w < 6) : τ (x + 5 * w + 4) = 5 := (O.2.1 x h).2.2.2.1 w hw
theorem xk_O.p {τ : Nat → Nat} {A : Nat → Prop} (O : xk_O τ A) {x k : Nat} (h : τ x = 1) (hk : k < 24) : τ (x + 2 * k + 34) = 8 := (O.2.1 x h).2.2.2.2 k hk
theorem xk_O.q {τ : Nat → Nat} {A : Nat → Prop} (O : xk_O τ A) {x : Nat} (h : τ x = 5) : τ (x + 1) = 6 := (O.2.2.1 x h).1
theorem xk_O.r {τ : Nat → Nat} {A : Nat → Prop} (O : xk_O τ A) {x : Nat} (h : τ x = 5) : τ (x + 3) = 6 := (O.2.2.1 x h).2
theorem xk_O.l {τ : Nat → Nat} {A : Nat → Prop} (O : xk_O τ A) {x : Nat} (h : τ x = 6) : τ (x + 1) = 124 := O.2.2.2.1 x h
theorem xk_O.e {τ : Nat → Nat} {A : Nat → Prop} (O : xk_O τ A) {x : Nat} (h : τ x = 8) : τ (x + 1) = 108 := O.2.2.2.2.1 x h
theorem xk_O.h1 {τ : Nat → Nat} {A : Nat → Prop} (O : xk_O τ A) {x : Nat} (h : τ x = 10) : τ (x + 1) = 11 := (O.2.2.2.2.2.1 x h).1
theorem xk_O.hm {τ : Nat → Nat} {A : Nat → Prop} (O : xk_O τ A) {x i : Nat} (h : τ x = 10) (hi : i < 6) : τ (x + 82 * i + 2) = 1 := (O.2.2.2.2.2.1 x h).2 i hi
theorem xk_O.d {τ : Nat → Nat} {A : Nat → Prop} (O : xk_O τ A) {x : Nat} (h : τ x = 14) : τ (x + 1) = 15 := O.2.2.2.2.2.2.1 x h
theorem xk_O.b1 {τ : Nat → Nat} {A : Nat → Prop} (O : xk_O τ A) {x : Nat} (h : τ x = 16) : τ (x + 1) = 1 := (O.2.2.2.2.2.2.2.1 x h).1
theorem xk_O.b2 {τ : Nat → Nat} {A : Nat → Prop} (O : xk_O τ A) {x : Nat} (h : τ x = 16) : τ (x + 83) = 1 := (O.2.2.2.2.2.2.2.1 x h).2.1
theorem xk_O.b3 {τ : Nat → Nat} {A : Nat → Prop} (O : xk_O τ A) {x : Nat} (h : τ x = 16) : τ (x + 165) = 10 := (O.2.2.2.2.2.2.2.1 x h).2.2.1
theorem xk_O.b4 {τ : Nat → Nat} {A : Nat → Prop} (O : xk_O τ A) {x : Nat} (h : τ x = 16) : τ (x + 659) = 12 := (O.2.2.2.2.2.2.2.1 x h).2.2.2.1
theorem xk_O.bs {τ : Nat → Nat} {A : Nat → Prop} (O : xk_O τ A) {x i : Nat} (h : τ x = 16) (hi : i < 2) : τ (x + 82 * i + 660) = 1 := (O.2.2.2.2.2.2.2.1 x h).2.2.2.2.1 i hi
theorem xk_O.b5 {τ : Nat → Nat} {A : Nat → Prop} (O : xk_O τ A) {x : Nat} (h : τ x = 16) : τ (x + 824) = 13 := (O.2.2.2.2.2.2.2.1 x h).2.2.2.2.2.1
theorem xk_O.b6 {τ : Nat → Nat} {A : Nat → Prop} (O : xk_O τ A) {x : Nat} (h : τ x = 16) : τ (x + 825) = 14 := (O.2.2.2.2.2.2.2.1 x h).2.2.2.2.2.2
theorem xk_O.n {τ : Nat → Nat} {A : Nat → Prop} (O : xk_O τ A) {x : Nat} (h : τ x = 20) : τ (x + 1) = 426 ∧ τ (x + 2) = 426 ∧ τ (x + 3) = 2056 ∧ τ (x + 4) = 752 ∧ τ (x + 5) = 102 ∧ τ (x + 6) = 124 ∧ τ (x + 7) = 160 ∧ τ (x + 8) = 130 ∧ τ (x + 9) = 130 := O.2.2.2.2.2.2.2.2 x h
theorem xk_O.n1 {τ : Nat → Nat} {A : Nat → Prop} (O : xk_O τ A) {x : Nat} (h : τ x = 20) : τ (x + 1) = 426 := (O.n h).1
theorem xk_O.n2 {τ : Nat → Nat} {A : Nat → Prop} (O : xk_O τ A) {x : Nat} (h : τ x = 20) : τ (x + 2) = 426 := (O.n h).2.1
theorem xk_O.n3 {τ : Nat → Nat} {A : Nat → Prop} (O : xk_O τ A) {x : Nat} (h : τ x = 20) : τ (x + 3) = 2056 := (O.n h).2.2.1
theorem xk_O.n4 {τ : Nat → Nat} {A : Nat → Prop} (O : xk_O τ A) {x : Nat} (h : τ x = 20) : τ (x + 4) = 752 := (O.n h).2.2.2.1
theorem xk_O.n5 {τ : Nat → Nat} {A : Nat → Prop} (O : xk_O τ A) {x : Nat} (h : τ x = 20) : τ (x + 5) = 102 := (O.n h).2.2.2.2.1
theorem xk_O.n6 {τ : Nat → Nat} {A : Nat → Prop} (O : xk_O τ A) {x : Nat} (h : τ x = 20) : τ (x + 6) = 124 := (O.n h).2.2.2.2.2.1
theorem xk_O.n7 {τ : Nat → Nat} {A : Nat → Prop} (O : xk_O τ A) {x : Nat} (h : τ x = 20) : τ (x + 7) = 160 := (O.n h).2.2.2.2.2.2.1
theorem xk_O.n8 {τ : Nat → Nat} {A : Nat → Prop} (O : xk_O τ A) {x : Nat} (h : τ x = 20) : τ (x + 8) = 130 := (O.n h).2.2.2.2.2.2.2.1
theorem xk_O.n9 {τ : Nat → Nat} {A : Nat → Prop} (O : xk_O τ A) {x : Nat} (h : τ x = 20) : τ (x + 9) = 130 := (O.n h).2.2.2.2.2.2.2.2
theorem xb_nar {v : Int32} (h : xb_01 v) : narrow .boolean (.int v) = .int v := by rcases h with rfl | rfl <;> rfl
theorem xb_fit {v : Int32} (h : xb_01 v) : fits .boolean (.int v) = true := by rcases h with rfl | rfl <;> rfl
theorem xb_0 : xb_01 (nI 0) := Or.inl rfl
theorem xb_1 : xb_01 (nI 1) := Or.inr rfl
theorem xw_okp {G : va_G} {g : Nat → ClassId} {τ : Nat → Nat} {M : xm_T} {H : Heap} {a κ : Nat} (hW : xw_D G g τ M H) (hτ : τ a = κ) (hκ : κ ≠ 0) : xw_ok κ (M a) := by
  subst hτ
  exact (hW a hκ).2
/-- the world as the kit's list, and back -/
theorem xw_list {G : va_G} {g : Nat → ClassId} {τ : Nat → Nat} {M : xm_T} {H : Heap} {A : Nat → Prop} (hW : xw_D G g τ M H) (hA : ∀ x, τ x ≠ 0 → A x) : ∃ ws : va_W, va_P G vwCl ws H ∧ va_D A ws ∧ (∀ x, τ x ≠ 0 → ∃ k : Nat, ws[k]? = some (x, xw_cell g (τ x) (M x) x)) ∧ ∀ (k : Nat) (q : Nat × va_E), ws[k]? = some q → τ q.1 ≠ 0 ∧ q.2 = xw_cell g (τ q.1) (M q.1) q.1 := by
  have hN : ((List.range H.size).filter (fun x => decide (τ x ≠ 0))).Nodup := List.Pairwise.filter _ List.nodup_range
  have key : ∀ (k : Nat) (q : Nat × va_E), (((List.range H.size).filter (fun x => decide (τ x ≠ 0))).map (fun x => (x, xw_cell g (τ x) (M x) x)))[k]? = some q → ((List.range H.size).filter (fun x => decide (τ x ≠ 0)))[k]? = some q.1 ∧ τ q.1 ≠ 0 ∧ q.2 = xw_cell g (τ q.1) (M q.1) q.1 := by
    intro k q hk
    rw [List.getElem?_map] at hk
    cases hx : ((List.range H.size).filter (fun x => decide (τ x ≠ 0)))[k]? with
    | none => rw [hx] at hk; cases hk
    | some x =>
      rw [hx] at hk
      cases hk
      exact ⟨rfl, of_decide_eq_true (List.mem_filter.mp (List.mem_of_getElem? hx)).2, rfl⟩
  refine ⟨((List.range H.size).filter (fun x => decide (τ x ≠ 0))).map (fun x => (x, xw_cell g (τ x) (M x) x)), fun k q hk => ?_, ⟨fun i j p q hi hj hpq => ?_, fun k q hk => hA _ (key k q hk).2.1⟩, fun x hx => ?_, fun k q hk => (key k q hk).2⟩
  · obtain ⟨-, h1, h2⟩ := key k q hk
    have h3 := (hW q.1 h1).1
    rw [← h2] at h3
    exact h3
  · have h1 := (key i p hi).1
    have h2 := (key j q hj).1
    rw [← hpq] at h2
    obtain ⟨g1, e1⟩ := List.getElem?_eq_some_iff.mp h1
    obtain ⟨g2, e2⟩ := List.getElem?_eq_some_iff.mp h2
    have hpw := List.pairwise_iff_getElem.mp hN
    rcases Nat.lt_trichotomy i j with q1 | q1 | q1
    · exact absurd (e1.trans e2.symm) (hpw i j g1 g2 q1)
    · exact q1
    · exact absurd (e2.trans e1.symm) (hpw j i g2 g1 q1)
  · have hl : x < H.size := ((hW x hx).1).lt
    obtain ⟨k, hk⟩ := List.getElem?_of_mem (List.mem_filter.mpr ⟨List.mem_range.mpr hl, decide_eq_true hx⟩ : x ∈ (List.range H.size).filter (fun x => decide (τ x ≠ 0)))
    exact ⟨k, by rw [List.getElem?_map, hk]; rfl⟩
theorem xw_back {G : va_G} {g : Nat → ClassId} {τ : Nat → Nat} {M : xm_T} {H1 : Heap} {A : Nat → Prop} {ws : va_W} {k a : Nat} {e e' : va_E} {f : Nat → Int32} (hD : va_D A ws) (hall : ∀ x, τ x ≠ 0 → ∃ k : Nat, ws[k]? = some (x, xw_cell g (τ x) (M x) x)) (hokM : ∀ x, τ x ≠ 0 → xw_ok (τ x) (M x)) (hk : ws[k]? = some (a, e)) (hP : va_P G vwCl (ws.set k (a, e')) H1) (he : va_at G vwCl (a, e') H1 → va_at G vwCl (a, xw_cell g (τ a) f a) H1) (hok : xw_ok (τ a) f) : xw_D G g τ (xr_up M a f) H1 := by
  intro x hx
  by_cases hxa : x = a
  · subst hxa
    rw [xr_s]
    exact ⟨he (hP k _ (List.getElem?_set_self (List.getElem?_eq_some_iff.mp hk).1)), hok⟩
  · rw [xr_n _ _ hxa]
    obtain ⟨j, hj⟩ := hall x hx
    have hjk : k ≠ j := fun z => by
      subst z
      rw [hk] at hj
      cases hj
      exact hxa rfl
    exact ⟨hP j (x, xw_cell g (τ x) (M x) x) (by rw [List.getElem?_set_ne hjk]; exact hj), hokM x hx⟩
theorem xw_P1 {G : va_G} {a : Nat} {e : va_E} {H : Heap} (h : va_at G vwCl (a, e) H) : va_P G vwCl [(a, e)] H := fun k q hk => by
  have hz : k < 1 := (List.getElem?_eq_some_iff.mp hk).1
  rw [show k = 0 by omega] at hk
  cases hk
  exact h
theorem xw_at {G : va_G} {g : Nat → ClassId} {τ : Nat → Nat} {M : xm_T} {H : Heap} (hW : xw_D G g τ M H) {a κ : Nat} {e : va_E} (hτ : τ a = κ) (hκ : κ ≠ 0) (hc : xw_cell g κ (M a) a = e) : va_at G vwCl (a, e) H := by
  subst hτ
  subst hc
  exact (hW a hκ).1
theorem xw_end {G : va_G} {g : Nat → ClassId} {τ : Nat → Nat} {M : xm_T} {H : Heap} {t : State} (ht : t.heap = H) (hW : xw_D G g τ M H) : xw_D G g τ M t.heap := by rw [ht]; exact hW
theorem xi_in {i : Int32} {k n : Nat} (hi : i = nI k) (hk : k < n) (hn : n < 2 ^ 31) : vp_in i n := by subst hi; exact nI_in hk hn
theorem xi_cl {i : Int32} {k n : Nat} (hi : i = nI k) (hk : k < n) (hn : n < 2 ^ 31) : i.toNatClampNeg = k := by subst hi; exact nI_clamp (by omega)
section XR
variable {p : Program} {l : Launch} {e : Env} {R : Room} {s : State} {m : MethodId} {args : Array Value} {below : List Frame} {meth : Method} {c : Code} {H : Heap} {locs : List Loc} {cells slots : Nat} {Q : State → Prop}
variable {cc : ByteArray} {pc : Nat} {ls : Array Slot} {rest : List Value} {G : va_G} {g : Nat → ClassId} {t0 τ : Nat → Nat} {A : Nat → Prop} {M : xm_T} {a κ : Nat} {H0 : Heap}
theorem xg_get (hexec : p.tables.exec = Jvm.exec) (hb : c.code = cc) {own ref C : String} {T : u_T} {N ci index : Nat} {Ts : List Cond} (hts : ∀ w ∈ Ts, w.before args s = true) (hin : ∀ w ∈ u_ws C T N, w ∈ Ts) (hown : s.vm.findClass own = some m.cls) (hK : va_K G vwCl (xw_tys g) s) (hW : xw_D G g τ M H) (hτ : τ a = κ) (hκ : κ ≠ 0) {fs : List Value} (hcell : xw_cell g κ (M a) a = .inr (ci, fs)) (hc : vwCl[ci]? = some (C, T, N)) (k : Nat) (hk : k < N) (hlink : (Cond.fieldLink own index ref (T k).2.1 (T k).2.2.1).before args s = true) (hsame : ∀ x, s.fieldFound? (T k).1 (T k).2.1 (T k).2.2.1 = some x → s.fieldFound? ref (T k).2.1 (T k).2.2.1 = some x) {v : Value} (hv : fs[k]? = some v) (hdg : decode cc pc = .ok (.getfield index, 3))
    (kk : W p l e R s m args below meth c H locs cells slots Q (F0 m (pc + 3) ls (v :: rest))) : W p l e R s m args below meth c H locs cells slots Q (F0 m pc ls (.ref a :: rest)) :=
  va_get hexec hb hts hin hown hK (xw_P1 (xw_at hW hτ hκ hcell)) 0 rfl hc k hk hlink hsame hv hdg kk
theorem xg_put (hexec : p.tables.exec = Jvm.exec) (hb : c.code = cc) {own ref C : String} {T : u_T} {N ci index : Nat} {Ts : List Cond} (hts : ∀ w ∈ Ts, w.before args s = true) (hin : ∀ w ∈ u_ws C T N, w ∈ Ts) (ty0 : Nat → FieldType) (hty : ∀ k, k < N → parseFieldDescriptor (T k).2.2.1 = some (ty0 k)) (hnm : ∀ a, a < N → ∀ b, b < N → a ≠ b → (T a).2.1 ≠ (T b).2.1) (hown : s.vm.findClass own = some m.cls) (hK : va_K G vwCl (xw_tys g) s) (O : xk_O τ A) (hW : xw_D G g τ M H) (hS0 : va_S A H0 H locs) (hτ : τ a = κ) (hκ : κ ≠ 0) {fs : List Value} (hcell : xw_cell g κ (M a) a = .inr (ci, fs)) (hc : vwCl[ci]? = some (C, T, N)) (k : Nat) (hk : k < N) {v : Int32} (hset : xw_cell g κ (upd (M a) k v) a = .inr (ci, fs.set k (.int v))) (hok : xw_ok κ (upd (M a) k v)) (hlink : (Cond.fieldLink own index ref (T k).2.1 (T k).2.2.1).before args s = true) (hsame : ∀ x, s.fieldFound? (T k).1 (T k).2.1 (T k).2.2.1 = some x → s.fieldFound? ref (T k).2.1 (T k).2.2.1 = some x) (hfin : (T k).2.2.2 = false) {ty : FieldType} (hd : parseFieldDescriptor (T k).2.2.1 = some ty) (hn : narrow ty (.int v) = .int v) (hfit : fits ty (.int v) = true) (hl : k < fs.length)
    (hdg : decode cc pc = .ok (.putfield index, 3)) (kk : ∀ (H1 : Heap) (locs1 : List Loc), xw_D G g τ (xu_p M a k v) H1 → va_S A H0 H1 locs1 → W p l e R s m args below meth c H1 locs1 cells slots Q (F0 m (pc + 3) ls rest)) : W p l e R s m args below meth c H locs cells slots Q (F0 m pc ls (.int v :: .ref a :: rest)) := by
  obtain ⟨ws, hP, hD, hall, -⟩ := xw_list hW O.1
  obtain ⟨q0, hq⟩ := hall a (by rw [hτ]; exact hκ)
  have hq' : ws[q0]? = some (a, .inr (ci, fs)) := by rw [hq, hτ, hcell]
  refine va_put hexec hb hts hin ty0 hty hnm hown hK hP hD hS0 q0 hq' hc k hk hlink hsame hfin hd hn hfit hl hdg (fun H1 locs1 hP1 _ hS1 => kk H1 locs1 ?_ hS1)
  exact xw_back hD hall (fun x hx => (hW x hx).2) hq' hP1 (fun h => by rw [hτ, hset]; exact h) (by rw [hτ]; exact hok)
theorem xg_iald (hexec : p.tables.exec = Jvm.exec) (hb : c.code = cc) (hK : va_K G vwCl (xw_tys g) s) (hW : xw_D G g τ M H) {n : Nat} (hτ : τ a = κ) (hκ : κ ≠ 0) (hcell : xw_cell g κ (M a) a = .inl (g 0, n, .inl (M a))) {i : Int32} (k : Nat) (hi : i = nI k) (hk : k < n) (hn : n < 2 ^ 31) (hdg : decode cc pc = .ok (.iaload, 1))
    (kk : W p l e R s m args below meth c H locs cells slots Q (F0 m (pc + 1) ls (.int (M a k) :: rest))) : W p l e R s m args below meth c H locs cells slots Q (F0 m pc ls (.int i :: .ref a :: rest)) :=
  va_iald hexec hb hK (xw_P1 (xw_at hW hτ hκ hcell)) 0 0 rfl rfl (xi_in hi hk hn) hdg (by rw [xi_cl hi hk hn]; exact kk)
theorem xg_zald (hexec : p.tables.exec = Jvm.exec) (hb : c.code = cc) (hK : va_K G vwCl (xw_tys g) s) (hW : xw_D G g τ M H) (hτ : τ a = 13) {i : Int32} (k : Nat) (hi : i = nI k) (hk : k < 2) (hdg : decode cc pc = .ok (.baload, 1))
    (kk : W p l e R s m args below meth c H locs cells slots Q (F0 m (pc + 1) ls (.int (M a k) :: rest))) : W p l e R s m args below meth c H locs cells slots Q (F0 m pc ls (.int i :: .ref a :: rest)) :=
  va_zald hexec hb hK (xw_P1 (xw_at hW hτ (by decide) rfl)) 0 1 rfl rfl (xi_in hi hk (by omega)) hdg (by rw [xi_cl hi hk (by omega)]; exact kk)
theorem xg_cald (hexec : p.tables.exec = Jvm.exec) (hb : c.code = cc) (hK : va_K G vwCl (xw_tys g) s) (hW : xw_D G g τ M H) (hτ : τ a = 15) {i : Int32} (k : Nat) (hi : i = nI k) (hk : k < 60) (hdg : decode cc pc = .ok (.caload, 1))
    (kk : W p l e R s m args below meth c H locs cells slots Q (F0 m (pc + 1) ls (.int (M a k) :: rest))) : W p l e R s m args below meth c H locs cells slots Q (F0 m pc ls (.int i :: .ref a :: rest)) :=
  va_cald hexec hb hK (xw_P1 (xw_at hW hτ (by decide) rfl)) 0 2 rfl rfl (xi_in hi hk (by omega)) hdg (by rw [xi_cl hi hk (by omega)]; exact kk)
theorem xg_iast (hexec : p.tables.exec = Jvm.exec) (hb : c.code = cc) (hK : va_K G vwCl (xw_tys g) s) (O : xk_O τ A) (hW : xw_D G g τ M H) (hS : va_S A H0 H locs) {n : Nat} (hτ : τ a = κ) (hκ : κ ≠ 0) (hcell : ∀ r, xw_cell g κ r a = .inl (g 0, n, .inl r)) (hok : ∀ r, xw_ok κ r) {i x : Int32} (k : Nat) (hi : i = nI k) (hk : k < n) (hn : n < 2 ^ 31) (hdg : decode cc pc = .ok (.iastore, 1))
    (kk : ∀ (H1 : Heap) (locs1 : List Loc), xw_D G g τ (xu_p M a k x) H1 → va_S A H0 H1 locs1 → W p l e R s m args below meth c H1 locs1 cells slots Q (F0 m (pc + 1) ls rest)) : W p l e R s m args below meth c H locs cells slots Q (F0 m pc ls (.int x :: .int i :: .ref a :: rest)) := by
  obtain ⟨ws, hP, hD, hall, -⟩ := xw_list hW O.1
  obtain ⟨q0, hq⟩ := hall a (by rw [hτ]; exact hκ)
  have hq' : ws[q0]? = some (a, .inl (g 0, n, .inl (M a))) := by rw [hq, hτ, hcell]
  refine va_iast hexec hb hK hP hD hS q0 0 hq' rfl (xi_in hi hk hn) hdg (fun H1 locs1 hP1 _ hS1 => kk H1 locs1 ?_ hS1)
  rw [xi_cl hi hk hn] at hP1
  exact xw_back hD hall (fun x hx => (hW x hx).2) hq' hP1 (fun h => by rw [hτ, hcell]; exact h) (by rw [hτ]; exact hok _)
theorem xg_zast (hexec : p.tables.exec = Jvm.exec) (hb : c.code = cc) (hK : va_K G vwCl (xw_tys g) s) (O : xk_O τ A) (hW : xw_D G g τ M H) (hS : va_S A H0 H locs) (hτ : τ a = 13) {i x : Int32} (k : Nat) (hi : i = nI k) (hk : k < 2) (hx : vp_nar .boolean x = x) (hok : xw_ok 13 (upd (M a) k x)) (hdg : decode cc pc = .ok (.bastore, 1))
    (kk : ∀ (H1 : Heap) (locs1 : List Loc), xw_D G g τ (xu_p M a k x) H1 → va_S A H0 H1 locs1 → W p l e R s m args below meth c H1 locs1 cells slots Q (F0 m (pc + 1) ls rest)) : W p l e R s m args below meth c H locs cells slots Q (F0 m pc ls (.int x :: .int i :: .ref a :: rest)) := by
  obtain ⟨ws, hP, hD, hall, -⟩ := xw_list hW O.1
  obtain ⟨q0, hq⟩ := hall a (by rw [hτ]; decide)
  have hq' : ws[q0]? = some (a, .inl (g 1, 2, .inl (M a))) := by rw [hq, hτ]; rfl
  refine va_zast hexec hb hK hP hD hS q0 1 hq' rfl (xi_in hi hk (by omega)) hdg (fun H1 locs1 hP1 _ hS1 => kk H1 locs1 ?_ hS1)
  rw [xi_cl hi hk (by omega), hx] at hP1
  exact xw_back hD hall (fun x hx => (hW x hx).2) hq' hP1 (fun h => by rw [hτ]; exact h) (by rw [hτ]; exact hok)
theorem xg_cast (hexec : p.tables.exec = Jvm.exec) (hb : c.code = cc) (hK : va_K G vwCl (xw_tys g) s) (O : xk_O τ A) (hW : xw_D G g τ M H) (hS : va_S A H0 H locs) (hτ : τ a = 15) {i x : Int32} (k : Nat) (hi : i = nI k) (hk : k < 60) (hx : vp_nar .char x = x) (hdg : decode cc pc = .ok (.castore, 1))
    (kk : ∀ (H1 : Heap) (locs1 : List Loc), xw_D G g τ (xu_p M a k x) H1 → va_S A H0 H1 locs1 → W p l e R s m args below meth c H1 locs1 cells slots Q (F0 m (pc + 1) ls rest)) : W p l e R s m args below meth c H locs cells slots Q (F0 m pc ls (.int x :: .int i :: .ref a :: rest)) := by
  obtain ⟨ws, hP, hD, hall, -⟩ := xw_list hW O.1
  obtain ⟨q0, hq⟩ := hall a (by rw [hτ]; decide)
  have hq' : ws[q0]? = some (a, .inl (g 2, 60, .inl (M a))) := by rw [hq, hτ]; rfl
  refine va_cast hexec hb hK hP hD hS q0 2 hq' rfl (xi_in hi hk (by omega)) hdg (fun H1 locs1 hP1 _ hS1 => kk H1 locs1 ?_ hS1)
  rw [xi_cl hi hk (by omega), hx] at hP1
  exact xw_back hD hall (fun x hx => (hW x hx).2) hq' hP1 (fun h => by rw [hτ]; exact h) (by rw [hτ]; trivial)
theorem xg_alen (hexec : p.tables.exec = Jvm.exec) (hb : c.code = cc) (hK : va_K G vwCl (xw_tys g) s) (hW : xw_D G g τ M H) (hτ : τ a = κ) (hκ : κ ≠ 0) {cA : ClassId} {x : vp_A} (hcell : xw_cell g κ (M a) a = .inl (cA, x)) (t1 : Nat) {ty : FieldType} (ht : (xw_tys g)[t1]? = some (cA, ty)) {v : Int32} (hv : Int32.ofNat x.1 = v) (hdg : decode cc pc = .ok (.arraylength, 1))
    (kk : W p l e R s m args below meth c H locs cells slots Q (F0 m (pc + 1) ls (.int v :: rest))) : W p l e R s m args below meth c H locs cells slots Q (F0 m pc ls (.ref a :: rest)) :=
  va_alen hexec hb hK (xw_P1 (xw_at hW hτ hκ hcell)) 0 t1 rfl ht hv hdg kk
/-- windows[w] of the ministry at a -/
theorem xg_aldW (hexec : p.tables.exec = Jvm.exec) (hb : c.code = cc) (hK : va_K G vwCl (xw_tys g) s) (hW : xw_D G g τ M H) (hτ : τ (a + 2) = 3) {i : Int32} (k : Nat) (hi : i = nI k) (hk : k < 6) (hdg : decode cc pc = .ok (.aaload, 1))
    (kk : W p l e R s m args below meth c H locs cells slots Q (F0 m (pc + 1) ls (.ref (a + 5 * k + 4) :: rest))) : W p l e R s m args below meth c H locs cells slots Q (F0 m pc ls (.int i :: .ref (a + 2) :: rest)) :=
  va_aldq hexec hb hK (xw_P1 (xw_at hW hτ (by decide) rfl)) 0 3 rfl rfl (xi_in hi hk (by omega)) hdg (by
    rw [xi_cl hi hk (by omega), show a + 2 + 5 * k + 2 = a + 5 * k + 4 by omega]; exact kk)
theorem xg_aldP (hexec : p.tables.exec = Jvm.exec) (hb : c.code = cc) (hK : va_K G vwCl (xw_tys g) s) (hW : xw_D G g τ M H) (hτ : τ (a + 3) = 4) {i : Int32} (k : Nat) (hi : i = nI k) (hk : k < 24) (hdg : decode cc pc = .ok (.aaload, 1))
    (kk : W p l e R s m args below meth c H locs cells slots Q (F0 m (pc + 1) ls (.ref (a + 2 * k + 34) :: rest))) : W p l e R s m args below meth c H locs cells slots Q (F0 m pc ls (.int i :: .ref (a + 3) :: rest)) :=
  va_aldq hexec hb hK (xw_P1 (xw_at hW hτ (by decide) rfl)) 0 4 rfl rfl (xi_in hi hk (by omega)) hdg (by
    rw [xi_cl hi hk (by omega), show a + 3 + 2 * k + 31 = a + 2 * k + 34 by omega]; exact kk)
/-- states[i] of the history at a -/
theorem xg_aldH (hexec : p.tables.exec = Jvm.exec) (hb : c.code = cc) (hK : va_K G vwCl (xw_tys g) s) (hW : xw_D G g τ M H) (hτ : τ (a + 1) = 11) {i : Int32} (k : Nat) (hi : i = nI k) (hk : k < 6) (hdg : decode cc pc = .ok (.aaload, 1))
    (kk : W p l e R s m args below meth c H locs cells slots Q (F0 m (pc + 1) ls (.ref (a + 82 * k + 2) :: rest))) : W p l e R s m args below meth c H locs cells slots Q (F0 m pc ls (.int i :: .ref (a + 1) :: rest)) :=
  va_aldq hexec hb hK (xw_P1 (xw_at hW hτ (by decide) rfl)) 0 5 rfl rfl (xi_in hi hk (by omega)) hdg (by
    rw [xi_cl hi hk (by omega), show a + 1 + 82 * k + 1 = a + 82 * k + 2 by omega]; exact kk)
/-- slots[i] of the object at a -/
theorem xg_aldS (hexec : p.tables.exec = Jvm.exec) (hb : c.code = cc) (hK : va_K G vwCl (xw_tys g) s) (hW : xw_D G g τ M H) (hτ : τ (a + 659) = 12) {i : Int32} (k : Nat) (hi : i = nI k) (hk : k < 2) (hdg : decode cc pc = .ok (.aaload, 1))
    (kk : W p l e R s m args below meth c H locs cells slots Q (F0 m (pc + 1) ls (.ref (a + 82 * k + 660) :: rest))) : W p l e R s m args below meth c H locs cells slots Q (F0 m pc ls (.int i :: .ref (a + 659) :: rest)) :=
  va_aldq hexec hb hK (xw_P1 (xw_at hW hτ (by decide) rfl)) 0 5 rfl rfl (xi_in hi hk (by omega)) hdg (by
    rw [xi_cl hi hk (by omega), show a + 659 + 82 * k + 1 = a + 82 * k + 660 by omega]; exact kk)
theorem xw_arr {cA : ClassId} {n : Nat} {f f' : Nat → Int32} (h : ∀ j, j < n → f j = f' j) : vp_cell cA (n, .inl f) = vp_cell cA (n, .inl f') := by
  rw [vp_cell_i, vp_cell_i]
  unfold arrV
  congr 1
  congr 1
  funext j
  exact congrArg Value.int (h j.val j.isLt)
/-- System.arraycopy(src, 0, dst, 0, the whole length) between int arrays -/
theorem xg_cpy (hexec : p.tables.exec = Jvm.exec) (hb : c.code = cc) (hml : c.maxLocals = ls.size) {own : String} {index : Nat} (hown : s.vm.findClass own = some m.cls) (hlink : (Cond.methodLink own index arraycopyName).before args s = true) (hnat : (Cond.native arraycopyName).before args s = true) (hstat : (Cond.static arraycopyName).before args s = true) (hini : (Cond.initialized "java/lang/System").before args s = true)
    (hK : va_K G vwCl (xw_tys g) s) (O : xk_O τ A) (hW : xw_D G g τ M H) (hS : va_S A H0 H locs) {a0 n : Nat} (hτ0 : τ a0 = κ) (hτ : τ a = κ) (hκ : κ ≠ 0) (hcell : ∀ r x, xw_cell g κ r x = .inl (g 0, n, .inl r)) (hok : ∀ r, xw_ok κ r) {sp dp nn : Int32} (h1 : sp = nI 0) (h2 : dp = nI 0) (h3 : nn = nI n) (hn : n < 2 ^ 31)
    (hframes : 1 ≤ R.frames) (hlocals : (rest.map fun v => v.category).sum + (nativeFrameWords "java/lang/System" "arraycopy" 5 + 11) ≤ R.locals) (hdg : decode cc pc = .ok (.invokestatic index, 3))
    (kk : ∀ (H1 : Heap) (locs1 : List Loc), xw_D G g τ (xr_up M a (M a0)) H1 → va_S A H0 H1 locs1 → W p l e R s m args below meth c H1 locs1 cells slots Q (F0 m (pc + 3) ls rest)) : W p l e R s m args below meth c H locs cells slots Q (F0 m pc ls (.int nn :: .int dp :: .ref a :: .int sp :: .ref a0 :: rest)) := by
  obtain ⟨ws, hP, hD, hall, -⟩ := xw_list hW O.1
  obtain ⟨q0, hq⟩ := hall a (by rw [hτ]; exact hκ)
  obtain ⟨q1, hq1⟩ := hall a0 (by rw [hτ0]; exact hκ)
  have hq' : ws[q0]? = some (a, .inl (g 0, n, .inl (M a))) := by rw [hq, hτ, hcell]
  have hq1' : ws[q1]? = some (a0, .inl (g 0, n, .inl (M a0))) := by rw [hq1, hτ0, hcell]
  subst h1; subst h2; subst h3
  have z0 : (nI 0).toNatClampNeg = 0 := nI_clamp (by omega)
  have zn : (nI n).toNatClampNeg = n := nI_clamp hn
  refine va_copyi hexec hb hml hown hlink hnat hstat hini hK hP hD hS q1 q0 0 0 hq1' hq' rfl rfl rfl (nI_pos (by omega)) (nI_pos (by omega)) (nI_pos hn) (by rw [z0, zn]; omega) (by rw [z0, zn]; omega) (fun _ _ => rfl) hframes hlocals hdg (fun H1 locs1 hP1 _ hS1 => kk H1 locs1 ?_ hS1)
  rw [z0, zn] at hP1
  refine xw_back hD hall (fun x hx => (hW x hx).2) hq' hP1 (fun h => ?_) (by rw [hτ]; exact hok _)
  rw [hτ, hcell]
  refine Eq.trans h (congrArg some (xw_arr (fun j hj => ?_)))
  unfold va_cpy
  rw [if_pos ⟨Nat.zero_le _, by omega⟩]
  congr 1
  omega
/-- a call of an instance method that makes no cell -/
theorem xr_V {y : MethodName} {bytes : ByteArray} {maxL nL n index : Nat} {ret : Option FieldType} {ws : List Cond} {rm : Room} {Qc : Array Value → State → Outcome → State → Prop} {Ts : List Cond} {own C : String} {b ci : Nat} {T : u_T} {N : Nat} {As st : List Value} {fs : List Value}
    (S : CallFix p m c cc nL s args Ts own) (hM : Met l y ws rm (va_Pc (.ref b :: As) (xS_t G g t0 τ A M)) Qc 0 0 A) (cw : CallW R s args own C index y bytes maxL ret ws rm 0 0 n) (hK : va_K G vwCl (xw_tys g) s) (hst : xw_st t0 A s s.heap) (hnw : xw_nw g s) (hS : va_S A s.heap H locs) (hW : xw_D G g τ M H) (hτ : τ b = κ) (hκ : κ ≠ 0) (hcell : xw_cell g κ (M b) b = .inr (ci, fs)) (hc : vwCl[ci]? = some (C, T, N))
    (hn : As.length = n) (hsize : ls.size = nL) (hstack : st = As.reverse ++ .ref b :: rest) (hWd : (rest.map fun v => v.category).sum ≤ 8) (hdg : decode cc pc = .ok (.invokevirtual index, 3)) (hf : cells ≤ R.cells ∧ slots ≤ R.slots) :
    va_Run p l e R s m args below meth c H locs cells slots 0 0 (F0 m pc ls st) rest (Qc (Value.ref b :: As).toArray) A :=
  va_runV S hM cw ⟨xS_blind _, va_recv hK (xw_P1 (xw_at hW hτ hκ hcell)) (q0 := 0) hc rfl, fun U hU hWm => ⟨rfl, xS_mk hK hst hnw hS hW hU hWm⟩⟩ rfl hn hsize hstack (lv_room hWd) hdg hf
/-- a call of a static method that makes no cell -/
theorem xr_S {y : MethodName} {bytes : ByteArray} {maxL nL n index : Nat} {ret : Option FieldType} {ws : List Cond} {rm : Room} {Qc : Array Value → State → Outcome → State → Prop} {Ts : List Cond} {own : String} {As st : List Value}
    (S : CallFix p m c cc nL s args Ts own) (hM : Met l y ws rm (va_Pc As (xS_t G g t0 τ A M)) Qc 0 0 A) (cw : CallB R s args own index y bytes maxL ret ws rm 0 0 n ∧ (Cond.static y).before args s = true) (hK : va_K G vwCl (xw_tys g) s) (hst : xw_st t0 A s s.heap) (hnw : xw_nw g s) (hS : va_S A s.heap H locs) (hW : xw_D G g τ M H)
    (hn : As.length = n) (hsize : ls.size = nL) (hstack : st = As.reverse ++ rest) (hWd : (rest.map fun v => v.category).sum ≤ 8) (hdg : decode cc pc = .ok (.invokestatic index, 3)) (hf : cells ≤ R.cells ∧ slots ≤ R.slots) :
    va_Run p l e R s m args below meth c H locs cells slots 0 0 (F0 m pc ls st) rest (Qc As.toArray) A :=
  va_runS S hM cw ⟨xS_blind _, fun U hU hWm => ⟨rfl, xS_mk hK hst hnw hS hW hU hWm⟩⟩ rfl hn hsize hstack (lv_room hWd) hdg hf
theorem xc_i {st0 : List Value} {aa : Array Value} {post : Int32 → xm_T → Prop} (hr : va_Run p l e R s m args below meth c H locs cells slots 0 0 (F0 m pc ls st0) rest (va_Qi post (fun M' t => xw_D G g τ M' t.heap) A aa) A) (hS : va_S A H0 H locs)
    (kk : ∀ (r : Int32) (M' : xm_T) (H1 : Heap) (locs1 : List Loc), post r M' → xw_D G g τ M' H1 → va_S A H0 H1 locs1 → W p l e R s m args below meth c H1 locs1 cells slots Q (F0 m (pc + 3) ls (.int r :: rest))) : W p l e R s m args below meth c H locs cells slots Q (F0 m pc ls st0) :=
  va_calli hr hS (fun _ _ h => h) (fun _ h => h) (fun r u t H1 locs1 ht _ hp hB _ _ hS1 => kk r u H1 locs1 hp (by rw [← ht]; exact hB) hS1)
theorem xc_v {st0 : List Value} {aa : Array Value} {post : xm_T → Prop} (hr : va_Run p l e R s m args below meth c H locs cells slots 0 0 (F0 m pc ls st0) rest (va_Qv post (fun M' t => xw_D G g τ M' t.heap) A aa) A) (hS : va_S A H0 H locs)
    (kk : ∀ (M' : xm_T) (H1 : Heap) (locs1 : List Loc), post M' → xw_D G g τ M' H1 → va_S A H0 H1 locs1 → W p l e R s m args below meth c H1 locs1 cells slots Q (F0 m (pc + 3) ls rest)) : W p l e R s m args below meth c H locs cells slots Q (F0 m pc ls st0) :=
  va_callv hr hS (fun _ _ h => h) (fun _ h => h) (fun u t H1 locs1 ht _ hp hB _ _ hS1 => kk u H1 locs1 hp (by rw [← ht]; exact hB) hS1)
theorem xc_q {st0 : List Value} {aa : Array Value} {post : Option Nat → xm_T → Prop} (hr : va_Run p l e R s m args below meth c H locs cells slots 0 0 (F0 m pc ls st0) rest (va_Qq post (fun M' t => xw_D G g τ M' t.heap) A aa) A) (hS : va_S A H0 H locs)
    (kk : ∀ (r : Option Nat) (M' : xm_T) (H1 : Heap) (locs1 : List Loc), post r M' → xw_D G g τ M' H1 → va_S A H0 H1 locs1 → W p l e R s m args below meth c H1 locs1 cells slots Q (F0 m (pc + 3) ls (va_rf r :: rest))) : W p l e R s m args below meth c H locs cells slots Q (F0 m pc ls st0) :=
  va_callq hr hS (fun _ _ h => h) (fun _ h => h) (fun r u t H1 locs1 ht _ hp hB _ _ hS1 => kk r u H1 locs1 hp (by rw [← ht]; exact hB) hS1)
/-- a loop: its counter from k0 up to N -/
theorem xl_up {σ : Type} (N : Nat) (I : Nat → σ → Heap → List Loc → Array Slot → Prop)
    (hx : ∀ (z : σ) (H : Heap) (locs : List Loc) (ls : Array Slot), I N z H locs ls → W p l e R s m args below meth c H locs cells slots Q (F0 m pc ls []))
    (hs : ∀ (k : Nat) (z : σ) (H : Heap) (locs : List Loc) (ls : Array Slot), k < N → I k z H locs ls → (∀ (z' : σ) (H' : Heap) (locs' : List Loc) (ls' : Array Slot), I (k + 1) z' H' locs' ls' → W p l e R s m args below meth c H' locs' cells slots Q (F0 m pc ls' [])) → W p l e R s m args below meth c H locs cells slots Q (F0 m pc ls []))
    {k0 : Nat} {z0 : σ} {H : Heap} {locs : List Loc} {ls : Array Slot} (hk : k0 ≤ N) (h0 : I k0 z0 H locs ls) : W p l e R s m args below meth c H locs cells slots Q (F0 m pc ls []) := by
  have key : ∀ (n k : Nat), k + n = N → ∀ (z : σ) (H : Heap) (locs : List Loc) (ls : Array Slot), I k z H locs ls → W p l e R s m args below meth c H locs cells slots Q (F0 m pc ls []) := by
    intro n
    induction n with
    | zero => intro k hk z H locs ls h; rw [Nat.add_zero] at hk; subst hk; exact hx z H locs ls h
    | succ n ih => intro k hk z H locs ls h; exact hs k z H locs ls (by omega) h (fun z' H' locs' ls' h' => ih (k + 1) (by omega) z' H' locs' ls' h')
  exact key (N - k0) k0 (by omega) z0 H locs ls h0
end XR
end
section
theorem dX0_init_0 : decode cX0_init 0 = .ok (.aload_n 0, 1) := by decide +kernel
theorem dX0_init_1 : decode cX0_init 1 = .ok (.invokespecial 3, 3) := by decide +kernel
theorem dX0_init_4 : decode cX0_init 4 = .ok (.aload_n 0, 1) := by decide +kernel
theorem dX0_init_5 : decode cX0_init 5 = .ok (.bipush 6, 2) := by decide +kernel
theorem dX0_init_7 : decode cX0_init 7 = .ok (.anewarray 9, 3) := by decide +kernel
theorem dX0_init_10 : decode cX0_init 10 = .ok (.putfield 11, 3) := by decide +kernel
theorem dX0_init_13 : decode cX0_init 13 = .ok (.iconst 0, 1) := by decide +kernel
theorem dX0_init_14 : decode cX0_init 14 = .ok (.istore_n 1, 1) := by decide +kernel
theorem dX0_init_15 : decode cX0_init 15 = .ok (.iload_n 1, 1) := by decide +kernel
theorem dX0_init_16 : decode cX0_init 16 = .ok (.aload_n 0, 1) := by decide +kernel
theorem dX0_init_17 : decode cX0_init 17 = .ok (.getfield 11, 3) := by decide +kernel
theorem dX0_init_20 : decode cX0_init 20 = .ok (.arraylength, 1) := by decide +kernel
theorem dX0_init_21 : decode cX0_init 21 = .ok (.if_icmp .ge 22, 3) := by decide +kernel
theorem dX0_init_24 : decode cX0_init 24 = .ok (.aload_n 0, 1) := by decide +kernel
theorem dX0_init_25 : decode cX0_init 25 = .ok (.getfield 11, 3) := by decide +kernel
theorem dX0_init_28 : decode cX0_init 28 = .ok (.iload_n 1, 1) := by decide +kernel
theorem dX0_init_29 : decode cX0_init 29 = .ok (.new 9, 3) := by decide +kernel
theorem dX0_init_32 : decode cX0_init 32 = .ok (.dup, 1) := by decide +kernel
theorem dX0_init_33 : decode cX0_init 33 = .ok (.invokespecial 17, 3) := by decide +kernel
theorem dX0_init_36 : decode cX0_init 36 = .ok (.aastore, 1) := by decide +kernel
theorem dX0_init_37 : decode cX0_init 37 = .ok (.iinc 1 1, 3) := by decide +kernel
theorem dX0_init_40 : decode cX0_init 40 = .ok (.goto (-25), 3) := by decide +kernel
theorem dX0_init_43 : decode cX0_init 43 = .ok (.return_, 1) := by decide +kernel
theorem dX0_kept_0 : decode cX0_kept 0 = .ok (.aload_n 0, 1) := by decide +kernel
theorem dX0_kept_1 : decode cX0_kept 1 = .ok (.getfield 18, 3) := by decide +kernel
theorem dX0_kept_4 : decode cX0_kept 4 = .ok (.ireturn, 1) := by decide +kernel
theorem dX0_remember_0 : decode cX0_remember 0 = .ok (.aload_n 0, 1) := by decide +kernel
theorem dX0_remember_1 : decode cX0_remember 1 = .ok (.getfield 22, 3) := by decide +kernel
theorem dX0_remember_4 : decode cX0_remember 4 = .ok (.aload_n 0, 1) := by decide +kernel
theorem dX0_remember_5 : decode cX0_remember 5 = .ok (.getfield 11, 3) := by decide +kernel
theorem dX0_remember_8 : decode cX0_remember 8 = .ok (.arraylength, 1) := by decide +kernel
theorem dX0_remember_9 : decode cX0_remember 9 = .ok (.if_icmp .lt 8, 3) := by decide +kernel
theorem dX0_remember_12 : decode cX0_remember 12 = .ok (.aload_n 0, 1) := by decide +kernel
theorem dX0_remember_13 : decode cX0_remember 13 = .ok (.iconst 0, 1) := by decide +kernel
theorem dX0_remember_14 : decode cX0_remember 14 = .ok (.putfield 22, 3) := by decide +kernel
theorem dX0_remember_17 : decode cX0_remember 17 = .ok (.aload_n 0, 1) := by decide +kernel
theorem dX0_remember_18 : decode cX0_remember 18 = .ok (.getfield 11, 3) := by decide +kernel
theorem dX0_remember_21 : decode cX0_remember 21 = .ok (.aload_n 0, 1) := by decide +kernel
theorem dX0_remember_22 : decode cX0_remember 22 = .ok (.getfield 22, 3) := by decide +kernel
theorem dX0_remember_25 : decode cX0_remember 25 = .ok (.aaload, 1) := by decide +kernel
theorem dX0_remember_26 : decode cX0_remember 26 = .ok (.aload_n 1, 1) := by decide +kernel
theorem dX0_remember_27 : decode cX0_remember 27 = .ok (.invokevirtual 25, 3) := by decide +kernel
theorem dX0_remember_30 : decode cX0_remember 30 = .ok (.aload_n 0, 1) := by decide +kernel
theorem dX0_remember_31 : decode cX0_remember 31 = .ok (.dup, 1) := by decide +kernel
theorem dX0_remember_32 : decode cX0_remember 32 = .ok (.getfield 22, 3) := by decide +kernel
theorem dX0_remember_35 : decode cX0_remember 35 = .ok (.iconst 1, 1) := by decide +kernel
theorem dX0_remember_36 : decode cX0_remember 36 = .ok (.iadd, 1) := by decide +kernel
theorem dX0_remember_37 : decode cX0_remember 37 = .ok (.putfield 22, 3) := by decide +kernel
theorem dX0_remember_40 : decode cX0_remember 40 = .ok (.aload_n 0, 1) := by decide +kernel
theorem dX0_remember_41 : decode cX0_remember 41 = .ok (.aload_n 0, 1) := by decide +kernel
theorem dX0_remember_42 : decode cX0_remember 42 = .ok (.getfield 18, 3) := by decide +kernel
theorem dX0_remember_45 : decode cX0_remember 45 = .ok (.iconst 1, 1) := by decide +kernel
theorem dX0_remember_46 : decode cX0_remember 46 = .ok (.iadd, 1) := by decide +kernel
theorem dX0_remember_47 : decode cX0_remember 47 = .ok (.aload_n 0, 1) := by decide +kernel
theorem dX0_remember_48 : decode cX0_remember 48 = .ok (.getfield 11, 3) := by decide +kernel
theorem dX0_remember_51 : decode cX0_remember 51 = .ok (.arraylength, 1) := by decide +kernel
theorem dX0_remember_52 : decode cX0_remember 52 = .ok (.invokestatic 29, 3) := by decide +kernel
theorem dX0_remember_55 : decode cX0_remember 55 = .ok (.putfield 18, 3) := by decide +kernel
theorem dX0_remember_58 : decode cX0_remember 58 = .ok (.return_, 1) := by decide +kernel
theorem dX1_init_0 : decode cX1_init 0 = .ok (.aload_n 0, 1) := by decide +kernel
theorem dX1_init_1 : decode cX1_init 1 = .ok (.invokespecial 3, 3) := by decide +kernel
theorem dX1_init_4 : decode cX1_init 4 = .ok (.aload_n 0, 1) := by decide +kernel
theorem dX1_init_5 : decode cX1_init 5 = .ok (.bipush 24, 2) := by decide +kernel
theorem dX1_init_7 : decode cX1_init 7 = .ok (.newarray .int, 2) := by decide +kernel
theorem dX1_init_9 : decode cX1_init 9 = .ok (.putfield 9, 3) := by decide +kernel
theorem dX1_init_12 : decode cX1_init 12 = .ok (.return_, 1) := by decide +kernel
theorem dX1_length_0 : decode cX1_length 0 = .ok (.aload_n 0, 1) := by decide +kernel
theorem dX1_length_1 : decode cX1_length 1 = .ok (.getfield 15, 3) := by decide +kernel
theorem dX1_length_4 : decode cX1_length 4 = .ok (.ireturn, 1) := by decide +kernel
theorem dX1_numberAt_0 : decode cX1_numberAt 0 = .ok (.iload_n 1, 1) := by decide +kernel
theorem dX1_numberAt_1 : decode cX1_numberAt 1 = .ok (.ifCond .lt 20, 3) := by decide +kernel
theorem dX1_numberAt_4 : decode cX1_numberAt 4 = .ok (.iload_n 1, 1) := by decide +kernel
theorem dX1_numberAt_5 : decode cX1_numberAt 5 = .ok (.aload_n 0, 1) := by decide +kernel
theorem dX1_numberAt_6 : decode cX1_numberAt 6 = .ok (.getfield 15, 3) := by decide +kernel
theorem dX1_numberAt_9 : decode cX1_numberAt 9 = .ok (.if_icmp .ge 12, 3) := by decide +kernel
theorem dX1_numberAt_12 : decode cX1_numberAt 12 = .ok (.aload_n 0, 1) := by decide +kernel
theorem dX1_numberAt_13 : decode cX1_numberAt 13 = .ok (.getfield 9, 3) := by decide +kernel
theorem dX1_numberAt_16 : decode cX1_numberAt 16 = .ok (.iload_n 1, 1) := by decide +kernel
theorem dX1_numberAt_17 : decode cX1_numberAt 17 = .ok (.iaload, 1) := by decide +kernel
theorem dX1_numberAt_18 : decode cX1_numberAt 18 = .ok (.goto 5, 3) := by decide +kernel
theorem dX1_numberAt_21 : decode cX1_numberAt 21 = .ok (.bipush (-6), 2) := by decide +kernel
theorem dX1_numberAt_23 : decode cX1_numberAt 23 = .ok (.ireturn, 1) := by decide +kernel
theorem dX1_placeOf_0 : decode cX1_placeOf 0 = .ok (.iconst 0, 1) := by decide +kernel
theorem dX1_placeOf_1 : decode cX1_placeOf 1 = .ok (.istore_n 2, 1) := by decide +kernel
theorem dX1_placeOf_2 : decode cX1_placeOf 2 = .ok (.iload_n 2, 1) := by decide +kernel
theorem dX1_placeOf_3 : decode cX1_placeOf 3 = .ok (.aload_n 0, 1) := by decide +kernel
theorem dX1_placeOf_4 : decode cX1_placeOf 4 = .ok (.getfield 15, 3) := by decide +kernel
theorem dX1_placeOf_7 : decode cX1_placeOf 7 = .ok (.if_icmp .ge 21, 3) := by decide +kernel
theorem dX1_placeOf_10 : decode cX1_placeOf 10 = .ok (.aload_n 0, 1) := by decide +kernel
theorem dX1_placeOf_11 : decode cX1_placeOf 11 = .ok (.getfield 9, 3) := by decide +kernel
theorem dX1_placeOf_14 : decode cX1_placeOf 14 = .ok (.iload_n 2, 1) := by decide +kernel
theorem dX1_placeOf_15 : decode cX1_placeOf 15 = .ok (.iaload, 1) := by decide +kernel
theorem dX1_placeOf_16 : decode cX1_placeOf 16 = .ok (.iload_n 1, 1) := by decide +kernel
theorem dX1_placeOf_17 : decode cX1_placeOf 17 = .ok (.if_icmp .ne 5, 3) := by decide +kernel
theorem dX1_placeOf_20 : decode cX1_placeOf 20 = .ok (.iload_n 2, 1) := by decide +kernel
theorem dX1_placeOf_21 : decode cX1_placeOf 21 = .ok (.ireturn, 1) := by decide +kernel
theorem dX1_placeOf_22 : decode cX1_placeOf 22 = .ok (.iinc 2 1, 3) := by decide +kernel
theorem dX1_placeOf_25 : decode cX1_placeOf 25 = .ok (.goto (-23), 3) := by decide +kernel
theorem dX1_placeOf_28 : decode cX1_placeOf 28 = .ok (.bipush (-6), 2) := by decide +kernel
theorem dX1_placeOf_30 : decode cX1_placeOf 30 = .ok (.ireturn, 1) := by decide +kernel
theorem dX1_append_0 : decode cX1_append 0 = .ok (.aload_n 0, 1) := by decide +kernel
theorem dX1_append_1 : decode cX1_append 1 = .ok (.getfield 15, 3) := by decide +kernel
theorem dX1_append_4 : decode cX1_append 4 = .ok (.aload_n 0, 1) := by decide +kernel
theorem dX1_append_5 : decode cX1_append 5 = .ok (.getfield 9, 3) := by decide +kernel
theorem dX1_append_8 : decode cX1_append 8 = .ok (.arraylength, 1) := by decide +kernel
theorem dX1_append_9 : decode cX1_append 9 = .ok (.if_icmp .ge 23, 3) := by decide +kernel
theorem dX1_append_12 : decode cX1_append 12 = .ok (.aload_n 0, 1) := by decide +kernel
theorem dX1_append_13 : decode cX1_append 13 = .ok (.getfield 9, 3) := by decide +kernel
theorem dX1_append_16 : decode cX1_append 16 = .ok (.aload_n 0, 1) := by decide +kernel
theorem dX1_append_17 : decode cX1_append 17 = .ok (.getfield 15, 3) := by decide +kernel
theorem dX1_append_20 : decode cX1_append 20 = .ok (.iload_n 1, 1) := by decide +kernel
theorem dX1_append_21 : decode cX1_append 21 = .ok (.iastore, 1) := by decide +kernel
theorem dX1_append_22 : decode cX1_append 22 = .ok (.aload_n 0, 1) := by decide +kernel
theorem dX1_append_23 : decode cX1_append 23 = .ok (.dup, 1) := by decide +kernel
theorem dX1_append_24 : decode cX1_append 24 = .ok (.getfield 15, 3) := by decide +kernel
theorem dX1_append_27 : decode cX1_append 27 = .ok (.iconst 1, 1) := by decide +kernel
theorem dX1_append_28 : decode cX1_append 28 = .ok (.iadd, 1) := by decide +kernel
theorem dX1_append_29 : decode cX1_append 29 = .ok (.putfield 15, 3) := by decide +kernel
theorem dX1_append_32 : decode cX1_append 32 = .ok (.return_, 1) := by decide +kernel
theorem dX1_remove_0 : decode cX1_remove 0 = .ok (.aload_n 0, 1) := by decide +kernel
theorem dX1_remove_1 : decode cX1_remove 1 = .ok (.iload_n 1, 1) := by decide +kernel
theorem dX1_remove_2 : decode cX1_remove 2 = .ok (.invokevirtual 19, 3) := by decide +kernel
theorem dX1_remove_5 : decode cX1_remove 5 = .ok (.istore_n 2, 1) := by decide +kernel
theorem dX1_remove_6 : decode cX1_remove 6 = .ok (.iload_n 2, 1) := by decide +kernel
theorem dX1_remove_7 : decode cX1_remove 7 = .ok (.bipush (-6), 2) := by decide +kernel
theorem dX1_remove_9 : decode cX1_remove 9 = .ok (.if_icmp .ne 4, 3) := by decide +kernel
theorem dX1_remove_12 : decode cX1_remove 12 = .ok (.return_, 1) := by decide +kernel
theorem dX1_remove_13 : decode cX1_remove 13 = .ok (.aload_n 0, 1) := by decide +kernel
theorem dX1_remove_14 : decode cX1_remove 14 = .ok (.dup, 1) := by decide +kernel
theorem dX1_remove_15 : decode cX1_remove 15 = .ok (.getfield 15, 3) := by decide +kernel
theorem dX1_remove_18 : decode cX1_remove 18 = .ok (.iconst 1, 1) := by decide +kernel
theorem dX1_remove_19 : decode cX1_remove 19 = .ok (.isub, 1) := by decide +kernel
theorem dX1_remove_20 : decode cX1_remove 20 = .ok (.putfield 15, 3) := by decide +kernel
theorem dX1_remove_23 : decode cX1_remove 23 = .ok (.iload_n 2, 1) := by decide +kernel
theorem dX1_remove_24 : decode cX1_remove 24 = .ok (.istore_n 3, 1) := by decide +kernel
theorem dX1_remove_25 : decode cX1_remove 25 = .ok (.iload_n 3, 1) := by decide +kernel
theorem dX1_remove_26 : decode cX1_remove 26 = .ok (.aload_n 0, 1) := by decide +kernel
theorem dX1_remove_27 : decode cX1_remove 27 = .ok (.getfield 15, 3) := by decide +kernel
theorem dX1_remove_30 : decode cX1_remove 30 = .ok (.if_icmp .ge 23, 3) := by decide +kernel
theorem dX1_remove_33 : decode cX1_remove 33 = .ok (.aload_n 0, 1) := by decide +kernel
theorem dX1_remove_34 : decode cX1_remove 34 = .ok (.getfield 9, 3) := by decide +kernel
theorem dX1_remove_37 : decode cX1_remove 37 = .ok (.iload_n 3, 1) := by decide +kernel
theorem dX1_remove_38 : decode cX1_remove 38 = .ok (.aload_n 0, 1) := by decide +kernel
theorem dX1_remove_39 : decode cX1_remove 39 = .ok (.getfield 9, 3) := by decide +kernel
theorem dX1_remove_42 : decode cX1_remove 42 = .ok (.iload_n 3, 1) := by decide +kernel
theorem dX1_remove_43 : decode cX1_remove 43 = .ok (.iconst 1, 1) := by decide +kernel
theorem dX1_remove_44 : decode cX1_remove 44 = .ok (.iadd, 1) := by decide +kernel
theorem dX1_remove_45 : decode cX1_remove 45 = .ok (.iaload, 1) := by decide +kernel
theorem dX1_remove_46 : decode cX1_remove 46 = .ok (.iastore, 1) := by decide +kernel
theorem dX1_remove_47 : decode cX1_remove 47 = .ok (.iinc 3 1, 3) := by decide +kernel
theorem dX1_remove_50 : decode cX1_remove 50 = .ok (.goto (-25), 3) := by decide +kernel
theorem dX1_remove_53 : decode cX1_remove 53 = .ok (.return_, 1) := by decide +kernel
theorem dX1_become_0 : decode cX1_become 0 = .ok (.aload_n 1, 1) := by decide +kernel
theorem dX1_become_1 : decode cX1_become 1 = .ok (.getfield 9, 3) := by decide +kernel
theorem dX1_become_4 : decode cX1_become 4 = .ok (.iconst 0, 1) := by decide +kernel
theorem dX1_become_5 : decode cX1_become 5 = .ok (.aload_n 0, 1) := by decide +kernel
theorem dX1_become_6 : decode cX1_become 6 = .ok (.getfield 9, 3) := by decide +kernel
theorem dX1_become_9 : decode cX1_become 9 = .ok (.iconst 0, 1) := by decide +kernel
theorem dX1_become_10 : decode cX1_become 10 = .ok (.bipush 24, 2) := by decide +kernel
theorem dX1_become_12 : decode cX1_become 12 = .ok (.invokestatic 23, 3) := by decide +kernel
theorem dX1_become_15 : decode cX1_become 15 = .ok (.aload_n 0, 1) := by decide +kernel
theorem dX1_become_16 : decode cX1_become 16 = .ok (.aload_n 1, 1) := by decide +kernel
theorem dX1_become_17 : decode cX1_become 17 = .ok (.getfield 15, 3) := by decide +kernel
theorem dX1_become_20 : decode cX1_become 20 = .ok (.putfield 15, 3) := by decide +kernel
theorem dX1_become_23 : decode cX1_become 23 = .ok (.return_, 1) := by decide +kernel
theorem dX2_init_0 : decode cX2_init 0 = .ok (.aload_n 0, 1) := by decide +kernel
theorem dX2_init_1 : decode cX2_init 1 = .ok (.invokespecial 3, 3) := by decide +kernel
theorem dX2_init_4 : decode cX2_init 4 = .ok (.aload_n 0, 1) := by decide +kernel
theorem dX2_init_5 : decode cX2_init 5 = .ok (.getstatic 9, 3) := by decide +kernel
theorem dX2_init_8 : decode cX2_init 8 = .ok (.invokevirtual 13, 3) := by decide +kernel
theorem dX2_init_11 : decode cX2_init 11 = .ok (.checkcast 14, 3) := by decide +kernel
theorem dX2_init_14 : decode cX2_init 14 = .ok (.putfield 18, 3) := by decide +kernel
theorem dX2_init_17 : decode cX2_init 17 = .ok (.aload_n 0, 1) := by decide +kernel
theorem dX2_init_18 : decode cX2_init 18 = .ok (.bipush 6, 2) := by decide +kernel
theorem dX2_init_20 : decode cX2_init 20 = .ok (.anewarray 23, 3) := by decide +kernel
theorem dX2_init_23 : decode cX2_init 23 = .ok (.putfield 25, 3) := by decide +kernel
theorem dX2_init_26 : decode cX2_init 26 = .ok (.aload_n 0, 1) := by decide +kernel
theorem dX2_init_27 : decode cX2_init 27 = .ok (.bipush 24, 2) := by decide +kernel
theorem dX2_init_29 : decode cX2_init 29 = .ok (.anewarray 29, 3) := by decide +kernel
theorem dX2_init_32 : decode cX2_init 32 = .ok (.putfield 31, 3) := by decide +kernel
theorem dX2_init_35 : decode cX2_init 35 = .ok (.iconst 0, 1) := by decide +kernel
theorem dX2_init_36 : decode cX2_init 36 = .ok (.istore_n 1, 1) := by decide +kernel
theorem dX2_init_37 : decode cX2_init 37 = .ok (.iload_n 1, 1) := by decide +kernel
theorem dX2_init_38 : decode cX2_init 38 = .ok (.aload_n 0, 1) := by decide +kernel
theorem dX2_init_39 : decode cX2_init 39 = .ok (.getfield 25, 3) := by decide +kernel
theorem dX2_init_42 : decode cX2_init 42 = .ok (.arraylength, 1) := by decide +kernel
theorem dX2_init_43 : decode cX2_init 43 = .ok (.if_icmp .ge 28, 3) := by decide +kernel
theorem dX2_init_46 : decode cX2_init 46 = .ok (.aload_n 0, 1) := by decide +kernel
theorem dX2_init_47 : decode cX2_init 47 = .ok (.getfield 25, 3) := by decide +kernel
theorem dX2_init_50 : decode cX2_init 50 = .ok (.iload_n 1, 1) := by decide +kernel
theorem dX2_init_51 : decode cX2_init 51 = .ok (.new 23, 3) := by decide +kernel
theorem dX2_init_54 : decode cX2_init 54 = .ok (.dup, 1) := by decide +kernel
theorem dX2_init_55 : decode cX2_init 55 = .ok (.aload_n 0, 1) := by decide +kernel
theorem dX2_init_56 : decode cX2_init 56 = .ok (.getfield 18, 3) := by decide +kernel
theorem dX2_init_59 : decode cX2_init 59 = .ok (.iconst 1, 1) := by decide +kernel
theorem dX2_init_60 : decode cX2_init 60 = .ok (.iaload, 1) := by decide +kernel
theorem dX2_init_61 : decode cX2_init 61 = .ok (.invokespecial 35, 3) := by decide +kernel
theorem dX2_init_64 : decode cX2_init 64 = .ok (.aastore, 1) := by decide +kernel
theorem dX2_init_65 : decode cX2_init 65 = .ok (.iinc 1 1, 3) := by decide +kernel
theorem dX2_init_68 : decode cX2_init 68 = .ok (.goto (-31), 3) := by decide +kernel
theorem dX2_init_71 : decode cX2_init 71 = .ok (.iconst 0, 1) := by decide +kernel
theorem dX2_init_72 : decode cX2_init 72 = .ok (.istore_n 1, 1) := by decide +kernel
theorem dX2_init_73 : decode cX2_init 73 = .ok (.iload_n 1, 1) := by decide +kernel
theorem dX2_init_74 : decode cX2_init 74 = .ok (.aload_n 0, 1) := by decide +kernel
theorem dX2_init_75 : decode cX2_init 75 = .ok (.getfield 31, 3) := by decide +kernel
theorem dX2_init_78 : decode cX2_init 78 = .ok (.arraylength, 1) := by decide +kernel
theorem dX2_init_79 : decode cX2_init 79 = .ok (.if_icmp .ge 23, 3) := by decide +kernel
theorem dX2_init_82 : decode cX2_init 82 = .ok (.aload_n 0, 1) := by decide +kernel
theorem dX2_init_83 : decode cX2_init 83 = .ok (.getfield 31, 3) := by decide +kernel
theorem dX2_init_86 : decode cX2_init 86 = .ok (.iload_n 1, 1) := by decide +kernel
theorem dX2_init_87 : decode cX2_init 87 = .ok (.new 29, 3) := by decide +kernel
theorem dX2_init_90 : decode cX2_init 90 = .ok (.dup, 1) := by decide +kernel
theorem dX2_init_91 : decode cX2_init 91 = .ok (.iload_n 1, 1) := by decide +kernel
theorem dX2_init_92 : decode cX2_init 92 = .ok (.invokespecial 38, 3) := by decide +kernel
theorem dX2_init_95 : decode cX2_init 95 = .ok (.aastore, 1) := by decide +kernel
theorem dX2_init_96 : decode cX2_init 96 = .ok (.iinc 1 1, 3) := by decide +kernel
theorem dX2_init_99 : decode cX2_init 99 = .ok (.goto (-26), 3) := by decide +kernel
theorem dX2_init_102 : decode cX2_init 102 = .ok (.return_, 1) := by decide +kernel
theorem dX2_become_0 : decode cX2_become 0 = .ok (.aload_n 1, 1) := by decide +kernel
theorem dX2_become_1 : decode cX2_become 1 = .ok (.getfield 18, 3) := by decide +kernel
theorem dX2_become_4 : decode cX2_become 4 = .ok (.iconst 0, 1) := by decide +kernel
theorem dX2_become_5 : decode cX2_become 5 = .ok (.aload_n 0, 1) := by decide +kernel
theorem dX2_become_6 : decode cX2_become 6 = .ok (.getfield 18, 3) := by decide +kernel
theorem dX2_become_9 : decode cX2_become 9 = .ok (.iconst 0, 1) := by decide +kernel
theorem dX2_become_10 : decode cX2_become 10 = .ok (.getstatic 9, 3) := by decide +kernel
theorem dX2_become_13 : decode cX2_become 13 = .ok (.arraylength, 1) := by decide +kernel
theorem dX2_become_14 : decode cX2_become 14 = .ok (.invokestatic 39, 3) := by decide +kernel
theorem dX2_become_17 : decode cX2_become 17 = .ok (.iconst 0, 1) := by decide +kernel
theorem dX2_become_18 : decode cX2_become 18 = .ok (.istore_n 2, 1) := by decide +kernel
theorem dX2_become_19 : decode cX2_become 19 = .ok (.iload_n 2, 1) := by decide +kernel
theorem dX2_become_20 : decode cX2_become 20 = .ok (.bipush 6, 2) := by decide +kernel
theorem dX2_become_22 : decode cX2_become 22 = .ok (.if_icmp .ge 24, 3) := by decide +kernel
theorem dX2_become_25 : decode cX2_become 25 = .ok (.aload_n 0, 1) := by decide +kernel
theorem dX2_become_26 : decode cX2_become 26 = .ok (.getfield 25, 3) := by decide +kernel
theorem dX2_become_29 : decode cX2_become 29 = .ok (.iload_n 2, 1) := by decide +kernel
theorem dX2_become_30 : decode cX2_become 30 = .ok (.aaload, 1) := by decide +kernel
theorem dX2_become_31 : decode cX2_become 31 = .ok (.aload_n 1, 1) := by decide +kernel
theorem dX2_become_32 : decode cX2_become 32 = .ok (.getfield 25, 3) := by decide +kernel
theorem dX2_become_35 : decode cX2_become 35 = .ok (.iload_n 2, 1) := by decide +kernel
theorem dX2_become_36 : decode cX2_become 36 = .ok (.aaload, 1) := by decide +kernel
theorem dX2_become_37 : decode cX2_become 37 = .ok (.invokevirtual 45, 3) := by decide +kernel
theorem dX2_become_40 : decode cX2_become 40 = .ok (.iinc 2 1, 3) := by decide +kernel
theorem dX2_become_43 : decode cX2_become 43 = .ok (.goto (-24), 3) := by decide +kernel
theorem dX2_become_46 : decode cX2_become 46 = .ok (.iconst 0, 1) := by decide +kernel
theorem dX2_become_47 : decode cX2_become 47 = .ok (.istore_n 2, 1) := by decide +kernel
theorem dX2_become_48 : decode cX2_become 48 = .ok (.iload_n 2, 1) := by decide +kernel
theorem dX2_become_49 : decode cX2_become 49 = .ok (.bipush 24, 2) := by decide +kernel
theorem dX2_become_51 : decode cX2_become 51 = .ok (.if_icmp .ge 24, 3) := by decide +kernel
theorem dX2_become_54 : decode cX2_become 54 = .ok (.aload_n 0, 1) := by decide +kernel
theorem dX2_become_55 : decode cX2_become 55 = .ok (.getfield 31, 3) := by decide +kernel
theorem dX2_become_58 : decode cX2_become 58 = .ok (.iload_n 2, 1) := by decide +kernel
theorem dX2_become_59 : decode cX2_become 59 = .ok (.aaload, 1) := by decide +kernel
theorem dX2_become_60 : decode cX2_become 60 = .ok (.aload_n 1, 1) := by decide +kernel
theorem dX2_become_61 : decode cX2_become 61 = .ok (.getfield 31, 3) := by decide +kernel
theorem dX2_become_64 : decode cX2_become 64 = .ok (.iload_n 2, 1) := by decide +kernel
theorem dX2_become_65 : decode cX2_become 65 = .ok (.aaload, 1) := by decide +kernel
theorem dX2_become_66 : decode cX2_become 66 = .ok (.invokevirtual 49, 3) := by decide +kernel
theorem dX2_become_69 : decode cX2_become 69 = .ok (.iinc 2 1, 3) := by decide +kernel
theorem dX2_become_72 : decode cX2_become 72 = .ok (.goto (-24), 3) := by decide +kernel
theorem dX2_become_75 : decode cX2_become 75 = .ok (.aload_n 0, 1) := by decide +kernel
theorem dX2_become_76 : decode cX2_become 76 = .ok (.aload_n 1, 1) := by decide +kernel
theorem dX2_become_77 : decode cX2_become 77 = .ok (.getfield 52, 3) := by decide +kernel
theorem dX2_become_80 : decode cX2_become 80 = .ok (.putfield 52, 3) := by decide +kernel
theorem dX2_become_83 : decode cX2_become 83 = .ok (.aload_n 0, 1) := by decide +kernel
theorem dX2_become_84 : decode cX2_become 84 = .ok (.aload_n 1, 1) := by decide +kernel
theorem dX2_become_85 : decode cX2_become 85 = .ok (.getfield 56, 3) := by decide +kernel
theorem dX2_become_88 : decode cX2_become 88 = .ok (.putfield 56, 3) := by decide +kernel
theorem dX2_become_91 : decode cX2_become 91 = .ok (.aload_n 0, 1) := by decide +kernel
theorem dX2_become_92 : decode cX2_become 92 = .ok (.aload_n 1, 1) := by decide +kernel
theorem dX2_become_93 : decode cX2_become 93 = .ok (.getfield 59, 3) := by decide +kernel
theorem dX2_become_96 : decode cX2_become 96 = .ok (.putfield 59, 3) := by decide +kernel
theorem dX2_become_99 : decode cX2_become 99 = .ok (.aload_n 0, 1) := by decide +kernel
theorem dX2_become_100 : decode cX2_become 100 = .ok (.aload_n 1, 1) := by decide +kernel
theorem dX2_become_101 : decode cX2_become 101 = .ok (.getfield 62, 3) := by decide +kernel
theorem dX2_become_104 : decode cX2_become 104 = .ok (.putfield 62, 3) := by decide +kernel
theorem dX2_become_107 : decode cX2_become 107 = .ok (.return_, 1) := by decide +kernel
theorem dX2_windowAt_0 : decode cX2_windowAt 0 = .ok (.iload_n 1, 1) := by decide +kernel
theorem dX2_windowAt_1 : decode cX2_windowAt 1 = .ok (.ifCond .lt 21, 3) := by decide +kernel
theorem dX2_windowAt_4 : decode cX2_windowAt 4 = .ok (.iload_n 1, 1) := by decide +kernel
theorem dX2_windowAt_5 : decode cX2_windowAt 5 = .ok (.aload_n 0, 1) := by decide +kernel
theorem dX2_windowAt_6 : decode cX2_windowAt 6 = .ok (.getfield 25, 3) := by decide +kernel
theorem dX2_windowAt_9 : decode cX2_windowAt 9 = .ok (.arraylength, 1) := by decide +kernel
theorem dX2_windowAt_10 : decode cX2_windowAt 10 = .ok (.if_icmp .ge 12, 3) := by decide +kernel
theorem dX2_windowAt_13 : decode cX2_windowAt 13 = .ok (.aload_n 0, 1) := by decide +kernel
theorem dX2_windowAt_14 : decode cX2_windowAt 14 = .ok (.getfield 25, 3) := by decide +kernel
theorem dX2_windowAt_17 : decode cX2_windowAt 17 = .ok (.iload_n 1, 1) := by decide +kernel
theorem dX2_windowAt_18 : decode cX2_windowAt 18 = .ok (.aaload, 1) := by decide +kernel
theorem dX2_windowAt_19 : decode cX2_windowAt 19 = .ok (.goto 4, 3) := by decide +kernel
theorem dX2_windowAt_22 : decode cX2_windowAt 22 = .ok (.aconst_null, 1) := by decide +kernel
theorem dX2_windowAt_23 : decode cX2_windowAt 23 = .ok (.areturn, 1) := by decide +kernel
theorem dX2_personAt_0 : decode cX2_personAt 0 = .ok (.iload_n 1, 1) := by decide +kernel
theorem dX2_personAt_1 : decode cX2_personAt 1 = .ok (.ifCond .lt 29, 3) := by decide +kernel
theorem dX2_personAt_4 : decode cX2_personAt 4 = .ok (.iload_n 1, 1) := by decide +kernel
theorem dX2_personAt_5 : decode cX2_personAt 5 = .ok (.aload_n 0, 1) := by decide +kernel
theorem dX2_personAt_6 : decode cX2_personAt 6 = .ok (.getfield 52, 3) := by decide +kernel
theorem dX2_personAt_9 : decode cX2_personAt 9 = .ok (.if_icmp .ge 21, 3) := by decide +kernel
theorem dX2_personAt_12 : decode cX2_personAt 12 = .ok (.iload_n 1, 1) := by decide +kernel
theorem dX2_personAt_13 : decode cX2_personAt 13 = .ok (.aload_n 0, 1) := by decide +kernel
theorem dX2_personAt_14 : decode cX2_personAt 14 = .ok (.getfield 31, 3) := by decide +kernel
theorem dX2_personAt_17 : decode cX2_personAt 17 = .ok (.arraylength, 1) := by decide +kernel
theorem dX2_personAt_18 : decode cX2_personAt 18 = .ok (.if_icmp .ge 12, 3) := by decide +kernel
theorem dX2_personAt_21 : decode cX2_personAt 21 = .ok (.aload_n 0, 1) := by decide +kernel
theorem dX2_personAt_22 : decode cX2_personAt 22 = .ok (.getfield 31, 3) := by decide +kernel
theorem dX2_personAt_25 : decode cX2_personAt 25 = .ok (.iload_n 1, 1) := by decide +kernel
theorem dX2_personAt_26 : decode cX2_personAt 26 = .ok (.aaload, 1) := by decide +kernel
theorem dX2_personAt_27 : decode cX2_personAt 27 = .ok (.goto 4, 3) := by decide +kernel
theorem dX2_personAt_30 : decode cX2_personAt 30 = .ok (.aconst_null, 1) := by decide +kernel
theorem dX2_personAt_31 : decode cX2_personAt 31 = .ok (.areturn, 1) := by decide +kernel
theorem dX2_openWindows_0 : decode cX2_openWindows 0 = .ok (.iconst 0, 1) := by decide +kernel
theorem dX2_openWindows_1 : decode cX2_openWindows 1 = .ok (.istore_n 1, 1) := by decide +kernel
theorem dX2_openWindows_2 : decode cX2_openWindows 2 = .ok (.aload_n 0, 1) := by decide +kernel
theorem dX2_openWindows_3 : decode cX2_openWindows 3 = .ok (.getfield 25, 3) := by decide +kernel
theorem dX2_openWindows_6 : decode cX2_openWindows 6 = .ok (.astore_n 2, 1) := by decide +kernel
theorem dX2_openWindows_7 : decode cX2_openWindows 7 = .ok (.aload_n 2, 1) := by decide +kernel
theorem dX2_openWindows_8 : decode cX2_openWindows 8 = .ok (.arraylength, 1) := by decide +kernel
theorem dX2_openWindows_9 : decode cX2_openWindows 9 = .ok (.istore_n 3, 1) := by decide +kernel
theorem dX2_openWindows_10 : decode cX2_openWindows 10 = .ok (.iconst 0, 1) := by decide +kernel
theorem dX2_openWindows_11 : decode cX2_openWindows 11 = .ok (.istore 4, 2) := by decide +kernel
theorem dX2_openWindows_13 : decode cX2_openWindows 13 = .ok (.iload 4, 2) := by decide +kernel
theorem dX2_openWindows_15 : decode cX2_openWindows 15 = .ok (.iload_n 3, 1) := by decide +kernel
theorem dX2_openWindows_16 : decode cX2_openWindows 16 = .ok (.if_icmp .ge 31, 3) := by decide +kernel
theorem dX2_openWindows_19 : decode cX2_openWindows 19 = .ok (.aload_n 2, 1) := by decide +kernel
theorem dX2_openWindows_20 : decode cX2_openWindows 20 = .ok (.iload 4, 2) := by decide +kernel
theorem dX2_openWindows_22 : decode cX2_openWindows 22 = .ok (.aaload, 1) := by decide +kernel
theorem dX2_openWindows_23 : decode cX2_openWindows 23 = .ok (.astore 5, 2) := by decide +kernel
theorem dX2_openWindows_25 : decode cX2_openWindows 25 = .ok (.iload_n 1, 1) := by decide +kernel
theorem dX2_openWindows_26 : decode cX2_openWindows 26 = .ok (.aload 5, 2) := by decide +kernel
theorem dX2_openWindows_28 : decode cX2_openWindows 28 = .ok (.getfield 65, 3) := by decide +kernel
theorem dX2_openWindows_31 : decode cX2_openWindows 31 = .ok (.ifCond .eq 7, 3) := by decide +kernel
theorem dX2_openWindows_34 : decode cX2_openWindows 34 = .ok (.iconst 1, 1) := by decide +kernel
theorem dX2_openWindows_35 : decode cX2_openWindows 35 = .ok (.goto 4, 3) := by decide +kernel
theorem dX2_openWindows_38 : decode cX2_openWindows 38 = .ok (.iconst 0, 1) := by decide +kernel
theorem dX2_openWindows_39 : decode cX2_openWindows 39 = .ok (.iadd, 1) := by decide +kernel
theorem dX2_openWindows_40 : decode cX2_openWindows 40 = .ok (.istore_n 1, 1) := by decide +kernel
theorem dX2_openWindows_41 : decode cX2_openWindows 41 = .ok (.iinc 4 1, 3) := by decide +kernel
theorem dX2_openWindows_44 : decode cX2_openWindows 44 = .ok (.goto (-31), 3) := by decide +kernel
theorem dX2_openWindows_47 : decode cX2_openWindows 47 = .ok (.iload_n 1, 1) := by decide +kernel
theorem dX2_openWindows_48 : decode cX2_openWindows 48 = .ok (.ireturn, 1) := by decide +kernel
theorem dX2_peopleWho_0 : decode cX2_peopleWho 0 = .ok (.iconst 0, 1) := by decide +kernel
theorem dX2_peopleWho_1 : decode cX2_peopleWho 1 = .ok (.istore_n 2, 1) := by decide +kernel
theorem dX2_peopleWho_2 : decode cX2_peopleWho 2 = .ok (.aload_n 0, 1) := by decide +kernel
theorem dX2_peopleWho_3 : decode cX2_peopleWho 3 = .ok (.getfield 31, 3) := by decide +kernel
theorem dX2_peopleWho_6 : decode cX2_peopleWho 6 = .ok (.astore_n 3, 1) := by decide +kernel
theorem dX2_peopleWho_7 : decode cX2_peopleWho 7 = .ok (.aload_n 3, 1) := by decide +kernel
theorem dX2_peopleWho_8 : decode cX2_peopleWho 8 = .ok (.arraylength, 1) := by decide +kernel
theorem dX2_peopleWho_9 : decode cX2_peopleWho 9 = .ok (.istore 4, 2) := by decide +kernel
theorem dX2_peopleWho_11 : decode cX2_peopleWho 11 = .ok (.iconst 0, 1) := by decide +kernel
theorem dX2_peopleWho_12 : decode cX2_peopleWho 12 = .ok (.istore 5, 2) := by decide +kernel
theorem dX2_peopleWho_14 : decode cX2_peopleWho 14 = .ok (.iload 5, 2) := by decide +kernel
theorem dX2_peopleWho_16 : decode cX2_peopleWho 16 = .ok (.iload 4, 2) := by decide +kernel
theorem dX2_peopleWho_18 : decode cX2_peopleWho 18 = .ok (.if_icmp .ge 32, 3) := by decide +kernel
theorem dX2_peopleWho_21 : decode cX2_peopleWho 21 = .ok (.aload_n 3, 1) := by decide +kernel
theorem dX2_peopleWho_22 : decode cX2_peopleWho 22 = .ok (.iload 5, 2) := by decide +kernel
theorem dX2_peopleWho_24 : decode cX2_peopleWho 24 = .ok (.aaload, 1) := by decide +kernel
theorem dX2_peopleWho_25 : decode cX2_peopleWho 25 = .ok (.astore 6, 2) := by decide +kernel
theorem dX2_peopleWho_27 : decode cX2_peopleWho 27 = .ok (.iload_n 2, 1) := by decide +kernel
theorem dX2_peopleWho_28 : decode cX2_peopleWho 28 = .ok (.aload 6, 2) := by decide +kernel
theorem dX2_peopleWho_30 : decode cX2_peopleWho 30 = .ok (.getfield 69, 3) := by decide +kernel
theorem dX2_peopleWho_33 : decode cX2_peopleWho 33 = .ok (.iload_n 1, 1) := by decide +kernel
theorem dX2_peopleWho_34 : decode cX2_peopleWho 34 = .ok (.if_icmp .ne 7, 3) := by decide +kernel
theorem dX2_peopleWho_37 : decode cX2_peopleWho 37 = .ok (.iconst 1, 1) := by decide +kernel
theorem dX2_peopleWho_38 : decode cX2_peopleWho 38 = .ok (.goto 4, 3) := by decide +kernel
theorem dX2_peopleWho_41 : decode cX2_peopleWho 41 = .ok (.iconst 0, 1) := by decide +kernel
theorem dX2_peopleWho_42 : decode cX2_peopleWho 42 = .ok (.iadd, 1) := by decide +kernel
theorem dX2_peopleWho_43 : decode cX2_peopleWho 43 = .ok (.istore_n 2, 1) := by decide +kernel
theorem dX2_peopleWho_44 : decode cX2_peopleWho 44 = .ok (.iinc 5 1, 3) := by decide +kernel
theorem dX2_peopleWho_47 : decode cX2_peopleWho 47 = .ok (.goto (-33), 3) := by decide +kernel
theorem dX2_peopleWho_50 : decode cX2_peopleWho 50 = .ok (.iload_n 2, 1) := by decide +kernel
theorem dX2_peopleWho_51 : decode cX2_peopleWho 51 = .ok (.ireturn, 1) := by decide +kernel
theorem dX2_halvesOfWindows_0 : decode cX2_halvesOfWindows 0 = .ok (.iconst 0, 1) := by decide +kernel
theorem dX2_halvesOfWindows_1 : decode cX2_halvesOfWindows 1 = .ok (.istore_n 1, 1) := by decide +kernel
theorem dX2_halvesOfWindows_2 : decode cX2_halvesOfWindows 2 = .ok (.aload_n 0, 1) := by decide +kernel
theorem dX2_halvesOfWindows_3 : decode cX2_halvesOfWindows 3 = .ok (.getfield 25, 3) := by decide +kernel
theorem dX2_halvesOfWindows_6 : decode cX2_halvesOfWindows 6 = .ok (.astore_n 2, 1) := by decide +kernel
theorem dX2_halvesOfWindows_7 : decode cX2_halvesOfWindows 7 = .ok (.aload_n 2, 1) := by decide +kernel
theorem dX2_halvesOfWindows_8 : decode cX2_halvesOfWindows 8 = .ok (.arraylength, 1) := by decide +kernel
theorem dX2_halvesOfWindows_9 : decode cX2_halvesOfWindows 9 = .ok (.istore_n 3, 1) := by decide +kernel
theorem dX2_halvesOfWindows_10 : decode cX2_halvesOfWindows 10 = .ok (.iconst 0, 1) := by decide +kernel
theorem dX2_halvesOfWindows_11 : decode cX2_halvesOfWindows 11 = .ok (.istore 4, 2) := by decide +kernel
theorem dX2_halvesOfWindows_13 : decode cX2_halvesOfWindows 13 = .ok (.iload 4, 2) := by decide +kernel
theorem dX2_halvesOfWindows_15 : decode cX2_halvesOfWindows 15 = .ok (.iload_n 3, 1) := by decide +kernel
theorem dX2_halvesOfWindows_16 : decode cX2_halvesOfWindows 16 = .ok (.if_icmp .ge 23, 3) := by decide +kernel
theorem dX2_halvesOfWindows_19 : decode cX2_halvesOfWindows 19 = .ok (.aload_n 2, 1) := by decide +kernel
theorem dX2_halvesOfWindows_20 : decode cX2_halvesOfWindows 20 = .ok (.iload 4, 2) := by decide +kernel
theorem dX2_halvesOfWindows_22 : decode cX2_halvesOfWindows 22 = .ok (.aaload, 1) := by decide +kernel
theorem dX2_halvesOfWindows_23 : decode cX2_halvesOfWindows 23 = .ok (.astore 5, 2) := by decide +kernel
theorem dX2_halvesOfWindows_25 : decode cX2_halvesOfWindows 25 = .ok (.iload_n 1, 1) := by decide +kernel
theorem dX2_halvesOfWindows_26 : decode cX2_halvesOfWindows 26 = .ok (.aload 5, 2) := by decide +kernel
theorem dX2_halvesOfWindows_28 : decode cX2_halvesOfWindows 28 = .ok (.getfield 72, 3) := by decide +kernel
theorem dX2_halvesOfWindows_31 : decode cX2_halvesOfWindows 31 = .ok (.iadd, 1) := by decide +kernel
theorem dX2_halvesOfWindows_32 : decode cX2_halvesOfWindows 32 = .ok (.istore_n 1, 1) := by decide +kernel
theorem dX2_halvesOfWindows_33 : decode cX2_halvesOfWindows 33 = .ok (.iinc 4 1, 3) := by decide +kernel
theorem dX2_halvesOfWindows_36 : decode cX2_halvesOfWindows 36 = .ok (.goto (-23), 3) := by decide +kernel
theorem dX2_halvesOfWindows_39 : decode cX2_halvesOfWindows 39 = .ok (.iload_n 1, 1) := by decide +kernel
theorem dX2_halvesOfWindows_40 : decode cX2_halvesOfWindows 40 = .ok (.ireturn, 1) := by decide +kernel
theorem dX2_halvesOfPeople_0 : decode cX2_halvesOfPeople 0 = .ok (.iconst 0, 1) := by decide +kernel
theorem dX2_halvesOfPeople_1 : decode cX2_halvesOfPeople 1 = .ok (.istore_n 1, 1) := by decide +kernel
theorem dX2_halvesOfPeople_2 : decode cX2_halvesOfPeople 2 = .ok (.aload_n 0, 1) := by decide +kernel
theorem dX2_halvesOfPeople_3 : decode cX2_halvesOfPeople 3 = .ok (.getfield 31, 3) := by decide +kernel
theorem dX2_halvesOfPeople_6 : decode cX2_halvesOfPeople 6 = .ok (.astore_n 2, 1) := by decide +kernel
theorem dX2_halvesOfPeople_7 : decode cX2_halvesOfPeople 7 = .ok (.aload_n 2, 1) := by decide +kernel
theorem dX2_halvesOfPeople_8 : decode cX2_halvesOfPeople 8 = .ok (.arraylength, 1) := by decide +kernel
theorem dX2_halvesOfPeople_9 : decode cX2_halvesOfPeople 9 = .ok (.istore_n 3, 1) := by decide +kernel
theorem dX2_halvesOfPeople_10 : decode cX2_halvesOfPeople 10 = .ok (.iconst 0, 1) := by decide +kernel
theorem dX2_halvesOfPeople_11 : decode cX2_halvesOfPeople 11 = .ok (.istore 4, 2) := by decide +kernel
theorem dX2_halvesOfPeople_13 : decode cX2_halvesOfPeople 13 = .ok (.iload 4, 2) := by decide +kernel
theorem dX2_halvesOfPeople_15 : decode cX2_halvesOfPeople 15 = .ok (.iload_n 3, 1) := by decide +kernel
theorem dX2_halvesOfPeople_16 : decode cX2_halvesOfPeople 16 = .ok (.if_icmp .ge 31, 3) := by decide +kernel
theorem dX2_halvesOfPeople_19 : decode cX2_halvesOfPeople 19 = .ok (.aload_n 2, 1) := by decide +kernel
theorem dX2_halvesOfPeople_20 : decode cX2_halvesOfPeople 20 = .ok (.iload 4, 2) := by decide +kernel
theorem dX2_halvesOfPeople_22 : decode cX2_halvesOfPeople 22 = .ok (.aaload, 1) := by decide +kernel
theorem dX2_halvesOfPeople_23 : decode cX2_halvesOfPeople 23 = .ok (.astore 5, 2) := by decide +kernel
theorem dX2_halvesOfPeople_25 : decode cX2_halvesOfPeople 25 = .ok (.iload_n 1, 1) := by decide +kernel
theorem dX2_halvesOfPeople_26 : decode cX2_halvesOfPeople 26 = .ok (.aload 5, 2) := by decide +kernel
theorem dX2_halvesOfPeople_28 : decode cX2_halvesOfPeople 28 = .ok (.getfield 75, 3) := by decide +kernel
theorem dX2_halvesOfPeople_31 : decode cX2_halvesOfPeople 31 = .ok (.ifCond .eq 7, 3) := by decide +kernel
theorem dX2_halvesOfPeople_34 : decode cX2_halvesOfPeople 34 = .ok (.iconst 1, 1) := by decide +kernel
theorem dX2_halvesOfPeople_35 : decode cX2_halvesOfPeople 35 = .ok (.goto 4, 3) := by decide +kernel
theorem dX2_halvesOfPeople_38 : decode cX2_halvesOfPeople 38 = .ok (.iconst 0, 1) := by decide +kernel
theorem dX2_halvesOfPeople_39 : decode cX2_halvesOfPeople 39 = .ok (.iadd, 1) := by decide +kernel
theorem dX2_halvesOfPeople_40 : decode cX2_halvesOfPeople 40 = .ok (.istore_n 1, 1) := by decide +kernel
theorem dX2_halvesOfPeople_41 : decode cX2_halvesOfPeople 41 = .ok (.iinc 4 1, 3) := by decide +kernel
theorem dX2_halvesOfPeople_44 : decode cX2_halvesOfPeople 44 = .ok (.goto (-31), 3) := by decide +kernel
theorem dX2_halvesOfPeople_47 : decode cX2_halvesOfPeople 47 = .ok (.iload_n 1, 1) := by decide +kernel
theorem dX2_halvesOfPeople_48 : decode cX2_halvesOfPeople 48 = .ok (.ireturn, 1) := by decide +kernel
theorem dX2_waits_0 : decode cX2_waits 0 = .ok (.iconst 0, 1) := by decide +kernel
theorem dX2_waits_1 : decode cX2_waits 1 = .ok (.istore_n 1, 1) := by decide +kernel
theorem dX2_waits_2 : decode cX2_waits 2 = .ok (.aload_n 0, 1) := by decide +kernel
theorem dX2_waits_3 : decode cX2_waits 3 = .ok (.getfield 31, 3) := by decide +kernel
theorem dX2_waits_6 : decode cX2_waits 6 = .ok (.astore_n 2, 1) := by decide +kernel
theorem dX2_waits_7 : decode cX2_waits 7 = .ok (.aload_n 2, 1) := by decide +kernel
theorem dX2_waits_8 : decode cX2_waits 8 = .ok (.arraylength, 1) := by decide +kernel
theorem dX2_waits_9 : decode cX2_waits 9 = .ok (.istore_n 3, 1) := by decide +kernel
theorem dX2_waits_10 : decode cX2_waits 10 = .ok (.iconst 0, 1) := by decide +kernel
theorem dX2_waits_11 : decode cX2_waits 11 = .ok (.istore 4, 2) := by decide +kernel
theorem dX2_waits_13 : decode cX2_waits 13 = .ok (.iload 4, 2) := by decide +kernel
theorem dX2_waits_15 : decode cX2_waits 15 = .ok (.iload_n 3, 1) := by decide +kernel
theorem dX2_waits_16 : decode cX2_waits 16 = .ok (.if_icmp .ge 23, 3) := by decide +kernel
theorem dX2_waits_19 : decode cX2_waits 19 = .ok (.aload_n 2, 1) := by decide +kernel
theorem dX2_waits_20 : decode cX2_waits 20 = .ok (.iload 4, 2) := by decide +kernel
theorem dX2_waits_22 : decode cX2_waits 22 = .ok (.aaload, 1) := by decide +kernel
theorem dX2_waits_23 : decode cX2_waits 23 = .ok (.astore 5, 2) := by decide +kernel
theorem dX2_waits_25 : decode cX2_waits 25 = .ok (.iload_n 1, 1) := by decide +kernel
theorem dX2_waits_26 : decode cX2_waits 26 = .ok (.aload 5, 2) := by decide +kernel
theorem dX2_waits_28 : decode cX2_waits 28 = .ok (.getfield 78, 3) := by decide +kernel
theorem dX2_waits_31 : decode cX2_waits 31 = .ok (.iadd, 1) := by decide +kernel
theorem dX2_waits_32 : decode cX2_waits 32 = .ok (.istore_n 1, 1) := by decide +kernel
theorem dX2_waits_33 : decode cX2_waits 33 = .ok (.iinc 4 1, 3) := by decide +kernel
theorem dX2_waits_36 : decode cX2_waits 36 = .ok (.goto (-23), 3) := by decide +kernel
theorem dX2_waits_39 : decode cX2_waits 39 = .ok (.iload_n 1, 1) := by decide +kernel
theorem dX2_waits_40 : decode cX2_waits 40 = .ok (.ireturn, 1) := by decide +kernel
theorem dX2_timesSentBack_0 : decode cX2_timesSentBack 0 = .ok (.iconst 0, 1) := by decide +kernel
theorem dX2_timesSentBack_1 : decode cX2_timesSentBack 1 = .ok (.istore_n 1, 1) := by decide +kernel
theorem dX2_timesSentBack_2 : decode cX2_timesSentBack 2 = .ok (.aload_n 0, 1) := by decide +kernel
theorem dX2_timesSentBack_3 : decode cX2_timesSentBack 3 = .ok (.getfield 31, 3) := by decide +kernel
theorem dX2_timesSentBack_6 : decode cX2_timesSentBack 6 = .ok (.astore_n 2, 1) := by decide +kernel
theorem dX2_timesSentBack_7 : decode cX2_timesSentBack 7 = .ok (.aload_n 2, 1) := by decide +kernel
theorem dX2_timesSentBack_8 : decode cX2_timesSentBack 8 = .ok (.arraylength, 1) := by decide +kernel
theorem dX2_timesSentBack_9 : decode cX2_timesSentBack 9 = .ok (.istore_n 3, 1) := by decide +kernel
theorem dX2_timesSentBack_10 : decode cX2_timesSentBack 10 = .ok (.iconst 0, 1) := by decide +kernel
theorem dX2_timesSentBack_11 : decode cX2_timesSentBack 11 = .ok (.istore 4, 2) := by decide +kernel
theorem dX2_timesSentBack_13 : decode cX2_timesSentBack 13 = .ok (.iload 4, 2) := by decide +kernel
theorem dX2_timesSentBack_15 : decode cX2_timesSentBack 15 = .ok (.iload_n 3, 1) := by decide +kernel
theorem dX2_timesSentBack_16 : decode cX2_timesSentBack 16 = .ok (.if_icmp .ge 23, 3) := by decide +kernel
theorem dX2_timesSentBack_19 : decode cX2_timesSentBack 19 = .ok (.aload_n 2, 1) := by decide +kernel
theorem dX2_timesSentBack_20 : decode cX2_timesSentBack 20 = .ok (.iload 4, 2) := by decide +kernel
theorem dX2_timesSentBack_22 : decode cX2_timesSentBack 22 = .ok (.aaload, 1) := by decide +kernel
theorem dX2_timesSentBack_23 : decode cX2_timesSentBack 23 = .ok (.astore 5, 2) := by decide +kernel
theorem dX2_timesSentBack_25 : decode cX2_timesSentBack 25 = .ok (.iload_n 1, 1) := by decide +kernel
theorem dX2_timesSentBack_26 : decode cX2_timesSentBack 26 = .ok (.aload 5, 2) := by decide +kernel
theorem dX2_timesSentBack_28 : decode cX2_timesSentBack 28 = .ok (.getfield 81, 3) := by decide +kernel
theorem dX2_timesSentBack_31 : decode cX2_timesSentBack 31 = .ok (.iadd, 1) := by decide +kernel
theorem dX2_timesSentBack_32 : decode cX2_timesSentBack 32 = .ok (.istore_n 1, 1) := by decide +kernel
theorem dX2_timesSentBack_33 : decode cX2_timesSentBack 33 = .ok (.iinc 4 1, 3) := by decide +kernel
theorem dX2_timesSentBack_36 : decode cX2_timesSentBack 36 = .ok (.goto (-23), 3) := by decide +kernel
theorem dX2_timesSentBack_39 : decode cX2_timesSentBack 39 = .ok (.iload_n 1, 1) := by decide +kernel
theorem dX2_timesSentBack_40 : decode cX2_timesSentBack 40 = .ok (.ireturn, 1) := by decide +kernel
theorem dX2_placeInQueue_0 : decode cX2_placeInQueue 0 = .ok (.aload_n 0, 1) := by decide +kernel
theorem dX2_placeInQueue_1 : decode cX2_placeInQueue 1 = .ok (.aload_n 1, 1) := by decide +kernel
theorem dX2_placeInQueue_2 : decode cX2_placeInQueue 2 = .ok (.invokevirtual 84, 3) := by decide +kernel
theorem dX2_placeInQueue_5 : decode cX2_placeInQueue 5 = .ok (.invokevirtual 88, 3) := by decide +kernel
theorem dX2_placeInQueue_8 : decode cX2_placeInQueue 8 = .ok (.astore_n 2, 1) := by decide +kernel
theorem dX2_placeInQueue_9 : decode cX2_placeInQueue 9 = .ok (.aload_n 2, 1) := by decide +kernel
theorem dX2_placeInQueue_10 : decode cX2_placeInQueue 10 = .ok (.ifnonnull 8, 3) := by decide +kernel
theorem dX2_placeInQueue_13 : decode cX2_placeInQueue 13 = .ok (.bipush (-6), 2) := by decide +kernel
theorem dX2_placeInQueue_15 : decode cX2_placeInQueue 15 = .ok (.goto 14, 3) := by decide +kernel
theorem dX2_placeInQueue_18 : decode cX2_placeInQueue 18 = .ok (.aload_n 2, 1) := by decide +kernel
theorem dX2_placeInQueue_19 : decode cX2_placeInQueue 19 = .ok (.getfield 92, 3) := by decide +kernel
theorem dX2_placeInQueue_22 : decode cX2_placeInQueue 22 = .ok (.aload_n 1, 1) := by decide +kernel
theorem dX2_placeInQueue_23 : decode cX2_placeInQueue 23 = .ok (.getfield 96, 3) := by decide +kernel
theorem dX2_placeInQueue_26 : decode cX2_placeInQueue 26 = .ok (.invokevirtual 99, 3) := by decide +kernel
theorem dX2_placeInQueue_29 : decode cX2_placeInQueue 29 = .ok (.ireturn, 1) := by decide +kernel
theorem dX2_admitAll_0 : decode cX2_admitAll 0 = .ok (.aload_n 1, 1) := by decide +kernel
theorem dX2_admitAll_1 : decode cX2_admitAll 1 = .ok (.invokevirtual 105, 3) := by decide +kernel
theorem dX2_admitAll_4 : decode cX2_admitAll 4 = .ok (.istore_n 2, 1) := by decide +kernel
theorem dX2_admitAll_5 : decode cX2_admitAll 5 = .ok (.iconst 0, 1) := by decide +kernel
theorem dX2_admitAll_6 : decode cX2_admitAll 6 = .ok (.istore_n 3, 1) := by decide +kernel
theorem dX2_admitAll_7 : decode cX2_admitAll 7 = .ok (.iconst 0, 1) := by decide +kernel
theorem dX2_admitAll_8 : decode cX2_admitAll 8 = .ok (.istore 4, 2) := by decide +kernel
theorem dX2_admitAll_10 : decode cX2_admitAll 10 = .ok (.iload 4, 2) := by decide +kernel
theorem dX2_admitAll_12 : decode cX2_admitAll 12 = .ok (.iload_n 2, 1) := by decide +kernel
theorem dX2_admitAll_13 : decode cX2_admitAll 13 = .ok (.if_icmp .ge 29, 3) := by decide +kernel
theorem dX2_admitAll_16 : decode cX2_admitAll 16 = .ok (.aload_n 1, 1) := by decide +kernel
theorem dX2_admitAll_17 : decode cX2_admitAll 17 = .ok (.iload_n 3, 1) := by decide +kernel
theorem dX2_admitAll_18 : decode cX2_admitAll 18 = .ok (.invokevirtual 110, 3) := by decide +kernel
theorem dX2_admitAll_21 : decode cX2_admitAll 21 = .ok (.istore 5, 2) := by decide +kernel
theorem dX2_admitAll_23 : decode cX2_admitAll 23 = .ok (.aload_n 0, 1) := by decide +kernel
theorem dX2_admitAll_24 : decode cX2_admitAll 24 = .ok (.aload_n 1, 1) := by decide +kernel
theorem dX2_admitAll_25 : decode cX2_admitAll 25 = .ok (.iload_n 3, 1) := by decide +kernel
theorem dX2_admitAll_26 : decode cX2_admitAll 26 = .ok (.iload 5, 2) := by decide +kernel
theorem dX2_admitAll_28 : decode cX2_admitAll 28 = .ok (.invokevirtual 113, 3) := by decide +kernel
theorem dX2_admitAll_31 : decode cX2_admitAll 31 = .ok (.iload 5, 2) := by decide +kernel
theorem dX2_admitAll_33 : decode cX2_admitAll 33 = .ok (.iconst 1, 1) := by decide +kernel
theorem dX2_admitAll_34 : decode cX2_admitAll 34 = .ok (.iadd, 1) := by decide +kernel
theorem dX2_admitAll_35 : decode cX2_admitAll 35 = .ok (.istore_n 3, 1) := by decide +kernel
theorem dX2_admitAll_36 : decode cX2_admitAll 36 = .ok (.iinc 4 1, 3) := by decide +kernel
theorem dX2_admitAll_39 : decode cX2_admitAll 39 = .ok (.goto (-29), 3) := by decide +kernel
theorem dX2_admitAll_42 : decode cX2_admitAll 42 = .ok (.return_, 1) := by decide +kernel
theorem dX2_admit_0 : decode cX2_admit 0 = .ok (.aload_n 0, 1) := by decide +kernel
theorem dX2_admit_1 : decode cX2_admit 1 = .ok (.getfield 52, 3) := by decide +kernel
theorem dX2_admit_4 : decode cX2_admit 4 = .ok (.aload_n 0, 1) := by decide +kernel
theorem dX2_admit_5 : decode cX2_admit 5 = .ok (.getfield 31, 3) := by decide +kernel
theorem dX2_admit_8 : decode cX2_admit 8 = .ok (.arraylength, 1) := by decide +kernel
theorem dX2_admit_9 : decode cX2_admit 9 = .ok (.if_icmp .lt 4, 3) := by decide +kernel
theorem dX2_admit_12 : decode cX2_admit 12 = .ok (.return_, 1) := by decide +kernel
theorem dX2_admit_13 : decode cX2_admit 13 = .ok (.aload_n 0, 1) := by decide +kernel
theorem dX2_admit_14 : decode cX2_admit 14 = .ok (.getfield 31, 3) := by decide +kernel
theorem dX2_admit_17 : decode cX2_admit 17 = .ok (.aload_n 0, 1) := by decide +kernel
theorem dX2_admit_18 : decode cX2_admit 18 = .ok (.getfield 52, 3) := by decide +kernel
theorem dX2_admit_21 : decode cX2_admit 21 = .ok (.aaload, 1) := by decide +kernel
theorem dX2_admit_22 : decode cX2_admit 22 = .ok (.astore 4, 2) := by decide +kernel
theorem dX2_admit_24 : decode cX2_admit 24 = .ok (.aload_n 0, 1) := by decide +kernel
theorem dX2_admit_25 : decode cX2_admit 25 = .ok (.dup, 1) := by decide +kernel
theorem dX2_admit_26 : decode cX2_admit 26 = .ok (.getfield 52, 3) := by decide +kernel
theorem dX2_admit_29 : decode cX2_admit 29 = .ok (.iconst 1, 1) := by decide +kernel
theorem dX2_admit_30 : decode cX2_admit 30 = .ok (.iadd, 1) := by decide +kernel
theorem dX2_admit_31 : decode cX2_admit 31 = .ok (.putfield 52, 3) := by decide +kernel
theorem dX2_admit_34 : decode cX2_admit 34 = .ok (.iload_n 2, 1) := by decide +kernel
theorem dX2_admit_35 : decode cX2_admit 35 = .ok (.istore 5, 2) := by decide +kernel
theorem dX2_admit_37 : decode cX2_admit 37 = .ok (.iload 5, 2) := by decide +kernel
theorem dX2_admit_39 : decode cX2_admit 39 = .ok (.iload_n 3, 1) := by decide +kernel
theorem dX2_admit_40 : decode cX2_admit 40 = .ok (.if_icmp .ge 20, 3) := by decide +kernel
theorem dX2_admit_43 : decode cX2_admit 43 = .ok (.aload 4, 2) := by decide +kernel
theorem dX2_admit_45 : decode cX2_admit 45 = .ok (.aload_n 1, 1) := by decide +kernel
theorem dX2_admit_46 : decode cX2_admit 46 = .ok (.iload 5, 2) := by decide +kernel
theorem dX2_admit_48 : decode cX2_admit 48 = .ok (.invokevirtual 117, 3) := by decide +kernel
theorem dX2_admit_51 : decode cX2_admit 51 = .ok (.invokevirtual 119, 3) := by decide +kernel
theorem dX2_admit_54 : decode cX2_admit 54 = .ok (.iinc 5 1, 3) := by decide +kernel
theorem dX2_admit_57 : decode cX2_admit 57 = .ok (.goto (-20), 3) := by decide +kernel
theorem dX2_admit_60 : decode cX2_admit 60 = .ok (.aload_n 0, 1) := by decide +kernel
theorem dX2_admit_61 : decode cX2_admit 61 = .ok (.aload 4, 2) := by decide +kernel
theorem dX2_admit_63 : decode cX2_admit 63 = .ok (.invokevirtual 122, 3) := by decide +kernel
theorem dX2_admit_66 : decode cX2_admit 66 = .ok (.return_, 1) := by decide +kernel
theorem dX2_joinQueue_0 : decode cX2_joinQueue 0 = .ok (.aload_n 1, 1) := by decide +kernel
theorem dX2_joinQueue_1 : decode cX2_joinQueue 1 = .ok (.iconst 0, 1) := by decide +kernel
theorem dX2_joinQueue_2 : decode cX2_joinQueue 2 = .ok (.putfield 69, 3) := by decide +kernel
theorem dX2_joinQueue_5 : decode cX2_joinQueue 5 = .ok (.aload_n 1, 1) := by decide +kernel
theorem dX2_joinQueue_6 : decode cX2_joinQueue 6 = .ok (.iconst 0, 1) := by decide +kernel
theorem dX2_joinQueue_7 : decode cX2_joinQueue 7 = .ok (.putfield 125, 3) := by decide +kernel
theorem dX2_joinQueue_10 : decode cX2_joinQueue 10 = .ok (.aload_n 0, 1) := by decide +kernel
theorem dX2_joinQueue_11 : decode cX2_joinQueue 11 = .ok (.aload_n 1, 1) := by decide +kernel
theorem dX2_joinQueue_12 : decode cX2_joinQueue 12 = .ok (.invokevirtual 84, 3) := by decide +kernel
theorem dX2_joinQueue_15 : decode cX2_joinQueue 15 = .ok (.invokevirtual 88, 3) := by decide +kernel
theorem dX2_joinQueue_18 : decode cX2_joinQueue 18 = .ok (.astore_n 2, 1) := by decide +kernel
theorem dX2_joinQueue_19 : decode cX2_joinQueue 19 = .ok (.aload_n 2, 1) := by decide +kernel
theorem dX2_joinQueue_20 : decode cX2_joinQueue 20 = .ok (.ifnull 14, 3) := by decide +kernel
theorem dX2_joinQueue_23 : decode cX2_joinQueue 23 = .ok (.aload_n 2, 1) := by decide +kernel
theorem dX2_joinQueue_24 : decode cX2_joinQueue 24 = .ok (.getfield 92, 3) := by decide +kernel
theorem dX2_joinQueue_27 : decode cX2_joinQueue 27 = .ok (.aload_n 1, 1) := by decide +kernel
theorem dX2_joinQueue_28 : decode cX2_joinQueue 28 = .ok (.getfield 96, 3) := by decide +kernel
theorem dX2_joinQueue_31 : decode cX2_joinQueue 31 = .ok (.invokevirtual 128, 3) := by decide +kernel
theorem dX2_joinQueue_34 : decode cX2_joinQueue 34 = .ok (.return_, 1) := by decide +kernel
theorem dX2_sendAway_0 : decode cX2_sendAway 0 = .ok (.aload_n 0, 1) := by decide +kernel
theorem dX2_sendAway_1 : decode cX2_sendAway 1 = .ok (.aload_n 1, 1) := by decide +kernel
theorem dX2_sendAway_2 : decode cX2_sendAway 2 = .ok (.invokevirtual 84, 3) := by decide +kernel
theorem dX2_sendAway_5 : decode cX2_sendAway 5 = .ok (.invokevirtual 88, 3) := by decide +kernel
theorem dX2_sendAway_8 : decode cX2_sendAway 8 = .ok (.astore_n 3, 1) := by decide +kernel
theorem dX2_sendAway_9 : decode cX2_sendAway 9 = .ok (.aload_n 3, 1) := by decide +kernel
theorem dX2_sendAway_10 : decode cX2_sendAway 10 = .ok (.ifnull 14, 3) := by decide +kernel
theorem dX2_sendAway_13 : decode cX2_sendAway 13 = .ok (.aload_n 3, 1) := by decide +kernel
theorem dX2_sendAway_14 : decode cX2_sendAway 14 = .ok (.getfield 92, 3) := by decide +kernel
theorem dX2_sendAway_17 : decode cX2_sendAway 17 = .ok (.aload_n 1, 1) := by decide +kernel
theorem dX2_sendAway_18 : decode cX2_sendAway 18 = .ok (.getfield 96, 3) := by decide +kernel
theorem dX2_sendAway_21 : decode cX2_sendAway 21 = .ok (.invokevirtual 131, 3) := by decide +kernel
theorem dX2_sendAway_24 : decode cX2_sendAway 24 = .ok (.aload_n 0, 1) := by decide +kernel
theorem dX2_sendAway_25 : decode cX2_sendAway 25 = .ok (.dup, 1) := by decide +kernel
theorem dX2_sendAway_26 : decode cX2_sendAway 26 = .ok (.getfield 59, 3) := by decide +kernel
theorem dX2_sendAway_29 : decode cX2_sendAway 29 = .ok (.aload_n 1, 1) := by decide +kernel
theorem dX2_sendAway_30 : decode cX2_sendAway 30 = .ok (.getfield 75, 3) := by decide +kernel
theorem dX2_sendAway_33 : decode cX2_sendAway 33 = .ok (.ifCond .eq 7, 3) := by decide +kernel
theorem dX2_sendAway_36 : decode cX2_sendAway 36 = .ok (.iconst 1, 1) := by decide +kernel
theorem dX2_sendAway_37 : decode cX2_sendAway 37 = .ok (.goto 4, 3) := by decide +kernel
theorem dX2_sendAway_40 : decode cX2_sendAway 40 = .ok (.iconst 0, 1) := by decide +kernel
theorem dX2_sendAway_41 : decode cX2_sendAway 41 = .ok (.iadd, 1) := by decide +kernel
theorem dX2_sendAway_42 : decode cX2_sendAway 42 = .ok (.putfield 59, 3) := by decide +kernel
theorem dX2_sendAway_45 : decode cX2_sendAway 45 = .ok (.aload_n 1, 1) := by decide +kernel
theorem dX2_sendAway_46 : decode cX2_sendAway 46 = .ok (.iconst 3, 1) := by decide +kernel
theorem dX2_sendAway_47 : decode cX2_sendAway 47 = .ok (.iload_n 2, 1) := by decide +kernel
theorem dX2_sendAway_48 : decode cX2_sendAway 48 = .ok (.invokevirtual 134, 3) := by decide +kernel
theorem dX2_sendAway_51 : decode cX2_sendAway 51 = .ok (.return_, 1) := by decide +kernel
theorem dX2_tick_0 : decode cX2_tick 0 = .ok (.aload_n 0, 1) := by decide +kernel
theorem dX2_tick_1 : decode cX2_tick 1 = .ok (.getfield 31, 3) := by decide +kernel
theorem dX2_tick_4 : decode cX2_tick 4 = .ok (.astore_n 1, 1) := by decide +kernel
theorem dX2_tick_5 : decode cX2_tick 5 = .ok (.aload_n 1, 1) := by decide +kernel
theorem dX2_tick_6 : decode cX2_tick 6 = .ok (.arraylength, 1) := by decide +kernel
theorem dX2_tick_7 : decode cX2_tick 7 = .ok (.istore_n 2, 1) := by decide +kernel
theorem dX2_tick_8 : decode cX2_tick 8 = .ok (.iconst 0, 1) := by decide +kernel
theorem dX2_tick_9 : decode cX2_tick 9 = .ok (.istore_n 3, 1) := by decide +kernel
theorem dX2_tick_10 : decode cX2_tick 10 = .ok (.iload_n 3, 1) := by decide +kernel
theorem dX2_tick_11 : decode cX2_tick 11 = .ok (.iload_n 2, 1) := by decide +kernel
theorem dX2_tick_12 : decode cX2_tick 12 = .ok (.if_icmp .ge 20, 3) := by decide +kernel
theorem dX2_tick_15 : decode cX2_tick 15 = .ok (.aload_n 1, 1) := by decide +kernel
theorem dX2_tick_16 : decode cX2_tick 16 = .ok (.iload_n 3, 1) := by decide +kernel
theorem dX2_tick_17 : decode cX2_tick 17 = .ok (.aaload, 1) := by decide +kernel
theorem dX2_tick_18 : decode cX2_tick 18 = .ok (.astore 4, 2) := by decide +kernel
theorem dX2_tick_20 : decode cX2_tick 20 = .ok (.aload 4, 2) := by decide +kernel
theorem dX2_tick_22 : decode cX2_tick 22 = .ok (.iconst 0, 1) := by decide +kernel
theorem dX2_tick_23 : decode cX2_tick 23 = .ok (.putfield 138, 3) := by decide +kernel
theorem dX2_tick_26 : decode cX2_tick 26 = .ok (.iinc 3 1, 3) := by decide +kernel
theorem dX2_tick_29 : decode cX2_tick 29 = .ok (.goto (-19), 3) := by decide +kernel
theorem dX2_tick_32 : decode cX2_tick 32 = .ok (.aload_n 0, 1) := by decide +kernel
theorem dX2_tick_33 : decode cX2_tick 33 = .ok (.getfield 25, 3) := by decide +kernel
theorem dX2_tick_36 : decode cX2_tick 36 = .ok (.astore_n 1, 1) := by decide +kernel
theorem dX2_tick_37 : decode cX2_tick 37 = .ok (.aload_n 1, 1) := by decide +kernel
theorem dX2_tick_38 : decode cX2_tick 38 = .ok (.arraylength, 1) := by decide +kernel
theorem dX2_tick_39 : decode cX2_tick 39 = .ok (.istore_n 2, 1) := by decide +kernel
theorem dX2_tick_40 : decode cX2_tick 40 = .ok (.iconst 0, 1) := by decide +kernel
theorem dX2_tick_41 : decode cX2_tick 41 = .ok (.istore_n 3, 1) := by decide +kernel
theorem dX2_tick_42 : decode cX2_tick 42 = .ok (.iload_n 3, 1) := by decide +kernel
theorem dX2_tick_43 : decode cX2_tick 43 = .ok (.iload_n 2, 1) := by decide +kernel
theorem dX2_tick_44 : decode cX2_tick 44 = .ok (.if_icmp .ge 34, 3) := by decide +kernel
theorem dX2_tick_47 : decode cX2_tick 47 = .ok (.aload_n 1, 1) := by decide +kernel
theorem dX2_tick_48 : decode cX2_tick 48 = .ok (.iload_n 3, 1) := by decide +kernel
theorem dX2_tick_49 : decode cX2_tick 49 = .ok (.aaload, 1) := by decide +kernel
theorem dX2_tick_50 : decode cX2_tick 50 = .ok (.astore 4, 2) := by decide +kernel
theorem dX2_tick_52 : decode cX2_tick 52 = .ok (.aload 4, 2) := by decide +kernel
theorem dX2_tick_54 : decode cX2_tick 54 = .ok (.getfield 65, 3) := by decide +kernel
theorem dX2_tick_57 : decode cX2_tick 57 = .ok (.ifCond .eq 15, 3) := by decide +kernel
theorem dX2_tick_60 : decode cX2_tick 60 = .ok (.aload_n 0, 1) := by decide +kernel
theorem dX2_tick_61 : decode cX2_tick 61 = .ok (.aload 4, 2) := by decide +kernel
theorem dX2_tick_63 : decode cX2_tick 63 = .ok (.invokevirtual 141, 3) := by decide +kernel
theorem dX2_tick_66 : decode cX2_tick 66 = .ok (.aload_n 0, 1) := by decide +kernel
theorem dX2_tick_67 : decode cX2_tick 67 = .ok (.aload 4, 2) := by decide +kernel
theorem dX2_tick_69 : decode cX2_tick 69 = .ok (.invokevirtual 144, 3) := by decide +kernel
theorem dX2_tick_72 : decode cX2_tick 72 = .ok (.iinc 3 1, 3) := by decide +kernel
theorem dX2_tick_75 : decode cX2_tick 75 = .ok (.goto (-33), 3) := by decide +kernel
theorem dX2_tick_78 : decode cX2_tick 78 = .ok (.aload_n 0, 1) := by decide +kernel
theorem dX2_tick_79 : decode cX2_tick 79 = .ok (.invokevirtual 147, 3) := by decide +kernel
theorem dX2_tick_82 : decode cX2_tick 82 = .ok (.aload_n 0, 1) := by decide +kernel
theorem dX2_tick_83 : decode cX2_tick 83 = .ok (.dup, 1) := by decide +kernel
theorem dX2_tick_84 : decode cX2_tick 84 = .ok (.getfield 56, 3) := by decide +kernel
theorem dX2_tick_87 : decode cX2_tick 87 = .ok (.iconst 1, 1) := by decide +kernel
theorem dX2_tick_88 : decode cX2_tick 88 = .ok (.iadd, 1) := by decide +kernel
theorem dX2_tick_89 : decode cX2_tick 89 = .ok (.putfield 56, 3) := by decide +kernel
theorem dX2_tick_92 : decode cX2_tick 92 = .ok (.return_, 1) := by decide +kernel
theorem dX2_serveAt_0 : decode cX2_serveAt 0 = .ok (.iconst 0, 1) := by decide +kernel
theorem dX2_serveAt_1 : decode cX2_serveAt 1 = .ok (.istore_n 2, 1) := by decide +kernel
theorem dX2_serveAt_2 : decode cX2_serveAt 2 = .ok (.aload_n 1, 1) := by decide +kernel
theorem dX2_serveAt_3 : decode cX2_serveAt 3 = .ok (.getfield 150, 3) := by decide +kernel
theorem dX2_serveAt_6 : decode cX2_serveAt 6 = .ok (.invokevirtual 153, 3) := by decide +kernel
theorem dX2_serveAt_9 : decode cX2_serveAt 9 = .ok (.istore_n 3, 1) := by decide +kernel
theorem dX2_serveAt_10 : decode cX2_serveAt 10 = .ok (.iconst 0, 1) := by decide +kernel
theorem dX2_serveAt_11 : decode cX2_serveAt 11 = .ok (.istore 4, 2) := by decide +kernel
theorem dX2_serveAt_13 : decode cX2_serveAt 13 = .ok (.iload 4, 2) := by decide +kernel
theorem dX2_serveAt_15 : decode cX2_serveAt 15 = .ok (.iload_n 3, 1) := by decide +kernel
theorem dX2_serveAt_16 : decode cX2_serveAt 16 = .ok (.if_icmp .ge 83, 3) := by decide +kernel
theorem dX2_serveAt_19 : decode cX2_serveAt 19 = .ok (.aload_n 0, 1) := by decide +kernel
theorem dX2_serveAt_20 : decode cX2_serveAt 20 = .ok (.aload_n 1, 1) := by decide +kernel
theorem dX2_serveAt_21 : decode cX2_serveAt 21 = .ok (.getfield 150, 3) := by decide +kernel
theorem dX2_serveAt_24 : decode cX2_serveAt 24 = .ok (.iload_n 2, 1) := by decide +kernel
theorem dX2_serveAt_25 : decode cX2_serveAt 25 = .ok (.invokevirtual 156, 3) := by decide +kernel
theorem dX2_serveAt_28 : decode cX2_serveAt 28 = .ok (.invokevirtual 159, 3) := by decide +kernel
theorem dX2_serveAt_31 : decode cX2_serveAt 31 = .ok (.astore 5, 2) := by decide +kernel
theorem dX2_serveAt_33 : decode cX2_serveAt 33 = .ok (.aload 5, 2) := by decide +kernel
theorem dX2_serveAt_35 : decode cX2_serveAt 35 = .ok (.ifnull 14, 3) := by decide +kernel
theorem dX2_serveAt_38 : decode cX2_serveAt 38 = .ok (.aload 5, 2) := by decide +kernel
theorem dX2_serveAt_40 : decode cX2_serveAt 40 = .ok (.dup, 1) := by decide +kernel
theorem dX2_serveAt_41 : decode cX2_serveAt 41 = .ok (.getfield 163, 3) := by decide +kernel
theorem dX2_serveAt_44 : decode cX2_serveAt 44 = .ok (.iconst 1, 1) := by decide +kernel
theorem dX2_serveAt_45 : decode cX2_serveAt 45 = .ok (.iadd, 1) := by decide +kernel
theorem dX2_serveAt_46 : decode cX2_serveAt 46 = .ok (.putfield 163, 3) := by decide +kernel
theorem dX2_serveAt_49 : decode cX2_serveAt 49 = .ok (.aload 5, 2) := by decide +kernel
theorem dX2_serveAt_51 : decode cX2_serveAt 51 = .ok (.ifnull 39, 3) := by decide +kernel
theorem dX2_serveAt_54 : decode cX2_serveAt 54 = .ok (.aload 5, 2) := by decide +kernel
theorem dX2_serveAt_56 : decode cX2_serveAt 56 = .ok (.getfield 163, 3) := by decide +kernel
theorem dX2_serveAt_59 : decode cX2_serveAt 59 = .ok (.aload_n 0, 1) := by decide +kernel
theorem dX2_serveAt_60 : decode cX2_serveAt 60 = .ok (.getfield 18, 3) := by decide +kernel
theorem dX2_serveAt_63 : decode cX2_serveAt 63 = .ok (.iconst 0, 1) := by decide +kernel
theorem dX2_serveAt_64 : decode cX2_serveAt 64 = .ok (.iaload, 1) := by decide +kernel
theorem dX2_serveAt_65 : decode cX2_serveAt 65 = .ok (.if_icmp .lt 25, 3) := by decide +kernel
theorem dX2_serveAt_68 : decode cX2_serveAt 68 = .ok (.aload_n 1, 1) := by decide +kernel
theorem dX2_serveAt_69 : decode cX2_serveAt 69 = .ok (.getfield 150, 3) := by decide +kernel
theorem dX2_serveAt_72 : decode cX2_serveAt 72 = .ok (.aload 5, 2) := by decide +kernel
theorem dX2_serveAt_74 : decode cX2_serveAt 74 = .ok (.getfield 96, 3) := by decide +kernel
theorem dX2_serveAt_77 : decode cX2_serveAt 77 = .ok (.invokevirtual 131, 3) := by decide +kernel
theorem dX2_serveAt_80 : decode cX2_serveAt 80 = .ok (.aload_n 0, 1) := by decide +kernel
theorem dX2_serveAt_81 : decode cX2_serveAt 81 = .ok (.aload_n 1, 1) := by decide +kernel
theorem dX2_serveAt_82 : decode cX2_serveAt 82 = .ok (.aload 5, 2) := by decide +kernel
theorem dX2_serveAt_84 : decode cX2_serveAt 84 = .ok (.invokevirtual 166, 3) := by decide +kernel
theorem dX2_serveAt_87 : decode cX2_serveAt 87 = .ok (.goto 6, 3) := by decide +kernel
theorem dX2_serveAt_90 : decode cX2_serveAt 90 = .ok (.iinc 2 1, 3) := by decide +kernel
theorem dX2_serveAt_93 : decode cX2_serveAt 93 = .ok (.iinc 4 1, 3) := by decide +kernel
theorem dX2_serveAt_96 : decode cX2_serveAt 96 = .ok (.goto (-83), 3) := by decide +kernel
theorem dX2_serveAt_99 : decode cX2_serveAt 99 = .ok (.return_, 1) := by decide +kernel
theorem dX2_finishAt_0 : decode cX2_finishAt 0 = .ok (.aload_n 1, 1) := by decide +kernel
theorem dX2_finishAt_1 : decode cX2_finishAt 1 = .ok (.dup, 1) := by decide +kernel
theorem dX2_finishAt_2 : decode cX2_finishAt 2 = .ok (.getfield 170, 3) := by decide +kernel
theorem dX2_finishAt_5 : decode cX2_finishAt 5 = .ok (.iconst 1, 1) := by decide +kernel
theorem dX2_finishAt_6 : decode cX2_finishAt 6 = .ok (.iadd, 1) := by decide +kernel
theorem dX2_finishAt_7 : decode cX2_finishAt 7 = .ok (.putfield 170, 3) := by decide +kernel
theorem dX2_finishAt_10 : decode cX2_finishAt 10 = .ok (.aload_n 2, 1) := by decide +kernel
theorem dX2_finishAt_11 : decode cX2_finishAt 11 = .ok (.getfield 173, 3) := by decide +kernel
theorem dX2_finishAt_14 : decode cX2_finishAt 14 = .ok (.iconst 1, 1) := by decide +kernel
theorem dX2_finishAt_15 : decode cX2_finishAt 15 = .ok (.iadd, 1) := by decide +kernel
theorem dX2_finishAt_16 : decode cX2_finishAt 16 = .ok (.aload_n 2, 1) := by decide +kernel
theorem dX2_finishAt_17 : decode cX2_finishAt 17 = .ok (.getfield 176, 3) := by decide +kernel
theorem dX2_finishAt_20 : decode cX2_finishAt 20 = .ok (.if_icmp .lt 46, 3) := by decide +kernel
theorem dX2_finishAt_23 : decode cX2_finishAt 23 = .ok (.aload_n 2, 1) := by decide +kernel
theorem dX2_finishAt_24 : decode cX2_finishAt 24 = .ok (.dup, 1) := by decide +kernel
theorem dX2_finishAt_25 : decode cX2_finishAt 25 = .ok (.getfield 173, 3) := by decide +kernel
theorem dX2_finishAt_28 : decode cX2_finishAt 28 = .ok (.iconst 1, 1) := by decide +kernel
theorem dX2_finishAt_29 : decode cX2_finishAt 29 = .ok (.iadd, 1) := by decide +kernel
theorem dX2_finishAt_30 : decode cX2_finishAt 30 = .ok (.putfield 173, 3) := by decide +kernel
theorem dX2_finishAt_33 : decode cX2_finishAt 33 = .ok (.aload_n 1, 1) := by decide +kernel
theorem dX2_finishAt_34 : decode cX2_finishAt 34 = .ok (.dup, 1) := by decide +kernel
theorem dX2_finishAt_35 : decode cX2_finishAt 35 = .ok (.getfield 72, 3) := by decide +kernel
theorem dX2_finishAt_38 : decode cX2_finishAt 38 = .ok (.aload_n 2, 1) := by decide +kernel
theorem dX2_finishAt_39 : decode cX2_finishAt 39 = .ok (.getfield 75, 3) := by decide +kernel
theorem dX2_finishAt_42 : decode cX2_finishAt 42 = .ok (.ifCond .eq 7, 3) := by decide +kernel
theorem dX2_finishAt_45 : decode cX2_finishAt 45 = .ok (.iconst 1, 1) := by decide +kernel
theorem dX2_finishAt_46 : decode cX2_finishAt 46 = .ok (.goto 4, 3) := by decide +kernel
theorem dX2_finishAt_49 : decode cX2_finishAt 49 = .ok (.iconst 0, 1) := by decide +kernel
theorem dX2_finishAt_50 : decode cX2_finishAt 50 = .ok (.iadd, 1) := by decide +kernel
theorem dX2_finishAt_51 : decode cX2_finishAt 51 = .ok (.putfield 72, 3) := by decide +kernel
theorem dX2_finishAt_54 : decode cX2_finishAt 54 = .ok (.aload_n 2, 1) := by decide +kernel
theorem dX2_finishAt_55 : decode cX2_finishAt 55 = .ok (.iconst 2, 1) := by decide +kernel
theorem dX2_finishAt_56 : decode cX2_finishAt 56 = .ok (.aload_n 0, 1) := by decide +kernel
theorem dX2_finishAt_57 : decode cX2_finishAt 57 = .ok (.getfield 56, 3) := by decide +kernel
theorem dX2_finishAt_60 : decode cX2_finishAt 60 = .ok (.iconst 1, 1) := by decide +kernel
theorem dX2_finishAt_61 : decode cX2_finishAt 61 = .ok (.iadd, 1) := by decide +kernel
theorem dX2_finishAt_62 : decode cX2_finishAt 62 = .ok (.invokevirtual 134, 3) := by decide +kernel
theorem dX2_finishAt_65 : decode cX2_finishAt 65 = .ok (.return_, 1) := by decide +kernel
theorem dX2_finishAt_66 : decode cX2_finishAt 66 = .ok (.aload_n 1, 1) := by decide +kernel
theorem dX2_finishAt_67 : decode cX2_finishAt 67 = .ok (.getfield 72, 3) := by decide +kernel
theorem dX2_finishAt_70 : decode cX2_finishAt 70 = .ok (.ifCond .le 29, 3) := by decide +kernel
theorem dX2_finishAt_73 : decode cX2_finishAt 73 = .ok (.aload_n 1, 1) := by decide +kernel
theorem dX2_finishAt_74 : decode cX2_finishAt 74 = .ok (.dup, 1) := by decide +kernel
theorem dX2_finishAt_75 : decode cX2_finishAt 75 = .ok (.getfield 72, 3) := by decide +kernel
theorem dX2_finishAt_78 : decode cX2_finishAt 78 = .ok (.aload_n 2, 1) := by decide +kernel
theorem dX2_finishAt_79 : decode cX2_finishAt 79 = .ok (.getfield 75, 3) := by decide +kernel
theorem dX2_finishAt_82 : decode cX2_finishAt 82 = .ok (.ifCond .eq 7, 3) := by decide +kernel
theorem dX2_finishAt_85 : decode cX2_finishAt 85 = .ok (.iconst 0, 1) := by decide +kernel
theorem dX2_finishAt_86 : decode cX2_finishAt 86 = .ok (.goto 4, 3) := by decide +kernel
theorem dX2_finishAt_89 : decode cX2_finishAt 89 = .ok (.iconst (-1), 1) := by decide +kernel
theorem dX2_finishAt_90 : decode cX2_finishAt 90 = .ok (.iadd, 1) := by decide +kernel
theorem dX2_finishAt_91 : decode cX2_finishAt 91 = .ok (.putfield 72, 3) := by decide +kernel
theorem dX2_finishAt_94 : decode cX2_finishAt 94 = .ok (.aload_n 2, 1) := by decide +kernel
theorem dX2_finishAt_95 : decode cX2_finishAt 95 = .ok (.iconst 1, 1) := by decide +kernel
theorem dX2_finishAt_96 : decode cX2_finishAt 96 = .ok (.putfield 75, 3) := by decide +kernel
theorem dX2_finishAt_99 : decode cX2_finishAt 99 = .ok (.aload_n 2, 1) := by decide +kernel
theorem dX2_finishAt_100 : decode cX2_finishAt 100 = .ok (.getfield 75, 3) := by decide +kernel
theorem dX2_finishAt_103 : decode cX2_finishAt 103 = .ok (.ifCond .eq 16, 3) := by decide +kernel
theorem dX2_finishAt_106 : decode cX2_finishAt 106 = .ok (.aload_n 2, 1) := by decide +kernel
theorem dX2_finishAt_107 : decode cX2_finishAt 107 = .ok (.dup, 1) := by decide +kernel
theorem dX2_finishAt_108 : decode cX2_finishAt 108 = .ok (.getfield 173, 3) := by decide +kernel
theorem dX2_finishAt_111 : decode cX2_finishAt 111 = .ok (.iconst 1, 1) := by decide +kernel
theorem dX2_finishAt_112 : decode cX2_finishAt 112 = .ok (.iadd, 1) := by decide +kernel
theorem dX2_finishAt_113 : decode cX2_finishAt 113 = .ok (.putfield 173, 3) := by decide +kernel
theorem dX2_finishAt_116 : decode cX2_finishAt 116 = .ok (.goto 23, 3) := by decide +kernel
theorem dX2_finishAt_119 : decode cX2_finishAt 119 = .ok (.aload_n 2, 1) := by decide +kernel
theorem dX2_finishAt_120 : decode cX2_finishAt 120 = .ok (.dup, 1) := by decide +kernel
theorem dX2_finishAt_121 : decode cX2_finishAt 121 = .ok (.getfield 81, 3) := by decide +kernel
theorem dX2_finishAt_124 : decode cX2_finishAt 124 = .ok (.iconst 1, 1) := by decide +kernel
theorem dX2_finishAt_125 : decode cX2_finishAt 125 = .ok (.iadd, 1) := by decide +kernel
theorem dX2_finishAt_126 : decode cX2_finishAt 126 = .ok (.putfield 81, 3) := by decide +kernel
theorem dX2_finishAt_129 : decode cX2_finishAt 129 = .ok (.aload_n 1, 1) := by decide +kernel
theorem dX2_finishAt_130 : decode cX2_finishAt 130 = .ok (.dup, 1) := by decide +kernel
theorem dX2_finishAt_131 : decode cX2_finishAt 131 = .ok (.getfield 179, 3) := by decide +kernel
theorem dX2_finishAt_134 : decode cX2_finishAt 134 = .ok (.iconst 1, 1) := by decide +kernel
theorem dX2_finishAt_135 : decode cX2_finishAt 135 = .ok (.iadd, 1) := by decide +kernel
theorem dX2_finishAt_136 : decode cX2_finishAt 136 = .ok (.putfield 179, 3) := by decide +kernel
theorem dX2_finishAt_139 : decode cX2_finishAt 139 = .ok (.aload_n 2, 1) := by decide +kernel
theorem dX2_finishAt_140 : decode cX2_finishAt 140 = .ok (.iconst 1, 1) := by decide +kernel
theorem dX2_finishAt_141 : decode cX2_finishAt 141 = .ok (.putfield 138, 3) := by decide +kernel
theorem dX2_finishAt_144 : decode cX2_finishAt 144 = .ok (.aload_n 0, 1) := by decide +kernel
theorem dX2_finishAt_145 : decode cX2_finishAt 145 = .ok (.aload_n 2, 1) := by decide +kernel
theorem dX2_finishAt_146 : decode cX2_finishAt 146 = .ok (.invokevirtual 122, 3) := by decide +kernel
theorem dX2_finishAt_149 : decode cX2_finishAt 149 = .ok (.return_, 1) := by decide +kernel
theorem dX2_callAt_0 : decode cX2_callAt 0 = .ok (.aload_n 1, 1) := by decide +kernel
theorem dX2_callAt_1 : decode cX2_callAt 1 = .ok (.getfield 180, 3) := by decide +kernel
theorem dX2_callAt_4 : decode cX2_callAt 4 = .ok (.aload_n 1, 1) := by decide +kernel
theorem dX2_callAt_5 : decode cX2_callAt 5 = .ok (.getfield 150, 3) := by decide +kernel
theorem dX2_callAt_8 : decode cX2_callAt 8 = .ok (.invokevirtual 153, 3) := by decide +kernel
theorem dX2_callAt_11 : decode cX2_callAt 11 = .ok (.isub, 1) := by decide +kernel
theorem dX2_callAt_12 : decode cX2_callAt 12 = .ok (.istore_n 2, 1) := by decide +kernel
theorem dX2_callAt_13 : decode cX2_callAt 13 = .ok (.iconst 0, 1) := by decide +kernel
theorem dX2_callAt_14 : decode cX2_callAt 14 = .ok (.istore_n 3, 1) := by decide +kernel
theorem dX2_callAt_15 : decode cX2_callAt 15 = .ok (.iload_n 3, 1) := by decide +kernel
theorem dX2_callAt_16 : decode cX2_callAt 16 = .ok (.iload_n 2, 1) := by decide +kernel
theorem dX2_callAt_17 : decode cX2_callAt 17 = .ok (.if_icmp .ge 73, 3) := by decide +kernel
theorem dX2_callAt_20 : decode cX2_callAt 20 = .ok (.aload_n 0, 1) := by decide +kernel
theorem dX2_callAt_21 : decode cX2_callAt 21 = .ok (.aload_n 1, 1) := by decide +kernel
theorem dX2_callAt_22 : decode cX2_callAt 22 = .ok (.getfield 92, 3) := by decide +kernel
theorem dX2_callAt_25 : decode cX2_callAt 25 = .ok (.iconst 0, 1) := by decide +kernel
theorem dX2_callAt_26 : decode cX2_callAt 26 = .ok (.invokevirtual 156, 3) := by decide +kernel
theorem dX2_callAt_29 : decode cX2_callAt 29 = .ok (.invokevirtual 159, 3) := by decide +kernel
theorem dX2_callAt_32 : decode cX2_callAt 32 = .ok (.astore 4, 2) := by decide +kernel
theorem dX2_callAt_34 : decode cX2_callAt 34 = .ok (.aload 4, 2) := by decide +kernel
theorem dX2_callAt_36 : decode cX2_callAt 36 = .ok (.ifnull 11, 3) := by decide +kernel
theorem dX2_callAt_39 : decode cX2_callAt 39 = .ok (.aload 4, 2) := by decide +kernel
theorem dX2_callAt_41 : decode cX2_callAt 41 = .ok (.getfield 138, 3) := by decide +kernel
theorem dX2_callAt_44 : decode cX2_callAt 44 = .ok (.ifCond .eq 4, 3) := by decide +kernel
theorem dX2_callAt_47 : decode cX2_callAt 47 = .ok (.return_, 1) := by decide +kernel
theorem dX2_callAt_48 : decode cX2_callAt 48 = .ok (.aload_n 1, 1) := by decide +kernel
theorem dX2_callAt_49 : decode cX2_callAt 49 = .ok (.getfield 92, 3) := by decide +kernel
theorem dX2_callAt_52 : decode cX2_callAt 52 = .ok (.aload 4, 2) := by decide +kernel
theorem dX2_callAt_54 : decode cX2_callAt 54 = .ok (.getfield 96, 3) := by decide +kernel
theorem dX2_callAt_57 : decode cX2_callAt 57 = .ok (.invokevirtual 131, 3) := by decide +kernel
theorem dX2_callAt_60 : decode cX2_callAt 60 = .ok (.aload_n 1, 1) := by decide +kernel
theorem dX2_callAt_61 : decode cX2_callAt 61 = .ok (.getfield 150, 3) := by decide +kernel
theorem dX2_callAt_64 : decode cX2_callAt 64 = .ok (.aload 4, 2) := by decide +kernel
theorem dX2_callAt_66 : decode cX2_callAt 66 = .ok (.getfield 96, 3) := by decide +kernel
theorem dX2_callAt_69 : decode cX2_callAt 69 = .ok (.invokevirtual 128, 3) := by decide +kernel
theorem dX2_callAt_72 : decode cX2_callAt 72 = .ok (.aload 4, 2) := by decide +kernel
theorem dX2_callAt_74 : decode cX2_callAt 74 = .ok (.iconst 1, 1) := by decide +kernel
theorem dX2_callAt_75 : decode cX2_callAt 75 = .ok (.putfield 69, 3) := by decide +kernel
theorem dX2_callAt_78 : decode cX2_callAt 78 = .ok (.aload 4, 2) := by decide +kernel
theorem dX2_callAt_80 : decode cX2_callAt 80 = .ok (.iconst 0, 1) := by decide +kernel
theorem dX2_callAt_81 : decode cX2_callAt 81 = .ok (.putfield 163, 3) := by decide +kernel
theorem dX2_callAt_84 : decode cX2_callAt 84 = .ok (.iinc 3 1, 3) := by decide +kernel
theorem dX2_callAt_87 : decode cX2_callAt 87 = .ok (.goto (-72), 3) := by decide +kernel
theorem dX2_callAt_90 : decode cX2_callAt 90 = .ok (.return_, 1) := by decide +kernel
theorem dX2_waitInQueues_0 : decode cX2_waitInQueues 0 = .ok (.aload_n 0, 1) := by decide +kernel
theorem dX2_waitInQueues_1 : decode cX2_waitInQueues 1 = .ok (.getfield 18, 3) := by decide +kernel
theorem dX2_waitInQueues_4 : decode cX2_waitInQueues 4 = .ok (.iconst 2, 1) := by decide +kernel
theorem dX2_waitInQueues_5 : decode cX2_waitInQueues 5 = .ok (.iaload, 1) := by decide +kernel
theorem dX2_waitInQueues_6 : decode cX2_waitInQueues 6 = .ok (.istore_n 1, 1) := by decide +kernel
theorem dX2_waitInQueues_7 : decode cX2_waitInQueues 7 = .ok (.aload_n 0, 1) := by decide +kernel
theorem dX2_waitInQueues_8 : decode cX2_waitInQueues 8 = .ok (.getfield 31, 3) := by decide +kernel
theorem dX2_waitInQueues_11 : decode cX2_waitInQueues 11 = .ok (.astore_n 2, 1) := by decide +kernel
theorem dX2_waitInQueues_12 : decode cX2_waitInQueues 12 = .ok (.aload_n 2, 1) := by decide +kernel
theorem dX2_waitInQueues_13 : decode cX2_waitInQueues 13 = .ok (.arraylength, 1) := by decide +kernel
theorem dX2_waitInQueues_14 : decode cX2_waitInQueues 14 = .ok (.istore_n 3, 1) := by decide +kernel
theorem dX2_waitInQueues_15 : decode cX2_waitInQueues 15 = .ok (.iconst 0, 1) := by decide +kernel
theorem dX2_waitInQueues_16 : decode cX2_waitInQueues 16 = .ok (.istore 4, 2) := by decide +kernel
theorem dX2_waitInQueues_18 : decode cX2_waitInQueues 18 = .ok (.iload 4, 2) := by decide +kernel
theorem dX2_waitInQueues_20 : decode cX2_waitInQueues 20 = .ok (.iload_n 3, 1) := by decide +kernel
theorem dX2_waitInQueues_21 : decode cX2_waitInQueues 21 = .ok (.if_icmp .ge 70, 3) := by decide +kernel
theorem dX2_waitInQueues_24 : decode cX2_waitInQueues 24 = .ok (.aload_n 2, 1) := by decide +kernel
theorem dX2_waitInQueues_25 : decode cX2_waitInQueues 25 = .ok (.iload 4, 2) := by decide +kernel
theorem dX2_waitInQueues_27 : decode cX2_waitInQueues 27 = .ok (.aaload, 1) := by decide +kernel
theorem dX2_waitInQueues_28 : decode cX2_waitInQueues 28 = .ok (.astore 5, 2) := by decide +kernel
theorem dX2_waitInQueues_30 : decode cX2_waitInQueues 30 = .ok (.aload 5, 2) := by decide +kernel
theorem dX2_waitInQueues_32 : decode cX2_waitInQueues 32 = .ok (.getfield 69, 3) := by decide +kernel
theorem dX2_waitInQueues_35 : decode cX2_waitInQueues 35 = .ok (.ifCond .ne 50, 3) := by decide +kernel
theorem dX2_waitInQueues_38 : decode cX2_waitInQueues 38 = .ok (.aload 5, 2) := by decide +kernel
theorem dX2_waitInQueues_40 : decode cX2_waitInQueues 40 = .ok (.dup, 1) := by decide +kernel
theorem dX2_waitInQueues_41 : decode cX2_waitInQueues 41 = .ok (.getfield 78, 3) := by decide +kernel
theorem dX2_waitInQueues_44 : decode cX2_waitInQueues 44 = .ok (.iconst 1, 1) := by decide +kernel
theorem dX2_waitInQueues_45 : decode cX2_waitInQueues 45 = .ok (.iadd, 1) := by decide +kernel
theorem dX2_waitInQueues_46 : decode cX2_waitInQueues 46 = .ok (.putfield 78, 3) := by decide +kernel
theorem dX2_waitInQueues_49 : decode cX2_waitInQueues 49 = .ok (.aload 5, 2) := by decide +kernel
theorem dX2_waitInQueues_51 : decode cX2_waitInQueues 51 = .ok (.dup, 1) := by decide +kernel
theorem dX2_waitInQueues_52 : decode cX2_waitInQueues 52 = .ok (.getfield 125, 3) := by decide +kernel
theorem dX2_waitInQueues_55 : decode cX2_waitInQueues 55 = .ok (.iconst 1, 1) := by decide +kernel
theorem dX2_waitInQueues_56 : decode cX2_waitInQueues 56 = .ok (.iadd, 1) := by decide +kernel
theorem dX2_waitInQueues_57 : decode cX2_waitInQueues 57 = .ok (.putfield 125, 3) := by decide +kernel
theorem dX2_waitInQueues_60 : decode cX2_waitInQueues 60 = .ok (.iload_n 1, 1) := by decide +kernel
theorem dX2_waitInQueues_61 : decode cX2_waitInQueues 61 = .ok (.ifCond .eq 24, 3) := by decide +kernel
theorem dX2_waitInQueues_64 : decode cX2_waitInQueues 64 = .ok (.aload 5, 2) := by decide +kernel
theorem dX2_waitInQueues_66 : decode cX2_waitInQueues 66 = .ok (.getfield 125, 3) := by decide +kernel
theorem dX2_waitInQueues_69 : decode cX2_waitInQueues 69 = .ok (.iload_n 1, 1) := by decide +kernel
theorem dX2_waitInQueues_70 : decode cX2_waitInQueues 70 = .ok (.if_icmp .lt 15, 3) := by decide +kernel
theorem dX2_waitInQueues_73 : decode cX2_waitInQueues 73 = .ok (.aload_n 0, 1) := by decide +kernel
theorem dX2_waitInQueues_74 : decode cX2_waitInQueues 74 = .ok (.aload 5, 2) := by decide +kernel
theorem dX2_waitInQueues_76 : decode cX2_waitInQueues 76 = .ok (.aload_n 0, 1) := by decide +kernel
theorem dX2_waitInQueues_77 : decode cX2_waitInQueues 77 = .ok (.getfield 56, 3) := by decide +kernel
theorem dX2_waitInQueues_80 : decode cX2_waitInQueues 80 = .ok (.iconst 1, 1) := by decide +kernel
theorem dX2_waitInQueues_81 : decode cX2_waitInQueues 81 = .ok (.iadd, 1) := by decide +kernel
theorem dX2_waitInQueues_82 : decode cX2_waitInQueues 82 = .ok (.invokevirtual 183, 3) := by decide +kernel
theorem dX2_waitInQueues_85 : decode cX2_waitInQueues 85 = .ok (.iinc 4 1, 3) := by decide +kernel
theorem dX2_waitInQueues_88 : decode cX2_waitInQueues 88 = .ok (.goto (-70), 3) := by decide +kernel
theorem dX2_waitInQueues_91 : decode cX2_waitInQueues 91 = .ok (.return_, 1) := by decide +kernel
theorem dX3_init_0 : decode cX3_init 0 = .ok (.aload_n 0, 1) := by decide +kernel
theorem dX3_init_1 : decode cX3_init 1 = .ok (.invokespecial 3, 3) := by decide +kernel
theorem dX3_init_4 : decode cX3_init 4 = .ok (.aload_n 0, 1) := by decide +kernel
theorem dX3_init_5 : decode cX3_init 5 = .ok (.bipush 60, 2) := by decide +kernel
theorem dX3_init_7 : decode cX3_init 7 = .ok (.newarray .char, 2) := by decide +kernel
theorem dX3_init_9 : decode cX3_init 9 = .ok (.putfield 9, 3) := by decide +kernel
theorem dX3_init_12 : decode cX3_init 12 = .ok (.return_, 1) := by decide +kernel
theorem dX3_charactersIn_0 : decode cX3_charactersIn 0 = .ok (.iconst 0, 1) := by decide +kernel
theorem dX3_charactersIn_1 : decode cX3_charactersIn 1 = .ok (.istore_n 2, 1) := by decide +kernel
theorem dX3_charactersIn_2 : decode cX3_charactersIn 2 = .ok (.iconst 0, 1) := by decide +kernel
theorem dX3_charactersIn_3 : decode cX3_charactersIn 3 = .ok (.istore_n 3, 1) := by decide +kernel
theorem dX3_charactersIn_4 : decode cX3_charactersIn 4 = .ok (.iload_n 3, 1) := by decide +kernel
theorem dX3_charactersIn_5 : decode cX3_charactersIn 5 = .ok (.bipush 8, 2) := by decide +kernel
theorem dX3_charactersIn_7 : decode cX3_charactersIn 7 = .ok (.if_icmp .ge 57, 3) := by decide +kernel
theorem dX3_charactersIn_10 : decode cX3_charactersIn 10 = .ok (.lload_n 0, 1) := by decide +kernel
theorem dX3_charactersIn_11 : decode cX3_charactersIn 11 = .ok (.bipush 8, 2) := by decide +kernel
theorem dX3_charactersIn_13 : decode cX3_charactersIn 13 = .ok (.iload_n 3, 1) := by decide +kernel
theorem dX3_charactersIn_14 : decode cX3_charactersIn 14 = .ok (.imul, 1) := by decide +kernel
theorem dX3_charactersIn_15 : decode cX3_charactersIn 15 = .ok (.lushr, 1) := by decide +kernel
theorem dX3_charactersIn_16 : decode cX3_charactersIn 16 = .ok (.lstore 4, 2) := by decide +kernel
theorem dX3_charactersIn_18 : decode cX3_charactersIn 18 = .ok (.lload 4, 2) := by decide +kernel
theorem dX3_charactersIn_20 : decode cX3_charactersIn 20 = .ok (.lconst 0, 1) := by decide +kernel
theorem dX3_charactersIn_21 : decode cX3_charactersIn 21 = .ok (.lcmp, 1) := by decide +kernel
theorem dX3_charactersIn_22 : decode cX3_charactersIn 22 = .ok (.ifCond .ne 5, 3) := by decide +kernel
theorem dX3_charactersIn_25 : decode cX3_charactersIn 25 = .ok (.iload_n 2, 1) := by decide +kernel
theorem dX3_charactersIn_26 : decode cX3_charactersIn 26 = .ok (.ireturn, 1) := by decide +kernel
theorem dX3_charactersIn_27 : decode cX3_charactersIn 27 = .ok (.lload 4, 2) := by decide +kernel
theorem dX3_charactersIn_29 : decode cX3_charactersIn 29 = .ok (.ldc2_w 15, 3) := by decide +kernel
theorem dX3_charactersIn_32 : decode cX3_charactersIn 32 = .ok (.land, 1) := by decide +kernel
theorem dX3_charactersIn_33 : decode cX3_charactersIn 33 = .ok (.lstore 6, 2) := by decide +kernel
theorem dX3_charactersIn_35 : decode cX3_charactersIn 35 = .ok (.lload 6, 2) := by decide +kernel
theorem dX3_charactersIn_37 : decode cX3_charactersIn 37 = .ok (.ldc2_w 17, 3) := by decide +kernel
theorem dX3_charactersIn_40 : decode cX3_charactersIn 40 = .ok (.lcmp, 1) := by decide +kernel
theorem dX3_charactersIn_41 : decode cX3_charactersIn 41 = .ok (.ifCond .lt 12, 3) := by decide +kernel
theorem dX3_charactersIn_44 : decode cX3_charactersIn 44 = .ok (.lload 6, 2) := by decide +kernel
theorem dX3_charactersIn_46 : decode cX3_charactersIn 46 = .ok (.ldc2_w 19, 3) := by decide +kernel
theorem dX3_charactersIn_49 : decode cX3_charactersIn 49 = .ok (.lcmp, 1) := by decide +kernel
theorem dX3_charactersIn_50 : decode cX3_charactersIn 50 = .ok (.ifCond .le 5, 3) := by decide +kernel
theorem dX3_charactersIn_53 : decode cX3_charactersIn 53 = .ok (.iconst 0, 1) := by decide +kernel
theorem dX3_charactersIn_54 : decode cX3_charactersIn 54 = .ok (.ireturn, 1) := by decide +kernel
theorem dX3_charactersIn_55 : decode cX3_charactersIn 55 = .ok (.iinc 2 1, 3) := by decide +kernel
theorem dX3_charactersIn_58 : decode cX3_charactersIn 58 = .ok (.iinc 3 1, 3) := by decide +kernel
theorem dX3_charactersIn_61 : decode cX3_charactersIn 61 = .ok (.goto (-57), 3) := by decide +kernel
theorem dX3_charactersIn_64 : decode cX3_charactersIn 64 = .ok (.iload_n 2, 1) := by decide +kernel
theorem dX3_charactersIn_65 : decode cX3_charactersIn 65 = .ok (.ireturn, 1) := by decide +kernel
theorem dX3_append_0 : decode cX3_append 0 = .ok (.iload_n 3, 1) := by decide +kernel
theorem dX3_append_1 : decode cX3_append 1 = .ok (.iconst 1, 1) := by decide +kernel
theorem dX3_append_2 : decode cX3_append 2 = .ok (.isub, 1) := by decide +kernel
theorem dX3_append_3 : decode cX3_append 3 = .ok (.istore 4, 2) := by decide +kernel
theorem dX3_append_5 : decode cX3_append 5 = .ok (.iload 4, 2) := by decide +kernel
theorem dX3_append_7 : decode cX3_append 7 = .ok (.ifCond .lt 53, 3) := by decide +kernel
theorem dX3_append_10 : decode cX3_append 10 = .ok (.aload_n 0, 1) := by decide +kernel
theorem dX3_append_11 : decode cX3_append 11 = .ok (.getfield 21, 3) := by decide +kernel
theorem dX3_append_14 : decode cX3_append 14 = .ok (.aload_n 0, 1) := by decide +kernel
theorem dX3_append_15 : decode cX3_append 15 = .ok (.getfield 9, 3) := by decide +kernel
theorem dX3_append_18 : decode cX3_append 18 = .ok (.arraylength, 1) := by decide +kernel
theorem dX3_append_19 : decode cX3_append 19 = .ok (.if_icmp .ge 41, 3) := by decide +kernel
theorem dX3_append_22 : decode cX3_append 22 = .ok (.aload_n 0, 1) := by decide +kernel
theorem dX3_append_23 : decode cX3_append 23 = .ok (.getfield 9, 3) := by decide +kernel
theorem dX3_append_26 : decode cX3_append 26 = .ok (.aload_n 0, 1) := by decide +kernel
theorem dX3_append_27 : decode cX3_append 27 = .ok (.getfield 21, 3) := by decide +kernel
theorem dX3_append_30 : decode cX3_append 30 = .ok (.lload_n 1, 1) := by decide +kernel
theorem dX3_append_31 : decode cX3_append 31 = .ok (.bipush 8, 2) := by decide +kernel
theorem dX3_append_33 : decode cX3_append 33 = .ok (.iload 4, 2) := by decide +kernel
theorem dX3_append_35 : decode cX3_append 35 = .ok (.imul, 1) := by decide +kernel
theorem dX3_append_36 : decode cX3_append 36 = .ok (.lushr, 1) := by decide +kernel
theorem dX3_append_37 : decode cX3_append 37 = .ok (.ldc2_w 15, 3) := by decide +kernel
theorem dX3_append_40 : decode cX3_append 40 = .ok (.land, 1) := by decide +kernel
theorem dX3_append_41 : decode cX3_append 41 = .ok (.l2i, 1) := by decide +kernel
theorem dX3_append_42 : decode cX3_append 42 = .ok (.i2c, 1) := by decide +kernel
theorem dX3_append_43 : decode cX3_append 43 = .ok (.castore, 1) := by decide +kernel
theorem dX3_append_44 : decode cX3_append 44 = .ok (.aload_n 0, 1) := by decide +kernel
theorem dX3_append_45 : decode cX3_append 45 = .ok (.dup, 1) := by decide +kernel
theorem dX3_append_46 : decode cX3_append 46 = .ok (.getfield 21, 3) := by decide +kernel
theorem dX3_append_49 : decode cX3_append 49 = .ok (.iconst 1, 1) := by decide +kernel
theorem dX3_append_50 : decode cX3_append 50 = .ok (.iadd, 1) := by decide +kernel
theorem dX3_append_51 : decode cX3_append 51 = .ok (.putfield 21, 3) := by decide +kernel
theorem dX3_append_54 : decode cX3_append 54 = .ok (.iinc 4 (-1), 3) := by decide +kernel
theorem dX3_append_57 : decode cX3_append 57 = .ok (.goto (-52), 3) := by decide +kernel
theorem dX3_append_60 : decode cX3_append 60 = .ok (.return_, 1) := by decide +kernel
theorem dX3_clear_0 : decode cX3_clear 0 = .ok (.aload_n 0, 1) := by decide +kernel
theorem dX3_clear_1 : decode cX3_clear 1 = .ok (.iconst 0, 1) := by decide +kernel
theorem dX3_clear_2 : decode cX3_clear 2 = .ok (.putfield 21, 3) := by decide +kernel
theorem dX3_clear_5 : decode cX3_clear 5 = .ok (.return_, 1) := by decide +kernel
theorem dX3_length_0 : decode cX3_length 0 = .ok (.aload_n 0, 1) := by decide +kernel
theorem dX3_length_1 : decode cX3_length 1 = .ok (.getfield 21, 3) := by decide +kernel
theorem dX3_length_4 : decode cX3_length 4 = .ok (.ireturn, 1) := by decide +kernel
theorem dX3_firstFault_0 : decode cX3_firstFault 0 = .ok (.iconst 0, 1) := by decide +kernel
theorem dX3_firstFault_1 : decode cX3_firstFault 1 = .ok (.istore_n 1, 1) := by decide +kernel
theorem dX3_firstFault_2 : decode cX3_firstFault 2 = .ok (.iconst 0, 1) := by decide +kernel
theorem dX3_firstFault_3 : decode cX3_firstFault 3 = .ok (.istore_n 2, 1) := by decide +kernel
theorem dX3_firstFault_4 : decode cX3_firstFault 4 = .ok (.iload_n 2, 1) := by decide +kernel
theorem dX3_firstFault_5 : decode cX3_firstFault 5 = .ok (.aload_n 0, 1) := by decide +kernel
theorem dX3_firstFault_6 : decode cX3_firstFault 6 = .ok (.getfield 21, 3) := by decide +kernel
theorem dX3_firstFault_9 : decode cX3_firstFault 9 = .ok (.if_icmp .ge 60, 3) := by decide +kernel
theorem dX3_firstFault_12 : decode cX3_firstFault 12 = .ok (.aload_n 0, 1) := by decide +kernel
theorem dX3_firstFault_13 : decode cX3_firstFault 13 = .ok (.getfield 9, 3) := by decide +kernel
theorem dX3_firstFault_16 : decode cX3_firstFault 16 = .ok (.iload_n 2, 1) := by decide +kernel
theorem dX3_firstFault_17 : decode cX3_firstFault 17 = .ok (.caload, 1) := by decide +kernel
theorem dX3_firstFault_18 : decode cX3_firstFault 18 = .ok (.istore_n 3, 1) := by decide +kernel
theorem dX3_firstFault_19 : decode cX3_firstFault 19 = .ok (.iload_n 3, 1) := by decide +kernel
theorem dX3_firstFault_20 : decode cX3_firstFault 20 = .ok (.bipush 44, 2) := by decide +kernel
theorem dX3_firstFault_22 : decode cX3_firstFault 22 = .ok (.if_icmp .ne 12, 3) := by decide +kernel
theorem dX3_firstFault_25 : decode cX3_firstFault 25 = .ok (.iload_n 1, 1) := by decide +kernel
theorem dX3_firstFault_26 : decode cX3_firstFault 26 = .ok (.ifCond .le 8, 3) := by decide +kernel
theorem dX3_firstFault_29 : decode cX3_firstFault 29 = .ok (.iconst 0, 1) := by decide +kernel
theorem dX3_firstFault_30 : decode cX3_firstFault 30 = .ok (.istore_n 1, 1) := by decide +kernel
theorem dX3_firstFault_31 : decode cX3_firstFault 31 = .ok (.goto 32, 3) := by decide +kernel
theorem dX3_firstFault_34 : decode cX3_firstFault 34 = .ok (.iload_n 3, 1) := by decide +kernel
theorem dX3_firstFault_35 : decode cX3_firstFault 35 = .ok (.invokestatic 25, 3) := by decide +kernel
theorem dX3_firstFault_38 : decode cX3_firstFault 38 = .ok (.ifCond .eq 23, 3) := by decide +kernel
theorem dX3_firstFault_41 : decode cX3_firstFault 41 = .ok (.iload_n 1, 1) := by decide +kernel
theorem dX3_firstFault_42 : decode cX3_firstFault 42 = .ok (.bipush 8, 2) := by decide +kernel
theorem dX3_firstFault_44 : decode cX3_firstFault 44 = .ok (.if_icmp .ge 17, 3) := by decide +kernel
theorem dX3_firstFault_47 : decode cX3_firstFault 47 = .ok (.aload_n 0, 1) := by decide +kernel
theorem dX3_firstFault_48 : decode cX3_firstFault 48 = .ok (.iload_n 2, 1) := by decide +kernel
theorem dX3_firstFault_49 : decode cX3_firstFault 49 = .ok (.invokevirtual 29, 3) := by decide +kernel
theorem dX3_firstFault_52 : decode cX3_firstFault 52 = .ok (.ifCond .ne 9, 3) := by decide +kernel
theorem dX3_firstFault_55 : decode cX3_firstFault 55 = .ok (.iinc 1 1, 3) := by decide +kernel
theorem dX3_firstFault_58 : decode cX3_firstFault 58 = .ok (.goto 5, 3) := by decide +kernel
theorem dX3_firstFault_61 : decode cX3_firstFault 61 = .ok (.iload_n 2, 1) := by decide +kernel
theorem dX3_firstFault_62 : decode cX3_firstFault 62 = .ok (.ireturn, 1) := by decide +kernel
theorem dX3_firstFault_63 : decode cX3_firstFault 63 = .ok (.iinc 2 1, 3) := by decide +kernel
theorem dX3_firstFault_66 : decode cX3_firstFault 66 = .ok (.goto (-62), 3) := by decide +kernel
theorem dX3_firstFault_69 : decode cX3_firstFault 69 = .ok (.iload_n 1, 1) := by decide +kernel
theorem dX3_firstFault_70 : decode cX3_firstFault 70 = .ok (.ifCond .ne 10, 3) := by decide +kernel
theorem dX3_firstFault_73 : decode cX3_firstFault 73 = .ok (.aload_n 0, 1) := by decide +kernel
theorem dX3_firstFault_74 : decode cX3_firstFault 74 = .ok (.getfield 21, 3) := by decide +kernel
theorem dX3_firstFault_77 : decode cX3_firstFault 77 = .ok (.goto 5, 3) := by decide +kernel
theorem dX3_firstFault_80 : decode cX3_firstFault 80 = .ok (.bipush (-6), 2) := by decide +kernel
theorem dX3_firstFault_82 : decode cX3_firstFault 82 = .ok (.ireturn, 1) := by decide +kernel
theorem dX3_repeatsAt_0 : decode cX3_repeatsAt 0 = .ok (.iload_n 1, 1) := by decide +kernel
theorem dX3_repeatsAt_1 : decode cX3_repeatsAt 1 = .ok (.ifCond .le 32, 3) := by decide +kernel
theorem dX3_repeatsAt_4 : decode cX3_repeatsAt 4 = .ok (.iload_n 1, 1) := by decide +kernel
theorem dX3_repeatsAt_5 : decode cX3_repeatsAt 5 = .ok (.aload_n 0, 1) := by decide +kernel
theorem dX3_repeatsAt_6 : decode cX3_repeatsAt 6 = .ok (.getfield 21, 3) := by decide +kernel
theorem dX3_repeatsAt_9 : decode cX3_repeatsAt 9 = .ok (.if_icmp .ge 24, 3) := by decide +kernel
theorem dX3_repeatsAt_12 : decode cX3_repeatsAt 12 = .ok (.aload_n 0, 1) := by decide +kernel
theorem dX3_repeatsAt_13 : decode cX3_repeatsAt 13 = .ok (.getfield 9, 3) := by decide +kernel
theorem dX3_repeatsAt_16 : decode cX3_repeatsAt 16 = .ok (.iload_n 1, 1) := by decide +kernel
theorem dX3_repeatsAt_17 : decode cX3_repeatsAt 17 = .ok (.iconst 1, 1) := by decide +kernel
theorem dX3_repeatsAt_18 : decode cX3_repeatsAt 18 = .ok (.isub, 1) := by decide +kernel
theorem dX3_repeatsAt_19 : decode cX3_repeatsAt 19 = .ok (.caload, 1) := by decide +kernel
theorem dX3_repeatsAt_20 : decode cX3_repeatsAt 20 = .ok (.aload_n 0, 1) := by decide +kernel
theorem dX3_repeatsAt_21 : decode cX3_repeatsAt 21 = .ok (.getfield 9, 3) := by decide +kernel
theorem dX3_repeatsAt_24 : decode cX3_repeatsAt 24 = .ok (.iload_n 1, 1) := by decide +kernel
theorem dX3_repeatsAt_25 : decode cX3_repeatsAt 25 = .ok (.caload, 1) := by decide +kernel
theorem dX3_repeatsAt_26 : decode cX3_repeatsAt 26 = .ok (.if_icmp .ne 7, 3) := by decide +kernel
theorem dX3_repeatsAt_29 : decode cX3_repeatsAt 29 = .ok (.iconst 1, 1) := by decide +kernel
theorem dX3_repeatsAt_30 : decode cX3_repeatsAt 30 = .ok (.goto 4, 3) := by decide +kernel
theorem dX3_repeatsAt_33 : decode cX3_repeatsAt 33 = .ok (.iconst 0, 1) := by decide +kernel
theorem dX3_repeatsAt_34 : decode cX3_repeatsAt 34 = .ok (.ireturn, 1) := by decide +kernel
theorem dX3_isWindow_0 : decode cX3_isWindow 0 = .ok (.iload_n 0, 1) := by decide +kernel
theorem dX3_isWindow_1 : decode cX3_isWindow 1 = .ok (.bipush 48, 2) := by decide +kernel
theorem dX3_isWindow_3 : decode cX3_isWindow 3 = .ok (.if_icmp .lt 13, 3) := by decide +kernel
theorem dX3_isWindow_6 : decode cX3_isWindow 6 = .ok (.iload_n 0, 1) := by decide +kernel
theorem dX3_isWindow_7 : decode cX3_isWindow 7 = .ok (.bipush 54, 2) := by decide +kernel
theorem dX3_isWindow_9 : decode cX3_isWindow 9 = .ok (.if_icmp .ge 7, 3) := by decide +kernel
theorem dX3_isWindow_12 : decode cX3_isWindow 12 = .ok (.iconst 1, 1) := by decide +kernel
theorem dX3_isWindow_13 : decode cX3_isWindow 13 = .ok (.goto 4, 3) := by decide +kernel
theorem dX3_isWindow_16 : decode cX3_isWindow 16 = .ok (.iconst 0, 1) := by decide +kernel
theorem dX3_isWindow_17 : decode cX3_isWindow 17 = .ok (.ireturn, 1) := by decide +kernel
theorem dX3_errands_0 : decode cX3_errands 0 = .ok (.iconst 1, 1) := by decide +kernel
theorem dX3_errands_1 : decode cX3_errands 1 = .ok (.istore_n 1, 1) := by decide +kernel
theorem dX3_errands_2 : decode cX3_errands 2 = .ok (.iconst 0, 1) := by decide +kernel
theorem dX3_errands_3 : decode cX3_errands 3 = .ok (.istore_n 2, 1) := by decide +kernel
theorem dX3_errands_4 : decode cX3_errands 4 = .ok (.iload_n 2, 1) := by decide +kernel
theorem dX3_errands_5 : decode cX3_errands 5 = .ok (.aload_n 0, 1) := by decide +kernel
theorem dX3_errands_6 : decode cX3_errands 6 = .ok (.getfield 21, 3) := by decide +kernel
theorem dX3_errands_9 : decode cX3_errands 9 = .ok (.if_icmp .ge 28, 3) := by decide +kernel
theorem dX3_errands_12 : decode cX3_errands 12 = .ok (.iload_n 1, 1) := by decide +kernel
theorem dX3_errands_13 : decode cX3_errands 13 = .ok (.aload_n 0, 1) := by decide +kernel
theorem dX3_errands_14 : decode cX3_errands 14 = .ok (.getfield 9, 3) := by decide +kernel
theorem dX3_errands_17 : decode cX3_errands 17 = .ok (.iload_n 2, 1) := by decide +kernel
theorem dX3_errands_18 : decode cX3_errands 18 = .ok (.caload, 1) := by decide +kernel
theorem dX3_errands_19 : decode cX3_errands 19 = .ok (.bipush 44, 2) := by decide +kernel
theorem dX3_errands_21 : decode cX3_errands 21 = .ok (.if_icmp .ne 7, 3) := by decide +kernel
theorem dX3_errands_24 : decode cX3_errands 24 = .ok (.iconst 1, 1) := by decide +kernel
theorem dX3_errands_25 : decode cX3_errands 25 = .ok (.goto 4, 3) := by decide +kernel
theorem dX3_errands_28 : decode cX3_errands 28 = .ok (.iconst 0, 1) := by decide +kernel
theorem dX3_errands_29 : decode cX3_errands 29 = .ok (.iadd, 1) := by decide +kernel
theorem dX3_errands_30 : decode cX3_errands 30 = .ok (.istore_n 1, 1) := by decide +kernel
theorem dX3_errands_31 : decode cX3_errands 31 = .ok (.iinc 2 1, 3) := by decide +kernel
theorem dX3_errands_34 : decode cX3_errands 34 = .ok (.goto (-30), 3) := by decide +kernel
theorem dX3_errands_37 : decode cX3_errands 37 = .ok (.iload_n 1, 1) := by decide +kernel
theorem dX3_errands_38 : decode cX3_errands 38 = .ok (.ireturn, 1) := by decide +kernel
theorem dX3_endOfErrand_0 : decode cX3_endOfErrand 0 = .ok (.iconst 0, 1) := by decide +kernel
theorem dX3_endOfErrand_1 : decode cX3_endOfErrand 1 = .ok (.iload_n 1, 1) := by decide +kernel
theorem dX3_endOfErrand_2 : decode cX3_endOfErrand 2 = .ok (.invokestatic 33, 3) := by decide +kernel
theorem dX3_endOfErrand_5 : decode cX3_endOfErrand 5 = .ok (.istore_n 2, 1) := by decide +kernel
theorem dX3_endOfErrand_6 : decode cX3_endOfErrand 6 = .ok (.iload_n 2, 1) := by decide +kernel
theorem dX3_endOfErrand_7 : decode cX3_endOfErrand 7 = .ok (.aload_n 0, 1) := by decide +kernel
theorem dX3_endOfErrand_8 : decode cX3_endOfErrand 8 = .ok (.getfield 21, 3) := by decide +kernel
theorem dX3_endOfErrand_11 : decode cX3_endOfErrand 11 = .ok (.if_icmp .ge 22, 3) := by decide +kernel
theorem dX3_endOfErrand_14 : decode cX3_endOfErrand 14 = .ok (.aload_n 0, 1) := by decide +kernel
theorem dX3_endOfErrand_15 : decode cX3_endOfErrand 15 = .ok (.getfield 9, 3) := by decide +kernel
theorem dX3_endOfErrand_18 : decode cX3_endOfErrand 18 = .ok (.iload_n 2, 1) := by decide +kernel
theorem dX3_endOfErrand_19 : decode cX3_endOfErrand 19 = .ok (.caload, 1) := by decide +kernel
theorem dX3_endOfErrand_20 : decode cX3_endOfErrand 20 = .ok (.bipush 44, 2) := by decide +kernel
theorem dX3_endOfErrand_22 : decode cX3_endOfErrand 22 = .ok (.if_icmp .ne 5, 3) := by decide +kernel
theorem dX3_endOfErrand_25 : decode cX3_endOfErrand 25 = .ok (.iload_n 2, 1) := by decide +kernel
theorem dX3_endOfErrand_26 : decode cX3_endOfErrand 26 = .ok (.ireturn, 1) := by decide +kernel
theorem dX3_endOfErrand_27 : decode cX3_endOfErrand 27 = .ok (.iinc 2 1, 3) := by decide +kernel
theorem dX3_endOfErrand_30 : decode cX3_endOfErrand 30 = .ok (.goto (-24), 3) := by decide +kernel
theorem dX3_endOfErrand_33 : decode cX3_endOfErrand 33 = .ok (.aload_n 0, 1) := by decide +kernel
theorem dX3_endOfErrand_34 : decode cX3_endOfErrand 34 = .ok (.getfield 21, 3) := by decide +kernel
theorem dX3_endOfErrand_37 : decode cX3_endOfErrand 37 = .ok (.ireturn, 1) := by decide +kernel
theorem dX3_windowAt_0 : decode cX3_windowAt 0 = .ok (.iload_n 1, 1) := by decide +kernel
theorem dX3_windowAt_1 : decode cX3_windowAt 1 = .ok (.ifCond .lt 35, 3) := by decide +kernel
theorem dX3_windowAt_4 : decode cX3_windowAt 4 = .ok (.iload_n 1, 1) := by decide +kernel
theorem dX3_windowAt_5 : decode cX3_windowAt 5 = .ok (.aload_n 0, 1) := by decide +kernel
theorem dX3_windowAt_6 : decode cX3_windowAt 6 = .ok (.getfield 21, 3) := by decide +kernel
theorem dX3_windowAt_9 : decode cX3_windowAt 9 = .ok (.if_icmp .ge 27, 3) := by decide +kernel
theorem dX3_windowAt_12 : decode cX3_windowAt 12 = .ok (.aload_n 0, 1) := by decide +kernel
theorem dX3_windowAt_13 : decode cX3_windowAt 13 = .ok (.getfield 9, 3) := by decide +kernel
theorem dX3_windowAt_16 : decode cX3_windowAt 16 = .ok (.iload_n 1, 1) := by decide +kernel
theorem dX3_windowAt_17 : decode cX3_windowAt 17 = .ok (.caload, 1) := by decide +kernel
theorem dX3_windowAt_18 : decode cX3_windowAt 18 = .ok (.invokestatic 25, 3) := by decide +kernel
theorem dX3_windowAt_21 : decode cX3_windowAt 21 = .ok (.ifCond .eq 15, 3) := by decide +kernel
theorem dX3_windowAt_24 : decode cX3_windowAt 24 = .ok (.aload_n 0, 1) := by decide +kernel
theorem dX3_windowAt_25 : decode cX3_windowAt 25 = .ok (.getfield 9, 3) := by decide +kernel
theorem dX3_windowAt_28 : decode cX3_windowAt 28 = .ok (.iload_n 1, 1) := by decide +kernel
theorem dX3_windowAt_29 : decode cX3_windowAt 29 = .ok (.caload, 1) := by decide +kernel
theorem dX3_windowAt_30 : decode cX3_windowAt 30 = .ok (.bipush 48, 2) := by decide +kernel
theorem dX3_windowAt_32 : decode cX3_windowAt 32 = .ok (.isub, 1) := by decide +kernel
theorem dX3_windowAt_33 : decode cX3_windowAt 33 = .ok (.goto 5, 3) := by decide +kernel
theorem dX3_windowAt_36 : decode cX3_windowAt 36 = .ok (.bipush (-6), 2) := by decide +kernel
theorem dX3_windowAt_38 : decode cX3_windowAt 38 = .ok (.ireturn, 1) := by decide +kernel
theorem dX4_init_0 : decode cX4_init 0 = .ok (.aload_n 0, 1) := by decide +kernel
theorem dX4_init_1 : decode cX4_init 1 = .ok (.invokespecial 3, 3) := by decide +kernel
theorem dX4_init_4 : decode cX4_init 4 = .ok (.aload_n 0, 1) := by decide +kernel
theorem dX4_init_5 : decode cX4_init 5 = .ok (.bipush 8, 2) := by decide +kernel
theorem dX4_init_7 : decode cX4_init 7 = .ok (.newarray .int, 2) := by decide +kernel
theorem dX4_init_9 : decode cX4_init 9 = .ok (.putfield 9, 3) := by decide +kernel
theorem dX4_init_12 : decode cX4_init 12 = .ok (.aload_n 0, 1) := by decide +kernel
theorem dX4_init_13 : decode cX4_init 13 = .ok (.iconst 4, 1) := by decide +kernel
theorem dX4_init_14 : decode cX4_init 14 = .ok (.putfield 15, 3) := by decide +kernel
theorem dX4_init_17 : decode cX4_init 17 = .ok (.aload_n 0, 1) := by decide +kernel
theorem dX4_init_18 : decode cX4_init 18 = .ok (.bipush (-6), 2) := by decide +kernel
theorem dX4_init_20 : decode cX4_init 20 = .ok (.putfield 19, 3) := by decide +kernel
theorem dX4_init_23 : decode cX4_init 23 = .ok (.aload_n 0, 1) := by decide +kernel
theorem dX4_init_24 : decode cX4_init 24 = .ok (.iload_n 1, 1) := by decide +kernel
theorem dX4_init_25 : decode cX4_init 25 = .ok (.putfield 22, 3) := by decide +kernel
theorem dX4_init_28 : decode cX4_init 28 = .ok (.return_, 1) := by decide +kernel
theorem dX4_become_0 : decode cX4_become 0 = .ok (.aload_n 1, 1) := by decide +kernel
theorem dX4_become_1 : decode cX4_become 1 = .ok (.getfield 9, 3) := by decide +kernel
theorem dX4_become_4 : decode cX4_become 4 = .ok (.iconst 0, 1) := by decide +kernel
theorem dX4_become_5 : decode cX4_become 5 = .ok (.aload_n 0, 1) := by decide +kernel
theorem dX4_become_6 : decode cX4_become 6 = .ok (.getfield 9, 3) := by decide +kernel
theorem dX4_become_9 : decode cX4_become 9 = .ok (.iconst 0, 1) := by decide +kernel
theorem dX4_become_10 : decode cX4_become 10 = .ok (.bipush 8, 2) := by decide +kernel
theorem dX4_become_12 : decode cX4_become 12 = .ok (.invokestatic 25, 3) := by decide +kernel
theorem dX4_become_15 : decode cX4_become 15 = .ok (.aload_n 0, 1) := by decide +kernel
theorem dX4_become_16 : decode cX4_become 16 = .ok (.aload_n 1, 1) := by decide +kernel
theorem dX4_become_17 : decode cX4_become 17 = .ok (.getfield 31, 3) := by decide +kernel
theorem dX4_become_20 : decode cX4_become 20 = .ok (.putfield 31, 3) := by decide +kernel
theorem dX4_become_23 : decode cX4_become 23 = .ok (.aload_n 0, 1) := by decide +kernel
theorem dX4_become_24 : decode cX4_become 24 = .ok (.aload_n 1, 1) := by decide +kernel
theorem dX4_become_25 : decode cX4_become 25 = .ok (.getfield 15, 3) := by decide +kernel
theorem dX4_become_28 : decode cX4_become 28 = .ok (.putfield 15, 3) := by decide +kernel
theorem dX4_become_31 : decode cX4_become 31 = .ok (.aload_n 0, 1) := by decide +kernel
theorem dX4_become_32 : decode cX4_become 32 = .ok (.aload_n 1, 1) := by decide +kernel
theorem dX4_become_33 : decode cX4_become 33 = .ok (.getfield 34, 3) := by decide +kernel
theorem dX4_become_36 : decode cX4_become 36 = .ok (.putfield 34, 3) := by decide +kernel
theorem dX4_become_39 : decode cX4_become 39 = .ok (.aload_n 0, 1) := by decide +kernel
theorem dX4_become_40 : decode cX4_become 40 = .ok (.aload_n 1, 1) := by decide +kernel
theorem dX4_become_41 : decode cX4_become 41 = .ok (.getfield 37, 3) := by decide +kernel
theorem dX4_become_44 : decode cX4_become 44 = .ok (.putfield 37, 3) := by decide +kernel
theorem dX4_become_47 : decode cX4_become 47 = .ok (.aload_n 0, 1) := by decide +kernel
theorem dX4_become_48 : decode cX4_become 48 = .ok (.aload_n 1, 1) := by decide +kernel
theorem dX4_become_49 : decode cX4_become 49 = .ok (.getfield 41, 3) := by decide +kernel
theorem dX4_become_52 : decode cX4_become 52 = .ok (.putfield 41, 3) := by decide +kernel
theorem dX4_become_55 : decode cX4_become 55 = .ok (.aload_n 0, 1) := by decide +kernel
theorem dX4_become_56 : decode cX4_become 56 = .ok (.aload_n 1, 1) := by decide +kernel
theorem dX4_become_57 : decode cX4_become 57 = .ok (.getfield 44, 3) := by decide +kernel
theorem dX4_become_60 : decode cX4_become 60 = .ok (.putfield 44, 3) := by decide +kernel
theorem dX4_become_63 : decode cX4_become 63 = .ok (.aload_n 0, 1) := by decide +kernel
theorem dX4_become_64 : decode cX4_become 64 = .ok (.aload_n 1, 1) := by decide +kernel
theorem dX4_become_65 : decode cX4_become 65 = .ok (.getfield 47, 3) := by decide +kernel
theorem dX4_become_68 : decode cX4_become 68 = .ok (.putfield 47, 3) := by decide +kernel
theorem dX4_become_71 : decode cX4_become 71 = .ok (.aload_n 0, 1) := by decide +kernel
theorem dX4_become_72 : decode cX4_become 72 = .ok (.aload_n 1, 1) := by decide +kernel
theorem dX4_become_73 : decode cX4_become 73 = .ok (.getfield 50, 3) := by decide +kernel
theorem dX4_become_76 : decode cX4_become 76 = .ok (.putfield 50, 3) := by decide +kernel
theorem dX4_become_79 : decode cX4_become 79 = .ok (.aload_n 0, 1) := by decide +kernel
theorem dX4_become_80 : decode cX4_become 80 = .ok (.aload_n 1, 1) := by decide +kernel
theorem dX4_become_81 : decode cX4_become 81 = .ok (.getfield 19, 3) := by decide +kernel
theorem dX4_become_84 : decode cX4_become 84 = .ok (.putfield 19, 3) := by decide +kernel
theorem dX4_become_87 : decode cX4_become 87 = .ok (.aload_n 0, 1) := by decide +kernel
theorem dX4_become_88 : decode cX4_become 88 = .ok (.aload_n 1, 1) := by decide +kernel
theorem dX4_become_89 : decode cX4_become 89 = .ok (.getfield 53, 3) := by decide +kernel
theorem dX4_become_92 : decode cX4_become 92 = .ok (.putfield 53, 3) := by decide +kernel
theorem dX4_become_95 : decode cX4_become 95 = .ok (.return_, 1) := by decide +kernel
theorem dX4_addToErrand_0 : decode cX4_addToErrand 0 = .ok (.aload_n 0, 1) := by decide +kernel
theorem dX4_addToErrand_1 : decode cX4_addToErrand 1 = .ok (.getfield 31, 3) := by decide +kernel
theorem dX4_addToErrand_4 : decode cX4_addToErrand 4 = .ok (.aload_n 0, 1) := by decide +kernel
theorem dX4_addToErrand_5 : decode cX4_addToErrand 5 = .ok (.getfield 9, 3) := by decide +kernel
theorem dX4_addToErrand_8 : decode cX4_addToErrand 8 = .ok (.arraylength, 1) := by decide +kernel
theorem dX4_addToErrand_9 : decode cX4_addToErrand 9 = .ok (.if_icmp .ge 23, 3) := by decide +kernel
theorem dX4_addToErrand_12 : decode cX4_addToErrand 12 = .ok (.aload_n 0, 1) := by decide +kernel
theorem dX4_addToErrand_13 : decode cX4_addToErrand 13 = .ok (.getfield 9, 3) := by decide +kernel
theorem dX4_addToErrand_16 : decode cX4_addToErrand 16 = .ok (.aload_n 0, 1) := by decide +kernel
theorem dX4_addToErrand_17 : decode cX4_addToErrand 17 = .ok (.getfield 31, 3) := by decide +kernel
theorem dX4_addToErrand_20 : decode cX4_addToErrand 20 = .ok (.iload_n 1, 1) := by decide +kernel
theorem dX4_addToErrand_21 : decode cX4_addToErrand 21 = .ok (.iastore, 1) := by decide +kernel
theorem dX4_addToErrand_22 : decode cX4_addToErrand 22 = .ok (.aload_n 0, 1) := by decide +kernel
theorem dX4_addToErrand_23 : decode cX4_addToErrand 23 = .ok (.dup, 1) := by decide +kernel
theorem dX4_addToErrand_24 : decode cX4_addToErrand 24 = .ok (.getfield 31, 3) := by decide +kernel
theorem dX4_addToErrand_27 : decode cX4_addToErrand 27 = .ok (.iconst 1, 1) := by decide +kernel
theorem dX4_addToErrand_28 : decode cX4_addToErrand 28 = .ok (.iadd, 1) := by decide +kernel
theorem dX4_addToErrand_29 : decode cX4_addToErrand 29 = .ok (.putfield 31, 3) := by decide +kernel
theorem dX4_addToErrand_32 : decode cX4_addToErrand 32 = .ok (.return_, 1) := by decide +kernel
theorem dX4_standsAt_0 : decode cX4_standsAt 0 = .ok (.aload_n 0, 1) := by decide +kernel
theorem dX4_standsAt_1 : decode cX4_standsAt 1 = .ok (.getfield 15, 3) := by decide +kernel
theorem dX4_standsAt_4 : decode cX4_standsAt 4 = .ok (.ifCond .eq 11, 3) := by decide +kernel
theorem dX4_standsAt_7 : decode cX4_standsAt 7 = .ok (.aload_n 0, 1) := by decide +kernel
theorem dX4_standsAt_8 : decode cX4_standsAt 8 = .ok (.getfield 15, 3) := by decide +kernel
theorem dX4_standsAt_11 : decode cX4_standsAt 11 = .ok (.iconst 1, 1) := by decide +kernel
theorem dX4_standsAt_12 : decode cX4_standsAt 12 = .ok (.if_icmp .ne 7, 3) := by decide +kernel
theorem dX4_standsAt_15 : decode cX4_standsAt 15 = .ok (.iconst 1, 1) := by decide +kernel
theorem dX4_standsAt_16 : decode cX4_standsAt 16 = .ok (.goto 4, 3) := by decide +kernel
theorem dX4_standsAt_19 : decode cX4_standsAt 19 = .ok (.iconst 0, 1) := by decide +kernel
theorem dX4_standsAt_20 : decode cX4_standsAt 20 = .ok (.istore_n 1, 1) := by decide +kernel
theorem dX4_standsAt_21 : decode cX4_standsAt 21 = .ok (.iload_n 1, 1) := by decide +kernel
theorem dX4_standsAt_22 : decode cX4_standsAt 22 = .ok (.ifCond .eq 26, 3) := by decide +kernel
theorem dX4_standsAt_25 : decode cX4_standsAt 25 = .ok (.aload_n 0, 1) := by decide +kernel
theorem dX4_standsAt_26 : decode cX4_standsAt 26 = .ok (.getfield 34, 3) := by decide +kernel
theorem dX4_standsAt_29 : decode cX4_standsAt 29 = .ok (.aload_n 0, 1) := by decide +kernel
theorem dX4_standsAt_30 : decode cX4_standsAt 30 = .ok (.getfield 31, 3) := by decide +kernel
theorem dX4_standsAt_33 : decode cX4_standsAt 33 = .ok (.if_icmp .ge 15, 3) := by decide +kernel
theorem dX4_standsAt_36 : decode cX4_standsAt 36 = .ok (.aload_n 0, 1) := by decide +kernel
theorem dX4_standsAt_37 : decode cX4_standsAt 37 = .ok (.getfield 9, 3) := by decide +kernel
theorem dX4_standsAt_40 : decode cX4_standsAt 40 = .ok (.aload_n 0, 1) := by decide +kernel
theorem dX4_standsAt_41 : decode cX4_standsAt 41 = .ok (.getfield 34, 3) := by decide +kernel
theorem dX4_standsAt_44 : decode cX4_standsAt 44 = .ok (.iaload, 1) := by decide +kernel
theorem dX4_standsAt_45 : decode cX4_standsAt 45 = .ok (.goto 5, 3) := by decide +kernel
theorem dX4_standsAt_48 : decode cX4_standsAt 48 = .ok (.bipush (-6), 2) := by decide +kernel
theorem dX4_standsAt_50 : decode cX4_standsAt 50 = .ok (.ireturn, 1) := by decide +kernel
theorem dX4_goAs_0 : decode cX4_goAs 0 = .ok (.aload_n 0, 1) := by decide +kernel
theorem dX4_goAs_1 : decode cX4_goAs 1 = .ok (.iload_n 1, 1) := by decide +kernel
theorem dX4_goAs_2 : decode cX4_goAs 2 = .ok (.putfield 15, 3) := by decide +kernel
theorem dX4_goAs_5 : decode cX4_goAs 5 = .ok (.aload_n 0, 1) := by decide +kernel
theorem dX4_goAs_6 : decode cX4_goAs 6 = .ok (.iconst 0, 1) := by decide +kernel
theorem dX4_goAs_7 : decode cX4_goAs 7 = .ok (.putfield 37, 3) := by decide +kernel
theorem dX4_goAs_10 : decode cX4_goAs 10 = .ok (.aload_n 0, 1) := by decide +kernel
theorem dX4_goAs_11 : decode cX4_goAs 11 = .ok (.iload_n 2, 1) := by decide +kernel
theorem dX4_goAs_12 : decode cX4_goAs 12 = .ok (.putfield 19, 3) := by decide +kernel
theorem dX4_goAs_15 : decode cX4_goAs 15 = .ok (.return_, 1) := by decide +kernel
theorem dX5_init_0 : decode cX5_init 0 = .ok (.aload_n 0, 1) := by decide +kernel
theorem dX5_init_1 : decode cX5_init 1 = .ok (.invokespecial 1, 3) := by decide +kernel
theorem dX5_init_4 : decode cX5_init 4 = .ok (.aload_n 0, 1) := by decide +kernel
theorem dX5_init_5 : decode cX5_init 5 = .ok (.iconst 1, 1) := by decide +kernel
theorem dX5_init_6 : decode cX5_init 6 = .ok (.putfield 7, 3) := by decide +kernel
theorem dX5_init_9 : decode cX5_init 9 = .ok (.aload_n 0, 1) := by decide +kernel
theorem dX5_init_10 : decode cX5_init 10 = .ok (.iconst 1, 1) := by decide +kernel
theorem dX5_init_11 : decode cX5_init 11 = .ok (.putfield 13, 3) := by decide +kernel
theorem dX5_init_14 : decode cX5_init 14 = .ok (.aload_n 0, 1) := by decide +kernel
theorem dX5_init_15 : decode cX5_init 15 = .ok (.new 17, 3) := by decide +kernel
theorem dX5_init_18 : decode cX5_init 18 = .ok (.dup, 1) := by decide +kernel
theorem dX5_init_19 : decode cX5_init 19 = .ok (.invokespecial 19, 3) := by decide +kernel
theorem dX5_init_22 : decode cX5_init 22 = .ok (.putfield 20, 3) := by decide +kernel
theorem dX5_init_25 : decode cX5_init 25 = .ok (.aload_n 0, 1) := by decide +kernel
theorem dX5_init_26 : decode cX5_init 26 = .ok (.new 17, 3) := by decide +kernel
theorem dX5_init_29 : decode cX5_init 29 = .ok (.dup, 1) := by decide +kernel
theorem dX5_init_30 : decode cX5_init 30 = .ok (.invokespecial 19, 3) := by decide +kernel
theorem dX5_init_33 : decode cX5_init 33 = .ok (.putfield 24, 3) := by decide +kernel
theorem dX5_init_36 : decode cX5_init 36 = .ok (.aload_n 0, 1) := by decide +kernel
theorem dX5_init_37 : decode cX5_init 37 = .ok (.iload_n 1, 1) := by decide +kernel
theorem dX5_init_38 : decode cX5_init 38 = .ok (.putfield 27, 3) := by decide +kernel
theorem dX5_init_41 : decode cX5_init 41 = .ok (.return_, 1) := by decide +kernel
theorem dX5_become_0 : decode cX5_become 0 = .ok (.aload_n 0, 1) := by decide +kernel
theorem dX5_become_1 : decode cX5_become 1 = .ok (.aload_n 1, 1) := by decide +kernel
theorem dX5_become_2 : decode cX5_become 2 = .ok (.getfield 7, 3) := by decide +kernel
theorem dX5_become_5 : decode cX5_become 5 = .ok (.putfield 7, 3) := by decide +kernel
theorem dX5_become_8 : decode cX5_become 8 = .ok (.aload_n 0, 1) := by decide +kernel
theorem dX5_become_9 : decode cX5_become 9 = .ok (.aload_n 1, 1) := by decide +kernel
theorem dX5_become_10 : decode cX5_become 10 = .ok (.getfield 13, 3) := by decide +kernel
theorem dX5_become_13 : decode cX5_become 13 = .ok (.putfield 13, 3) := by decide +kernel
theorem dX5_become_16 : decode cX5_become 16 = .ok (.aload_n 0, 1) := by decide +kernel
theorem dX5_become_17 : decode cX5_become 17 = .ok (.aload_n 1, 1) := by decide +kernel
theorem dX5_become_18 : decode cX5_become 18 = .ok (.getfield 27, 3) := by decide +kernel
theorem dX5_become_21 : decode cX5_become 21 = .ok (.putfield 27, 3) := by decide +kernel
theorem dX5_become_24 : decode cX5_become 24 = .ok (.aload_n 0, 1) := by decide +kernel
theorem dX5_become_25 : decode cX5_become 25 = .ok (.aload_n 1, 1) := by decide +kernel
theorem dX5_become_26 : decode cX5_become 26 = .ok (.getfield 30, 3) := by decide +kernel
theorem dX5_become_29 : decode cX5_become 29 = .ok (.putfield 30, 3) := by decide +kernel
theorem dX5_become_32 : decode cX5_become 32 = .ok (.aload_n 0, 1) := by decide +kernel
theorem dX5_become_33 : decode cX5_become 33 = .ok (.aload_n 1, 1) := by decide +kernel
theorem dX5_become_34 : decode cX5_become 34 = .ok (.getfield 33, 3) := by decide +kernel
theorem dX5_become_37 : decode cX5_become 37 = .ok (.putfield 33, 3) := by decide +kernel
theorem dX5_become_40 : decode cX5_become 40 = .ok (.aload_n 0, 1) := by decide +kernel
theorem dX5_become_41 : decode cX5_become 41 = .ok (.getfield 20, 3) := by decide +kernel
theorem dX5_become_44 : decode cX5_become 44 = .ok (.aload_n 1, 1) := by decide +kernel
theorem dX5_become_45 : decode cX5_become 45 = .ok (.getfield 20, 3) := by decide +kernel
theorem dX5_become_48 : decode cX5_become 48 = .ok (.invokevirtual 36, 3) := by decide +kernel
theorem dX5_become_51 : decode cX5_become 51 = .ok (.aload_n 0, 1) := by decide +kernel
theorem dX5_become_52 : decode cX5_become 52 = .ok (.getfield 24, 3) := by decide +kernel
theorem dX5_become_55 : decode cX5_become 55 = .ok (.aload_n 1, 1) := by decide +kernel
theorem dX5_become_56 : decode cX5_become 56 = .ok (.getfield 24, 3) := by decide +kernel
theorem dX5_become_59 : decode cX5_become 59 = .ok (.invokevirtual 36, 3) := by decide +kernel
theorem dX5_become_62 : decode cX5_become 62 = .ok (.return_, 1) := by decide +kernel
theorem dX6_init_0 : decode cX6_init 0 = .ok (.aload_n 0, 1) := by decide +kernel
theorem dX6_init_1 : decode cX6_init 1 = .ok (.invokespecial 1, 3) := by decide +kernel
theorem dX6_init_4 : decode cX6_init 4 = .ok (.aload_n 0, 1) := by decide +kernel
theorem dX6_init_5 : decode cX6_init 5 = .ok (.new 7, 3) := by decide +kernel
theorem dX6_init_8 : decode cX6_init 8 = .ok (.dup, 1) := by decide +kernel
theorem dX6_init_9 : decode cX6_init 9 = .ok (.invokespecial 9, 3) := by decide +kernel
theorem dX6_init_12 : decode cX6_init 12 = .ok (.putfield 10, 3) := by decide +kernel
theorem dX6_init_15 : decode cX6_init 15 = .ok (.aload_n 0, 1) := by decide +kernel
theorem dX6_init_16 : decode cX6_init 16 = .ok (.new 7, 3) := by decide +kernel
theorem dX6_init_19 : decode cX6_init 19 = .ok (.dup, 1) := by decide +kernel
theorem dX6_init_20 : decode cX6_init 20 = .ok (.invokespecial 9, 3) := by decide +kernel
theorem dX6_init_23 : decode cX6_init 23 = .ok (.putfield 16, 3) := by decide +kernel
theorem dX6_init_26 : decode cX6_init 26 = .ok (.aload_n 0, 1) := by decide +kernel
theorem dX6_init_27 : decode cX6_init 27 = .ok (.new 19, 3) := by decide +kernel
theorem dX6_init_30 : decode cX6_init 30 = .ok (.dup, 1) := by decide +kernel
theorem dX6_init_31 : decode cX6_init 31 = .ok (.invokespecial 21, 3) := by decide +kernel
theorem dX6_init_34 : decode cX6_init 34 = .ok (.putfield 22, 3) := by decide +kernel
theorem dX6_init_37 : decode cX6_init 37 = .ok (.aload_n 0, 1) := by decide +kernel
theorem dX6_init_38 : decode cX6_init 38 = .ok (.iconst 2, 1) := by decide +kernel
theorem dX6_init_39 : decode cX6_init 39 = .ok (.anewarray 7, 3) := by decide +kernel
theorem dX6_init_42 : decode cX6_init 42 = .ok (.putfield 26, 3) := by decide +kernel
theorem dX6_init_45 : decode cX6_init 45 = .ok (.iconst 0, 1) := by decide +kernel
theorem dX6_init_46 : decode cX6_init 46 = .ok (.istore_n 1, 1) := by decide +kernel
theorem dX6_init_47 : decode cX6_init 47 = .ok (.iload_n 1, 1) := by decide +kernel
theorem dX6_init_48 : decode cX6_init 48 = .ok (.aload_n 0, 1) := by decide +kernel
theorem dX6_init_49 : decode cX6_init 49 = .ok (.getfield 26, 3) := by decide +kernel
theorem dX6_init_52 : decode cX6_init 52 = .ok (.arraylength, 1) := by decide +kernel
theorem dX6_init_53 : decode cX6_init 53 = .ok (.if_icmp .ge 22, 3) := by decide +kernel
theorem dX6_init_56 : decode cX6_init 56 = .ok (.aload_n 0, 1) := by decide +kernel
theorem dX6_init_57 : decode cX6_init 57 = .ok (.getfield 26, 3) := by decide +kernel
theorem dX6_init_60 : decode cX6_init 60 = .ok (.iload_n 1, 1) := by decide +kernel
theorem dX6_init_61 : decode cX6_init 61 = .ok (.new 7, 3) := by decide +kernel
theorem dX6_init_64 : decode cX6_init 64 = .ok (.dup, 1) := by decide +kernel
theorem dX6_init_65 : decode cX6_init 65 = .ok (.invokespecial 9, 3) := by decide +kernel
theorem dX6_init_68 : decode cX6_init 68 = .ok (.aastore, 1) := by decide +kernel
theorem dX6_init_69 : decode cX6_init 69 = .ok (.iinc 1 1, 3) := by decide +kernel
theorem dX6_init_72 : decode cX6_init 72 = .ok (.goto (-25), 3) := by decide +kernel
theorem dX6_init_75 : decode cX6_init 75 = .ok (.aload_n 0, 1) := by decide +kernel
theorem dX6_init_76 : decode cX6_init 76 = .ok (.iconst 2, 1) := by decide +kernel
theorem dX6_init_77 : decode cX6_init 77 = .ok (.newarray .boolean, 2) := by decide +kernel
theorem dX6_init_79 : decode cX6_init 79 = .ok (.putfield 30, 3) := by decide +kernel
theorem dX6_init_82 : decode cX6_init 82 = .ok (.aload_n 0, 1) := by decide +kernel
theorem dX6_init_83 : decode cX6_init 83 = .ok (.new 34, 3) := by decide +kernel
theorem dX6_init_86 : decode cX6_init 86 = .ok (.dup, 1) := by decide +kernel
theorem dX6_init_87 : decode cX6_init 87 = .ok (.invokespecial 36, 3) := by decide +kernel
theorem dX6_init_90 : decode cX6_init 90 = .ok (.putfield 37, 3) := by decide +kernel
theorem dX6_init_93 : decode cX6_init 93 = .ok (.return_, 1) := by decide +kernel
theorem dX6_set_0 : decode cX6_set 0 = .ok (.iload_n 1, 1) := by decide +kernel
theorem dX6_set_1 : decode cX6_set 1 = .ok (.ifCond .lt 11, 3) := by decide +kernel
theorem dX6_set_4 : decode cX6_set 4 = .ok (.iload_n 1, 1) := by decide +kernel
theorem dX6_set_5 : decode cX6_set 5 = .ok (.getstatic 41, 3) := by decide +kernel
theorem dX6_set_8 : decode cX6_set 8 = .ok (.arraylength, 1) := by decide +kernel
theorem dX6_set_9 : decode cX6_set 9 = .ok (.if_icmp .lt 6, 3) := by decide +kernel
theorem dX6_set_12 : decode cX6_set 12 = .ok (.bipush (-2), 2) := by decide +kernel
theorem dX6_set_14 : decode cX6_set 14 = .ok (.ireturn, 1) := by decide +kernel
theorem dX6_set_15 : decode cX6_set 15 = .ok (.iload_n 2, 1) := by decide +kernel
theorem dX6_set_16 : decode cX6_set 16 = .ok (.getstatic 45, 3) := by decide +kernel
theorem dX6_set_19 : decode cX6_set 19 = .ok (.iload_n 1, 1) := by decide +kernel
theorem dX6_set_20 : decode cX6_set 20 = .ok (.iaload, 1) := by decide +kernel
theorem dX6_set_21 : decode cX6_set 21 = .ok (.if_icmp .lt 12, 3) := by decide +kernel
theorem dX6_set_24 : decode cX6_set 24 = .ok (.iload_n 2, 1) := by decide +kernel
theorem dX6_set_25 : decode cX6_set 25 = .ok (.getstatic 48, 3) := by decide +kernel
theorem dX6_set_28 : decode cX6_set 28 = .ok (.iload_n 1, 1) := by decide +kernel
theorem dX6_set_29 : decode cX6_set 29 = .ok (.iaload, 1) := by decide +kernel
theorem dX6_set_30 : decode cX6_set 30 = .ok (.if_icmp .le 6, 3) := by decide +kernel
theorem dX6_set_33 : decode cX6_set 33 = .ok (.bipush (-2), 2) := by decide +kernel
theorem dX6_set_35 : decode cX6_set 35 = .ok (.ireturn, 1) := by decide +kernel
theorem dX6_set_36 : decode cX6_set 36 = .ok (.aload_n 0, 1) := by decide +kernel
theorem dX6_set_37 : decode cX6_set 37 = .ok (.getfield 22, 3) := by decide +kernel
theorem dX6_set_40 : decode cX6_set 40 = .ok (.aload_n 0, 1) := by decide +kernel
theorem dX6_set_41 : decode cX6_set 41 = .ok (.getfield 10, 3) := by decide +kernel
theorem dX6_set_44 : decode cX6_set 44 = .ok (.invokevirtual 51, 3) := by decide +kernel
theorem dX6_set_47 : decode cX6_set 47 = .ok (.aload_n 0, 1) := by decide +kernel
theorem dX6_set_48 : decode cX6_set 48 = .ok (.getfield 10, 3) := by decide +kernel
theorem dX6_set_51 : decode cX6_set 51 = .ok (.getfield 55, 3) := by decide +kernel
theorem dX6_set_54 : decode cX6_set 54 = .ok (.iload_n 1, 1) := by decide +kernel
theorem dX6_set_55 : decode cX6_set 55 = .ok (.iaload, 1) := by decide +kernel
theorem dX6_set_56 : decode cX6_set 56 = .ok (.istore_n 3, 1) := by decide +kernel
theorem dX6_set_57 : decode cX6_set 57 = .ok (.aload_n 0, 1) := by decide +kernel
theorem dX6_set_58 : decode cX6_set 58 = .ok (.getfield 10, 3) := by decide +kernel
theorem dX6_set_61 : decode cX6_set 61 = .ok (.getfield 55, 3) := by decide +kernel
theorem dX6_set_64 : decode cX6_set 64 = .ok (.iload_n 1, 1) := by decide +kernel
theorem dX6_set_65 : decode cX6_set 65 = .ok (.iload_n 2, 1) := by decide +kernel
theorem dX6_set_66 : decode cX6_set 66 = .ok (.iastore, 1) := by decide +kernel
theorem dX6_set_67 : decode cX6_set 67 = .ok (.iload_n 3, 1) := by decide +kernel
theorem dX6_set_68 : decode cX6_set 68 = .ok (.ireturn, 1) := by decide +kernel
theorem dX6_window_0 : decode cX6_window 0 = .ok (.aload_n 0, 1) := by decide +kernel
theorem dX6_window_1 : decode cX6_window 1 = .ok (.getfield 10, 3) := by decide +kernel
theorem dX6_window_4 : decode cX6_window 4 = .ok (.iload_n 1, 1) := by decide +kernel
theorem dX6_window_5 : decode cX6_window 5 = .ok (.invokevirtual 58, 3) := by decide +kernel
theorem dX6_window_8 : decode cX6_window 8 = .ok (.astore_n 3, 1) := by decide +kernel
theorem dX6_window_9 : decode cX6_window 9 = .ok (.aload_n 3, 1) := by decide +kernel
theorem dX6_window_10 : decode cX6_window 10 = .ok (.ifnonnull 5, 3) := by decide +kernel
theorem dX6_window_13 : decode cX6_window 13 = .ok (.iconst (-1), 1) := by decide +kernel
theorem dX6_window_14 : decode cX6_window 14 = .ok (.ireturn, 1) := by decide +kernel
theorem dX6_window_15 : decode cX6_window 15 = .ok (.aload_n 3, 1) := by decide +kernel
theorem dX6_window_16 : decode cX6_window 16 = .ok (.getfield 62, 3) := by decide +kernel
theorem dX6_window_19 : decode cX6_window 19 = .ok (.iload_n 2, 1) := by decide +kernel
theorem dX6_window_20 : decode cX6_window 20 = .ok (.if_icmp .ne 6, 3) := by decide +kernel
theorem dX6_window_23 : decode cX6_window 23 = .ok (.bipush (-5), 2) := by decide +kernel
theorem dX6_window_25 : decode cX6_window 25 = .ok (.ireturn, 1) := by decide +kernel
theorem dX6_window_26 : decode cX6_window 26 = .ok (.aload_n 0, 1) := by decide +kernel
theorem dX6_window_27 : decode cX6_window 27 = .ok (.getfield 22, 3) := by decide +kernel
theorem dX6_window_30 : decode cX6_window 30 = .ok (.aload_n 0, 1) := by decide +kernel
theorem dX6_window_31 : decode cX6_window 31 = .ok (.getfield 10, 3) := by decide +kernel
theorem dX6_window_34 : decode cX6_window 34 = .ok (.invokevirtual 51, 3) := by decide +kernel
theorem dX6_window_37 : decode cX6_window 37 = .ok (.aload_n 3, 1) := by decide +kernel
theorem dX6_window_38 : decode cX6_window 38 = .ok (.iload_n 2, 1) := by decide +kernel
theorem dX6_window_39 : decode cX6_window 39 = .ok (.putfield 62, 3) := by decide +kernel
theorem dX6_window_42 : decode cX6_window 42 = .ok (.aload_n 0, 1) := by decide +kernel
theorem dX6_window_43 : decode cX6_window 43 = .ok (.getfield 10, 3) := by decide +kernel
theorem dX6_window_46 : decode cX6_window 46 = .ok (.invokevirtual 68, 3) := by decide +kernel
theorem dX6_window_49 : decode cX6_window 49 = .ok (.ireturn, 1) := by decide +kernel
theorem dX6_clerks_0 : decode cX6_clerks 0 = .ok (.aload_n 0, 1) := by decide +kernel
theorem dX6_clerks_1 : decode cX6_clerks 1 = .ok (.getfield 10, 3) := by decide +kernel
theorem dX6_clerks_4 : decode cX6_clerks 4 = .ok (.iload_n 1, 1) := by decide +kernel
theorem dX6_clerks_5 : decode cX6_clerks 5 = .ok (.invokevirtual 58, 3) := by decide +kernel
theorem dX6_clerks_8 : decode cX6_clerks 8 = .ok (.astore_n 3, 1) := by decide +kernel
theorem dX6_clerks_9 : decode cX6_clerks 9 = .ok (.aload_n 3, 1) := by decide +kernel
theorem dX6_clerks_10 : decode cX6_clerks 10 = .ok (.ifnonnull 5, 3) := by decide +kernel
theorem dX6_clerks_13 : decode cX6_clerks 13 = .ok (.iconst (-1), 1) := by decide +kernel
theorem dX6_clerks_14 : decode cX6_clerks 14 = .ok (.ireturn, 1) := by decide +kernel
theorem dX6_clerks_15 : decode cX6_clerks 15 = .ok (.iload_n 2, 1) := by decide +kernel
theorem dX6_clerks_16 : decode cX6_clerks 16 = .ok (.ifCond .lt 8, 3) := by decide +kernel
theorem dX6_clerks_19 : decode cX6_clerks 19 = .ok (.iload_n 2, 1) := by decide +kernel
theorem dX6_clerks_20 : decode cX6_clerks 20 = .ok (.iconst 3, 1) := by decide +kernel
theorem dX6_clerks_21 : decode cX6_clerks 21 = .ok (.if_icmp .le 6, 3) := by decide +kernel
theorem dX6_clerks_24 : decode cX6_clerks 24 = .ok (.bipush (-2), 2) := by decide +kernel
theorem dX6_clerks_26 : decode cX6_clerks 26 = .ok (.ireturn, 1) := by decide +kernel
theorem dX6_clerks_27 : decode cX6_clerks 27 = .ok (.aload_n 0, 1) := by decide +kernel
theorem dX6_clerks_28 : decode cX6_clerks 28 = .ok (.getfield 22, 3) := by decide +kernel
theorem dX6_clerks_31 : decode cX6_clerks 31 = .ok (.aload_n 0, 1) := by decide +kernel
theorem dX6_clerks_32 : decode cX6_clerks 32 = .ok (.getfield 10, 3) := by decide +kernel
theorem dX6_clerks_35 : decode cX6_clerks 35 = .ok (.invokevirtual 51, 3) := by decide +kernel
theorem dX6_clerks_38 : decode cX6_clerks 38 = .ok (.aload_n 3, 1) := by decide +kernel
theorem dX6_clerks_39 : decode cX6_clerks 39 = .ok (.getfield 72, 3) := by decide +kernel
theorem dX6_clerks_42 : decode cX6_clerks 42 = .ok (.istore 4, 2) := by decide +kernel
theorem dX6_clerks_44 : decode cX6_clerks 44 = .ok (.aload_n 3, 1) := by decide +kernel
theorem dX6_clerks_45 : decode cX6_clerks 45 = .ok (.iload_n 2, 1) := by decide +kernel
theorem dX6_clerks_46 : decode cX6_clerks 46 = .ok (.putfield 72, 3) := by decide +kernel
theorem dX6_clerks_49 : decode cX6_clerks 49 = .ok (.iload 4, 2) := by decide +kernel
theorem dX6_clerks_51 : decode cX6_clerks 51 = .ok (.ireturn, 1) := by decide +kernel
theorem dX6_bring_0 : decode cX6_bring 0 = .ok (.aload_n 0, 1) := by decide +kernel
theorem dX6_bring_1 : decode cX6_bring 1 = .ok (.getfield 10, 3) := by decide +kernel
theorem dX6_bring_4 : decode cX6_bring 4 = .ok (.iload_n 1, 1) := by decide +kernel
theorem dX6_bring_5 : decode cX6_bring 5 = .ok (.invokevirtual 58, 3) := by decide +kernel
theorem dX6_bring_8 : decode cX6_bring 8 = .ok (.astore_n 2, 1) := by decide +kernel
theorem dX6_bring_9 : decode cX6_bring 9 = .ok (.aload_n 2, 1) := by decide +kernel
theorem dX6_bring_10 : decode cX6_bring 10 = .ok (.ifnonnull 5, 3) := by decide +kernel
theorem dX6_bring_13 : decode cX6_bring 13 = .ok (.iconst (-1), 1) := by decide +kernel
theorem dX6_bring_14 : decode cX6_bring 14 = .ok (.ireturn, 1) := by decide +kernel
theorem dX6_bring_15 : decode cX6_bring 15 = .ok (.aload_n 0, 1) := by decide +kernel
theorem dX6_bring_16 : decode cX6_bring 16 = .ok (.getfield 22, 3) := by decide +kernel
theorem dX6_bring_19 : decode cX6_bring 19 = .ok (.aload_n 0, 1) := by decide +kernel
theorem dX6_bring_20 : decode cX6_bring 20 = .ok (.getfield 10, 3) := by decide +kernel
theorem dX6_bring_23 : decode cX6_bring 23 = .ok (.invokevirtual 51, 3) := by decide +kernel
theorem dX6_bring_26 : decode cX6_bring 26 = .ok (.iconst 0, 1) := by decide +kernel
theorem dX6_bring_27 : decode cX6_bring 27 = .ok (.aload_n 0, 1) := by decide +kernel
theorem dX6_bring_28 : decode cX6_bring 28 = .ok (.getfield 10, 3) := by decide +kernel
theorem dX6_bring_31 : decode cX6_bring 31 = .ok (.getfield 55, 3) := by decide +kernel
theorem dX6_bring_34 : decode cX6_bring 34 = .ok (.iconst 1, 1) := by decide +kernel
theorem dX6_bring_35 : decode cX6_bring 35 = .ok (.iaload, 1) := by decide +kernel
theorem dX6_bring_36 : decode cX6_bring 36 = .ok (.aload_n 2, 1) := by decide +kernel
theorem dX6_bring_37 : decode cX6_bring 37 = .ok (.getfield 76, 3) := by decide +kernel
theorem dX6_bring_40 : decode cX6_bring 40 = .ok (.isub, 1) := by decide +kernel
theorem dX6_bring_41 : decode cX6_bring 41 = .ok (.invokestatic 79, 3) := by decide +kernel
theorem dX6_bring_44 : decode cX6_bring 44 = .ok (.istore_n 3, 1) := by decide +kernel
theorem dX6_bring_45 : decode cX6_bring 45 = .ok (.aload_n 2, 1) := by decide +kernel
theorem dX6_bring_46 : decode cX6_bring 46 = .ok (.dup, 1) := by decide +kernel
theorem dX6_bring_47 : decode cX6_bring 47 = .ok (.getfield 76, 3) := by decide +kernel
theorem dX6_bring_50 : decode cX6_bring 50 = .ok (.iload_n 3, 1) := by decide +kernel
theorem dX6_bring_51 : decode cX6_bring 51 = .ok (.iadd, 1) := by decide +kernel
theorem dX6_bring_52 : decode cX6_bring 52 = .ok (.putfield 76, 3) := by decide +kernel
theorem dX6_bring_55 : decode cX6_bring 55 = .ok (.aload_n 0, 1) := by decide +kernel
theorem dX6_bring_56 : decode cX6_bring 56 = .ok (.getfield 10, 3) := by decide +kernel
theorem dX6_bring_59 : decode cX6_bring 59 = .ok (.dup, 1) := by decide +kernel
theorem dX6_bring_60 : decode cX6_bring 60 = .ok (.getfield 85, 3) := by decide +kernel
theorem dX6_bring_63 : decode cX6_bring 63 = .ok (.iload_n 3, 1) := by decide +kernel
theorem dX6_bring_64 : decode cX6_bring 64 = .ok (.iadd, 1) := by decide +kernel
theorem dX6_bring_65 : decode cX6_bring 65 = .ok (.putfield 85, 3) := by decide +kernel
theorem dX6_bring_68 : decode cX6_bring 68 = .ok (.iload_n 3, 1) := by decide +kernel
theorem dX6_bring_69 : decode cX6_bring 69 = .ok (.ireturn, 1) := by decide +kernel
theorem dX6_read_0 : decode cX6_read 0 = .ok (.aload_n 0, 1) := by decide +kernel
theorem dX6_read_1 : decode cX6_read 1 = .ok (.getfield 37, 3) := by decide +kernel
theorem dX6_read_4 : decode cX6_read 4 = .ok (.invokevirtual 88, 3) := by decide +kernel
theorem dX6_read_7 : decode cX6_read 7 = .ok (.bipush (-6), 2) := by decide +kernel
theorem dX6_read_9 : decode cX6_read 9 = .ok (.if_icmp .eq 6, 3) := by decide +kernel
theorem dX6_read_12 : decode cX6_read 12 = .ok (.bipush (-3), 2) := by decide +kernel
theorem dX6_read_14 : decode cX6_read 14 = .ok (.ireturn, 1) := by decide +kernel
theorem dX6_read_15 : decode cX6_read 15 = .ok (.aload_n 0, 1) := by decide +kernel
theorem dX6_read_16 : decode cX6_read 16 = .ok (.getfield 10, 3) := by decide +kernel
theorem dX6_read_19 : decode cX6_read 19 = .ok (.getfield 91, 3) := by decide +kernel
theorem dX6_read_22 : decode cX6_read 22 = .ok (.aload_n 0, 1) := by decide +kernel
theorem dX6_read_23 : decode cX6_read 23 = .ok (.getfield 37, 3) := by decide +kernel
theorem dX6_read_26 : decode cX6_read 26 = .ok (.invokevirtual 94, 3) := by decide +kernel
theorem dX6_read_29 : decode cX6_read 29 = .ok (.iadd, 1) := by decide +kernel
theorem dX6_read_30 : decode cX6_read 30 = .ok (.bipush 24, 2) := by decide +kernel
theorem dX6_read_32 : decode cX6_read 32 = .ok (.if_icmp .le 6, 3) := by decide +kernel
theorem dX6_read_35 : decode cX6_read 35 = .ok (.bipush (-4), 2) := by decide +kernel
theorem dX6_read_37 : decode cX6_read 37 = .ok (.ireturn, 1) := by decide +kernel
theorem dX6_read_38 : decode cX6_read 38 = .ok (.aload_n 0, 1) := by decide +kernel
theorem dX6_read_39 : decode cX6_read 39 = .ok (.getfield 22, 3) := by decide +kernel
theorem dX6_read_42 : decode cX6_read 42 = .ok (.aload_n 0, 1) := by decide +kernel
theorem dX6_read_43 : decode cX6_read 43 = .ok (.getfield 10, 3) := by decide +kernel
theorem dX6_read_46 : decode cX6_read 46 = .ok (.invokevirtual 51, 3) := by decide +kernel
theorem dX6_read_49 : decode cX6_read 49 = .ok (.aload_n 0, 1) := by decide +kernel
theorem dX6_read_50 : decode cX6_read 50 = .ok (.getfield 10, 3) := by decide +kernel
theorem dX6_read_53 : decode cX6_read 53 = .ok (.aload_n 0, 1) := by decide +kernel
theorem dX6_read_54 : decode cX6_read 54 = .ok (.getfield 37, 3) := by decide +kernel
theorem dX6_read_57 : decode cX6_read 57 = .ok (.invokevirtual 97, 3) := by decide +kernel
theorem dX6_read_60 : decode cX6_read 60 = .ok (.aload_n 0, 1) := by decide +kernel
theorem dX6_read_61 : decode cX6_read 61 = .ok (.getfield 37, 3) := by decide +kernel
theorem dX6_read_64 : decode cX6_read 64 = .ok (.invokevirtual 101, 3) := by decide +kernel
theorem dX6_read_67 : decode cX6_read 67 = .ok (.aload_n 0, 1) := by decide +kernel
theorem dX6_read_68 : decode cX6_read 68 = .ok (.getfield 10, 3) := by decide +kernel
theorem dX6_read_71 : decode cX6_read 71 = .ok (.getfield 91, 3) := by decide +kernel
theorem dX6_read_74 : decode cX6_read 74 = .ok (.ireturn, 1) := by decide +kernel
theorem dX6_leave_0 : decode cX6_leave 0 = .ok (.aload_n 0, 1) := by decide +kernel
theorem dX6_leave_1 : decode cX6_leave 1 = .ok (.getfield 10, 3) := by decide +kernel
theorem dX6_leave_4 : decode cX6_leave 4 = .ok (.iload_n 1, 1) := by decide +kernel
theorem dX6_leave_5 : decode cX6_leave 5 = .ok (.invokevirtual 104, 3) := by decide +kernel
theorem dX6_leave_8 : decode cX6_leave 8 = .ok (.astore_n 2, 1) := by decide +kernel
theorem dX6_leave_9 : decode cX6_leave 9 = .ok (.aload_n 2, 1) := by decide +kernel
theorem dX6_leave_10 : decode cX6_leave 10 = .ok (.ifnonnull 5, 3) := by decide +kernel
theorem dX6_leave_13 : decode cX6_leave 13 = .ok (.iconst (-1), 1) := by decide +kernel
theorem dX6_leave_14 : decode cX6_leave 14 = .ok (.ireturn, 1) := by decide +kernel
theorem dX6_leave_15 : decode cX6_leave 15 = .ok (.aload_n 2, 1) := by decide +kernel
theorem dX6_leave_16 : decode cX6_leave 16 = .ok (.getfield 108, 3) := by decide +kernel
theorem dX6_leave_19 : decode cX6_leave 19 = .ok (.ifCond .eq 6, 3) := by decide +kernel
theorem dX6_leave_22 : decode cX6_leave 22 = .ok (.bipush (-5), 2) := by decide +kernel
theorem dX6_leave_24 : decode cX6_leave 24 = .ok (.ireturn, 1) := by decide +kernel
theorem dX6_leave_25 : decode cX6_leave 25 = .ok (.aload_n 0, 1) := by decide +kernel
theorem dX6_leave_26 : decode cX6_leave 26 = .ok (.getfield 22, 3) := by decide +kernel
theorem dX6_leave_29 : decode cX6_leave 29 = .ok (.aload_n 0, 1) := by decide +kernel
theorem dX6_leave_30 : decode cX6_leave 30 = .ok (.getfield 10, 3) := by decide +kernel
theorem dX6_leave_33 : decode cX6_leave 33 = .ok (.invokevirtual 51, 3) := by decide +kernel
theorem dX6_leave_36 : decode cX6_leave 36 = .ok (.aload_n 0, 1) := by decide +kernel
theorem dX6_leave_37 : decode cX6_leave 37 = .ok (.getfield 10, 3) := by decide +kernel
theorem dX6_leave_40 : decode cX6_leave 40 = .ok (.aload_n 2, 1) := by decide +kernel
theorem dX6_leave_41 : decode cX6_leave 41 = .ok (.aload_n 0, 1) := by decide +kernel
theorem dX6_leave_42 : decode cX6_leave 42 = .ok (.getfield 10, 3) := by decide +kernel
theorem dX6_leave_45 : decode cX6_leave 45 = .ok (.getfield 113, 3) := by decide +kernel
theorem dX6_leave_48 : decode cX6_leave 48 = .ok (.invokevirtual 116, 3) := by decide +kernel
theorem dX6_leave_51 : decode cX6_leave 51 = .ok (.aload_n 2, 1) := by decide +kernel
theorem dX6_leave_52 : decode cX6_leave 52 = .ok (.getfield 120, 3) := by decide +kernel
theorem dX6_leave_55 : decode cX6_leave 55 = .ok (.ireturn, 1) := by decide +kernel
theorem dX6_pass_0 : decode cX6_pass 0 = .ok (.iload_n 1, 1) := by decide +kernel
theorem dX6_pass_1 : decode cX6_pass 1 = .ok (.iconst 1, 1) := by decide +kernel
theorem dX6_pass_2 : decode cX6_pass 2 = .ok (.if_icmp .lt 9, 3) := by decide +kernel
theorem dX6_pass_5 : decode cX6_pass 5 = .ok (.iload_n 1, 1) := by decide +kernel
theorem dX6_pass_6 : decode cX6_pass 6 = .ok (.bipush 99, 2) := by decide +kernel
theorem dX6_pass_8 : decode cX6_pass 8 = .ok (.if_icmp .le 6, 3) := by decide +kernel
theorem dX6_pass_11 : decode cX6_pass 11 = .ok (.bipush (-2), 2) := by decide +kernel
theorem dX6_pass_13 : decode cX6_pass 13 = .ok (.ireturn, 1) := by decide +kernel
theorem dX6_pass_14 : decode cX6_pass 14 = .ok (.aload_n 0, 1) := by decide +kernel
theorem dX6_pass_15 : decode cX6_pass 15 = .ok (.getfield 10, 3) := by decide +kernel
theorem dX6_pass_18 : decode cX6_pass 18 = .ok (.getfield 113, 3) := by decide +kernel
theorem dX6_pass_21 : decode cX6_pass 21 = .ok (.iload_n 1, 1) := by decide +kernel
theorem dX6_pass_22 : decode cX6_pass 22 = .ok (.iadd, 1) := by decide +kernel
theorem dX6_pass_23 : decode cX6_pass 23 = .ok (.sipush 9999, 3) := by decide +kernel
theorem dX6_pass_26 : decode cX6_pass 26 = .ok (.if_icmp .le 6, 3) := by decide +kernel
theorem dX6_pass_29 : decode cX6_pass 29 = .ok (.bipush (-4), 2) := by decide +kernel
theorem dX6_pass_31 : decode cX6_pass 31 = .ok (.ireturn, 1) := by decide +kernel
theorem dX6_pass_32 : decode cX6_pass 32 = .ok (.aload_n 0, 1) := by decide +kernel
theorem dX6_pass_33 : decode cX6_pass 33 = .ok (.getfield 22, 3) := by decide +kernel
theorem dX6_pass_36 : decode cX6_pass 36 = .ok (.aload_n 0, 1) := by decide +kernel
theorem dX6_pass_37 : decode cX6_pass 37 = .ok (.getfield 10, 3) := by decide +kernel
theorem dX6_pass_40 : decode cX6_pass 40 = .ok (.invokevirtual 51, 3) := by decide +kernel
theorem dX6_pass_43 : decode cX6_pass 43 = .ok (.aload_n 0, 1) := by decide +kernel
theorem dX6_pass_44 : decode cX6_pass 44 = .ok (.getfield 10, 3) := by decide +kernel
theorem dX6_pass_47 : decode cX6_pass 47 = .ok (.iconst 2, 1) := by decide +kernel
theorem dX6_pass_48 : decode cX6_pass 48 = .ok (.invokevirtual 123, 3) := by decide +kernel
theorem dX6_pass_51 : decode cX6_pass 51 = .ok (.istore_n 2, 1) := by decide +kernel
theorem dX6_pass_52 : decode cX6_pass 52 = .ok (.iconst 0, 1) := by decide +kernel
theorem dX6_pass_53 : decode cX6_pass 53 = .ok (.istore_n 3, 1) := by decide +kernel
theorem dX6_pass_54 : decode cX6_pass 54 = .ok (.iload_n 3, 1) := by decide +kernel
theorem dX6_pass_55 : decode cX6_pass 55 = .ok (.iload_n 1, 1) := by decide +kernel
theorem dX6_pass_56 : decode cX6_pass 56 = .ok (.if_icmp .ge 16, 3) := by decide +kernel
theorem dX6_pass_59 : decode cX6_pass 59 = .ok (.aload_n 0, 1) := by decide +kernel
theorem dX6_pass_60 : decode cX6_pass 60 = .ok (.getfield 10, 3) := by decide +kernel
theorem dX6_pass_63 : decode cX6_pass 63 = .ok (.invokevirtual 127, 3) := by decide +kernel
theorem dX6_pass_66 : decode cX6_pass 66 = .ok (.iinc 3 1, 3) := by decide +kernel
theorem dX6_pass_69 : decode cX6_pass 69 = .ok (.goto (-15), 3) := by decide +kernel
theorem dX6_pass_72 : decode cX6_pass 72 = .ok (.aload_n 0, 1) := by decide +kernel
theorem dX6_pass_73 : decode cX6_pass 73 = .ok (.getfield 10, 3) := by decide +kernel
theorem dX6_pass_76 : decode cX6_pass 76 = .ok (.iconst 2, 1) := by decide +kernel
theorem dX6_pass_77 : decode cX6_pass 77 = .ok (.invokevirtual 123, 3) := by decide +kernel
theorem dX6_pass_80 : decode cX6_pass 80 = .ok (.iload_n 2, 1) := by decide +kernel
theorem dX6_pass_81 : decode cX6_pass 81 = .ok (.isub, 1) := by decide +kernel
theorem dX6_pass_82 : decode cX6_pass 82 = .ok (.ireturn, 1) := by decide +kernel
theorem dX6_person_0 : decode cX6_person 0 = .ok (.aload_n 0, 1) := by decide +kernel
theorem dX6_person_1 : decode cX6_person 1 = .ok (.getfield 10, 3) := by decide +kernel
theorem dX6_person_4 : decode cX6_person 4 = .ok (.iload_n 1, 1) := by decide +kernel
theorem dX6_person_5 : decode cX6_person 5 = .ok (.invokevirtual 104, 3) := by decide +kernel
theorem dX6_person_8 : decode cX6_person 8 = .ok (.astore_n 3, 1) := by decide +kernel
theorem dX6_person_9 : decode cX6_person 9 = .ok (.aload_n 3, 1) := by decide +kernel
theorem dX6_person_10 : decode cX6_person 10 = .ok (.ifnonnull 5, 3) := by decide +kernel
theorem dX6_person_13 : decode cX6_person 13 = .ok (.iconst (-1), 1) := by decide +kernel
theorem dX6_person_14 : decode cX6_person 14 = .ok (.ireturn, 1) := by decide +kernel
theorem dX6_person_15 : decode cX6_person 15 = .ok (.iload_n 2, 1) := by decide +kernel
theorem dX6_person_16 : decode cX6_person 16 = .ok (.ifCond .lt 9, 3) := by decide +kernel
theorem dX6_person_19 : decode cX6_person 19 = .ok (.iload_n 2, 1) := by decide +kernel
theorem dX6_person_20 : decode cX6_person 20 = .ok (.bipush 8, 2) := by decide +kernel
theorem dX6_person_22 : decode cX6_person 22 = .ok (.if_icmp .le 6, 3) := by decide +kernel
theorem dX6_person_25 : decode cX6_person 25 = .ok (.bipush (-2), 2) := by decide +kernel
theorem dX6_person_27 : decode cX6_person 27 = .ok (.ireturn, 1) := by decide +kernel
theorem dX6_person_28 : decode cX6_person 28 = .ok (.iload_n 2, 1) := by decide +kernel
theorem dX6_person_29 : decode cX6_person 29 = .ok (.tableswitch 99 0 7 #[47, 52, 57, 66, 79, 84, 89, 94], 47) := by decide +kernel
theorem dX6_person_76 : decode cX6_person 76 = .ok (.aload_n 3, 1) := by decide +kernel
theorem dX6_person_77 : decode cX6_person 77 = .ok (.getfield 108, 3) := by decide +kernel
theorem dX6_person_80 : decode cX6_person 80 = .ok (.ireturn, 1) := by decide +kernel
theorem dX6_person_81 : decode cX6_person 81 = .ok (.aload_n 3, 1) := by decide +kernel
theorem dX6_person_82 : decode cX6_person 82 = .ok (.invokevirtual 130, 3) := by decide +kernel
theorem dX6_person_85 : decode cX6_person 85 = .ok (.ireturn, 1) := by decide +kernel
theorem dX6_person_86 : decode cX6_person 86 = .ok (.aload_n 0, 1) := by decide +kernel
theorem dX6_person_87 : decode cX6_person 87 = .ok (.getfield 10, 3) := by decide +kernel
theorem dX6_person_90 : decode cX6_person 90 = .ok (.aload_n 3, 1) := by decide +kernel
theorem dX6_person_91 : decode cX6_person 91 = .ok (.invokevirtual 133, 3) := by decide +kernel
theorem dX6_person_94 : decode cX6_person 94 = .ok (.ireturn, 1) := by decide +kernel
theorem dX6_person_95 : decode cX6_person 95 = .ok (.aload_n 3, 1) := by decide +kernel
theorem dX6_person_96 : decode cX6_person 96 = .ok (.getfield 137, 3) := by decide +kernel
theorem dX6_person_99 : decode cX6_person 99 = .ok (.ifCond .eq 7, 3) := by decide +kernel
theorem dX6_person_102 : decode cX6_person 102 = .ok (.iconst 1, 1) := by decide +kernel
theorem dX6_person_103 : decode cX6_person 103 = .ok (.goto 4, 3) := by decide +kernel
theorem dX6_person_106 : decode cX6_person 106 = .ok (.iconst 0, 1) := by decide +kernel
theorem dX6_person_107 : decode cX6_person 107 = .ok (.ireturn, 1) := by decide +kernel
theorem dX6_person_108 : decode cX6_person 108 = .ok (.aload_n 3, 1) := by decide +kernel
theorem dX6_person_109 : decode cX6_person 109 = .ok (.getfield 120, 3) := by decide +kernel
theorem dX6_person_112 : decode cX6_person 112 = .ok (.ireturn, 1) := by decide +kernel
theorem dX6_person_113 : decode cX6_person 113 = .ok (.aload_n 3, 1) := by decide +kernel
theorem dX6_person_114 : decode cX6_person 114 = .ok (.getfield 140, 3) := by decide +kernel
theorem dX6_person_117 : decode cX6_person 117 = .ok (.ireturn, 1) := by decide +kernel
theorem dX6_person_118 : decode cX6_person 118 = .ok (.aload_n 3, 1) := by decide +kernel
theorem dX6_person_119 : decode cX6_person 119 = .ok (.getfield 143, 3) := by decide +kernel
theorem dX6_person_122 : decode cX6_person 122 = .ok (.ireturn, 1) := by decide +kernel
theorem dX6_person_123 : decode cX6_person 123 = .ok (.aload_n 3, 1) := by decide +kernel
theorem dX6_person_124 : decode cX6_person 124 = .ok (.getfield 146, 3) := by decide +kernel
theorem dX6_person_127 : decode cX6_person 127 = .ok (.ireturn, 1) := by decide +kernel
theorem dX6_person_128 : decode cX6_person 128 = .ok (.aload_n 3, 1) := by decide +kernel
theorem dX6_person_129 : decode cX6_person 129 = .ok (.getfield 149, 3) := by decide +kernel
theorem dX6_person_132 : decode cX6_person 132 = .ok (.ireturn, 1) := by decide +kernel
theorem dX6_windowOf_0 : decode cX6_windowOf 0 = .ok (.aload_n 0, 1) := by decide +kernel
theorem dX6_windowOf_1 : decode cX6_windowOf 1 = .ok (.getfield 10, 3) := by decide +kernel
theorem dX6_windowOf_4 : decode cX6_windowOf 4 = .ok (.iload_n 1, 1) := by decide +kernel
theorem dX6_windowOf_5 : decode cX6_windowOf 5 = .ok (.invokevirtual 58, 3) := by decide +kernel
theorem dX6_windowOf_8 : decode cX6_windowOf 8 = .ok (.astore_n 3, 1) := by decide +kernel
theorem dX6_windowOf_9 : decode cX6_windowOf 9 = .ok (.aload_n 3, 1) := by decide +kernel
theorem dX6_windowOf_10 : decode cX6_windowOf 10 = .ok (.ifnonnull 5, 3) := by decide +kernel
theorem dX6_windowOf_13 : decode cX6_windowOf 13 = .ok (.iconst (-1), 1) := by decide +kernel
theorem dX6_windowOf_14 : decode cX6_windowOf 14 = .ok (.ireturn, 1) := by decide +kernel
theorem dX6_windowOf_15 : decode cX6_windowOf 15 = .ok (.iload_n 2, 1) := by decide +kernel
theorem dX6_windowOf_16 : decode cX6_windowOf 16 = .ok (.ifCond .lt 9, 3) := by decide +kernel
theorem dX6_windowOf_19 : decode cX6_windowOf 19 = .ok (.iload_n 2, 1) := by decide +kernel
theorem dX6_windowOf_20 : decode cX6_windowOf 20 = .ok (.bipush 6, 2) := by decide +kernel
theorem dX6_windowOf_22 : decode cX6_windowOf 22 = .ok (.if_icmp .le 6, 3) := by decide +kernel
theorem dX6_windowOf_25 : decode cX6_windowOf 25 = .ok (.bipush (-2), 2) := by decide +kernel
theorem dX6_windowOf_27 : decode cX6_windowOf 27 = .ok (.ireturn, 1) := by decide +kernel
theorem dX6_windowOf_28 : decode cX6_windowOf 28 = .ok (.iload_n 2, 1) := by decide +kernel
theorem dX6_windowOf_29 : decode cX6_windowOf 29 = .ok (.tableswitch 83 0 5 #[39, 52, 57, 62, 70, 78], 39) := by decide +kernel
theorem dX6_windowOf_68 : decode cX6_windowOf 68 = .ok (.aload_n 3, 1) := by decide +kernel
theorem dX6_windowOf_69 : decode cX6_windowOf 69 = .ok (.getfield 62, 3) := by decide +kernel
theorem dX6_windowOf_72 : decode cX6_windowOf 72 = .ok (.ifCond .eq 7, 3) := by decide +kernel
theorem dX6_windowOf_75 : decode cX6_windowOf 75 = .ok (.iconst 1, 1) := by decide +kernel
theorem dX6_windowOf_76 : decode cX6_windowOf 76 = .ok (.goto 4, 3) := by decide +kernel
theorem dX6_windowOf_79 : decode cX6_windowOf 79 = .ok (.iconst 0, 1) := by decide +kernel
theorem dX6_windowOf_80 : decode cX6_windowOf 80 = .ok (.ireturn, 1) := by decide +kernel
theorem dX6_windowOf_81 : decode cX6_windowOf 81 = .ok (.aload_n 3, 1) := by decide +kernel
theorem dX6_windowOf_82 : decode cX6_windowOf 82 = .ok (.getfield 72, 3) := by decide +kernel
theorem dX6_windowOf_85 : decode cX6_windowOf 85 = .ok (.ireturn, 1) := by decide +kernel
theorem dX6_windowOf_86 : decode cX6_windowOf 86 = .ok (.aload_n 3, 1) := by decide +kernel
theorem dX6_windowOf_87 : decode cX6_windowOf 87 = .ok (.getfield 76, 3) := by decide +kernel
theorem dX6_windowOf_90 : decode cX6_windowOf 90 = .ok (.ireturn, 1) := by decide +kernel
theorem dX6_windowOf_91 : decode cX6_windowOf 91 = .ok (.aload_n 3, 1) := by decide +kernel
theorem dX6_windowOf_92 : decode cX6_windowOf 92 = .ok (.getfield 152, 3) := by decide +kernel
theorem dX6_windowOf_95 : decode cX6_windowOf 95 = .ok (.invokevirtual 156, 3) := by decide +kernel
theorem dX6_windowOf_98 : decode cX6_windowOf 98 = .ok (.ireturn, 1) := by decide +kernel
theorem dX6_windowOf_99 : decode cX6_windowOf 99 = .ok (.aload_n 3, 1) := by decide +kernel
theorem dX6_windowOf_100 : decode cX6_windowOf 100 = .ok (.getfield 161, 3) := by decide +kernel
theorem dX6_windowOf_103 : decode cX6_windowOf 103 = .ok (.invokevirtual 156, 3) := by decide +kernel
theorem dX6_windowOf_106 : decode cX6_windowOf 106 = .ok (.ireturn, 1) := by decide +kernel
theorem dX6_windowOf_107 : decode cX6_windowOf 107 = .ok (.aload_n 3, 1) := by decide +kernel
theorem dX6_windowOf_108 : decode cX6_windowOf 108 = .ok (.getfield 164, 3) := by decide +kernel
theorem dX6_windowOf_111 : decode cX6_windowOf 111 = .ok (.ireturn, 1) := by decide +kernel
theorem dX6_windowOf_112 : decode cX6_windowOf 112 = .ok (.aload_n 3, 1) := by decide +kernel
theorem dX6_windowOf_113 : decode cX6_windowOf 113 = .ok (.getfield 167, 3) := by decide +kernel
theorem dX6_windowOf_116 : decode cX6_windowOf 116 = .ok (.ireturn, 1) := by decide +kernel
theorem dX6_count_0 : decode cX6_count 0 = .ok (.iload_n 1, 1) := by decide +kernel
theorem dX6_count_1 : decode cX6_count 1 = .ok (.tableswitch 209 0 16 #[83, 83, 83, 93, 101, 109, 118, 127, 136, 145, 153, 161, 169, 177, 185, 193, 201], 83) := by decide +kernel
theorem dX6_count_84 : decode cX6_count 84 = .ok (.aload_n 0, 1) := by decide +kernel
theorem dX6_count_85 : decode cX6_count 85 = .ok (.getfield 10, 3) := by decide +kernel
theorem dX6_count_88 : decode cX6_count 88 = .ok (.getfield 55, 3) := by decide +kernel
theorem dX6_count_91 : decode cX6_count 91 = .ok (.iload_n 1, 1) := by decide +kernel
theorem dX6_count_92 : decode cX6_count 92 = .ok (.iaload, 1) := by decide +kernel
theorem dX6_count_93 : decode cX6_count 93 = .ok (.ireturn, 1) := by decide +kernel
theorem dX6_count_94 : decode cX6_count 94 = .ok (.aload_n 0, 1) := by decide +kernel
theorem dX6_count_95 : decode cX6_count 95 = .ok (.getfield 10, 3) := by decide +kernel
theorem dX6_count_98 : decode cX6_count 98 = .ok (.getfield 113, 3) := by decide +kernel
theorem dX6_count_101 : decode cX6_count 101 = .ok (.ireturn, 1) := by decide +kernel
theorem dX6_count_102 : decode cX6_count 102 = .ok (.aload_n 0, 1) := by decide +kernel
theorem dX6_count_103 : decode cX6_count 103 = .ok (.getfield 10, 3) := by decide +kernel
theorem dX6_count_106 : decode cX6_count 106 = .ok (.getfield 91, 3) := by decide +kernel
theorem dX6_count_109 : decode cX6_count 109 = .ok (.ireturn, 1) := by decide +kernel
theorem dX6_count_110 : decode cX6_count 110 = .ok (.aload_n 0, 1) := by decide +kernel
theorem dX6_count_111 : decode cX6_count 111 = .ok (.getfield 10, 3) := by decide +kernel
theorem dX6_count_114 : decode cX6_count 114 = .ok (.iconst 0, 1) := by decide +kernel
theorem dX6_count_115 : decode cX6_count 115 = .ok (.invokevirtual 123, 3) := by decide +kernel
theorem dX6_count_118 : decode cX6_count 118 = .ok (.ireturn, 1) := by decide +kernel
theorem dX6_count_119 : decode cX6_count 119 = .ok (.aload_n 0, 1) := by decide +kernel
theorem dX6_count_120 : decode cX6_count 120 = .ok (.getfield 10, 3) := by decide +kernel
theorem dX6_count_123 : decode cX6_count 123 = .ok (.iconst 1, 1) := by decide +kernel
theorem dX6_count_124 : decode cX6_count 124 = .ok (.invokevirtual 123, 3) := by decide +kernel
theorem dX6_count_127 : decode cX6_count 127 = .ok (.ireturn, 1) := by decide +kernel
theorem dX6_count_128 : decode cX6_count 128 = .ok (.aload_n 0, 1) := by decide +kernel
theorem dX6_count_129 : decode cX6_count 129 = .ok (.getfield 10, 3) := by decide +kernel
theorem dX6_count_132 : decode cX6_count 132 = .ok (.iconst 2, 1) := by decide +kernel
theorem dX6_count_133 : decode cX6_count 133 = .ok (.invokevirtual 123, 3) := by decide +kernel
theorem dX6_count_136 : decode cX6_count 136 = .ok (.ireturn, 1) := by decide +kernel
theorem dX6_count_137 : decode cX6_count 137 = .ok (.aload_n 0, 1) := by decide +kernel
theorem dX6_count_138 : decode cX6_count 138 = .ok (.getfield 10, 3) := by decide +kernel
theorem dX6_count_141 : decode cX6_count 141 = .ok (.iconst 3, 1) := by decide +kernel
theorem dX6_count_142 : decode cX6_count 142 = .ok (.invokevirtual 123, 3) := by decide +kernel
theorem dX6_count_145 : decode cX6_count 145 = .ok (.ireturn, 1) := by decide +kernel
theorem dX6_count_146 : decode cX6_count 146 = .ok (.aload_n 0, 1) := by decide +kernel
theorem dX6_count_147 : decode cX6_count 147 = .ok (.getfield 10, 3) := by decide +kernel
theorem dX6_count_150 : decode cX6_count 150 = .ok (.invokevirtual 168, 3) := by decide +kernel
theorem dX6_count_153 : decode cX6_count 153 = .ok (.ireturn, 1) := by decide +kernel
theorem dX6_count_154 : decode cX6_count 154 = .ok (.aload_n 0, 1) := by decide +kernel
theorem dX6_count_155 : decode cX6_count 155 = .ok (.getfield 10, 3) := by decide +kernel
theorem dX6_count_158 : decode cX6_count 158 = .ok (.invokevirtual 171, 3) := by decide +kernel
theorem dX6_count_161 : decode cX6_count 161 = .ok (.ireturn, 1) := by decide +kernel
theorem dX6_count_162 : decode cX6_count 162 = .ok (.aload_n 0, 1) := by decide +kernel
theorem dX6_count_163 : decode cX6_count 163 = .ok (.getfield 10, 3) := by decide +kernel
theorem dX6_count_166 : decode cX6_count 166 = .ok (.getfield 174, 3) := by decide +kernel
theorem dX6_count_169 : decode cX6_count 169 = .ok (.ireturn, 1) := by decide +kernel
theorem dX6_count_170 : decode cX6_count 170 = .ok (.aload_n 0, 1) := by decide +kernel
theorem dX6_count_171 : decode cX6_count 171 = .ok (.getfield 10, 3) := by decide +kernel
theorem dX6_count_174 : decode cX6_count 174 = .ok (.getfield 85, 3) := by decide +kernel
theorem dX6_count_177 : decode cX6_count 177 = .ok (.ireturn, 1) := by decide +kernel
theorem dX6_count_178 : decode cX6_count 178 = .ok (.aload_n 0, 1) := by decide +kernel
theorem dX6_count_179 : decode cX6_count 179 = .ok (.getfield 10, 3) := by decide +kernel
theorem dX6_count_182 : decode cX6_count 182 = .ok (.invokevirtual 177, 3) := by decide +kernel
theorem dX6_count_185 : decode cX6_count 185 = .ok (.ireturn, 1) := by decide +kernel
theorem dX6_count_186 : decode cX6_count 186 = .ok (.aload_n 0, 1) := by decide +kernel
theorem dX6_count_187 : decode cX6_count 187 = .ok (.getfield 10, 3) := by decide +kernel
theorem dX6_count_190 : decode cX6_count 190 = .ok (.invokevirtual 179, 3) := by decide +kernel
theorem dX6_count_193 : decode cX6_count 193 = .ok (.ireturn, 1) := by decide +kernel
theorem dX6_count_194 : decode cX6_count 194 = .ok (.aload_n 0, 1) := by decide +kernel
theorem dX6_count_195 : decode cX6_count 195 = .ok (.getfield 37, 3) := by decide +kernel
theorem dX6_count_198 : decode cX6_count 198 = .ok (.invokevirtual 182, 3) := by decide +kernel
theorem dX6_count_201 : decode cX6_count 201 = .ok (.ireturn, 1) := by decide +kernel
theorem dX6_count_202 : decode cX6_count 202 = .ok (.aload_n 0, 1) := by decide +kernel
theorem dX6_count_203 : decode cX6_count 203 = .ok (.getfield 22, 3) := by decide +kernel
theorem dX6_count_206 : decode cX6_count 206 = .ok (.invokevirtual 183, 3) := by decide +kernel
theorem dX6_count_209 : decode cX6_count 209 = .ok (.ireturn, 1) := by decide +kernel
theorem dX6_count_210 : decode cX6_count 210 = .ok (.bipush (-2), 2) := by decide +kernel
theorem dX6_count_212 : decode cX6_count 212 = .ok (.ireturn, 1) := by decide +kernel
theorem dX6_untilDone_0 : decode cX6_untilDone 0 = .ok (.aload_n 0, 1) := by decide +kernel
theorem dX6_untilDone_1 : decode cX6_untilDone 1 = .ok (.getfield 10, 3) := by decide +kernel
theorem dX6_untilDone_4 : decode cX6_untilDone 4 = .ok (.iload_n 1, 1) := by decide +kernel
theorem dX6_untilDone_5 : decode cX6_untilDone 5 = .ok (.invokevirtual 104, 3) := by decide +kernel
theorem dX6_untilDone_8 : decode cX6_untilDone 8 = .ok (.astore_n 2, 1) := by decide +kernel
theorem dX6_untilDone_9 : decode cX6_untilDone 9 = .ok (.aload_n 2, 1) := by decide +kernel
theorem dX6_untilDone_10 : decode cX6_untilDone 10 = .ok (.ifnonnull 5, 3) := by decide +kernel
theorem dX6_untilDone_13 : decode cX6_untilDone 13 = .ok (.iconst (-1), 1) := by decide +kernel
theorem dX6_untilDone_14 : decode cX6_untilDone 14 = .ok (.ireturn, 1) := by decide +kernel
theorem dX6_untilDone_15 : decode cX6_untilDone 15 = .ok (.aload_n 2, 1) := by decide +kernel
theorem dX6_untilDone_16 : decode cX6_untilDone 16 = .ok (.getfield 108, 3) := by decide +kernel
theorem dX6_untilDone_19 : decode cX6_untilDone 19 = .ok (.iconst 2, 1) := by decide +kernel
theorem dX6_untilDone_20 : decode cX6_untilDone 20 = .ok (.if_icmp .ne 5, 3) := by decide +kernel
theorem dX6_untilDone_23 : decode cX6_untilDone 23 = .ok (.iconst 0, 1) := by decide +kernel
theorem dX6_untilDone_24 : decode cX6_untilDone 24 = .ok (.ireturn, 1) := by decide +kernel
theorem dX6_untilDone_25 : decode cX6_untilDone 25 = .ok (.aload_n 0, 1) := by decide +kernel
theorem dX6_untilDone_26 : decode cX6_untilDone 26 = .ok (.getfield 16, 3) := by decide +kernel
theorem dX6_untilDone_29 : decode cX6_untilDone 29 = .ok (.aload_n 0, 1) := by decide +kernel
theorem dX6_untilDone_30 : decode cX6_untilDone 30 = .ok (.getfield 10, 3) := by decide +kernel
theorem dX6_untilDone_33 : decode cX6_untilDone 33 = .ok (.invokevirtual 186, 3) := by decide +kernel
theorem dX6_untilDone_36 : decode cX6_untilDone 36 = .ok (.aload_n 0, 1) := by decide +kernel
theorem dX6_untilDone_37 : decode cX6_untilDone 37 = .ok (.getfield 16, 3) := by decide +kernel
theorem dX6_untilDone_40 : decode cX6_untilDone 40 = .ok (.iload_n 1, 1) := by decide +kernel
theorem dX6_untilDone_41 : decode cX6_untilDone 41 = .ok (.invokevirtual 104, 3) := by decide +kernel
theorem dX6_untilDone_44 : decode cX6_untilDone 44 = .ok (.astore_n 3, 1) := by decide +kernel
theorem dX6_untilDone_45 : decode cX6_untilDone 45 = .ok (.iconst 1, 1) := by decide +kernel
theorem dX6_untilDone_46 : decode cX6_untilDone 46 = .ok (.istore 4, 2) := by decide +kernel
theorem dX6_untilDone_48 : decode cX6_untilDone 48 = .ok (.iload 4, 2) := by decide +kernel
theorem dX6_untilDone_50 : decode cX6_untilDone 50 = .ok (.sipush 300, 3) := by decide +kernel
theorem dX6_untilDone_53 : decode cX6_untilDone 53 = .ok (.if_icmp .gt 31, 3) := by decide +kernel
theorem dX6_untilDone_56 : decode cX6_untilDone 56 = .ok (.aload_n 0, 1) := by decide +kernel
theorem dX6_untilDone_57 : decode cX6_untilDone 57 = .ok (.getfield 16, 3) := by decide +kernel
theorem dX6_untilDone_60 : decode cX6_untilDone 60 = .ok (.invokevirtual 127, 3) := by decide +kernel
theorem dX6_untilDone_63 : decode cX6_untilDone 63 = .ok (.aload_n 3, 1) := by decide +kernel
theorem dX6_untilDone_64 : decode cX6_untilDone 64 = .ok (.ifnull 14, 3) := by decide +kernel
theorem dX6_untilDone_67 : decode cX6_untilDone 67 = .ok (.aload_n 3, 1) := by decide +kernel
theorem dX6_untilDone_68 : decode cX6_untilDone 68 = .ok (.getfield 108, 3) := by decide +kernel
theorem dX6_untilDone_71 : decode cX6_untilDone 71 = .ok (.iconst 2, 1) := by decide +kernel
theorem dX6_untilDone_72 : decode cX6_untilDone 72 = .ok (.if_icmp .ne 6, 3) := by decide +kernel
theorem dX6_untilDone_75 : decode cX6_untilDone 75 = .ok (.iload 4, 2) := by decide +kernel
theorem dX6_untilDone_77 : decode cX6_untilDone 77 = .ok (.ireturn, 1) := by decide +kernel
theorem dX6_untilDone_78 : decode cX6_untilDone 78 = .ok (.iinc 4 1, 3) := by decide +kernel
theorem dX6_untilDone_81 : decode cX6_untilDone 81 = .ok (.goto (-33), 3) := by decide +kernel
theorem dX6_untilDone_84 : decode cX6_untilDone 84 = .ok (.bipush (-6), 2) := by decide +kernel
theorem dX6_untilDone_86 : decode cX6_untilDone 86 = .ok (.ireturn, 1) := by decide +kernel
theorem dX6_ifPassed_0 : decode cX6_ifPassed 0 = .ok (.iload_n 1, 1) := by decide +kernel
theorem dX6_ifPassed_1 : decode cX6_ifPassed 1 = .ok (.iconst 1, 1) := by decide +kernel
theorem dX6_ifPassed_2 : decode cX6_ifPassed 2 = .ok (.if_icmp .lt 19, 3) := by decide +kernel
theorem dX6_ifPassed_5 : decode cX6_ifPassed 5 = .ok (.iload_n 1, 1) := by decide +kernel
theorem dX6_ifPassed_6 : decode cX6_ifPassed 6 = .ok (.sipush 300, 3) := by decide +kernel
theorem dX6_ifPassed_9 : decode cX6_ifPassed 9 = .ok (.if_icmp .gt 12, 3) := by decide +kernel
theorem dX6_ifPassed_12 : decode cX6_ifPassed 12 = .ok (.iload_n 2, 1) := by decide +kernel
theorem dX6_ifPassed_13 : decode cX6_ifPassed 13 = .ok (.ifCond .lt 8, 3) := by decide +kernel
theorem dX6_ifPassed_16 : decode cX6_ifPassed 16 = .ok (.iload_n 2, 1) := by decide +kernel
theorem dX6_ifPassed_17 : decode cX6_ifPassed 17 = .ok (.iconst 3, 1) := by decide +kernel
theorem dX6_ifPassed_18 : decode cX6_ifPassed 18 = .ok (.if_icmp .le 6, 3) := by decide +kernel
theorem dX6_ifPassed_21 : decode cX6_ifPassed 21 = .ok (.bipush (-2), 2) := by decide +kernel
theorem dX6_ifPassed_23 : decode cX6_ifPassed 23 = .ok (.ireturn, 1) := by decide +kernel
theorem dX6_ifPassed_24 : decode cX6_ifPassed 24 = .ok (.aload_n 0, 1) := by decide +kernel
theorem dX6_ifPassed_25 : decode cX6_ifPassed 25 = .ok (.getfield 16, 3) := by decide +kernel
theorem dX6_ifPassed_28 : decode cX6_ifPassed 28 = .ok (.aload_n 0, 1) := by decide +kernel
theorem dX6_ifPassed_29 : decode cX6_ifPassed 29 = .ok (.getfield 10, 3) := by decide +kernel
theorem dX6_ifPassed_32 : decode cX6_ifPassed 32 = .ok (.invokevirtual 186, 3) := by decide +kernel
theorem dX6_ifPassed_35 : decode cX6_ifPassed 35 = .ok (.iconst 0, 1) := by decide +kernel
theorem dX6_ifPassed_36 : decode cX6_ifPassed 36 = .ok (.istore_n 3, 1) := by decide +kernel
theorem dX6_ifPassed_37 : decode cX6_ifPassed 37 = .ok (.iload_n 3, 1) := by decide +kernel
theorem dX6_ifPassed_38 : decode cX6_ifPassed 38 = .ok (.iload_n 1, 1) := by decide +kernel
theorem dX6_ifPassed_39 : decode cX6_ifPassed 39 = .ok (.if_icmp .ge 16, 3) := by decide +kernel
theorem dX6_ifPassed_42 : decode cX6_ifPassed 42 = .ok (.aload_n 0, 1) := by decide +kernel
theorem dX6_ifPassed_43 : decode cX6_ifPassed 43 = .ok (.getfield 16, 3) := by decide +kernel
theorem dX6_ifPassed_46 : decode cX6_ifPassed 46 = .ok (.invokevirtual 127, 3) := by decide +kernel
theorem dX6_ifPassed_49 : decode cX6_ifPassed 49 = .ok (.iinc 3 1, 3) := by decide +kernel
theorem dX6_ifPassed_52 : decode cX6_ifPassed 52 = .ok (.goto (-15), 3) := by decide +kernel
theorem dX6_ifPassed_55 : decode cX6_ifPassed 55 = .ok (.iload_n 2, 1) := by decide +kernel
theorem dX6_ifPassed_56 : decode cX6_ifPassed 56 = .ok (.tableswitch 80 0 2 #[28, 46, 64], 28) := by decide +kernel
theorem dX6_ifPassed_84 : decode cX6_ifPassed 84 = .ok (.aload_n 0, 1) := by decide +kernel
theorem dX6_ifPassed_85 : decode cX6_ifPassed 85 = .ok (.getfield 16, 3) := by decide +kernel
theorem dX6_ifPassed_88 : decode cX6_ifPassed 88 = .ok (.iconst 2, 1) := by decide +kernel
theorem dX6_ifPassed_89 : decode cX6_ifPassed 89 = .ok (.invokevirtual 123, 3) := by decide +kernel
theorem dX6_ifPassed_92 : decode cX6_ifPassed 92 = .ok (.aload_n 0, 1) := by decide +kernel
theorem dX6_ifPassed_93 : decode cX6_ifPassed 93 = .ok (.getfield 10, 3) := by decide +kernel
theorem dX6_ifPassed_96 : decode cX6_ifPassed 96 = .ok (.iconst 2, 1) := by decide +kernel
theorem dX6_ifPassed_97 : decode cX6_ifPassed 97 = .ok (.invokevirtual 123, 3) := by decide +kernel
theorem dX6_ifPassed_100 : decode cX6_ifPassed 100 = .ok (.isub, 1) := by decide +kernel
theorem dX6_ifPassed_101 : decode cX6_ifPassed 101 = .ok (.ireturn, 1) := by decide +kernel
theorem dX6_ifPassed_102 : decode cX6_ifPassed 102 = .ok (.aload_n 0, 1) := by decide +kernel
theorem dX6_ifPassed_103 : decode cX6_ifPassed 103 = .ok (.getfield 16, 3) := by decide +kernel
theorem dX6_ifPassed_106 : decode cX6_ifPassed 106 = .ok (.iconst 3, 1) := by decide +kernel
theorem dX6_ifPassed_107 : decode cX6_ifPassed 107 = .ok (.invokevirtual 123, 3) := by decide +kernel
theorem dX6_ifPassed_110 : decode cX6_ifPassed 110 = .ok (.aload_n 0, 1) := by decide +kernel
theorem dX6_ifPassed_111 : decode cX6_ifPassed 111 = .ok (.getfield 10, 3) := by decide +kernel
theorem dX6_ifPassed_114 : decode cX6_ifPassed 114 = .ok (.iconst 3, 1) := by decide +kernel
theorem dX6_ifPassed_115 : decode cX6_ifPassed 115 = .ok (.invokevirtual 123, 3) := by decide +kernel
theorem dX6_ifPassed_118 : decode cX6_ifPassed 118 = .ok (.isub, 1) := by decide +kernel
theorem dX6_ifPassed_119 : decode cX6_ifPassed 119 = .ok (.ireturn, 1) := by decide +kernel
theorem dX6_ifPassed_120 : decode cX6_ifPassed 120 = .ok (.aload_n 0, 1) := by decide +kernel
theorem dX6_ifPassed_121 : decode cX6_ifPassed 121 = .ok (.getfield 16, 3) := by decide +kernel
theorem dX6_ifPassed_124 : decode cX6_ifPassed 124 = .ok (.invokevirtual 177, 3) := by decide +kernel
theorem dX6_ifPassed_127 : decode cX6_ifPassed 127 = .ok (.aload_n 0, 1) := by decide +kernel
theorem dX6_ifPassed_128 : decode cX6_ifPassed 128 = .ok (.getfield 10, 3) := by decide +kernel
theorem dX6_ifPassed_131 : decode cX6_ifPassed 131 = .ok (.invokevirtual 177, 3) := by decide +kernel
theorem dX6_ifPassed_134 : decode cX6_ifPassed 134 = .ok (.isub, 1) := by decide +kernel
theorem dX6_ifPassed_135 : decode cX6_ifPassed 135 = .ok (.ireturn, 1) := by decide +kernel
theorem dX6_ifPassed_136 : decode cX6_ifPassed 136 = .ok (.aload_n 0, 1) := by decide +kernel
theorem dX6_ifPassed_137 : decode cX6_ifPassed 137 = .ok (.getfield 16, 3) := by decide +kernel
theorem dX6_ifPassed_140 : decode cX6_ifPassed 140 = .ok (.invokevirtual 179, 3) := by decide +kernel
theorem dX6_ifPassed_143 : decode cX6_ifPassed 143 = .ok (.aload_n 0, 1) := by decide +kernel
theorem dX6_ifPassed_144 : decode cX6_ifPassed 144 = .ok (.getfield 10, 3) := by decide +kernel
theorem dX6_ifPassed_147 : decode cX6_ifPassed 147 = .ok (.invokevirtual 179, 3) := by decide +kernel
theorem dX6_ifPassed_150 : decode cX6_ifPassed 150 = .ok (.isub, 1) := by decide +kernel
theorem dX6_ifPassed_151 : decode cX6_ifPassed 151 = .ok (.ireturn, 1) := by decide +kernel
theorem dX6_bestClerk_0 : decode cX6_bestClerk 0 = .ok (.bipush (-6), 2) := by decide +kernel
theorem dX6_bestClerk_2 : decode cX6_bestClerk 2 = .ok (.istore_n 1, 1) := by decide +kernel
theorem dX6_bestClerk_3 : decode cX6_bestClerk 3 = .ok (.aload_n 0, 1) := by decide +kernel
theorem dX6_bestClerk_4 : decode cX6_bestClerk 4 = .ok (.bipush (-6), 2) := by decide +kernel
theorem dX6_bestClerk_6 : decode cX6_bestClerk 6 = .ok (.invokevirtual 189, 3) := by decide +kernel
theorem dX6_bestClerk_9 : decode cX6_bestClerk 9 = .ok (.istore_n 2, 1) := by decide +kernel
theorem dX6_bestClerk_10 : decode cX6_bestClerk 10 = .ok (.iconst 0, 1) := by decide +kernel
theorem dX6_bestClerk_11 : decode cX6_bestClerk 11 = .ok (.istore_n 3, 1) := by decide +kernel
theorem dX6_bestClerk_12 : decode cX6_bestClerk 12 = .ok (.iload_n 3, 1) := by decide +kernel
theorem dX6_bestClerk_13 : decode cX6_bestClerk 13 = .ok (.bipush 6, 2) := by decide +kernel
theorem dX6_bestClerk_15 : decode cX6_bestClerk 15 = .ok (.if_icmp .ge 51, 3) := by decide +kernel
theorem dX6_bestClerk_18 : decode cX6_bestClerk 18 = .ok (.aload_n 0, 1) := by decide +kernel
theorem dX6_bestClerk_19 : decode cX6_bestClerk 19 = .ok (.getfield 10, 3) := by decide +kernel
theorem dX6_bestClerk_22 : decode cX6_bestClerk 22 = .ok (.iload_n 3, 1) := by decide +kernel
theorem dX6_bestClerk_23 : decode cX6_bestClerk 23 = .ok (.invokevirtual 58, 3) := by decide +kernel
theorem dX6_bestClerk_26 : decode cX6_bestClerk 26 = .ok (.astore 4, 2) := by decide +kernel
theorem dX6_bestClerk_28 : decode cX6_bestClerk 28 = .ok (.aload 4, 2) := by decide +kernel
theorem dX6_bestClerk_30 : decode cX6_bestClerk 30 = .ok (.ifnull 30, 3) := by decide +kernel
theorem dX6_bestClerk_33 : decode cX6_bestClerk 33 = .ok (.aload 4, 2) := by decide +kernel
theorem dX6_bestClerk_35 : decode cX6_bestClerk 35 = .ok (.getfield 72, 3) := by decide +kernel
theorem dX6_bestClerk_38 : decode cX6_bestClerk 38 = .ok (.iconst 3, 1) := by decide +kernel
theorem dX6_bestClerk_39 : decode cX6_bestClerk 39 = .ok (.if_icmp .ge 21, 3) := by decide +kernel
theorem dX6_bestClerk_42 : decode cX6_bestClerk 42 = .ok (.aload_n 0, 1) := by decide +kernel
theorem dX6_bestClerk_43 : decode cX6_bestClerk 43 = .ok (.iload_n 3, 1) := by decide +kernel
theorem dX6_bestClerk_44 : decode cX6_bestClerk 44 = .ok (.invokevirtual 189, 3) := by decide +kernel
theorem dX6_bestClerk_47 : decode cX6_bestClerk 47 = .ok (.istore 5, 2) := by decide +kernel
theorem dX6_bestClerk_49 : decode cX6_bestClerk 49 = .ok (.iload 5, 2) := by decide +kernel
theorem dX6_bestClerk_51 : decode cX6_bestClerk 51 = .ok (.iload_n 2, 1) := by decide +kernel
theorem dX6_bestClerk_52 : decode cX6_bestClerk 52 = .ok (.if_icmp .le 8, 3) := by decide +kernel
theorem dX6_bestClerk_55 : decode cX6_bestClerk 55 = .ok (.iload 5, 2) := by decide +kernel
theorem dX6_bestClerk_57 : decode cX6_bestClerk 57 = .ok (.istore_n 2, 1) := by decide +kernel
theorem dX6_bestClerk_58 : decode cX6_bestClerk 58 = .ok (.iload_n 3, 1) := by decide +kernel
theorem dX6_bestClerk_59 : decode cX6_bestClerk 59 = .ok (.istore_n 1, 1) := by decide +kernel
theorem dX6_bestClerk_60 : decode cX6_bestClerk 60 = .ok (.iinc 3 1, 3) := by decide +kernel
theorem dX6_bestClerk_63 : decode cX6_bestClerk 63 = .ok (.goto (-51), 3) := by decide +kernel
theorem dX6_bestClerk_66 : decode cX6_bestClerk 66 = .ok (.iload_n 1, 1) := by decide +kernel
theorem dX6_bestClerk_67 : decode cX6_bestClerk 67 = .ok (.ireturn, 1) := by decide +kernel
theorem dX6_doneWithOneMoreAt_0 : decode cX6_doneWithOneMoreAt 0 = .ok (.aload_n 0, 1) := by decide +kernel
theorem dX6_doneWithOneMoreAt_1 : decode cX6_doneWithOneMoreAt 1 = .ok (.getfield 16, 3) := by decide +kernel
theorem dX6_doneWithOneMoreAt_4 : decode cX6_doneWithOneMoreAt 4 = .ok (.aload_n 0, 1) := by decide +kernel
theorem dX6_doneWithOneMoreAt_5 : decode cX6_doneWithOneMoreAt 5 = .ok (.getfield 10, 3) := by decide +kernel
theorem dX6_doneWithOneMoreAt_8 : decode cX6_doneWithOneMoreAt 8 = .ok (.invokevirtual 186, 3) := by decide +kernel
theorem dX6_doneWithOneMoreAt_11 : decode cX6_doneWithOneMoreAt 11 = .ok (.aload_n 0, 1) := by decide +kernel
theorem dX6_doneWithOneMoreAt_12 : decode cX6_doneWithOneMoreAt 12 = .ok (.getfield 16, 3) := by decide +kernel
theorem dX6_doneWithOneMoreAt_15 : decode cX6_doneWithOneMoreAt 15 = .ok (.iload_n 1, 1) := by decide +kernel
theorem dX6_doneWithOneMoreAt_16 : decode cX6_doneWithOneMoreAt 16 = .ok (.invokevirtual 58, 3) := by decide +kernel
theorem dX6_doneWithOneMoreAt_19 : decode cX6_doneWithOneMoreAt 19 = .ok (.astore_n 2, 1) := by decide +kernel
theorem dX6_doneWithOneMoreAt_20 : decode cX6_doneWithOneMoreAt 20 = .ok (.aload_n 2, 1) := by decide +kernel
theorem dX6_doneWithOneMoreAt_21 : decode cX6_doneWithOneMoreAt 21 = .ok (.ifnull 13, 3) := by decide +kernel
theorem dX6_doneWithOneMoreAt_24 : decode cX6_doneWithOneMoreAt 24 = .ok (.aload_n 2, 1) := by decide +kernel
theorem dX6_doneWithOneMoreAt_25 : decode cX6_doneWithOneMoreAt 25 = .ok (.dup, 1) := by decide +kernel
theorem dX6_doneWithOneMoreAt_26 : decode cX6_doneWithOneMoreAt 26 = .ok (.getfield 72, 3) := by decide +kernel
theorem dX6_doneWithOneMoreAt_29 : decode cX6_doneWithOneMoreAt 29 = .ok (.iconst 1, 1) := by decide +kernel
theorem dX6_doneWithOneMoreAt_30 : decode cX6_doneWithOneMoreAt 30 = .ok (.iadd, 1) := by decide +kernel
theorem dX6_doneWithOneMoreAt_31 : decode cX6_doneWithOneMoreAt 31 = .ok (.putfield 72, 3) := by decide +kernel
theorem dX6_doneWithOneMoreAt_34 : decode cX6_doneWithOneMoreAt 34 = .ok (.iconst 0, 1) := by decide +kernel
theorem dX6_doneWithOneMoreAt_35 : decode cX6_doneWithOneMoreAt 35 = .ok (.istore_n 3, 1) := by decide +kernel
theorem dX6_doneWithOneMoreAt_36 : decode cX6_doneWithOneMoreAt 36 = .ok (.iload_n 3, 1) := by decide +kernel
theorem dX6_doneWithOneMoreAt_37 : decode cX6_doneWithOneMoreAt 37 = .ok (.bipush 50, 2) := by decide +kernel
theorem dX6_doneWithOneMoreAt_39 : decode cX6_doneWithOneMoreAt 39 = .ok (.if_icmp .ge 16, 3) := by decide +kernel
theorem dX6_doneWithOneMoreAt_42 : decode cX6_doneWithOneMoreAt 42 = .ok (.aload_n 0, 1) := by decide +kernel
theorem dX6_doneWithOneMoreAt_43 : decode cX6_doneWithOneMoreAt 43 = .ok (.getfield 16, 3) := by decide +kernel
theorem dX6_doneWithOneMoreAt_46 : decode cX6_doneWithOneMoreAt 46 = .ok (.invokevirtual 127, 3) := by decide +kernel
theorem dX6_doneWithOneMoreAt_49 : decode cX6_doneWithOneMoreAt 49 = .ok (.iinc 3 1, 3) := by decide +kernel
theorem dX6_doneWithOneMoreAt_52 : decode cX6_doneWithOneMoreAt 52 = .ok (.goto (-16), 3) := by decide +kernel
theorem dX6_doneWithOneMoreAt_55 : decode cX6_doneWithOneMoreAt 55 = .ok (.aload_n 0, 1) := by decide +kernel
theorem dX6_doneWithOneMoreAt_56 : decode cX6_doneWithOneMoreAt 56 = .ok (.getfield 16, 3) := by decide +kernel
theorem dX6_doneWithOneMoreAt_59 : decode cX6_doneWithOneMoreAt 59 = .ok (.iconst 2, 1) := by decide +kernel
theorem dX6_doneWithOneMoreAt_60 : decode cX6_doneWithOneMoreAt 60 = .ok (.invokevirtual 123, 3) := by decide +kernel
theorem dX6_doneWithOneMoreAt_63 : decode cX6_doneWithOneMoreAt 63 = .ok (.ireturn, 1) := by decide +kernel
theorem dX6_longest_0 : decode cX6_longest 0 = .ok (.bipush (-6), 2) := by decide +kernel
theorem dX6_longest_2 : decode cX6_longest 2 = .ok (.istore_n 1, 1) := by decide +kernel
theorem dX6_longest_3 : decode cX6_longest 3 = .ok (.iconst 0, 1) := by decide +kernel
theorem dX6_longest_4 : decode cX6_longest 4 = .ok (.istore_n 2, 1) := by decide +kernel
theorem dX6_longest_5 : decode cX6_longest 5 = .ok (.iconst 0, 1) := by decide +kernel
theorem dX6_longest_6 : decode cX6_longest 6 = .ok (.istore_n 3, 1) := by decide +kernel
theorem dX6_longest_7 : decode cX6_longest 7 = .ok (.iload_n 3, 1) := by decide +kernel
theorem dX6_longest_8 : decode cX6_longest 8 = .ok (.bipush 6, 2) := by decide +kernel
theorem dX6_longest_10 : decode cX6_longest 10 = .ok (.if_icmp .ge 47, 3) := by decide +kernel
theorem dX6_longest_13 : decode cX6_longest 13 = .ok (.aload_n 0, 1) := by decide +kernel
theorem dX6_longest_14 : decode cX6_longest 14 = .ok (.getfield 10, 3) := by decide +kernel
theorem dX6_longest_17 : decode cX6_longest 17 = .ok (.iload_n 3, 1) := by decide +kernel
theorem dX6_longest_18 : decode cX6_longest 18 = .ok (.invokevirtual 58, 3) := by decide +kernel
theorem dX6_longest_21 : decode cX6_longest 21 = .ok (.astore 4, 2) := by decide +kernel
theorem dX6_longest_23 : decode cX6_longest 23 = .ok (.aload 4, 2) := by decide +kernel
theorem dX6_longest_25 : decode cX6_longest 25 = .ok (.ifnull 26, 3) := by decide +kernel
theorem dX6_longest_28 : decode cX6_longest 28 = .ok (.aload 4, 2) := by decide +kernel
theorem dX6_longest_30 : decode cX6_longest 30 = .ok (.getfield 152, 3) := by decide +kernel
theorem dX6_longest_33 : decode cX6_longest 33 = .ok (.invokevirtual 156, 3) := by decide +kernel
theorem dX6_longest_36 : decode cX6_longest 36 = .ok (.iload_n 2, 1) := by decide +kernel
theorem dX6_longest_37 : decode cX6_longest 37 = .ok (.if_icmp .le 14, 3) := by decide +kernel
theorem dX6_longest_40 : decode cX6_longest 40 = .ok (.aload 4, 2) := by decide +kernel
theorem dX6_longest_42 : decode cX6_longest 42 = .ok (.getfield 152, 3) := by decide +kernel
theorem dX6_longest_45 : decode cX6_longest 45 = .ok (.invokevirtual 156, 3) := by decide +kernel
theorem dX6_longest_48 : decode cX6_longest 48 = .ok (.istore_n 2, 1) := by decide +kernel
theorem dX6_longest_49 : decode cX6_longest 49 = .ok (.iload_n 3, 1) := by decide +kernel
theorem dX6_longest_50 : decode cX6_longest 50 = .ok (.istore_n 1, 1) := by decide +kernel
theorem dX6_longest_51 : decode cX6_longest 51 = .ok (.iinc 3 1, 3) := by decide +kernel
theorem dX6_longest_54 : decode cX6_longest 54 = .ok (.goto (-47), 3) := by decide +kernel
theorem dX6_longest_57 : decode cX6_longest 57 = .ok (.iload_n 1, 1) := by decide +kernel
theorem dX6_longest_58 : decode cX6_longest 58 = .ok (.ireturn, 1) := by decide +kernel
theorem dX6_put_0 : decode cX6_put 0 = .ok (.lload_n 1, 1) := by decide +kernel
theorem dX6_put_1 : decode cX6_put 1 = .ok (.invokestatic 192, 3) := by decide +kernel
theorem dX6_put_4 : decode cX6_put 4 = .ok (.istore_n 3, 1) := by decide +kernel
theorem dX6_put_5 : decode cX6_put 5 = .ok (.iload_n 3, 1) := by decide +kernel
theorem dX6_put_6 : decode cX6_put 6 = .ok (.ifCond .ne 6, 3) := by decide +kernel
theorem dX6_put_9 : decode cX6_put 9 = .ok (.bipush (-2), 2) := by decide +kernel
theorem dX6_put_11 : decode cX6_put 11 = .ok (.ireturn, 1) := by decide +kernel
theorem dX6_put_12 : decode cX6_put 12 = .ok (.aload_n 0, 1) := by decide +kernel
theorem dX6_put_13 : decode cX6_put 13 = .ok (.getfield 37, 3) := by decide +kernel
theorem dX6_put_16 : decode cX6_put 16 = .ok (.invokevirtual 182, 3) := by decide +kernel
theorem dX6_put_19 : decode cX6_put 19 = .ok (.iload_n 3, 1) := by decide +kernel
theorem dX6_put_20 : decode cX6_put 20 = .ok (.iadd, 1) := by decide +kernel
theorem dX6_put_21 : decode cX6_put 21 = .ok (.bipush 60, 2) := by decide +kernel
theorem dX6_put_23 : decode cX6_put 23 = .ok (.if_icmp .le 6, 3) := by decide +kernel
theorem dX6_put_26 : decode cX6_put 26 = .ok (.bipush (-4), 2) := by decide +kernel
theorem dX6_put_28 : decode cX6_put 28 = .ok (.ireturn, 1) := by decide +kernel
theorem dX6_put_29 : decode cX6_put 29 = .ok (.aload_n 0, 1) := by decide +kernel
theorem dX6_put_30 : decode cX6_put 30 = .ok (.getfield 37, 3) := by decide +kernel
theorem dX6_put_33 : decode cX6_put 33 = .ok (.lload_n 1, 1) := by decide +kernel
theorem dX6_put_34 : decode cX6_put 34 = .ok (.iload_n 3, 1) := by decide +kernel
theorem dX6_put_35 : decode cX6_put 35 = .ok (.invokevirtual 196, 3) := by decide +kernel
theorem dX6_put_38 : decode cX6_put 38 = .ok (.aload_n 0, 1) := by decide +kernel
theorem dX6_put_39 : decode cX6_put 39 = .ok (.getfield 37, 3) := by decide +kernel
theorem dX6_put_42 : decode cX6_put 42 = .ok (.invokevirtual 182, 3) := by decide +kernel
theorem dX6_put_45 : decode cX6_put 45 = .ok (.ireturn, 1) := by decide +kernel
theorem dX6_wipe_0 : decode cX6_wipe 0 = .ok (.aload_n 0, 1) := by decide +kernel
theorem dX6_wipe_1 : decode cX6_wipe 1 = .ok (.getfield 37, 3) := by decide +kernel
theorem dX6_wipe_4 : decode cX6_wipe 4 = .ok (.invokevirtual 182, 3) := by decide +kernel
theorem dX6_wipe_7 : decode cX6_wipe 7 = .ok (.istore_n 1, 1) := by decide +kernel
theorem dX6_wipe_8 : decode cX6_wipe 8 = .ok (.aload_n 0, 1) := by decide +kernel
theorem dX6_wipe_9 : decode cX6_wipe 9 = .ok (.getfield 37, 3) := by decide +kernel
theorem dX6_wipe_12 : decode cX6_wipe 12 = .ok (.invokevirtual 101, 3) := by decide +kernel
theorem dX6_wipe_15 : decode cX6_wipe 15 = .ok (.iload_n 1, 1) := by decide +kernel
theorem dX6_wipe_16 : decode cX6_wipe 16 = .ok (.ireturn, 1) := by decide +kernel
theorem dX6_save_0 : decode cX6_save 0 = .ok (.iload_n 1, 1) := by decide +kernel
theorem dX6_save_1 : decode cX6_save 1 = .ok (.ifCond .lt 8, 3) := by decide +kernel
theorem dX6_save_4 : decode cX6_save 4 = .ok (.iload_n 1, 1) := by decide +kernel
theorem dX6_save_5 : decode cX6_save 5 = .ok (.iconst 2, 1) := by decide +kernel
theorem dX6_save_6 : decode cX6_save 6 = .ok (.if_icmp .lt 6, 3) := by decide +kernel
theorem dX6_save_9 : decode cX6_save 9 = .ok (.bipush (-2), 2) := by decide +kernel
theorem dX6_save_11 : decode cX6_save 11 = .ok (.ireturn, 1) := by decide +kernel
theorem dX6_save_12 : decode cX6_save 12 = .ok (.aload_n 0, 1) := by decide +kernel
theorem dX6_save_13 : decode cX6_save 13 = .ok (.getfield 26, 3) := by decide +kernel
theorem dX6_save_16 : decode cX6_save 16 = .ok (.iload_n 1, 1) := by decide +kernel
theorem dX6_save_17 : decode cX6_save 17 = .ok (.aaload, 1) := by decide +kernel
theorem dX6_save_18 : decode cX6_save 18 = .ok (.aload_n 0, 1) := by decide +kernel
theorem dX6_save_19 : decode cX6_save 19 = .ok (.getfield 10, 3) := by decide +kernel
theorem dX6_save_22 : decode cX6_save 22 = .ok (.invokevirtual 186, 3) := by decide +kernel
theorem dX6_save_25 : decode cX6_save 25 = .ok (.aload_n 0, 1) := by decide +kernel
theorem dX6_save_26 : decode cX6_save 26 = .ok (.getfield 30, 3) := by decide +kernel
theorem dX6_save_29 : decode cX6_save 29 = .ok (.iload_n 1, 1) := by decide +kernel
theorem dX6_save_30 : decode cX6_save 30 = .ok (.iconst 1, 1) := by decide +kernel
theorem dX6_save_31 : decode cX6_save 31 = .ok (.bastore, 1) := by decide +kernel
theorem dX6_save_32 : decode cX6_save 32 = .ok (.aload_n 0, 1) := by decide +kernel
theorem dX6_save_33 : decode cX6_save 33 = .ok (.getfield 10, 3) := by decide +kernel
theorem dX6_save_36 : decode cX6_save 36 = .ok (.getfield 113, 3) := by decide +kernel
theorem dX6_save_39 : decode cX6_save 39 = .ok (.ireturn, 1) := by decide +kernel
theorem dX6_restore_0 : decode cX6_restore 0 = .ok (.iload_n 1, 1) := by decide +kernel
theorem dX6_restore_1 : decode cX6_restore 1 = .ok (.ifCond .lt 8, 3) := by decide +kernel
theorem dX6_restore_4 : decode cX6_restore 4 = .ok (.iload_n 1, 1) := by decide +kernel
theorem dX6_restore_5 : decode cX6_restore 5 = .ok (.iconst 2, 1) := by decide +kernel
theorem dX6_restore_6 : decode cX6_restore 6 = .ok (.if_icmp .lt 6, 3) := by decide +kernel
theorem dX6_restore_9 : decode cX6_restore 9 = .ok (.bipush (-2), 2) := by decide +kernel
theorem dX6_restore_11 : decode cX6_restore 11 = .ok (.ireturn, 1) := by decide +kernel
theorem dX6_restore_12 : decode cX6_restore 12 = .ok (.aload_n 0, 1) := by decide +kernel
theorem dX6_restore_13 : decode cX6_restore 13 = .ok (.getfield 30, 3) := by decide +kernel
theorem dX6_restore_16 : decode cX6_restore 16 = .ok (.iload_n 1, 1) := by decide +kernel
theorem dX6_restore_17 : decode cX6_restore 17 = .ok (.baload, 1) := by decide +kernel
theorem dX6_restore_18 : decode cX6_restore 18 = .ok (.ifCond .ne 6, 3) := by decide +kernel
theorem dX6_restore_21 : decode cX6_restore 21 = .ok (.bipush (-5), 2) := by decide +kernel
theorem dX6_restore_23 : decode cX6_restore 23 = .ok (.ireturn, 1) := by decide +kernel
theorem dX6_restore_24 : decode cX6_restore 24 = .ok (.aload_n 0, 1) := by decide +kernel
theorem dX6_restore_25 : decode cX6_restore 25 = .ok (.getfield 22, 3) := by decide +kernel
theorem dX6_restore_28 : decode cX6_restore 28 = .ok (.aload_n 0, 1) := by decide +kernel
theorem dX6_restore_29 : decode cX6_restore 29 = .ok (.getfield 10, 3) := by decide +kernel
theorem dX6_restore_32 : decode cX6_restore 32 = .ok (.invokevirtual 51, 3) := by decide +kernel
theorem dX6_restore_35 : decode cX6_restore 35 = .ok (.aload_n 0, 1) := by decide +kernel
theorem dX6_restore_36 : decode cX6_restore 36 = .ok (.getfield 10, 3) := by decide +kernel
theorem dX6_restore_39 : decode cX6_restore 39 = .ok (.aload_n 0, 1) := by decide +kernel
theorem dX6_restore_40 : decode cX6_restore 40 = .ok (.getfield 26, 3) := by decide +kernel
theorem dX6_restore_43 : decode cX6_restore 43 = .ok (.iload_n 1, 1) := by decide +kernel
theorem dX6_restore_44 : decode cX6_restore 44 = .ok (.aaload, 1) := by decide +kernel
theorem dX6_restore_45 : decode cX6_restore 45 = .ok (.invokevirtual 186, 3) := by decide +kernel
theorem dX6_restore_48 : decode cX6_restore 48 = .ok (.aload_n 0, 1) := by decide +kernel
theorem dX6_restore_49 : decode cX6_restore 49 = .ok (.getfield 10, 3) := by decide +kernel
theorem dX6_restore_52 : decode cX6_restore 52 = .ok (.getfield 113, 3) := by decide +kernel
theorem dX6_restore_55 : decode cX6_restore 55 = .ok (.ireturn, 1) := by decide +kernel
end
section
set_option maxHeartbeats 4000000 in
set_option maxRecDepth 100000 in
/-- Line.length() -/
theorem c_X1_length (l : Launch) {G : va_G} {g : Nat → ClassId} {t0 τ : Nat → Nat} {A : Nat → Prop} (O : xk_O τ A) (M : xm_T) (q : Nat) (hτ : τ q = 6) : Met l yX1_length wsX1_length ({ frames := 0, cells := 0, slots := 0, locals := 0 }) (va_Pc [.ref q] (xS_t G g t0 τ A M)) (va_Qi (fun r M' => r = M q 1 ∧ M' = M) (fun M' t => xw_D G g τ M' t.heap) A) 0 0 A := by
  refine Met.ofW (cc := cX1_length) (maxL := 1) (ret := (some .int)) (by decide) rfl ?_
  intro p e s m args below meth c s₁ B hml hv
  obtain ⟨rfl, hW, hK, hst, hnw⟩ := hv
  have hx := B.exec
  have hb := B.bytes
  have hr := B.returns
  have hts := atoms_spec (ws := wsX1_length) B.pre
  have hown : s.vm.findClass RX1 = some m.cls := findClass_of_methodNamed B.named
  have hlocks := B.notSynchronized
  have hS : va_S A s.heap s.heap [] := va_S.rf
  have inX1 : ∀ w ∈ u_ws RX1 TX1 2, w ∈ wsX1_length := by decide +kernel
  have hl := lv_entry ([.ref q]) (n := 1) (Nat.le_of_ble_eq_true rfl)
  rw [lg_entry_eq]
  generalize (lg_sl ([.ref q]) ++ List.replicate (1 - (lg_sl ([.ref q])).length) Slot.unset).toArray = ls at hl ⊢
  have hl : lv_has ls 1 [(0, .ref q)] := hl
  refine lv_aload_n hx hb dX1_length_0 rfl (lv_at hl 0 rfl) ?_
  refine xg_get (κ := 6) (ci := 1) (C := RX1) (T := TX1) (N := 2) hx hb hts inX1 hown hK hW hτ (by decide) rfl rfl 1 (by decide) (hts (.fieldLink RX1 15 "HalfTickets$Line" "length" "I") (List.mem_of_getElem? (i := 1) (by decide +kernel))) (fun _ h9 => h9) rfl dX1_length_1 ?_
  exact W.iret (v := (M q 1)) hx hb hr (fun t ht hWm => ⟨⟨(M q 1), M, rfl, ⟨rfl, rfl⟩, xw_end ht hW⟩, hS.F ht⟩) hS.2.2 dX1_length_4

def xf_at (M : xm_T) (q : Nat) (i : Int32) : Int32 := if i < 0 then -6 else if M q 1 ≤ i then -6 else M (q + 1) i.toNatClampNeg
theorem xi_nI {i : Int32} (h : ¬ i < 0) : i = nI i.toNatClampNeg := by
  obtain ⟨j, hj, rfl⟩ := nI_of h
  rw [nI_clamp hj]
theorem xi_lt {i : Int32} {n : Nat} (h : ¬ i < 0) (h2 : ¬ nI n ≤ i) (hn : n < 2 ^ 31) : i.toNatClampNeg < n := by
  obtain ⟨j, hj, rfl⟩ := nI_of h
  rw [nI_clamp hj]
  exact Nat.not_le.mp fun q => h2 (nI_le q hj)

set_option maxHeartbeats 4000000 in
set_option maxRecDepth 100000 in
/-- Line.numberAt(i) -/
theorem c_X1_numberAt (l : Launch) {G : va_G} {g : Nat → ClassId} {t0 τ : Nat → Nat} {A : Nat → Prop} (O : xk_O τ A) (M : xm_T) (q : Nat) (hτ : τ q = 6) (i : Int32) {n : Nat} (hn : n ≤ 24) (hM : M q 1 = nI n) : Met l yX1_numberAt wsX1_numberAt ({ frames := 0, cells := 0, slots := 0, locals := 0 }) (va_Pc [.ref q, .int i] (xS_t G g t0 τ A M)) (va_Qi (fun r M' => r = xf_at M q i ∧ M' = M) (fun M' t => xw_D G g τ M' t.heap) A) 0 0 A := by
  refine Met.ofW (cc := cX1_numberAt) (maxL := 2) (ret := (some .int)) (by decide) rfl ?_
  intro p e s m args below meth c s₁ B hml hv
  obtain ⟨rfl, hW, hK, hst, hnw⟩ := hv
  have hx := B.exec
  have hb := B.bytes
  have hr := B.returns
  have hts := atoms_spec (ws := wsX1_numberAt) B.pre
  have hown : s.vm.findClass RX1 = some m.cls := findClass_of_methodNamed B.named
  have hlocks := B.notSynchronized
  have hS : va_S A s.heap s.heap [] := va_S.rf
  have inX1 : ∀ w ∈ u_ws RX1 TX1 2, w ∈ wsX1_numberAt := by decide +kernel
  have hl := lv_entry ([.ref q, .int i]) (n := 2) (Nat.le_of_ble_eq_true rfl)
  rw [lg_entry_eq]
  generalize (lg_sl ([.ref q, .int i]) ++ List.replicate (2 - (lg_sl ([.ref q, .int i])).length) Slot.unset).toArray = ls at hl ⊢
  have hl : lv_has ls 2 [(0, .ref q), (1, .int i)] := hl
  refine lv_iload_n hx hb dX1_numberAt_0 rfl (lv_at hl 1 rfl) ?_
  refine lv_if_lt (tgt := 21) hx hb dX1_numberAt_1 (by decide) (fun c_1 => ?_) (fun c_1 => ?_)
  · have hres : (-6 : Int32) = xf_at M q i := by unfold xf_at; rw [if_pos c_1]
    refine lv_bipush (v := (-6)) hx hb dX1_numberAt_21 (by decide) ?_
    exact W.iret (v := (-6)) hx hb hr (fun t ht hWm => ⟨⟨(-6), M, rfl, ⟨hres, rfl⟩, xw_end ht hW⟩, hS.F ht⟩) hS.2.2 dX1_numberAt_23
  · refine lv_iload_n hx hb dX1_numberAt_4 rfl (lv_at hl 1 rfl) ?_
    refine lv_aload_n hx hb dX1_numberAt_5 rfl (lv_at hl 0 rfl) ?_
    refine xg_get (κ := 6) (ci := 1) (C := RX1) (T := TX1) (N := 2) hx hb hts inX1 hown hK hW hτ (by decide) rfl rfl 1 (by decide) (hts (.fieldLink RX1 15 "HalfTickets$Line" "length" "I") (List.mem_of_getElem? (i := 1) (by decide +kernel))) (fun _ h9 => h9) rfl dX1_numberAt_6 ?_
    refine lv_icmp_ge (tgt := 21) hx hb dX1_numberAt_9 (by decide) (fun c_2 => ?_) (fun c_2 => ?_)
    · have hres : (-6 : Int32) = xf_at M q i := by unfold xf_at; rw [if_neg c_1, if_pos c_2]
      refine lv_bipush (v := (-6)) hx hb dX1_numberAt_21 (by decide) ?_
      exact W.iret (v := (-6)) hx hb hr (fun t ht hWm => ⟨⟨(-6), M, rfl, ⟨hres, rfl⟩, xw_end ht hW⟩, hS.F ht⟩) hS.2.2 dX1_numberAt_23
    · have hres : M (q + 1) i.toNatClampNeg = xf_at M q i := by unfold xf_at; rw [if_neg c_1, if_neg c_2]
      refine lv_aload_n hx hb dX1_numberAt_12 rfl (lv_at hl 0 rfl) ?_
      refine xg_get (κ := 6) (ci := 1) (C := RX1) (T := TX1) (N := 2) hx hb hts inX1 hown hK hW hτ (by decide) rfl rfl 0 (by decide) (hts (.fieldLink RX1 9 "HalfTickets$Line" "numbers" "[I") (List.mem_of_getElem? (i := 2) (by decide +kernel))) (fun _ h9 => h9) rfl dX1_numberAt_13 ?_
      refine lv_iload_n hx hb dX1_numberAt_16 rfl (lv_at hl 1 rfl) ?_
      refine xg_iald (κ := 124) (n := 24) hx hb hK hW (O.l hτ) (by decide) rfl i.toNatClampNeg (xi_nI c_1) (by have := xi_lt c_1 (by rw [← hM]; exact c_2) (by omega); omega) (by decide) dX1_numberAt_17 ?_
      refine lv_goto (tgt := 23) hx hb dX1_numberAt_18 (by decide) ?_
      exact W.iret (v := (M (q + 1) i.toNatClampNeg)) hx hb hr (fun t ht hWm => ⟨⟨(M (q + 1) i.toNatClampNeg), M, rfl, ⟨hres, rfl⟩, xw_end ht hW⟩, hS.F ht⟩) hS.2.2 dX1_numberAt_23

set_option maxHeartbeats 4000000 in
set_option maxRecDepth 100000 in
/-- Person.goAs(x, y) -/
theorem c_X4_goAs (l : Launch) {G : va_G} {g : Nat → ClassId} {t0 τ : Nat → Nat} {A : Nat → Prop} (O : xk_O τ A) (M : xm_T) (a : Nat) (hτ : τ a = 8) (x y : Int32) : Met l yX4_goAs wsX4_goAs ({ frames := 0, cells := 0, slots := 0, locals := 0 }) (va_Pc [.ref a, .int x, .int y] (xS_t G g t0 τ A M)) (va_Qv (fun M' => M' = xu_p (xu_p (xu_p M a 3 x) a 5 (nI 0)) a 10 y) (fun M' t => xw_D G g τ M' t.heap) A) 0 0 A := by
  refine Met.ofW (cc := cX4_goAs) (maxL := 3) (ret := none) (by decide) rfl ?_
  intro p e s m args below meth c s₁ B hml hv
  obtain ⟨rfl, hW, hK, hst, hnw⟩ := hv
  have hx := B.exec
  have hb := B.bytes
  have hr := B.returns
  have hts := atoms_spec (ws := wsX4_goAs) B.pre
  have hown : s.vm.findClass RX4 = some m.cls := findClass_of_methodNamed B.named
  have hlocks := B.notSynchronized
  have hS : va_S A s.heap s.heap [] := va_S.rf
  have inX4 : ∀ w ∈ u_ws RX4 TX4 12, w ∈ wsX4_goAs := by decide +kernel
  have hl := lv_entry ([.ref a, .int x, .int y]) (n := 3) (Nat.le_of_ble_eq_true rfl)
  rw [lg_entry_eq]
  generalize (lg_sl ([.ref a, .int x, .int y]) ++ List.replicate (3 - (lg_sl ([.ref a, .int x, .int y])).length) Slot.unset).toArray = ls at hl ⊢
  have hl : lv_has ls 3 [(0, .ref a), (1, .int x), (2, .int y)] := hl
  refine lv_aload_n hx hb dX4_goAs_0 rfl (lv_at hl 0 rfl) ?_
  refine lv_iload_n hx hb dX4_goAs_1 rfl (lv_at hl 1 rfl) ?_
  refine xg_put (κ := 8) (ci := 4) (C := RX4) (T := TX4) (N := 12) hx hb hts inX4 tyX4 tyX4_ok nmX4 hown hK O hW hS hτ (by decide) rfl rfl 3 (by decide) (v := x) rfl (xw_okp hW hτ (by decide)) (hts (.fieldLink RX4 15 "HalfTickets$Person" "where" "I") (List.mem_of_getElem? (i := 1) (by decide +kernel))) (fun _ h9 => h9) rfl (ty := .int) (by decide +kernel) rfl rfl (Nat.le_of_ble_eq_true rfl) dX4_goAs_2 (fun H locs hW hS => ?_)
  obtain ⟨M_1, eM_1⟩ : ∃ M9, M9 = xu_p M a 3 x := ⟨_, rfl⟩
  rw [← eM_1] at hW
  refine lv_aload_n hx hb dX4_goAs_5 rfl (lv_at hl 0 rfl) ?_
  refine lv_iconst (v := (nI 0)) hx hb dX4_goAs_6 (by decide) ?_
  refine xg_put (κ := 8) (ci := 4) (C := RX4) (T := TX4) (N := 12) hx hb hts inX4 tyX4 tyX4_ok nmX4 hown hK O hW hS hτ (by decide) rfl rfl 5 (by decide) (v := (nI 0)) rfl ⟨xb_0, (xw_okp hW hτ (by decide)).2⟩ (hts (.fieldLink RX4 37 "HalfTickets$Person" "hasHalf" "Z") (List.mem_of_getElem? (i := 2) (by decide +kernel))) (fun _ h9 => h9) rfl (ty := .boolean) (by decide +kernel) (xb_nar xb_0) (xb_fit xb_0) (Nat.le_of_ble_eq_true rfl) dX4_goAs_7 (fun H locs hW hS => ?_)
  obtain ⟨M_2, eM_2⟩ : ∃ M9, M9 = xu_p M_1 a 5 (nI 0) := ⟨_, rfl⟩
  rw [← eM_2] at hW
  refine lv_aload_n hx hb dX4_goAs_10 rfl (lv_at hl 0 rfl) ?_
  refine lv_iload_n hx hb dX4_goAs_11 rfl (lv_at hl 2 rfl) ?_
  refine xg_put (κ := 8) (ci := 4) (C := RX4) (T := TX4) (N := 12) hx hb hts inX4 tyX4 tyX4_ok nmX4 hown hK O hW hS hτ (by decide) rfl rfl 10 (by decide) (v := y) rfl (xw_okp hW hτ (by decide)) (hts (.fieldLink RX4 19 "HalfTickets$Person" "goneBehind" "I") (List.mem_of_getElem? (i := 3) (by decide +kernel))) (fun _ h9 => h9) rfl (ty := .int) (by decide +kernel) rfl rfl (Nat.le_of_ble_eq_true rfl) dX4_goAs_12 (fun H locs hW hS => ?_)
  obtain ⟨M_3, eM_3⟩ : ∃ M9, M9 = xu_p M_2 a 10 y := ⟨_, rfl⟩
  rw [← eM_3] at hW
  exact W.vret hx hb hr (fun t ht hWm => ⟨⟨M_3, rfl, (by subst_vars; rfl), xw_end ht hW⟩, hS.F ht⟩) hS.2.2 dX4_goAs_15
end
section
/-- the block of n rows at o, at a too -/
def xf_cp (M : xm_T) (a o n : Nat) : xm_T := fun x => if a ≤ x ∧ x < a + n then M (x - a + o) else M x
theorem xf_cp_add {M : xm_T} {a o n k a' o' : Nat} (hd : o + (n + k) ≤ a ∨ a + (n + k) ≤ o) (ha : a' = a + n) (ho : o' = o + n) : xf_cp (xf_cp M a o n) a' o' k = xf_cp M a o (n + k) := by
  subst ha; subst ho
  funext x
  unfold xf_cp
  by_cases h1 : a + n ≤ x ∧ x < a + n + k
  · rw [if_pos h1, if_neg (show ¬ (a ≤ x - (a + n) + (o + n) ∧ x - (a + n) + (o + n) < a + n) by omega), if_pos (show a ≤ x ∧ x < a + (n + k) by omega)]
    congr 1
    omega
  · rw [if_neg h1]
    by_cases h2 : a ≤ x ∧ x < a + n
    · rw [if_pos h2, if_pos (show a ≤ x ∧ x < a + (n + k) by omega)]
    · rw [if_neg h2, if_neg (show ¬ (a ≤ x ∧ x < a + (n + k)) by omega)]
theorem xf_cp_0 (M : xm_T) (a o : Nat) : xf_cp M a o 0 = M := by
  funext x
  unfold xf_cp
  rw [if_neg (by omega)]
theorem xf_in {M : xm_T} {a o n x : Nat} (h : a ≤ x ∧ x < a + n) : xf_cp M a o n x = M (x - a + o) := if_pos h
theorem xf_out {M : xm_T} {a o n x : Nat} (h : x < a ∨ a + n ≤ x) : xf_cp M a o n x = M x := if_neg (by omega)
/-- two memories that say the same of the world -/
theorem xw_cg {G : va_G} {g : Nat → ClassId} {τ : Nat → Nat} {M M' : xm_T} {H : Heap} (hW : xw_D G g τ M H) (h : ∀ x, τ x ≠ 0 → M x = M' x ∨ (xw_cell g (τ x) (M x) x = xw_cell g (τ x) (M' x) x ∧ (xw_ok (τ x) (M x) → xw_ok (τ x) (M' x)))) : xw_D G g τ M' H := by
  intro x hx
  obtain ⟨h1, h2⟩ := hW x hx
  rcases h x hx with e | ⟨e1, e2⟩
  · rw [← e]; exact ⟨h1, h2⟩
  · rw [← e1]; exact ⟨h1, e2 h2⟩

set_option maxHeartbeats 4000000 in
set_option maxRecDepth 100000 in
/-- Line.become(o) -/
theorem c_X1_become (l : Launch) {G : va_G} {g : Nat → ClassId} {t0 τ : Nat → Nat} {A : Nat → Prop} (O : xk_O τ A) (M : xm_T) (q o : Nat) (hτ : τ q = 6) (hτo : τ o = 6) (hd : q + 2 ≤ o ∨ o + 2 ≤ q) : Met l yX1_become wsX1_become ({ frames := 1, cells := 0, slots := 0, locals := 40 }) (va_Pc [.ref q, .ref o] (xS_t G g t0 τ A M)) (va_Qv (fun M' => M' = xf_cp M q o 2) (fun M' t => xw_D G g τ M' t.heap) A) 0 0 A := by
  refine Met.ofW (cc := cX1_become) (maxL := 2) (ret := none) (by decide) rfl ?_
  intro p e s m args below meth c s₁ B hml hv
  obtain ⟨rfl, hW, hK, hst, hnw⟩ := hv
  have hx := B.exec
  have hb := B.bytes
  have hr := B.returns
  have hts := atoms_spec (ws := wsX1_become) B.pre
  have hown : s.vm.findClass RX1 = some m.cls := findClass_of_methodNamed B.named
  have hlocks := B.notSynchronized
  have hS : va_S A s.heap s.heap [] := va_S.rf
  have inX1 : ∀ w ∈ u_ws RX1 TX1 2, w ∈ wsX1_become := by decide +kernel
  have hl := lv_entry ([.ref q, .ref o]) (n := 2) (Nat.le_of_ble_eq_true rfl)
  rw [lg_entry_eq]
  generalize (lg_sl ([.ref q, .ref o]) ++ List.replicate (2 - (lg_sl ([.ref q, .ref o])).length) Slot.unset).toArray = ls at hl ⊢
  have hl : lv_has ls 2 [(0, .ref q), (1, .ref o)] := hl
  have hO : ∀ j, M o j = M o j := fun _ => rfl
  refine lv_aload_n hx hb dX1_become_0 rfl (lv_at hl 1 rfl) ?_
  refine xg_get (κ := 6) (ci := 1) (C := RX1) (T := TX1) (N := 2) hx hb hts inX1 hown hK hW hτo (by decide) rfl rfl 0 (by decide) (hts (.fieldLink RX1 9 "HalfTickets$Line" "numbers" "[I") (List.mem_of_getElem? (i := 1) (by decide +kernel))) (fun _ h9 => h9) rfl dX1_become_1 ?_
  refine lv_iconst (v := (nI 0)) hx hb dX1_become_4 (by decide) ?_
  refine lv_aload_n hx hb dX1_become_5 rfl (lv_at hl 0 rfl) ?_
  refine xg_get (κ := 6) (ci := 1) (C := RX1) (T := TX1) (N := 2) hx hb hts inX1 hown hK hW hτ (by decide) rfl rfl 0 (by decide) (hts (.fieldLink RX1 9 "HalfTickets$Line" "numbers" "[I") (List.mem_of_getElem? (i := 1) (by decide +kernel))) (fun _ h9 => h9) rfl dX1_become_6 ?_
  refine lv_iconst (v := (nI 0)) hx hb dX1_become_9 (by decide) ?_
  refine lv_bipush (v := (nI 24)) hx hb dX1_become_10 (by decide) ?_
  refine xg_cpy (κ := 124) (n := 24) hx hb (by rw [hml]; exact hl.1.symm) hown (hts (.methodLink RX1 23 arraycopyName) (List.mem_of_getElem? (i := 2) (by decide +kernel))) (hts (.native arraycopyName) (List.mem_of_getElem? (i := 3) (by decide +kernel))) (hts (.static arraycopyName) (List.mem_of_getElem? (i := 4) (by decide +kernel))) (hts (.initialized "java/lang/System") (List.mem_of_getElem? (i := 5) (by decide +kernel))) hK O hW hS (O.l hτo) (O.l hτ) (by decide) (fun _ _ => rfl) (fun _ => trivial) rfl rfl rfl (by decide) (Nat.le_of_ble_eq_true rfl) (by decide +kernel) dX1_become_12 (fun H locs hW hS => ?_)
  obtain ⟨M_1, eM_1⟩ : ∃ M9, M9 = xr_up M (q + 1) (M (o + 1)) := ⟨_, rfl⟩
  rw [← eM_1] at hW
  have hO : ∀ j, M_1 o j = M o j := fun j => (show M_1 o j = M o j by rw [eM_1, xr_n _ _ (by omega)]).trans (hO j)
  refine lv_aload_n hx hb dX1_become_15 rfl (lv_at hl 0 rfl) ?_
  refine lv_aload_n hx hb dX1_become_16 rfl (lv_at hl 1 rfl) ?_
  refine xg_get (κ := 6) (ci := 1) (C := RX1) (T := TX1) (N := 2) hx hb hts inX1 hown hK hW hτo (by decide) rfl rfl 1 (by decide) (hts (.fieldLink RX1 15 "HalfTickets$Line" "length" "I") (List.mem_of_getElem? (i := 6) (by decide +kernel))) (fun _ h9 => h9) rfl dX1_become_17 ?_
  rw [hO 1]
  refine xg_put (κ := 6) (ci := 1) (C := RX1) (T := TX1) (N := 2) hx hb hts inX1 tyX1 tyX1_ok nmX1 hown hK O hW hS hτ (by decide) rfl rfl 1 (by decide) (v := (M o 1)) rfl trivial (hts (.fieldLink RX1 15 "HalfTickets$Line" "length" "I") (List.mem_of_getElem? (i := 6) (by decide +kernel))) (fun _ h9 => h9) rfl (ty := .int) (by decide +kernel) rfl rfl (Nat.le_of_ble_eq_true rfl) dX1_become_20 (fun H locs hW hS => ?_)
  obtain ⟨M_2, eM_2⟩ : ∃ M9, M9 = xu_p M_1 q 1 (M o 1) := ⟨_, rfl⟩
  rw [← eM_2] at hW
  have hO : ∀ j, M_2 o j = M o j := fun j => (show M_2 o j = M_1 o j by rw [eM_2, xu_n _ (Or.inl (by omega))]).trans (hO j)
  replace hW : xw_D G g τ (xf_cp M q o 2) H := xw_cg hW (fun x hx => by
      subst eM_2
      subst eM_1
      by_cases h1 : x = q
      · right
        rw [h1, hτ, xf_in (by omega), show q - q + o = o by omega]
        have e1 : xu_p (xr_up M (q + 1) (M (o + 1))) q 1 (M o 1) q 1 = M o 1 := xu_s _ _ _ _
        exact ⟨by show (Sum.inr (1, [_, _]) : va_E) = .inr (1, [_, _]); rw [e1], fun _ => trivial⟩
      · left
        unfold xu_p
        rw [xr_n _ _ h1]
        by_cases h2 : x = q + 1
        · rw [h2, xr_s, xf_in (by omega)]
          congr 1
          omega
        · rw [xr_n _ _ h2, xf_out (by omega)])
  exact W.vret hx hb hr (fun t ht hWm => ⟨⟨(xf_cp M q o 2), rfl, rfl, xw_end ht hW⟩, hS.F ht⟩) hS.2.2 dX1_become_23

set_option maxHeartbeats 4000000 in
set_option maxRecDepth 100000 in
/-- Person.become(o) -/
theorem c_X4_become (l : Launch) {G : va_G} {g : Nat → ClassId} {t0 τ : Nat → Nat} {A : Nat → Prop} (O : xk_O τ A) (M : xm_T) (a o : Nat) (hτ : τ a = 8) (hτo : τ o = 8) (hd : a + 2 ≤ o ∨ o + 2 ≤ a) (hN : M a 0 = M o 0) : Met l yX4_become wsX4_become ({ frames := 1, cells := 0, slots := 0, locals := 40 }) (va_Pc [.ref a, .ref o] (xS_t G g t0 τ A M)) (va_Qv (fun M' => M' = xf_cp M a o 2) (fun M' t => xw_D G g τ M' t.heap) A) 0 0 A := by
  refine Met.ofW (cc := cX4_become) (maxL := 2) (ret := none) (by decide) rfl ?_
  intro p e s m args below meth c s₁ B hml hv
  obtain ⟨rfl, hW, hK, hst, hnw⟩ := hv
  have hx := B.exec
  have hb := B.bytes
  have hr := B.returns
  have hts := atoms_spec (ws := wsX4_become) B.pre
  have hown : s.vm.findClass RX4 = some m.cls := findClass_of_methodNamed B.named
  have hlocks := B.notSynchronized
  have hS : va_S A s.heap s.heap [] := va_S.rf
  have inX4 : ∀ w ∈ u_ws RX4 TX4 12, w ∈ wsX4_become := by decide +kernel
  have hl := lv_entry ([.ref a, .ref o]) (n := 2) (Nat.le_of_ble_eq_true rfl)
  rw [lg_entry_eq]
  generalize (lg_sl ([.ref a, .ref o]) ++ List.replicate (2 - (lg_sl ([.ref a, .ref o])).length) Slot.unset).toArray = ls at hl ⊢
  have hl : lv_has ls 2 [(0, .ref a), (1, .ref o)] := hl
  have hO : ∀ j, M o j = M o j := fun _ => rfl
  have hok : xw_ok 8 (M o) := xw_okp hW hτo (by decide)
  refine lv_aload_n hx hb dX4_become_0 rfl (lv_at hl 1 rfl) ?_
  refine xg_get (κ := 8) (ci := 4) (C := RX4) (T := TX4) (N := 12) hx hb hts inX4 hown hK hW hτo (by decide) rfl rfl 1 (by decide) (hts (.fieldLink RX4 9 "HalfTickets$Person" "errand" "[I") (List.mem_of_getElem? (i := 1) (by decide +kernel))) (fun _ h9 => h9) rfl dX4_become_1 ?_
  refine lv_iconst (v := (nI 0)) hx hb dX4_become_4 (by decide) ?_
  refine lv_aload_n hx hb dX4_become_5 rfl (lv_at hl 0 rfl) ?_
  refine xg_get (κ := 8) (ci := 4) (C := RX4) (T := TX4) (N := 12) hx hb hts inX4 hown hK hW hτ (by decide) rfl rfl 1 (by decide) (hts (.fieldLink RX4 9 "HalfTickets$Person" "errand" "[I") (List.mem_of_getElem? (i := 1) (by decide +kernel))) (fun _ h9 => h9) rfl dX4_become_6 ?_
  refine lv_iconst (v := (nI 0)) hx hb dX4_become_9 (by decide) ?_
  refine lv_bipush (v := (nI 8)) hx hb dX4_become_10 (by decide) ?_
  refine xg_cpy (κ := 108) (n := 8) hx hb (by rw [hml]; exact hl.1.symm) hown (hts (.methodLink RX4 25 arraycopyName) (List.mem_of_getElem? (i := 2) (by decide +kernel))) (hts (.native arraycopyName) (List.mem_of_getElem? (i := 3) (by decide +kernel))) (hts (.static arraycopyName) (List.mem_of_getElem? (i := 4) (by decide +kernel))) (hts (.initialized "java/lang/System") (List.mem_of_getElem? (i := 5) (by decide +kernel))) hK O hW hS (O.e hτo) (O.e hτ) (by decide) (fun _ _ => rfl) (fun _ => trivial) rfl rfl rfl (by decide) (Nat.le_of_ble_eq_true rfl) (by decide +kernel) dX4_become_12 (fun H locs hW hS => ?_)
  obtain ⟨M_1, eM_1⟩ : ∃ M9, M9 = xr_up M (a + 1) (M (o + 1)) := ⟨_, rfl⟩
  rw [← eM_1] at hW
  have hO : ∀ j, M_1 o j = M o j := fun j => (show M_1 o j = M o j by rw [eM_1, xr_n _ _ (by omega)]).trans (hO j)
  refine lv_aload_n hx hb dX4_become_15 rfl (lv_at hl 0 rfl) ?_
  refine lv_aload_n hx hb dX4_become_16 rfl (lv_at hl 1 rfl) ?_
  refine xg_get (κ := 8) (ci := 4) (C := RX4) (T := TX4) (N := 12) hx hb hts inX4 hown hK hW hτo (by decide) rfl rfl 2 (by decide) (hts (.fieldLink RX4 31 "HalfTickets$Person" "errandLength" "I") (List.mem_of_getElem? (i := 6) (by decide +kernel))) (fun _ h9 => h9) rfl dX4_become_17 ?_
  rw [hO 2]
  refine xg_put (κ := 8) (ci := 4) (C := RX4) (T := TX4) (N := 12) hx hb hts inX4 tyX4 tyX4_ok nmX4 hown hK O hW hS hτ (by decide) rfl rfl 2 (by decide) (v := (M o 2)) rfl (xw_okp hW hτ (by decide)) (hts (.fieldLink RX4 31 "HalfTickets$Person" "errandLength" "I") (List.mem_of_getElem? (i := 6) (by decide +kernel))) (fun _ h9 => h9) rfl (ty := .int) (by decide +kernel) rfl rfl (Nat.le_of_ble_eq_true rfl) dX4_become_20 (fun H locs hW hS => ?_)
  obtain ⟨M_2, eM_2⟩ : ∃ M9, M9 = xu_p M_1 a 2 (M o 2) := ⟨_, rfl⟩
  rw [← eM_2] at hW
  have hO : ∀ j, M_2 o j = M o j := fun j => (show M_2 o j = M_1 o j by rw [eM_2, xu_n _ (Or.inl (by omega))]).trans (hO j)
  refine lv_aload_n hx hb dX4_become_23 rfl (lv_at hl 0 rfl) ?_
  refine lv_aload_n hx hb dX4_become_24 rfl (lv_at hl 1 rfl) ?_
  refine xg_get (κ := 8) (ci := 4) (C := RX4) (T := TX4) (N := 12) hx hb hts inX4 hown hK hW hτo (by decide) rfl rfl 3 (by decide) (hts (.fieldLink RX4 15 "HalfTickets$Person" "where" "I") (List.mem_of_getElem? (i := 7) (by decide +kernel))) (fun _ h9 => h9) rfl dX4_become_25 ?_
  rw [hO 3]
  refine xg_put (κ := 8) (ci := 4) (C := RX4) (T := TX4) (N := 12) hx hb hts inX4 tyX4 tyX4_ok nmX4 hown hK O hW hS hτ (by decide) rfl rfl 3 (by decide) (v := (M o 3)) rfl (xw_okp hW hτ (by decide)) (hts (.fieldLink RX4 15 "HalfTickets$Person" "where" "I") (List.mem_of_getElem? (i := 7) (by decide +kernel))) (fun _ h9 => h9) rfl (ty := .int) (by decide +kernel) rfl rfl (Nat.le_of_ble_eq_true rfl) dX4_become_28 (fun H locs hW hS => ?_)
  obtain ⟨M_3, eM_3⟩ : ∃ M9, M9 = xu_p M_2 a 3 (M o 3) := ⟨_, rfl⟩
  rw [← eM_3] at hW
  have hO : ∀ j, M_3 o j = M o j := fun j => (show M_3 o j = M_2 o j by rw [eM_3, xu_n _ (Or.inl (by omega))]).trans (hO j)
  refine lv_aload_n hx hb dX4_become_31 rfl (lv_at hl 0 rfl) ?_
  refine lv_aload_n hx hb dX4_become_32 rfl (lv_at hl 1 rfl) ?_
  refine xg_get (κ := 8) (ci := 4) (C := RX4) (T := TX4) (N := 12) hx hb hts inX4 hown hK hW hτo (by decide) rfl rfl 4 (by decide) (hts (.fieldLink RX4 34 "HalfTickets$Person" "through" "I") (List.mem_of_getElem? (i := 8) (by decide +kernel))) (fun _ h9 => h9) rfl dX4_become_33 ?_
  rw [hO 4]
  refine xg_put (κ := 8) (ci := 4) (C := RX4) (T := TX4) (N := 12) hx hb hts inX4 tyX4 tyX4_ok nmX4 hown hK O hW hS hτ (by decide) rfl rfl 4 (by decide) (v := (M o 4)) rfl (xw_okp hW hτ (by decide)) (hts (.fieldLink RX4 34 "HalfTickets$Person" "through" "I") (List.mem_of_getElem? (i := 8) (by decide +kernel))) (fun _ h9 => h9) rfl (ty := .int) (by decide +kernel) rfl rfl (Nat.le_of_ble_eq_true rfl) dX4_become_36 (fun H locs hW hS => ?_)
  obtain ⟨M_4, eM_4⟩ : ∃ M9, M9 = xu_p M_3 a 4 (M o 4) := ⟨_, rfl⟩
  rw [← eM_4] at hW
  have hO : ∀ j, M_4 o j = M o j := fun j => (show M_4 o j = M_3 o j by rw [eM_4, xu_n _ (Or.inl (by omega))]).trans (hO j)
  refine lv_aload_n hx hb dX4_become_39 rfl (lv_at hl 0 rfl) ?_
  refine lv_aload_n hx hb dX4_become_40 rfl (lv_at hl 1 rfl) ?_
  refine xg_get (κ := 8) (ci := 4) (C := RX4) (T := TX4) (N := 12) hx hb hts inX4 hown hK hW hτo (by decide) rfl rfl 5 (by decide) (hts (.fieldLink RX4 37 "HalfTickets$Person" "hasHalf" "Z") (List.mem_of_getElem? (i := 9) (by decide +kernel))) (fun _ h9 => h9) rfl dX4_become_41 ?_
  rw [hO 5]
  refine xg_put (κ := 8) (ci := 4) (C := RX4) (T := TX4) (N := 12) hx hb hts inX4 tyX4 tyX4_ok nmX4 hown hK O hW hS hτ (by decide) rfl rfl 5 (by decide) (v := (M o 5)) rfl ⟨hok.1, (xw_okp hW hτ (by decide)).2⟩ (hts (.fieldLink RX4 37 "HalfTickets$Person" "hasHalf" "Z") (List.mem_of_getElem? (i := 9) (by decide +kernel))) (fun _ h9 => h9) rfl (ty := .boolean) (by decide +kernel) (xb_nar hok.1) (xb_fit hok.1) (Nat.le_of_ble_eq_true rfl) dX4_become_44 (fun H locs hW hS => ?_)
  obtain ⟨M_5, eM_5⟩ : ∃ M9, M9 = xu_p M_4 a 5 (M o 5) := ⟨_, rfl⟩
  rw [← eM_5] at hW
  have hO : ∀ j, M_5 o j = M o j := fun j => (show M_5 o j = M_4 o j by rw [eM_5, xu_n _ (Or.inl (by omega))]).trans (hO j)
  refine lv_aload_n hx hb dX4_become_47 rfl (lv_at hl 0 rfl) ?_
  refine lv_aload_n hx hb dX4_become_48 rfl (lv_at hl 1 rfl) ?_
  refine xg_get (κ := 8) (ci := 4) (C := RX4) (T := TX4) (N := 12) hx hb hts inX4 hown hK hW hτo (by decide) rfl rfl 6 (by decide) (hts (.fieldLink RX4 41 "HalfTickets$Person" "servedFor" "I") (List.mem_of_getElem? (i := 10) (by decide +kernel))) (fun _ h9 => h9) rfl dX4_become_49 ?_
  rw [hO 6]
  refine xg_put (κ := 8) (ci := 4) (C := RX4) (T := TX4) (N := 12) hx hb hts inX4 tyX4 tyX4_ok nmX4 hown hK O hW hS hτ (by decide) rfl rfl 6 (by decide) (v := (M o 6)) rfl (xw_okp hW hτ (by decide)) (hts (.fieldLink RX4 41 "HalfTickets$Person" "servedFor" "I") (List.mem_of_getElem? (i := 10) (by decide +kernel))) (fun _ h9 => h9) rfl (ty := .int) (by decide +kernel) rfl rfl (Nat.le_of_ble_eq_true rfl) dX4_become_52 (fun H locs hW hS => ?_)
  obtain ⟨M_6, eM_6⟩ : ∃ M9, M9 = xu_p M_5 a 6 (M o 6) := ⟨_, rfl⟩
  rw [← eM_6] at hW
  have hO : ∀ j, M_6 o j = M o j := fun j => (show M_6 o j = M_5 o j by rw [eM_6, xu_n _ (Or.inl (by omega))]).trans (hO j)
  refine lv_aload_n hx hb dX4_become_55 rfl (lv_at hl 0 rfl) ?_
  refine lv_aload_n hx hb dX4_become_56 rfl (lv_at hl 1 rfl) ?_
  refine xg_get (κ := 8) (ci := 4) (C := RX4) (T := TX4) (N := 12) hx hb hts inX4 hown hK hW hτo (by decide) rfl rfl 7 (by decide) (hts (.fieldLink RX4 44 "HalfTickets$Person" "waits" "I") (List.mem_of_getElem? (i := 11) (by decide +kernel))) (fun _ h9 => h9) rfl dX4_become_57 ?_
  rw [hO 7]
  refine xg_put (κ := 8) (ci := 4) (C := RX4) (T := TX4) (N := 12) hx hb hts inX4 tyX4 tyX4_ok nmX4 hown hK O hW hS hτ (by decide) rfl rfl 7 (by decide) (v := (M o 7)) rfl (xw_okp hW hτ (by decide)) (hts (.fieldLink RX4 44 "HalfTickets$Person" "waits" "I") (List.mem_of_getElem? (i := 11) (by decide +kernel))) (fun _ h9 => h9) rfl (ty := .int) (by decide +kernel) rfl rfl (Nat.le_of_ble_eq_true rfl) dX4_become_60 (fun H locs hW hS => ?_)
  obtain ⟨M_7, eM_7⟩ : ∃ M9, M9 = xu_p M_6 a 7 (M o 7) := ⟨_, rfl⟩
  rw [← eM_7] at hW
  have hO : ∀ j, M_7 o j = M o j := fun j => (show M_7 o j = M_6 o j by rw [eM_7, xu_n _ (Or.inl (by omega))]).trans (hO j)
  refine lv_aload_n hx hb dX4_become_63 rfl (lv_at hl 0 rfl) ?_
  refine lv_aload_n hx hb dX4_become_64 rfl (lv_at hl 1 rfl) ?_
  refine xg_get (κ := 8) (ci := 4) (C := RX4) (T := TX4) (N := 12) hx hb hts inX4 hown hK hW hτo (by decide) rfl rfl 8 (by decide) (hts (.fieldLink RX4 47 "HalfTickets$Person" "waitsHere" "I") (List.mem_of_getElem? (i := 12) (by decide +kernel))) (fun _ h9 => h9) rfl dX4_become_65 ?_
  rw [hO 8]
  refine xg_put (κ := 8) (ci := 4) (C := RX4) (T := TX4) (N := 12) hx hb hts inX4 tyX4 tyX4_ok nmX4 hown hK O hW hS hτ (by decide) rfl rfl 8 (by decide) (v := (M o 8)) rfl (xw_okp hW hτ (by decide)) (hts (.fieldLink RX4 47 "HalfTickets$Person" "waitsHere" "I") (List.mem_of_getElem? (i := 12) (by decide +kernel))) (fun _ h9 => h9) rfl (ty := .int) (by decide +kernel) rfl rfl (Nat.le_of_ble_eq_true rfl) dX4_become_68 (fun H locs hW hS => ?_)
  obtain ⟨M_8, eM_8⟩ : ∃ M9, M9 = xu_p M_7 a 8 (M o 8) := ⟨_, rfl⟩
  rw [← eM_8] at hW
  have hO : ∀ j, M_8 o j = M o j := fun j => (show M_8 o j = M_7 o j by rw [eM_8, xu_n _ (Or.inl (by omega))]).trans (hO j)
  refine lv_aload_n hx hb dX4_become_71 rfl (lv_at hl 0 rfl) ?_
  refine lv_aload_n hx hb dX4_become_72 rfl (lv_at hl 1 rfl) ?_
  refine xg_get (κ := 8) (ci := 4) (C := RX4) (T := TX4) (N := 12) hx hb hts inX4 hown hK hW hτo (by decide) rfl rfl 9 (by decide) (hts (.fieldLink RX4 50 "HalfTickets$Person" "sentBack" "I") (List.mem_of_getElem? (i := 13) (by decide +kernel))) (fun _ h9 => h9) rfl dX4_become_73 ?_
  rw [hO 9]
  refine xg_put (κ := 8) (ci := 4) (C := RX4) (T := TX4) (N := 12) hx hb hts inX4 tyX4 tyX4_ok nmX4 hown hK O hW hS hτ (by decide) rfl rfl 9 (by decide) (v := (M o 9)) rfl (xw_okp hW hτ (by decide)) (hts (.fieldLink RX4 50 "HalfTickets$Person" "sentBack" "I") (List.mem_of_getElem? (i := 13) (by decide +kernel))) (fun _ h9 => h9) rfl (ty := .int) (by decide +kernel) rfl rfl (Nat.le_of_ble_eq_true rfl) dX4_become_76 (fun H locs hW hS => ?_)
  obtain ⟨M_9, eM_9⟩ : ∃ M9, M9 = xu_p M_8 a 9 (M o 9) := ⟨_, rfl⟩
  rw [← eM_9] at hW
  have hO : ∀ j, M_9 o j = M o j := fun j => (show M_9 o j = M_8 o j by rw [eM_9, xu_n _ (Or.inl (by omega))]).trans (hO j)
  refine lv_aload_n hx hb dX4_become_79 rfl (lv_at hl 0 rfl) ?_
  refine lv_aload_n hx hb dX4_become_80 rfl (lv_at hl 1 rfl) ?_
  refine xg_get (κ := 8) (ci := 4) (C := RX4) (T := TX4) (N := 12) hx hb hts inX4 hown hK hW hτo (by decide) rfl rfl 10 (by decide) (hts (.fieldLink RX4 19 "HalfTickets$Person" "goneBehind" "I") (List.mem_of_getElem? (i := 14) (by decide +kernel))) (fun _ h9 => h9) rfl dX4_become_81 ?_
  rw [hO 10]
  refine xg_put (κ := 8) (ci := 4) (C := RX4) (T := TX4) (N := 12) hx hb hts inX4 tyX4 tyX4_ok nmX4 hown hK O hW hS hτ (by decide) rfl rfl 10 (by decide) (v := (M o 10)) rfl (xw_okp hW hτ (by decide)) (hts (.fieldLink RX4 19 "HalfTickets$Person" "goneBehind" "I") (List.mem_of_getElem? (i := 14) (by decide +kernel))) (fun _ h9 => h9) rfl (ty := .int) (by decide +kernel) rfl rfl (Nat.le_of_ble_eq_true rfl) dX4_become_84 (fun H locs hW hS => ?_)
  obtain ⟨M_10, eM_10⟩ : ∃ M9, M9 = xu_p M_9 a 10 (M o 10) := ⟨_, rfl⟩
  rw [← eM_10] at hW
  have hO : ∀ j, M_10 o j = M o j := fun j => (show M_10 o j = M_9 o j by rw [eM_10, xu_n _ (Or.inl (by omega))]).trans (hO j)
  refine lv_aload_n hx hb dX4_become_87 rfl (lv_at hl 0 rfl) ?_
  refine lv_aload_n hx hb dX4_become_88 rfl (lv_at hl 1 rfl) ?_
  refine xg_get (κ := 8) (ci := 4) (C := RX4) (T := TX4) (N := 12) hx hb hts inX4 hown hK hW hτo (by decide) rfl rfl 11 (by decide) (hts (.fieldLink RX4 53 "HalfTickets$Person" "cameInThisTick" "Z") (List.mem_of_getElem? (i := 15) (by decide +kernel))) (fun _ h9 => h9) rfl dX4_become_89 ?_
  rw [hO 11]
  refine xg_put (κ := 8) (ci := 4) (C := RX4) (T := TX4) (N := 12) hx hb hts inX4 tyX4 tyX4_ok nmX4 hown hK O hW hS hτ (by decide) rfl rfl 11 (by decide) (v := (M o 11)) rfl ⟨(xw_okp hW hτ (by decide)).1, hok.2⟩ (hts (.fieldLink RX4 53 "HalfTickets$Person" "cameInThisTick" "Z") (List.mem_of_getElem? (i := 15) (by decide +kernel))) (fun _ h9 => h9) rfl (ty := .boolean) (by decide +kernel) (xb_nar hok.2) (xb_fit hok.2) (Nat.le_of_ble_eq_true rfl) dX4_become_92 (fun H locs hW hS => ?_)
  obtain ⟨M_11, eM_11⟩ : ∃ M9, M9 = xu_p M_10 a 11 (M o 11) := ⟨_, rfl⟩
  rw [← eM_11] at hW
  have hO : ∀ j, M_11 o j = M o j := fun j => (show M_11 o j = M_10 o j by rw [eM_11, xu_n _ (Or.inl (by omega))]).trans (hO j)
  have hrow : ∀ j, j ≠ 1 → j < 12 → M_11 a j = M o j := by
      intro j h1 h2
      have h0 : M_1 a 0 = M o 0 := by rw [eM_1, xr_n _ _ (by omega)]; exact hN
      rcases (show j = 0 ∨ j = 2 ∨ j = 3 ∨ j = 4 ∨ j = 5 ∨ j = 6 ∨ j = 7 ∨ j = 8 ∨ j = 9 ∨ j = 10 ∨ j = 11 by omega) with h | h | h | h | h | h | h | h | h | h | h <;> subst h <;> subst_vars <;> simp [xu_p, xr_up, upd] <;> first | exact hN | skip
  have hout : ∀ x, x ≠ a → M_11 x = M_1 x := by
      intro x h
      rw [eM_11, xu_p, xr_n _ _ h, eM_10, xu_p, xr_n _ _ h, eM_9, xu_p, xr_n _ _ h, eM_8, xu_p, xr_n _ _ h, eM_7, xu_p, xr_n _ _ h, eM_6, xu_p, xr_n _ _ h, eM_5, xu_p, xr_n _ _ h, eM_4, xu_p, xr_n _ _ h, eM_3, xu_p, xr_n _ _ h, eM_2, xu_p, xr_n _ _ h]
  replace hW : xw_D G g τ (xf_cp M a o 2) H := xw_cg hW (fun x hx => by
      by_cases h1 : x = a
      · right
        rw [h1, hτ, xf_in (by omega), show a - a + o = o by omega]
        refine ⟨?_, fun _ => hok⟩
        show (Sum.inr (4, [_, _, _, _, _, _, _, _, _, _, _, _]) : va_E) = .inr (4, [_, _, _, _, _, _, _, _, _, _, _, _])
        rw [hrow 0 (by decide) (by decide), hrow 2 (by decide) (by decide), hrow 3 (by decide) (by decide), hrow 4 (by decide) (by decide), hrow 5 (by decide) (by decide), hrow 6 (by decide) (by decide), hrow 7 (by decide) (by decide), hrow 8 (by decide) (by decide), hrow 9 (by decide) (by decide), hrow 10 (by decide) (by decide), hrow 11 (by decide) (by decide)]
      · left
        rw [hout x h1, eM_1]
        by_cases h2 : x = a + 1
        · rw [h2, xr_s, xf_in (by omega)]
          congr 1
          omega
        · rw [xr_n _ _ h2, xf_out (by omega)])
  exact W.vret hx hb hr (fun t ht hWm => ⟨⟨(xf_cp M a o 2), rfl, rfl, xw_end ht hW⟩, hS.F ht⟩) hS.2.2 dX4_become_95

set_option maxHeartbeats 4000000 in
set_option maxRecDepth 100000 in
/-- Window.become(o) -/
theorem c_X5_become (l : Launch) {G : va_G} {g : Nat → ClassId} {t0 τ : Nat → Nat} {A : Nat → Prop} (O : xk_O τ A) (M : xm_T) (a o : Nat) (hτ : τ a = 5) (hτo : τ o = 5) (hd : a + 5 ≤ o ∨ o + 5 ≤ a) : Met l yX5_become wsX5_become ({ frames := 2, cells := 0, slots := 0, locals := 70 }) (va_Pc [.ref a, .ref o] (xS_t G g t0 τ A M)) (va_Qv (fun M' => M' = xf_cp M a o 5) (fun M' t => xw_D G g τ M' t.heap) A) 0 0 A := by
  refine Met.ofW (cc := cX5_become) (maxL := 2) (ret := none) (by decide) rfl ?_
  intro p e s m args below meth c s₁ B hml hv
  obtain ⟨rfl, hW, hK, hst, hnw⟩ := hv
  have hx := B.exec
  have hb := B.bytes
  have hr := B.returns
  have hts := atoms_spec (ws := wsX5_become) B.pre
  have hown : s.vm.findClass RX5 = some m.cls := findClass_of_methodNamed B.named
  have hlocks := B.notSynchronized
  have hS : va_S A s.heap s.heap [] := va_S.rf
  have inX5 : ∀ w ∈ u_ws RX5 TX5 7, w ∈ wsX5_become := by decide +kernel
  have hl := lv_entry ([.ref a, .ref o]) (n := 2) (Nat.le_of_ble_eq_true rfl)
  rw [lg_entry_eq]
  generalize (lg_sl ([.ref a, .ref o]) ++ List.replicate (2 - (lg_sl ([.ref a, .ref o])).length) Slot.unset).toArray = ls at hl ⊢
  have hl : lv_has ls 2 [(0, .ref a), (1, .ref o)] := hl
  have hO : ∀ j, M o j = M o j := fun _ => rfl
  have hok : xw_ok 5 (M o) := xw_okp hW hτo (by decide)
  refine lv_aload_n hx hb dX5_become_0 rfl (lv_at hl 0 rfl) ?_
  refine lv_aload_n hx hb dX5_become_1 rfl (lv_at hl 1 rfl) ?_
  refine xg_get (κ := 5) (ci := 5) (C := RX5) (T := TX5) (N := 7) hx hb hts inX5 hown hK hW hτo (by decide) rfl rfl 0 (by decide) (hts (.fieldLink RX5 7 "HalfTickets$Window" "isOpen" "Z") (List.mem_of_getElem? (i := 1) (by decide +kernel))) (fun _ h9 => h9) rfl dX5_become_2 ?_
  rw [hO 0]
  refine xg_put (κ := 5) (ci := 5) (C := RX5) (T := TX5) (N := 7) hx hb hts inX5 tyX5 tyX5_ok nmX5 hown hK O hW hS hτ (by decide) rfl rfl 0 (by decide) (v := (M o 0)) rfl hok (hts (.fieldLink RX5 7 "HalfTickets$Window" "isOpen" "Z") (List.mem_of_getElem? (i := 1) (by decide +kernel))) (fun _ h9 => h9) rfl (ty := .boolean) (by decide +kernel) (xb_nar hok) (xb_fit hok) (Nat.le_of_ble_eq_true rfl) dX5_become_5 (fun H locs hW hS => ?_)
  obtain ⟨M_1, eM_1⟩ : ∃ M9, M9 = xu_p M a 0 (M o 0) := ⟨_, rfl⟩
  rw [← eM_1] at hW
  have hO : ∀ j, M_1 o j = M o j := fun j => (show M_1 o j = M o j by rw [eM_1, xu_n _ (Or.inl (by omega))]).trans (hO j)
  refine lv_aload_n hx hb dX5_become_8 rfl (lv_at hl 0 rfl) ?_
  refine lv_aload_n hx hb dX5_become_9 rfl (lv_at hl 1 rfl) ?_
  refine xg_get (κ := 5) (ci := 5) (C := RX5) (T := TX5) (N := 7) hx hb hts inX5 hown hK hW hτo (by decide) rfl rfl 1 (by decide) (hts (.fieldLink RX5 13 "HalfTickets$Window" "clerks" "I") (List.mem_of_getElem? (i := 2) (by decide +kernel))) (fun _ h9 => h9) rfl dX5_become_10 ?_
  rw [hO 1]
  refine xg_put (κ := 5) (ci := 5) (C := RX5) (T := TX5) (N := 7) hx hb hts inX5 tyX5 tyX5_ok nmX5 hown hK O hW hS hτ (by decide) rfl rfl 1 (by decide) (v := (M o 1)) rfl (xw_okp hW hτ (by decide)) (hts (.fieldLink RX5 13 "HalfTickets$Window" "clerks" "I") (List.mem_of_getElem? (i := 2) (by decide +kernel))) (fun _ h9 => h9) rfl (ty := .int) (by decide +kernel) rfl rfl (Nat.le_of_ble_eq_true rfl) dX5_become_13 (fun H locs hW hS => ?_)
  obtain ⟨M_2, eM_2⟩ : ∃ M9, M9 = xu_p M_1 a 1 (M o 1) := ⟨_, rfl⟩
  rw [← eM_2] at hW
  have hO : ∀ j, M_2 o j = M o j := fun j => (show M_2 o j = M_1 o j by rw [eM_2, xu_n _ (Or.inl (by omega))]).trans (hO j)
  refine lv_aload_n hx hb dX5_become_16 rfl (lv_at hl 0 rfl) ?_
  refine lv_aload_n hx hb dX5_become_17 rfl (lv_at hl 1 rfl) ?_
  refine xg_get (κ := 5) (ci := 5) (C := RX5) (T := TX5) (N := 7) hx hb hts inX5 hown hK hW hτo (by decide) rfl rfl 2 (by decide) (hts (.fieldLink RX5 27 "HalfTickets$Window" "halves" "I") (List.mem_of_getElem? (i := 3) (by decide +kernel))) (fun _ h9 => h9) rfl dX5_become_18 ?_
  rw [hO 2]
  refine xg_put (κ := 5) (ci := 5) (C := RX5) (T := TX5) (N := 7) hx hb hts inX5 tyX5 tyX5_ok nmX5 hown hK O hW hS hτ (by decide) rfl rfl 2 (by decide) (v := (M o 2)) rfl (xw_okp hW hτ (by decide)) (hts (.fieldLink RX5 27 "HalfTickets$Window" "halves" "I") (List.mem_of_getElem? (i := 3) (by decide +kernel))) (fun _ h9 => h9) rfl (ty := .int) (by decide +kernel) rfl rfl (Nat.le_of_ble_eq_true rfl) dX5_become_21 (fun H locs hW hS => ?_)
  obtain ⟨M_3, eM_3⟩ : ∃ M9, M9 = xu_p M_2 a 2 (M o 2) := ⟨_, rfl⟩
  rw [← eM_3] at hW
  have hO : ∀ j, M_3 o j = M o j := fun j => (show M_3 o j = M_2 o j by rw [eM_3, xu_n _ (Or.inl (by omega))]).trans (hO j)
  refine lv_aload_n hx hb dX5_become_24 rfl (lv_at hl 0 rfl) ?_
  refine lv_aload_n hx hb dX5_become_25 rfl (lv_at hl 1 rfl) ?_
  refine xg_get (κ := 5) (ci := 5) (C := RX5) (T := TX5) (N := 7) hx hb hts inX5 hown hK hW hτo (by decide) rfl rfl 3 (by decide) (hts (.fieldLink RX5 30 "HalfTickets$Window" "servings" "I") (List.mem_of_getElem? (i := 4) (by decide +kernel))) (fun _ h9 => h9) rfl dX5_become_26 ?_
  rw [hO 3]
  refine xg_put (κ := 5) (ci := 5) (C := RX5) (T := TX5) (N := 7) hx hb hts inX5 tyX5 tyX5_ok nmX5 hown hK O hW hS hτ (by decide) rfl rfl 3 (by decide) (v := (M o 3)) rfl (xw_okp hW hτ (by decide)) (hts (.fieldLink RX5 30 "HalfTickets$Window" "servings" "I") (List.mem_of_getElem? (i := 4) (by decide +kernel))) (fun _ h9 => h9) rfl (ty := .int) (by decide +kernel) rfl rfl (Nat.le_of_ble_eq_true rfl) dX5_become_29 (fun H locs hW hS => ?_)
  obtain ⟨M_4, eM_4⟩ : ∃ M9, M9 = xu_p M_3 a 3 (M o 3) := ⟨_, rfl⟩
  rw [← eM_4] at hW
  have hO : ∀ j, M_4 o j = M o j := fun j => (show M_4 o j = M_3 o j by rw [eM_4, xu_n _ (Or.inl (by omega))]).trans (hO j)
  refine lv_aload_n hx hb dX5_become_32 rfl (lv_at hl 0 rfl) ?_
  refine lv_aload_n hx hb dX5_become_33 rfl (lv_at hl 1 rfl) ?_
  refine xg_get (κ := 5) (ci := 5) (C := RX5) (T := TX5) (N := 7) hx hb hts inX5 hown hK hW hτo (by decide) rfl rfl 4 (by decide) (hts (.fieldLink RX5 33 "HalfTickets$Window" "sentBack" "I") (List.mem_of_getElem? (i := 5) (by decide +kernel))) (fun _ h9 => h9) rfl dX5_become_34 ?_
  rw [hO 4]
  refine xg_put (κ := 5) (ci := 5) (C := RX5) (T := TX5) (N := 7) hx hb hts inX5 tyX5 tyX5_ok nmX5 hown hK O hW hS hτ (by decide) rfl rfl 4 (by decide) (v := (M o 4)) rfl (xw_okp hW hτ (by decide)) (hts (.fieldLink RX5 33 "HalfTickets$Window" "sentBack" "I") (List.mem_of_getElem? (i := 5) (by decide +kernel))) (fun _ h9 => h9) rfl (ty := .int) (by decide +kernel) rfl rfl (Nat.le_of_ble_eq_true rfl) dX5_become_37 (fun H locs hW hS => ?_)
  obtain ⟨M_5, eM_5⟩ : ∃ M9, M9 = xu_p M_4 a 4 (M o 4) := ⟨_, rfl⟩
  rw [← eM_5] at hW
  have hO : ∀ j, M_5 o j = M o j := fun j => (show M_5 o j = M_4 o j by rw [eM_5, xu_n _ (Or.inl (by omega))]).trans (hO j)
  refine lv_aload_n hx hb dX5_become_40 rfl (lv_at hl 0 rfl) ?_
  refine xg_get (κ := 5) (ci := 5) (C := RX5) (T := TX5) (N := 7) hx hb hts inX5 hown hK hW hτ (by decide) rfl rfl 5 (by decide) (hts (.fieldLink RX5 20 "HalfTickets$Window" "queue" "LHalfTickets$Line;") (List.mem_of_getElem? (i := 6) (by decide +kernel))) (fun _ h9 => h9) rfl dX5_become_41 ?_
  refine lv_aload_n hx hb dX5_become_44 rfl (lv_at hl 1 rfl) ?_
  refine xg_get (κ := 5) (ci := 5) (C := RX5) (T := TX5) (N := 7) hx hb hts inX5 hown hK hW hτo (by decide) rfl rfl 5 (by decide) (hts (.fieldLink RX5 20 "HalfTickets$Window" "queue" "LHalfTickets$Line;") (List.mem_of_getElem? (i := 6) (by decide +kernel))) (fun _ h9 => h9) rfl dX5_become_45 ?_
  refine xc_v (xr_V (As := [.ref (o + 1)]) (rest := []) (κ := 6) ⟨hx, hb, hml, hown, hts⟩ (c_X1_become l O M_5 (a + 1) (o + 1) (O.q hτ) (O.q hτo) (by omega)) (cwV 1 hts gX5_become_X1_become rfl rfl rfl (by decide +kernel) ⟨Nat.le_of_ble_eq_true rfl, Nat.le_of_ble_eq_true rfl⟩) hK hst hnw hS hW (O.q hτ) (by decide) rfl rfl rfl hl.1 rfl (Nat.le_of_ble_eq_true rfl) dX5_become_48 ⟨Nat.zero_le _, Nat.zero_le _⟩) hS (fun M_6 H locs hq_7 hW hS => ?_)
  refine lv_aload_n hx hb dX5_become_51 rfl (lv_at hl 0 rfl) ?_
  refine xg_get (κ := 5) (ci := 5) (C := RX5) (T := TX5) (N := 7) hx hb hts inX5 hown hK hW hτ (by decide) rfl rfl 6 (by decide) (hts (.fieldLink RX5 24 "HalfTickets$Window" "serving" "LHalfTickets$Line;") (List.mem_of_getElem? (i := 7) (by decide +kernel))) (fun _ h9 => h9) rfl dX5_become_52 ?_
  refine lv_aload_n hx hb dX5_become_55 rfl (lv_at hl 1 rfl) ?_
  refine xg_get (κ := 5) (ci := 5) (C := RX5) (T := TX5) (N := 7) hx hb hts inX5 hown hK hW hτo (by decide) rfl rfl 6 (by decide) (hts (.fieldLink RX5 24 "HalfTickets$Window" "serving" "LHalfTickets$Line;") (List.mem_of_getElem? (i := 7) (by decide +kernel))) (fun _ h9 => h9) rfl dX5_become_56 ?_
  refine xc_v (xr_V (As := [.ref (o + 3)]) (rest := []) (κ := 6) ⟨hx, hb, hml, hown, hts⟩ (c_X1_become l O M_6 (a + 3) (o + 3) (O.r hτ) (O.r hτo) (by omega)) (cwV 1 hts gX5_become_X1_become rfl rfl rfl (by decide +kernel) ⟨Nat.le_of_ble_eq_true rfl, Nat.le_of_ble_eq_true rfl⟩) hK hst hnw hS hW (O.r hτ) (by decide) rfl rfl rfl hl.1 rfl (Nat.le_of_ble_eq_true rfl) dX5_become_59 ⟨Nat.zero_le _, Nat.zero_le _⟩) hS (fun M_9 H locs hq_10 hW hS => ?_)
  have hrow : ∀ j, j < 5 → M_5 a j = M o j := by
      intro j h2
      rcases (show j = 0 ∨ j = 1 ∨ j = 2 ∨ j = 3 ∨ j = 4 by omega) with h | h | h | h | h <;> subst h <;> subst eM_5 <;> subst eM_4 <;> subst eM_3 <;> subst eM_2 <;> subst eM_1 <;> simp [xu_p, xr_up, upd]
  have hout : ∀ x, x ≠ a → M_5 x = M x := by
      intro x h
      rw [eM_5, xu_p, xr_n _ _ h, eM_4, xu_p, xr_n _ _ h, eM_3, xu_p, xr_n _ _ h, eM_2, xu_p, xr_n _ _ h, eM_1, xu_p, xr_n _ _ h]
  replace hW : xw_D G g τ (xf_cp M a o 5) H := xw_cg hW (fun x hx => by
      rw [hq_10, hq_7]
      by_cases h1 : x = a
      · right
        rw [h1, hτ, xf_out (by omega), xf_out (by omega), xf_in (by omega), show a - a + o = o by omega]
        refine ⟨?_, fun _ => hok⟩
        show (Sum.inr (5, [_, _, _, _, _, _, _]) : va_E) = .inr (5, [_, _, _, _, _, _, _])
        rw [hrow 0 (by decide), hrow 1 (by decide), hrow 2 (by decide), hrow 3 (by decide), hrow 4 (by decide)]
      · left
        by_cases h2 : a + 3 ≤ x ∧ x < a + 5
        · rw [xf_in (by omega), xf_out (by omega), hout _ (by omega), xf_in (by omega)]
          congr 1
          omega
        · rw [xf_out (by omega)]
          by_cases h3 : a + 1 ≤ x ∧ x < a + 3
          · rw [xf_in (by omega), hout _ (by omega), xf_in (by omega)]
            congr 1
            omega
          · rw [xf_out (by omega), hout _ (by omega), xf_out (by omega)])
  exact W.vret hx hb hr (fun t ht hWm => ⟨⟨(xf_cp M a o 5), rfl, rfl, xw_end ht hW⟩, hS.F ht⟩) hS.2.2 dX5_become_62

set_option maxHeartbeats 4000000 in
set_option maxRecDepth 100000 in
/-- Ministry.become(o) -/
theorem c_X2_become (l : Launch) {G : va_G} {g : Nat → ClassId} {t0 τ : Nat → Nat} {A : Nat → Prop} (O : xk_O τ A) (M : xm_T) (a o : Nat) (hτ : τ a = 1) (hτo : τ o = 1) (hd : a + 82 ≤ o ∨ o + 82 ≤ a) (hN : ∀ k, k < 24 → M (a + 2 * k + 34) 0 = M (o + 2 * k + 34) 0) : Met l yX2_become wsX2_become ({ frames := 3, cells := 0, slots := 0, locals := 100 }) (va_Pc [.ref a, .ref o] (xS_t G g t0 τ A M)) (va_Qv (fun M' => M' = xf_cp M a o 82) (fun M' t => xw_D G g τ M' t.heap) A) 0 0 A := by
  refine Met.ofW (cc := cX2_become) (maxL := 3) (ret := none) (by decide) rfl ?_
  intro p e s m args below meth c s₁ B hml hv
  obtain ⟨rfl, hW, hK, hst, hnw⟩ := hv
  have hx := B.exec
  have hb := B.bytes
  have hr := B.returns
  have hts := atoms_spec (ws := wsX2_become) B.pre
  have hown : s.vm.findClass RX2 = some m.cls := findClass_of_methodNamed B.named
  have hlocks := B.notSynchronized
  have hS : va_S A s.heap s.heap [] := va_S.rf
  have inX2 : ∀ w ∈ u_ws RX2 TX2 7, w ∈ wsX2_become := by decide +kernel
  have hl := lv_entry ([.ref a, .ref o]) (n := 3) (Nat.le_of_ble_eq_true rfl)
  rw [lg_entry_eq]
  generalize (lg_sl ([.ref a, .ref o]) ++ List.replicate (3 - (lg_sl ([.ref a, .ref o])).length) Slot.unset).toArray = ls at hl ⊢
  have hl : lv_has ls 3 [(0, .ref a), (1, .ref o)] := hl
  have hO : ∀ j, M o j = M o j := fun _ => rfl
  refine lv_aload_n hx hb dX2_become_0 rfl (lv_at hl 1 rfl) ?_
  refine xg_get (κ := 1) (ci := 2) (C := RX2) (T := TX2) (N := 7) hx hb hts inX2 hown hK hW hτo (by decide) rfl rfl 0 (by decide) (hts (.fieldLink RX2 18 "HalfTickets$Ministry" "settings" "[I") (List.mem_of_getElem? (i := 1) (by decide +kernel))) (fun _ h9 => h9) rfl dX2_become_1 ?_
  refine lv_iconst (v := (nI 0)) hx hb dX2_become_4 (by decide) ?_
  refine lv_aload_n hx hb dX2_become_5 rfl (lv_at hl 0 rfl) ?_
  refine xg_get (κ := 1) (ci := 2) (C := RX2) (T := TX2) (N := 7) hx hb hts inX2 hown hK hW hτ (by decide) rfl rfl 0 (by decide) (hts (.fieldLink RX2 18 "HalfTickets$Ministry" "settings" "[I") (List.mem_of_getElem? (i := 1) (by decide +kernel))) (fun _ h9 => h9) rfl dX2_become_6 ?_
  refine lv_iconst (v := (nI 0)) hx hb dX2_become_9 (by decide) ?_
  refine va_getsN hx hb hst.1.1 hS hown (va_Nw.use rfl hnw.1) (fun _ h9 => h9) dX2_become_10 ?_
  refine va_tlen hx hb hst.1.2 hS (v := nI 3) rfl dX2_become_13 ?_
  refine xg_cpy (κ := 103) (n := 3) hx hb (by rw [hml]; exact hl.1.symm) hown (hts (.methodLink RX2 39 arraycopyName) (List.mem_of_getElem? (i := 2) (by decide +kernel))) (hts (.native arraycopyName) (List.mem_of_getElem? (i := 3) (by decide +kernel))) (hts (.static arraycopyName) (List.mem_of_getElem? (i := 4) (by decide +kernel))) (hts (.initialized "java/lang/System") (List.mem_of_getElem? (i := 5) (by decide +kernel))) hK O hW hS (O.m1 hτo) (O.m1 hτ) (by decide) (fun _ _ => rfl) (fun _ => trivial) rfl rfl rfl (by decide) (Nat.le_of_ble_eq_true rfl) (by decide +kernel) dX2_become_14 (fun H locs hW hS => ?_)
  obtain ⟨M_1, eM_1⟩ : ∃ M9, M9 = xr_up M (a + 1) (M (o + 1)) := ⟨_, rfl⟩
  rw [← eM_1] at hW
  have hO : ∀ j, M_1 o j = M o j := fun j => (show M_1 o j = M o j by rw [eM_1, xr_n _ _ (by omega)]).trans (hO j)
  refine lv_iconst (v := (nI 0)) hx hb dX2_become_17 (by decide) ?_
  refine lv_istore_n (lv' := [(2, .int (nI 0)), (0, .ref a), (1, .ref o)]) hx hb dX2_become_18 rfl hl (by decide) rfl (fun ls hl => ?_)
  rw [show M_1 = xf_cp M_1 (a + 4) (o + 4) (5 * 0) from (xf_cp_0 _ _ _).symm] at hW
  refine xl_up (σ := Unit) 6 (fun kk zz H locs ls => xw_D G g τ (xf_cp M_1 (a + 4) (o + 4) (5 * kk)) H ∧ va_S A s.heap H locs ∧ lv_has ls 3 [(2, .int (nI kk)), (0, .ref a), (1, .ref o)] ∧ True) (fun z19 H locs ls hI => ?_) (fun k19 z19 H locs ls hk19 hI ih19 => ?_) (k0 := 0) (z0 := ()) (Nat.zero_le _) ⟨hW, hS, lv_sub hl [0, 1, 2] rfl, trivial⟩
  · obtain ⟨hW, hS, hl, hE19⟩ := hI
    refine lv_iload_n hx hb dX2_become_19 rfl (lv_at hl 0 rfl) ?_
    refine lv_bipush (v := (nI 6)) hx hb dX2_become_20 (by decide) ?_
    refine lv_icmp_ge (tgt := 46) hx hb dX2_become_22 (by decide) (fun c_2 => ?_) (fun c_2 => ?_)
    · refine lv_iconst (v := (nI 0)) hx hb dX2_become_46 (by decide) ?_
      refine lv_istore_n (lv' := [(2, .int (nI 0)), (0, .ref a), (1, .ref o)]) hx hb dX2_become_47 rfl hl (by decide) rfl (fun ls hl => ?_)
      rw [show xf_cp M_1 (a + 4) (o + 4) (5 * 6) = xf_cp (xf_cp M_1 (a + 4) (o + 4) (5 * 6)) (a + 34) (o + 34) (2 * 0) from (xf_cp_0 _ _ _).symm] at hW
      refine xl_up (σ := Unit) 24 (fun kk zz H locs ls => xw_D G g τ (xf_cp (xf_cp M_1 (a + 4) (o + 4) (5 * 6)) (a + 34) (o + 34) (2 * kk)) H ∧ va_S A s.heap H locs ∧ lv_has ls 3 [(2, .int (nI kk)), (0, .ref a), (1, .ref o)] ∧ True) (fun z48 H locs ls hI => ?_) (fun k48 z48 H locs ls hk48 hI ih48 => ?_) (k0 := 0) (z0 := ()) (Nat.zero_le _) ⟨hW, hS, lv_sub hl [0, 1, 2] rfl, trivial⟩
      · obtain ⟨hW, hS, hl, hE48⟩ := hI
        have hO : ∀ j, (xf_cp (xf_cp M_1 (a + 4) (o + 4) (5 * 6)) (a + 34) (o + 34) (2 * 24)) o j = M o j := fun j => (show (xf_cp (xf_cp M_1 (a + 4) (o + 4) (5 * 6)) (a + 34) (o + 34) (2 * 24)) o j = M_1 o j by rw [xf_out (by omega), xf_out (by omega)]).trans (hO j)
        refine lv_iload_n hx hb dX2_become_48 rfl (lv_at hl 0 rfl) ?_
        refine lv_bipush (v := (nI 24)) hx hb dX2_become_49 (by decide) ?_
        refine lv_icmp_ge (tgt := 75) hx hb dX2_become_51 (by decide) (fun c_3 => ?_) (fun c_3 => ?_)
        · refine lv_aload_n hx hb dX2_become_75 rfl (lv_at hl 1 rfl) ?_
          refine lv_aload_n hx hb dX2_become_76 rfl (lv_at hl 2 rfl) ?_
          refine xg_get (κ := 1) (ci := 2) (C := RX2) (T := TX2) (N := 7) hx hb hts inX2 hown hK hW hτo (by decide) rfl rfl 3 (by decide) (hts (.fieldLink RX2 52 "HalfTickets$Ministry" "people" "I") (List.mem_of_getElem? (i := 8) (by decide +kernel))) (fun _ h9 => h9) rfl dX2_become_77 ?_
          rw [hO 3]
          refine xg_put (κ := 1) (ci := 2) (C := RX2) (T := TX2) (N := 7) hx hb hts inX2 tyX2 tyX2_ok nmX2 hown hK O hW hS hτ (by decide) rfl rfl 3 (by decide) (v := (M o 3)) rfl trivial (hts (.fieldLink RX2 52 "HalfTickets$Ministry" "people" "I") (List.mem_of_getElem? (i := 8) (by decide +kernel))) (fun _ h9 => h9) rfl (ty := .int) (by decide +kernel) rfl rfl (Nat.le_of_ble_eq_true rfl) dX2_become_80 (fun H locs hW hS => ?_)
          obtain ⟨M_4, eM_4⟩ : ∃ M9, M9 = xu_p (xf_cp (xf_cp M_1 (a + 4) (o + 4) (5 * 6)) (a + 34) (o + 34) (2 * 24)) a 3 (M o 3) := ⟨_, rfl⟩
          rw [← eM_4] at hW
          have hO : ∀ j, M_4 o j = M o j := fun j => (show M_4 o j = (xf_cp (xf_cp M_1 (a + 4) (o + 4) (5 * 6)) (a + 34) (o + 34) (2 * 24)) o j by rw [eM_4, xu_n _ (Or.inl (by omega))]).trans (hO j)
          refine lv_aload_n hx hb dX2_become_83 rfl (lv_at hl 1 rfl) ?_
          refine lv_aload_n hx hb dX2_become_84 rfl (lv_at hl 2 rfl) ?_
          refine xg_get (κ := 1) (ci := 2) (C := RX2) (T := TX2) (N := 7) hx hb hts inX2 hown hK hW hτo (by decide) rfl rfl 4 (by decide) (hts (.fieldLink RX2 56 "HalfTickets$Ministry" "ticks" "I") (List.mem_of_getElem? (i := 9) (by decide +kernel))) (fun _ h9 => h9) rfl dX2_become_85 ?_
          rw [hO 4]
          refine xg_put (κ := 1) (ci := 2) (C := RX2) (T := TX2) (N := 7) hx hb hts inX2 tyX2 tyX2_ok nmX2 hown hK O hW hS hτ (by decide) rfl rfl 4 (by decide) (v := (M o 4)) rfl trivial (hts (.fieldLink RX2 56 "HalfTickets$Ministry" "ticks" "I") (List.mem_of_getElem? (i := 9) (by decide +kernel))) (fun _ h9 => h9) rfl (ty := .int) (by decide +kernel) rfl rfl (Nat.le_of_ble_eq_true rfl) dX2_become_88 (fun H locs hW hS => ?_)
          obtain ⟨M_5, eM_5⟩ : ∃ M9, M9 = xu_p M_4 a 4 (M o 4) := ⟨_, rfl⟩
          rw [← eM_5] at hW
          have hO : ∀ j, M_5 o j = M o j := fun j => (show M_5 o j = M_4 o j by rw [eM_5, xu_n _ (Or.inl (by omega))]).trans (hO j)
          refine lv_aload_n hx hb dX2_become_91 rfl (lv_at hl 1 rfl) ?_
          refine lv_aload_n hx hb dX2_become_92 rfl (lv_at hl 2 rfl) ?_
          refine xg_get (κ := 1) (ci := 2) (C := RX2) (T := TX2) (N := 7) hx hb hts inX2 hown hK hW hτo (by decide) rfl rfl 5 (by decide) (hts (.fieldLink RX2 59 "HalfTickets$Ministry" "lost" "I") (List.mem_of_getElem? (i := 10) (by decide +kernel))) (fun _ h9 => h9) rfl dX2_become_93 ?_
          rw [hO 5]
          refine xg_put (κ := 1) (ci := 2) (C := RX2) (T := TX2) (N := 7) hx hb hts inX2 tyX2 tyX2_ok nmX2 hown hK O hW hS hτ (by decide) rfl rfl 5 (by decide) (v := (M o 5)) rfl trivial (hts (.fieldLink RX2 59 "HalfTickets$Ministry" "lost" "I") (List.mem_of_getElem? (i := 10) (by decide +kernel))) (fun _ h9 => h9) rfl (ty := .int) (by decide +kernel) rfl rfl (Nat.le_of_ble_eq_true rfl) dX2_become_96 (fun H locs hW hS => ?_)
          obtain ⟨M_6, eM_6⟩ : ∃ M9, M9 = xu_p M_5 a 5 (M o 5) := ⟨_, rfl⟩
          rw [← eM_6] at hW
          have hO : ∀ j, M_6 o j = M o j := fun j => (show M_6 o j = M_5 o j by rw [eM_6, xu_n _ (Or.inl (by omega))]).trans (hO j)
          refine lv_aload_n hx hb dX2_become_99 rfl (lv_at hl 1 rfl) ?_
          refine lv_aload_n hx hb dX2_become_100 rfl (lv_at hl 2 rfl) ?_
          refine xg_get (κ := 1) (ci := 2) (C := RX2) (T := TX2) (N := 7) hx hb hts inX2 hown hK hW hτo (by decide) rfl rfl 6 (by decide) (hts (.fieldLink RX2 62 "HalfTickets$Ministry" "brought" "I") (List.mem_of_getElem? (i := 11) (by decide +kernel))) (fun _ h9 => h9) rfl dX2_become_101 ?_
          rw [hO 6]
          refine xg_put (κ := 1) (ci := 2) (C := RX2) (T := TX2) (N := 7) hx hb hts inX2 tyX2 tyX2_ok nmX2 hown hK O hW hS hτ (by decide) rfl rfl 6 (by decide) (v := (M o 6)) rfl trivial (hts (.fieldLink RX2 62 "HalfTickets$Ministry" "brought" "I") (List.mem_of_getElem? (i := 11) (by decide +kernel))) (fun _ h9 => h9) rfl (ty := .int) (by decide +kernel) rfl rfl (Nat.le_of_ble_eq_true rfl) dX2_become_104 (fun H locs hW hS => ?_)
          obtain ⟨M_7, eM_7⟩ : ∃ M9, M9 = xu_p M_6 a 6 (M o 6) := ⟨_, rfl⟩
          rw [← eM_7] at hW
          have hO : ∀ j, M_7 o j = M o j := fun j => (show M_7 o j = M_6 o j by rw [eM_7, xu_n _ (Or.inl (by omega))]).trans (hO j)
          have hout : ∀ x, x ≠ a → M_7 x = (xf_cp (xf_cp M_1 (a + 4) (o + 4) (5 * 6)) (a + 34) (o + 34) (2 * 24)) x := by
              intro x h
              rw [eM_7, xu_p, xr_n _ _ h, eM_6, xu_p, xr_n _ _ h, eM_5, xu_p, xr_n _ _ h, eM_4, xu_p, xr_n _ _ h]
          have hrow : M_7 a 3 = M o 3 ∧ M_7 a 4 = M o 4 ∧ M_7 a 5 = M o 5 ∧ M_7 a 6 = M o 6 := by
              subst eM_7
              subst eM_6
              subst eM_5
              subst eM_4
              refine ⟨?_, ?_, ?_, ?_⟩ <;> simp [xu_p, xr_up, upd]
          replace hW : xw_D G g τ (xf_cp M a o 82) H := xw_cg hW (fun x hx => by
              by_cases h1 : x = a
              · right
                rw [h1, hτ, xf_in (by omega), show a - a + o = o by omega]
                refine ⟨?_, fun _ => trivial⟩
                show (Sum.inr (2, [_, _, _, _, _, _, _]) : va_E) = .inr (2, [_, _, _, _, _, _, _])
                rw [hrow.1, hrow.2.1, hrow.2.2.1, hrow.2.2.2]
              · by_cases h2 : x = a + 2
                · right
                  rw [h2, O.m2 hτ]
                  exact ⟨rfl, fun _ => trivial⟩
                · by_cases h3 : x = a + 3
                  · right
                    rw [h3, O.m3 hτ]
                    exact ⟨rfl, fun _ => trivial⟩
                  · left
                    rw [hout x h1]
                    by_cases h4 : a + 34 ≤ x ∧ x < a + 82
                    · rw [xf_in (by omega), xf_out (by omega), eM_1, xr_n _ _ (by omega), xf_in (by omega)]
                      congr 1
                      omega
                    · rw [xf_out (by omega)]
                      by_cases h5 : a + 4 ≤ x ∧ x < a + 34
                      · rw [xf_in (by omega), eM_1, xr_n _ _ (by omega), xf_in (by omega)]
                        congr 1
                        omega
                      · rw [xf_out (by omega), eM_1]
                        by_cases h6 : x = a + 1
                        · rw [h6, xr_s, xf_in (by omega)]
                          congr 1
                          omega
                        · rw [xr_n _ _ h6, xf_out (by omega)])
          exact W.vret hx hb hr (fun t ht hWm => ⟨⟨(xf_cp M a o 82), rfl, rfl, xw_end ht hW⟩, hS.F ht⟩) hS.2.2 dX2_become_107
        · exact absurd (nI_le (Nat.le_refl _) (by decide)) c_3
      · obtain ⟨hW, hS, hl, hE48⟩ := hI
        refine lv_iload_n hx hb dX2_become_48 rfl (lv_at hl 0 rfl) ?_
        refine lv_bipush (v := (nI 24)) hx hb dX2_become_49 (by decide) ?_
        refine lv_icmp_ge (tgt := 75) hx hb dX2_become_51 (by decide) (fun c_8 => ?_) (fun c_8 => ?_)
        · exact absurd c_8 (nI_ge hk48 (by decide))
        · refine lv_aload_n hx hb dX2_become_54 rfl (lv_at hl 1 rfl) ?_
          refine xg_get (κ := 1) (ci := 2) (C := RX2) (T := TX2) (N := 7) hx hb hts inX2 hown hK hW hτ (by decide) rfl rfl 2 (by decide) (hts (.fieldLink RX2 31 "HalfTickets$Ministry" "persons" "[LHalfTickets$Person;") (List.mem_of_getElem? (i := 7) (by decide +kernel))) (fun _ h9 => h9) rfl dX2_become_55 ?_
          refine lv_iload_n hx hb dX2_become_58 rfl (lv_at hl 0 rfl) ?_
          refine xg_aldP (a := a) hx hb hK hW (O.m3 hτ) k48 rfl hk48 dX2_become_59 ?_
          refine lv_aload_n hx hb dX2_become_60 rfl (lv_at hl 2 rfl) ?_
          refine xg_get (κ := 1) (ci := 2) (C := RX2) (T := TX2) (N := 7) hx hb hts inX2 hown hK hW hτo (by decide) rfl rfl 2 (by decide) (hts (.fieldLink RX2 31 "HalfTickets$Ministry" "persons" "[LHalfTickets$Person;") (List.mem_of_getElem? (i := 7) (by decide +kernel))) (fun _ h9 => h9) rfl dX2_become_61 ?_
          refine lv_iload_n hx hb dX2_become_64 rfl (lv_at hl 0 rfl) ?_
          refine xg_aldP (a := o) hx hb hK hW (O.m3 hτo) k48 rfl hk48 dX2_become_65 ?_
          have hNk : (xf_cp (xf_cp M_1 (a + 4) (o + 4) (5 * 6)) (a + 34) (o + 34) (2 * k48)) (a + 2 * k48 + 34) 0 = (xf_cp (xf_cp M_1 (a + 4) (o + 4) (5 * 6)) (a + 34) (o + 34) (2 * k48)) (o + 2 * k48 + 34) 0 := by rw [xf_out (by omega), xf_out (by omega), xf_out (by omega), xf_out (by omega), eM_1, xr_n _ _ (by omega), xr_n _ _ (by omega)]; exact hN k48 hk48
          refine xc_v (xr_V (As := [.ref (o + 2 * k48 + 34)]) (rest := []) (κ := 8) ⟨hx, hb, hml, hown, hts⟩ (c_X4_become l O (xf_cp (xf_cp M_1 (a + 4) (o + 4) (5 * 6)) (a + 34) (o + 34) (2 * k48)) (a + 2 * k48 + 34) (o + 2 * k48 + 34) (O.p hτ hk48) (O.p hτo hk48) (by omega) hNk) (cwV 1 hts gX2_become_X4_become rfl rfl rfl (by decide +kernel) ⟨Nat.le_of_ble_eq_true rfl, Nat.le_of_ble_eq_true rfl⟩) hK hst hnw hS hW (O.p hτ hk48) (by decide) rfl rfl rfl hl.1 rfl (Nat.le_of_ble_eq_true rfl) dX2_become_66 ⟨Nat.zero_le _, Nat.zero_le _⟩) hS (fun M_9 H locs hq_10 hW hS => ?_)
          rw [xf_cp_add (by omega) (by omega) (by omega), show 2 * k48 + 2 = 2 * (k48 + 1) by omega] at hq_10
          subst hq_10
          refine lv_iinc (v := (nI (k48 + 1))) (lv' := [(2, .int (nI (k48 + 1))), (0, .ref a), (1, .ref o)]) hx hb dX2_become_69 hl (k := 0) rfl ((nI_1 k48)) (by decide) rfl (fun ls hl => ?_)
          refine lv_goto (tgt := 48) hx hb dX2_become_72 (by decide) ?_
          exact ih48 () _ _ _ ⟨hW, hS, lv_sub hl [0, 1, 2] rfl, trivial⟩
    · exact absurd (nI_le (Nat.le_refl _) (by decide)) c_2
  · obtain ⟨hW, hS, hl, hE19⟩ := hI
    refine lv_iload_n hx hb dX2_become_19 rfl (lv_at hl 0 rfl) ?_
    refine lv_bipush (v := (nI 6)) hx hb dX2_become_20 (by decide) ?_
    refine lv_icmp_ge (tgt := 46) hx hb dX2_become_22 (by decide) (fun c_12 => ?_) (fun c_12 => ?_)
    · exact absurd c_12 (nI_ge hk19 (by decide))
    · refine lv_aload_n hx hb dX2_become_25 rfl (lv_at hl 1 rfl) ?_
      refine xg_get (κ := 1) (ci := 2) (C := RX2) (T := TX2) (N := 7) hx hb hts inX2 hown hK hW hτ (by decide) rfl rfl 1 (by decide) (hts (.fieldLink RX2 25 "HalfTickets$Ministry" "windows" "[LHalfTickets$Window;") (List.mem_of_getElem? (i := 6) (by decide +kernel))) (fun _ h9 => h9) rfl dX2_become_26 ?_
      refine lv_iload_n hx hb dX2_become_29 rfl (lv_at hl 0 rfl) ?_
      refine xg_aldW (a := a) hx hb hK hW (O.m2 hτ) k19 rfl hk19 dX2_become_30 ?_
      refine lv_aload_n hx hb dX2_become_31 rfl (lv_at hl 2 rfl) ?_
      refine xg_get (κ := 1) (ci := 2) (C := RX2) (T := TX2) (N := 7) hx hb hts inX2 hown hK hW hτo (by decide) rfl rfl 1 (by decide) (hts (.fieldLink RX2 25 "HalfTickets$Ministry" "windows" "[LHalfTickets$Window;") (List.mem_of_getElem? (i := 6) (by decide +kernel))) (fun _ h9 => h9) rfl dX2_become_32 ?_
      refine lv_iload_n hx hb dX2_become_35 rfl (lv_at hl 0 rfl) ?_
      refine xg_aldW (a := o) hx hb hK hW (O.m2 hτo) k19 rfl hk19 dX2_become_36 ?_
      refine xc_v (xr_V (As := [.ref (o + 5 * k19 + 4)]) (rest := []) (κ := 5) ⟨hx, hb, hml, hown, hts⟩ (c_X5_become l O (xf_cp M_1 (a + 4) (o + 4) (5 * k19)) (a + 5 * k19 + 4) (o + 5 * k19 + 4) (O.w hτ hk19) (O.w hτo hk19) (by omega)) (cwV 1 hts gX2_become_X5_become rfl rfl rfl (by decide +kernel) ⟨Nat.le_of_ble_eq_true rfl, Nat.le_of_ble_eq_true rfl⟩) hK hst hnw hS hW (O.w hτ hk19) (by decide) rfl rfl rfl hl.1 rfl (Nat.le_of_ble_eq_true rfl) dX2_become_37 ⟨Nat.zero_le _, Nat.zero_le _⟩) hS (fun M_13 H locs hq_14 hW hS => ?_)
      rw [xf_cp_add (by omega) (by omega) (by omega), show 5 * k19 + 5 = 5 * (k19 + 1) by omega] at hq_14
      subst hq_14
      refine lv_iinc (v := (nI (k19 + 1))) (lv' := [(2, .int (nI (k19 + 1))), (0, .ref a), (1, .ref o)]) hx hb dX2_become_40 hl (k := 0) rfl ((nI_1 k19)) (by decide) rfl (fun ls hl => ?_)
      refine lv_goto (tgt := 19) hx hb dX2_become_43 (by decide) ?_
      exact ih19 () _ _ _ ⟨hW, hS, lv_sub hl [0, 1, 2] rfl, trivial⟩
end
section
def xf_win (a : Nat) (i : Int32) : Option Nat := if i < 0 then none else if nI 6 ≤ i then none else some (a + 5 * i.toNatClampNeg + 4)
def xf_per (M : xm_T) (a : Nat) (i : Int32) : Option Nat := if i < 0 then none else if M a 3 ≤ i then none else if nI 24 ≤ i then none else some (a + 2 * i.toNatClampNeg + 34)
def xf_sum (f : Nat → Int32) : Nat → Int32
  | 0 => nI 0
  | n + 1 => xf_sum f n + f n
theorem xf_win_s (a : Nat) {k : Nat} (hk : k < 6) : xf_win a (nI k) = some (a + 5 * k + 4) := by
  unfold xf_win
  rw [if_neg (nI_pos (by omega)), if_neg (nI_ge hk (by omega)), nI_clamp (by omega)]
theorem xf_win_n (a : Nat) {i : Int32} (h : i < 0 ∨ nI 6 ≤ i) : xf_win a i = none := by
  unfold xf_win
  by_cases h1 : i < 0
  · rw [if_pos h1]
  · rw [if_neg h1, if_pos (h.resolve_left h1)]

set_option maxHeartbeats 4000000 in
set_option maxRecDepth 100000 in
/-- Ministry.windowAt(i) -/
theorem c_X2_windowAt (l : Launch) {G : va_G} {g : Nat → ClassId} {t0 τ : Nat → Nat} {A : Nat → Prop} (O : xk_O τ A) (M : xm_T) (a : Nat) (hτ : τ a = 1) (i : Int32) : Met l yX2_windowAt wsX2_windowAt ({ frames := 0, cells := 0, slots := 0, locals := 0 }) (va_Pc [.ref a, .int i] (xS_t G g t0 τ A M)) (va_Qq (fun r M' => r = xf_win a i ∧ M' = M) (fun M' t => xw_D G g τ M' t.heap) A) 0 0 A := by
  refine Met.ofW (cc := cX2_windowAt) (maxL := 2) (ret := (some (.object "HalfTickets$Window"))) (by decide) rfl ?_
  intro p e s m args below meth c s₁ B hml hv
  obtain ⟨rfl, hW, hK, hst, hnw⟩ := hv
  have hx := B.exec
  have hb := B.bytes
  have hr := B.returns
  have hts := atoms_spec (ws := wsX2_windowAt) B.pre
  have hown : s.vm.findClass RX2 = some m.cls := findClass_of_methodNamed B.named
  have hlocks := B.notSynchronized
  have hS : va_S A s.heap s.heap [] := va_S.rf
  have inX2 : ∀ w ∈ u_ws RX2 TX2 7, w ∈ wsX2_windowAt := by decide +kernel
  have hl := lv_entry ([.ref a, .int i]) (n := 2) (Nat.le_of_ble_eq_true rfl)
  rw [lg_entry_eq]
  generalize (lg_sl ([.ref a, .int i]) ++ List.replicate (2 - (lg_sl ([.ref a, .int i])).length) Slot.unset).toArray = ls at hl ⊢
  have hl : lv_has ls 2 [(0, .ref a), (1, .int i)] := hl
  refine lv_iload_n hx hb dX2_windowAt_0 rfl (lv_at hl 1 rfl) ?_
  refine lv_if_lt (tgt := 22) hx hb dX2_windowAt_1 (by decide) (fun c_1 => ?_) (fun c_1 => ?_)
  · have hres : none = xf_win a i := by unfold xf_win; rw [if_pos c_1]
    refine lv_null hx hb dX2_windowAt_22 ?_
    exact W.aret (v := .null) hx hb hr (Or.inl ⟨_, rfl⟩) (Or.inl rfl) (fun t ht hWm => ⟨⟨none, M, rfl, ⟨hres, rfl⟩, xw_end ht hW⟩, hS.F ht⟩) hS.2.2 dX2_windowAt_23
  · refine lv_iload_n hx hb dX2_windowAt_4 rfl (lv_at hl 1 rfl) ?_
    refine lv_aload_n hx hb dX2_windowAt_5 rfl (lv_at hl 0 rfl) ?_
    refine xg_get (κ := 1) (ci := 2) (C := RX2) (T := TX2) (N := 7) hx hb hts inX2 hown hK hW hτ (by decide) rfl rfl 1 (by decide) (hts (.fieldLink RX2 25 "HalfTickets$Ministry" "windows" "[LHalfTickets$Window;") (List.mem_of_getElem? (i := 1) (by decide +kernel))) (fun _ h9 => h9) rfl dX2_windowAt_6 ?_
    refine xg_alen (κ := 3) (v := nI 6) hx hb hK hW (O.m2 hτ) (by decide) rfl 3 rfl rfl dX2_windowAt_9 ?_
    refine lv_icmp_ge (tgt := 22) hx hb dX2_windowAt_10 (by decide) (fun c_2 => ?_) (fun c_2 => ?_)
    · have hres : none = xf_win a i := by unfold xf_win; rw [if_neg c_1, if_pos c_2]
      refine lv_null hx hb dX2_windowAt_22 ?_
      exact W.aret (v := .null) hx hb hr (Or.inl ⟨_, rfl⟩) (Or.inl rfl) (fun t ht hWm => ⟨⟨none, M, rfl, ⟨hres, rfl⟩, xw_end ht hW⟩, hS.F ht⟩) hS.2.2 dX2_windowAt_23
    · have hres : some (a + 5 * i.toNatClampNeg + 4) = xf_win a i := by unfold xf_win; rw [if_neg c_1, if_neg c_2]
      refine lv_aload_n hx hb dX2_windowAt_13 rfl (lv_at hl 0 rfl) ?_
      refine xg_get (κ := 1) (ci := 2) (C := RX2) (T := TX2) (N := 7) hx hb hts inX2 hown hK hW hτ (by decide) rfl rfl 1 (by decide) (hts (.fieldLink RX2 25 "HalfTickets$Ministry" "windows" "[LHalfTickets$Window;") (List.mem_of_getElem? (i := 1) (by decide +kernel))) (fun _ h9 => h9) rfl dX2_windowAt_14 ?_
      refine lv_iload_n hx hb dX2_windowAt_17 rfl (lv_at hl 1 rfl) ?_
      refine xg_aldW (a := a) hx hb hK hW (O.m2 hτ) i.toNatClampNeg (xi_nI c_1) (xi_lt c_1 c_2 (by omega)) dX2_windowAt_18 ?_
      refine lv_goto (tgt := 23) hx hb dX2_windowAt_19 (by decide) ?_
      exact W.aret (v := (.ref (a + 5 * i.toNatClampNeg + 4))) hx hb hr (Or.inl ⟨_, rfl⟩) (Or.inr ⟨_, rfl⟩) (fun t ht hWm => ⟨⟨(some (a + 5 * i.toNatClampNeg + 4)), M, rfl, ⟨hres, rfl⟩, xw_end ht hW⟩, hS.F ht⟩) hS.2.2 dX2_windowAt_23

set_option maxHeartbeats 4000000 in
set_option maxRecDepth 100000 in
/-- Ministry.personAt(i) -/
theorem c_X2_personAt (l : Launch) {G : va_G} {g : Nat → ClassId} {t0 τ : Nat → Nat} {A : Nat → Prop} (O : xk_O τ A) (M : xm_T) (a : Nat) (hτ : τ a = 1) (i : Int32) : Met l yX2_personAt wsX2_personAt ({ frames := 0, cells := 0, slots := 0, locals := 0 }) (va_Pc [.ref a, .int i] (xS_t G g t0 τ A M)) (va_Qq (fun r M' => r = xf_per M a i ∧ M' = M) (fun M' t => xw_D G g τ M' t.heap) A) 0 0 A := by
  refine Met.ofW (cc := cX2_personAt) (maxL := 2) (ret := (some (.object "HalfTickets$Person"))) (by decide) rfl ?_
  intro p e s m args below meth c s₁ B hml hv
  obtain ⟨rfl, hW, hK, hst, hnw⟩ := hv
  have hx := B.exec
  have hb := B.bytes
  have hr := B.returns
  have hts := atoms_spec (ws := wsX2_personAt) B.pre
  have hown : s.vm.findClass RX2 = some m.cls := findClass_of_methodNamed B.named
  have hlocks := B.notSynchronized
  have hS : va_S A s.heap s.heap [] := va_S.rf
  have inX2 : ∀ w ∈ u_ws RX2 TX2 7, w ∈ wsX2_personAt := by decide +kernel
  have hl := lv_entry ([.ref a, .int i]) (n := 2) (Nat.le_of_ble_eq_true rfl)
  rw [lg_entry_eq]
  generalize (lg_sl ([.ref a, .int i]) ++ List.replicate (2 - (lg_sl ([.ref a, .int i])).length) Slot.unset).toArray = ls at hl ⊢
  have hl : lv_has ls 2 [(0, .ref a), (1, .int i)] := hl
  refine lv_iload_n hx hb dX2_personAt_0 rfl (lv_at hl 1 rfl) ?_
  refine lv_if_lt (tgt := 30) hx hb dX2_personAt_1 (by decide) (fun c_1 => ?_) (fun c_1 => ?_)
  · have hres : none = xf_per M a i := by unfold xf_per; rw [if_pos c_1]
    refine lv_null hx hb dX2_personAt_30 ?_
    exact W.aret (v := .null) hx hb hr (Or.inl ⟨_, rfl⟩) (Or.inl rfl) (fun t ht hWm => ⟨⟨none, M, rfl, ⟨hres, rfl⟩, xw_end ht hW⟩, hS.F ht⟩) hS.2.2 dX2_personAt_31
  · refine lv_iload_n hx hb dX2_personAt_4 rfl (lv_at hl 1 rfl) ?_
    refine lv_aload_n hx hb dX2_personAt_5 rfl (lv_at hl 0 rfl) ?_
    refine xg_get (κ := 1) (ci := 2) (C := RX2) (T := TX2) (N := 7) hx hb hts inX2 hown hK hW hτ (by decide) rfl rfl 3 (by decide) (hts (.fieldLink RX2 52 "HalfTickets$Ministry" "people" "I") (List.mem_of_getElem? (i := 1) (by decide +kernel))) (fun _ h9 => h9) rfl dX2_personAt_6 ?_
    refine lv_icmp_ge (tgt := 30) hx hb dX2_personAt_9 (by decide) (fun c_2 => ?_) (fun c_2 => ?_)
    · have hres : none = xf_per M a i := by unfold xf_per; rw [if_neg c_1, if_pos c_2]
      refine lv_null hx hb dX2_personAt_30 ?_
      exact W.aret (v := .null) hx hb hr (Or.inl ⟨_, rfl⟩) (Or.inl rfl) (fun t ht hWm => ⟨⟨none, M, rfl, ⟨hres, rfl⟩, xw_end ht hW⟩, hS.F ht⟩) hS.2.2 dX2_personAt_31
    · refine lv_iload_n hx hb dX2_personAt_12 rfl (lv_at hl 1 rfl) ?_
      refine lv_aload_n hx hb dX2_personAt_13 rfl (lv_at hl 0 rfl) ?_
      refine xg_get (κ := 1) (ci := 2) (C := RX2) (T := TX2) (N := 7) hx hb hts inX2 hown hK hW hτ (by decide) rfl rfl 2 (by decide) (hts (.fieldLink RX2 31 "HalfTickets$Ministry" "persons" "[LHalfTickets$Person;") (List.mem_of_getElem? (i := 2) (by decide +kernel))) (fun _ h9 => h9) rfl dX2_personAt_14 ?_
      refine xg_alen (κ := 4) (v := nI 24) hx hb hK hW (O.m3 hτ) (by decide) rfl 4 rfl rfl dX2_personAt_17 ?_
      refine lv_icmp_ge (tgt := 30) hx hb dX2_personAt_18 (by decide) (fun c_3 => ?_) (fun c_3 => ?_)
      · have hres : none = xf_per M a i := by unfold xf_per; rw [if_neg c_1, if_neg c_2, if_pos c_3]
        refine lv_null hx hb dX2_personAt_30 ?_
        exact W.aret (v := .null) hx hb hr (Or.inl ⟨_, rfl⟩) (Or.inl rfl) (fun t ht hWm => ⟨⟨none, M, rfl, ⟨hres, rfl⟩, xw_end ht hW⟩, hS.F ht⟩) hS.2.2 dX2_personAt_31
      · have hres : some (a + 2 * i.toNatClampNeg + 34) = xf_per M a i := by unfold xf_per; rw [if_neg c_1, if_neg c_2, if_neg c_3]
        refine lv_aload_n hx hb dX2_personAt_21 rfl (lv_at hl 0 rfl) ?_
        refine xg_get (κ := 1) (ci := 2) (C := RX2) (T := TX2) (N := 7) hx hb hts inX2 hown hK hW hτ (by decide) rfl rfl 2 (by decide) (hts (.fieldLink RX2 31 "HalfTickets$Ministry" "persons" "[LHalfTickets$Person;") (List.mem_of_getElem? (i := 2) (by decide +kernel))) (fun _ h9 => h9) rfl dX2_personAt_22 ?_
        refine lv_iload_n hx hb dX2_personAt_25 rfl (lv_at hl 1 rfl) ?_
        refine xg_aldP (a := a) hx hb hK hW (O.m3 hτ) i.toNatClampNeg (xi_nI c_1) (xi_lt c_1 c_3 (by omega)) dX2_personAt_26 ?_
        refine lv_goto (tgt := 31) hx hb dX2_personAt_27 (by decide) ?_
        exact W.aret (v := (.ref (a + 2 * i.toNatClampNeg + 34))) hx hb hr (Or.inl ⟨_, rfl⟩) (Or.inr ⟨_, rfl⟩) (fun t ht hWm => ⟨⟨(some (a + 2 * i.toNatClampNeg + 34)), M, rfl, ⟨hres, rfl⟩, xw_end ht hW⟩, hS.F ht⟩) hS.2.2 dX2_personAt_31

set_option maxHeartbeats 4000000 in
set_option maxRecDepth 100000 in
/-- how many windows are open -/
theorem c_X2_openWindows (l : Launch) {G : va_G} {g : Nat → ClassId} {t0 τ : Nat → Nat} {A : Nat → Prop} (O : xk_O τ A) (M : xm_T) (a : Nat) (hτ : τ a = 1) : Met l yX2_openWindows wsX2_openWindows ({ frames := 0, cells := 0, slots := 0, locals := 0 }) (va_Pc [.ref a] (xS_t G g t0 τ A M)) (va_Qi (fun r M' => r = xf_sum (fun k => if M (a + 5 * k + 4) 0 = 0 then nI 0 else nI 1) 6 ∧ M' = M) (fun M' t => xw_D G g τ M' t.heap) A) 0 0 A := by
  refine Met.ofW (cc := cX2_openWindows) (maxL := 6) (ret := (some .int)) (by decide) rfl ?_
  intro p e s m args below meth c s₁ B hml hv
  obtain ⟨rfl, hW, hK, hst, hnw⟩ := hv
  have hx := B.exec
  have hb := B.bytes
  have hr := B.returns
  have hts := atoms_spec (ws := wsX2_openWindows) B.pre
  have hown : s.vm.findClass RX2 = some m.cls := findClass_of_methodNamed B.named
  have hlocks := B.notSynchronized
  have hS : va_S A s.heap s.heap [] := va_S.rf
  have inX2 : ∀ w ∈ u_ws RX2 TX2 7, w ∈ wsX2_openWindows := by decide +kernel
  have inX5 : ∀ w ∈ u_ws RX5 TX5 7, w ∈ wsX2_openWindows := by decide +kernel
  have hl := lv_entry ([.ref a]) (n := 6) (Nat.le_of_ble_eq_true rfl)
  rw [lg_entry_eq]
  generalize (lg_sl ([.ref a]) ++ List.replicate (6 - (lg_sl ([.ref a])).length) Slot.unset).toArray = ls at hl ⊢
  have hl : lv_has ls 6 [(0, .ref a)] := hl
  refine lv_iconst (v := (nI 0)) hx hb dX2_openWindows_0 (by decide) ?_
  refine lv_istore_n (lv' := [(1, .int (nI 0)), (0, .ref a)]) hx hb dX2_openWindows_1 rfl hl (by decide) rfl (fun ls hl => ?_)
  refine lv_aload_n hx hb dX2_openWindows_2 rfl (lv_at hl 1 rfl) ?_
  refine xg_get (κ := 1) (ci := 2) (C := RX2) (T := TX2) (N := 7) hx hb hts inX2 hown hK hW hτ (by decide) rfl rfl 1 (by decide) (hts (.fieldLink RX2 25 "HalfTickets$Ministry" "windows" "[LHalfTickets$Window;") (List.mem_of_getElem? (i := 1) (by decide +kernel))) (fun _ h9 => h9) rfl dX2_openWindows_3 ?_
  refine lv_astore_n (lv' := [(2, .ref (a + 2)), (1, .int (nI 0)), (0, .ref a)]) hx hb dX2_openWindows_6 rfl hl (by decide) rfl (fun ls hl => ?_)
  refine lv_aload_n hx hb dX2_openWindows_7 rfl (lv_at hl 0 rfl) ?_
  refine xg_alen (κ := 3) (v := nI 6) hx hb hK hW (O.m2 hτ) (by decide) rfl 3 rfl rfl dX2_openWindows_8 ?_
  refine lv_istore_n (lv' := [(3, .int (nI 6)), (2, .ref (a + 2)), (1, .int (nI 0)), (0, .ref a)]) hx hb dX2_openWindows_9 rfl hl (by decide) rfl (fun ls hl => ?_)
  refine lv_iconst (v := (nI 0)) hx hb dX2_openWindows_10 (by decide) ?_
  refine lv_istore (lv' := [(4, .int (nI 0)), (3, .int (nI 6)), (2, .ref (a + 2)), (1, .int (nI 0)), (0, .ref a)]) hx hb dX2_openWindows_11 hl (by decide) rfl (fun ls hl => ?_)
  refine xl_up (σ := Int32) 6 (fun kk zz H locs ls => xw_D G g τ M H ∧ va_S A s.heap H locs ∧ lv_has ls 6 [(4, .int (nI kk)), (3, .int (nI 6)), (2, .ref (a + 2)), (1, .int zz), (0, .ref a)] ∧ zz = xf_sum (fun k => if M (a + 5 * k + 4) 0 = 0 then nI 0 else nI 1) kk) (fun z13 H locs ls hI => ?_) (fun k13 z13 H locs ls hk13 hI ih13 => ?_) (k0 := 0) (z0 := (nI 0)) (Nat.zero_le _) ⟨hW, hS, lv_sub hl [0, 1, 2, 3, 4] rfl, rfl⟩
  · obtain ⟨hW, hS, hl, hE13⟩ := hI
    refine lv_iload hx hb dX2_openWindows_13 (lv_at hl 0 rfl) ?_
    refine lv_iload_n hx hb dX2_openWindows_15 rfl (lv_at hl 1 rfl) ?_
    refine lv_icmp_ge (tgt := 47) hx hb dX2_openWindows_16 (by decide) (fun c_1 => ?_) (fun c_1 => ?_)
    · refine lv_iload_n hx hb dX2_openWindows_47 rfl (lv_at hl 3 rfl) ?_
      exact W.iret (v := z13) hx hb hr (fun t ht hWm => ⟨⟨z13, M, rfl, ⟨hE13, rfl⟩, xw_end ht hW⟩, hS.F ht⟩) hS.2.2 dX2_openWindows_48
    · exact absurd (nI_le (Nat.le_refl _) (by decide)) c_1
  · obtain ⟨hW, hS, hl, hE13⟩ := hI
    refine lv_iload hx hb dX2_openWindows_13 (lv_at hl 0 rfl) ?_
    refine lv_iload_n hx hb dX2_openWindows_15 rfl (lv_at hl 1 rfl) ?_
    refine lv_icmp_ge (tgt := 47) hx hb dX2_openWindows_16 (by decide) (fun c_2 => ?_) (fun c_2 => ?_)
    · exact absurd c_2 (nI_ge hk13 (by decide))
    · refine lv_aload_n hx hb dX2_openWindows_19 rfl (lv_at hl 2 rfl) ?_
      refine lv_iload hx hb dX2_openWindows_20 (lv_at hl 0 rfl) ?_
      refine xg_aldW (a := a) hx hb hK hW (O.m2 hτ) k13 rfl hk13 dX2_openWindows_22 ?_
      refine lv_astore (lv' := [(5, .ref (a + 5 * k13 + 4)), (4, .int (nI k13)), (3, .int (nI 6)), (2, .ref (a + 2)), (1, .int z13), (0, .ref a)]) hx hb dX2_openWindows_23 hl (by decide) rfl (fun ls hl => ?_)
      refine lv_iload_n hx hb dX2_openWindows_25 rfl (lv_at hl 4 rfl) ?_
      refine lv_aload hx hb dX2_openWindows_26 (lv_at hl 0 rfl) ?_
      refine xg_get (κ := 5) (ci := 5) (C := RX5) (T := TX5) (N := 7) hx hb hts inX5 hown hK hW (O.w hτ hk13) (by decide) rfl rfl 0 (by decide) (hts (.fieldLink RX2 65 "HalfTickets$Window" "isOpen" "Z") (List.mem_of_getElem? (i := 2) (by decide +kernel))) (fun _ h9 => h9) rfl dX2_openWindows_28 ?_
      refine lv_if_eq (tgt := 38) hx hb dX2_openWindows_31 (by decide) (fun c_3 => ?_) (fun c_3 => ?_)
      · refine lv_iconst (v := (nI 0)) hx hb dX2_openWindows_38 (by decide) ?_
        refine lv_iadd hx hb dX2_openWindows_39 ?_
        refine lv_istore_n (lv' := [(1, .int (z13 + (nI 0))), (5, .ref (a + 5 * k13 + 4)), (4, .int (nI k13)), (3, .int (nI 6)), (2, .ref (a + 2)), (0, .ref a)]) hx hb dX2_openWindows_40 rfl hl (by decide) rfl (fun ls hl => ?_)
        refine lv_iinc (v := (nI (k13 + 1))) (lv' := [(4, .int (nI (k13 + 1))), (1, .int (z13 + (nI 0))), (5, .ref (a + 5 * k13 + 4)), (3, .int (nI 6)), (2, .ref (a + 2)), (0, .ref a)]) hx hb dX2_openWindows_41 hl (k := 2) rfl ((nI_1 k13)) (by decide) rfl (fun ls hl => ?_)
        refine lv_goto (tgt := 13) hx hb dX2_openWindows_44 (by decide) ?_
        exact ih13 (z13 + (nI 0)) _ _ _ ⟨hW, hS, lv_sub hl [0, 3, 4, 1, 5] rfl, (by rw [hE13]; show _ = xf_sum (fun k => if M (a + 5 * k + 4) 0 = 0 then nI 0 else nI 1) k13 + _; simp only [if_pos c_3])⟩
      · refine lv_iconst (v := (nI 1)) hx hb dX2_openWindows_34 (by decide) ?_
        refine lv_goto (tgt := 39) hx hb dX2_openWindows_35 (by decide) ?_
        refine lv_iadd hx hb dX2_openWindows_39 ?_
        refine lv_istore_n (lv' := [(1, .int (z13 + (nI 1))), (5, .ref (a + 5 * k13 + 4)), (4, .int (nI k13)), (3, .int (nI 6)), (2, .ref (a + 2)), (0, .ref a)]) hx hb dX2_openWindows_40 rfl hl (by decide) rfl (fun ls hl => ?_)
        refine lv_iinc (v := (nI (k13 + 1))) (lv' := [(4, .int (nI (k13 + 1))), (1, .int (z13 + (nI 1))), (5, .ref (a + 5 * k13 + 4)), (3, .int (nI 6)), (2, .ref (a + 2)), (0, .ref a)]) hx hb dX2_openWindows_41 hl (k := 2) rfl ((nI_1 k13)) (by decide) rfl (fun ls hl => ?_)
        refine lv_goto (tgt := 13) hx hb dX2_openWindows_44 (by decide) ?_
        exact ih13 (z13 + (nI 1)) _ _ _ ⟨hW, hS, lv_sub hl [0, 3, 4, 1, 5] rfl, (by rw [hE13]; show _ = xf_sum (fun k => if M (a + 5 * k + 4) 0 = 0 then nI 0 else nI 1) k13 + _; simp only [if_neg c_3])⟩

set_option maxHeartbeats 4000000 in
set_option maxRecDepth 100000 in
/-- how many people are so -/
theorem c_X2_peopleWho (l : Launch) {G : va_G} {g : Nat → ClassId} {t0 τ : Nat → Nat} {A : Nat → Prop} (O : xk_O τ A) (M : xm_T) (a : Nat) (hτ : τ a = 1) (v : Int32) : Met l yX2_peopleWho wsX2_peopleWho ({ frames := 0, cells := 0, slots := 0, locals := 0 }) (va_Pc [.ref a, .int v] (xS_t G g t0 τ A M)) (va_Qi (fun r M' => r = xf_sum (fun k => if M (a + 2 * k + 34) 3 = v then nI 1 else nI 0) 24 ∧ M' = M) (fun M' t => xw_D G g τ M' t.heap) A) 0 0 A := by
  refine Met.ofW (cc := cX2_peopleWho) (maxL := 7) (ret := (some .int)) (by decide) rfl ?_
  intro p e s m args below meth c s₁ B hml hv
  obtain ⟨rfl, hW, hK, hst, hnw⟩ := hv
  have hx := B.exec
  have hb := B.bytes
  have hr := B.returns
  have hts := atoms_spec (ws := wsX2_peopleWho) B.pre
  have hown : s.vm.findClass RX2 = some m.cls := findClass_of_methodNamed B.named
  have hlocks := B.notSynchronized
  have hS : va_S A s.heap s.heap [] := va_S.rf
  have inX2 : ∀ w ∈ u_ws RX2 TX2 7, w ∈ wsX2_peopleWho := by decide +kernel
  have inX4 : ∀ w ∈ u_ws RX4 TX4 12, w ∈ wsX2_peopleWho := by decide +kernel
  have hl := lv_entry ([.ref a, .int v]) (n := 7) (Nat.le_of_ble_eq_true rfl)
  rw [lg_entry_eq]
  generalize (lg_sl ([.ref a, .int v]) ++ List.replicate (7 - (lg_sl ([.ref a, .int v])).length) Slot.unset).toArray = ls at hl ⊢
  have hl : lv_has ls 7 [(0, .ref a), (1, .int v)] := hl
  refine lv_iconst (v := (nI 0)) hx hb dX2_peopleWho_0 (by decide) ?_
  refine lv_istore_n (lv' := [(2, .int (nI 0)), (0, .ref a), (1, .int v)]) hx hb dX2_peopleWho_1 rfl hl (by decide) rfl (fun ls hl => ?_)
  refine lv_aload_n hx hb dX2_peopleWho_2 rfl (lv_at hl 1 rfl) ?_
  refine xg_get (κ := 1) (ci := 2) (C := RX2) (T := TX2) (N := 7) hx hb hts inX2 hown hK hW hτ (by decide) rfl rfl 2 (by decide) (hts (.fieldLink RX2 31 "HalfTickets$Ministry" "persons" "[LHalfTickets$Person;") (List.mem_of_getElem? (i := 1) (by decide +kernel))) (fun _ h9 => h9) rfl dX2_peopleWho_3 ?_
  refine lv_astore_n (lv' := [(3, .ref (a + 3)), (2, .int (nI 0)), (0, .ref a), (1, .int v)]) hx hb dX2_peopleWho_6 rfl hl (by decide) rfl (fun ls hl => ?_)
  refine lv_aload_n hx hb dX2_peopleWho_7 rfl (lv_at hl 0 rfl) ?_
  refine xg_alen (κ := 4) (v := nI 24) hx hb hK hW (O.m3 hτ) (by decide) rfl 4 rfl rfl dX2_peopleWho_8 ?_
  refine lv_istore (lv' := [(4, .int (nI 24)), (3, .ref (a + 3)), (2, .int (nI 0)), (0, .ref a), (1, .int v)]) hx hb dX2_peopleWho_9 hl (by decide) rfl (fun ls hl => ?_)
  refine lv_iconst (v := (nI 0)) hx hb dX2_peopleWho_11 (by decide) ?_
  refine lv_istore (lv' := [(5, .int (nI 0)), (4, .int (nI 24)), (3, .ref (a + 3)), (2, .int (nI 0)), (0, .ref a), (1, .int v)]) hx hb dX2_peopleWho_12 hl (by decide) rfl (fun ls hl => ?_)
  refine xl_up (σ := Int32) 24 (fun kk zz H locs ls => xw_D G g τ M H ∧ va_S A s.heap H locs ∧ lv_has ls 7 [(5, .int (nI kk)), (4, .int (nI 24)), (3, .ref (a + 3)), (2, .int zz), (0, .ref a), (1, .int v)] ∧ zz = xf_sum (fun k => if M (a + 2 * k + 34) 3 = v then nI 1 else nI 0) kk) (fun z14 H locs ls hI => ?_) (fun k14 z14 H locs ls hk14 hI ih14 => ?_) (k0 := 0) (z0 := (nI 0)) (Nat.zero_le _) ⟨hW, hS, lv_sub hl [0, 1, 2, 3, 4, 5] rfl, rfl⟩
  · obtain ⟨hW, hS, hl, hE14⟩ := hI
    refine lv_iload hx hb dX2_peopleWho_14 (lv_at hl 0 rfl) ?_
    refine lv_iload hx hb dX2_peopleWho_16 (lv_at hl 1 rfl) ?_
    refine lv_icmp_ge (tgt := 50) hx hb dX2_peopleWho_18 (by decide) (fun c_1 => ?_) (fun c_1 => ?_)
    · refine lv_iload_n hx hb dX2_peopleWho_50 rfl (lv_at hl 3 rfl) ?_
      exact W.iret (v := z14) hx hb hr (fun t ht hWm => ⟨⟨z14, M, rfl, ⟨hE14, rfl⟩, xw_end ht hW⟩, hS.F ht⟩) hS.2.2 dX2_peopleWho_51
    · exact absurd (nI_le (Nat.le_refl _) (by decide)) c_1
  · obtain ⟨hW, hS, hl, hE14⟩ := hI
    refine lv_iload hx hb dX2_peopleWho_14 (lv_at hl 0 rfl) ?_
    refine lv_iload hx hb dX2_peopleWho_16 (lv_at hl 1 rfl) ?_
    refine lv_icmp_ge (tgt := 50) hx hb dX2_peopleWho_18 (by decide) (fun c_2 => ?_) (fun c_2 => ?_)
    · exact absurd c_2 (nI_ge hk14 (by decide))
    · refine lv_aload_n hx hb dX2_peopleWho_21 rfl (lv_at hl 2 rfl) ?_
      refine lv_iload hx hb dX2_peopleWho_22 (lv_at hl 0 rfl) ?_
      refine xg_aldP (a := a) hx hb hK hW (O.m3 hτ) k14 rfl hk14 dX2_peopleWho_24 ?_
      refine lv_astore (lv' := [(6, .ref (a + 2 * k14 + 34)), (5, .int (nI k14)), (4, .int (nI 24)), (3, .ref (a + 3)), (2, .int z14), (0, .ref a), (1, .int v)]) hx hb dX2_peopleWho_25 hl (by decide) rfl (fun ls hl => ?_)
      refine lv_iload_n hx hb dX2_peopleWho_27 rfl (lv_at hl 4 rfl) ?_
      refine lv_aload hx hb dX2_peopleWho_28 (lv_at hl 0 rfl) ?_
      refine xg_get (κ := 8) (ci := 4) (C := RX4) (T := TX4) (N := 12) hx hb hts inX4 hown hK hW (O.p hτ hk14) (by decide) rfl rfl 3 (by decide) (hts (.fieldLink RX2 69 "HalfTickets$Person" "where" "I") (List.mem_of_getElem? (i := 2) (by decide +kernel))) (fun _ h9 => h9) rfl dX2_peopleWho_30 ?_
      refine lv_iload_n hx hb dX2_peopleWho_33 rfl (lv_at hl 6 rfl) ?_
      refine lv_icmp_ne (tgt := 41) hx hb dX2_peopleWho_34 (by decide) (fun c_3 => ?_) (fun c_3 => ?_)
      · refine lv_iconst (v := (nI 0)) hx hb dX2_peopleWho_41 (by decide) ?_
        refine lv_iadd hx hb dX2_peopleWho_42 ?_
        refine lv_istore_n (lv' := [(2, .int (z14 + (nI 0))), (6, .ref (a + 2 * k14 + 34)), (5, .int (nI k14)), (4, .int (nI 24)), (3, .ref (a + 3)), (0, .ref a), (1, .int v)]) hx hb dX2_peopleWho_43 rfl hl (by decide) rfl (fun ls hl => ?_)
        refine lv_iinc (v := (nI (k14 + 1))) (lv' := [(5, .int (nI (k14 + 1))), (2, .int (z14 + (nI 0))), (6, .ref (a + 2 * k14 + 34)), (4, .int (nI 24)), (3, .ref (a + 3)), (0, .ref a), (1, .int v)]) hx hb dX2_peopleWho_44 hl (k := 2) rfl ((nI_1 k14)) (by decide) rfl (fun ls hl => ?_)
        refine lv_goto (tgt := 14) hx hb dX2_peopleWho_47 (by decide) ?_
        exact ih14 (z14 + (nI 0)) _ _ _ ⟨hW, hS, lv_sub hl [0, 3, 4, 1, 5, 6] rfl, (by rw [hE14]; show _ = xf_sum (fun k => if M (a + 2 * k + 34) 3 = v then nI 1 else nI 0) k14 + _; simp only [if_neg c_3])⟩
      · refine lv_iconst (v := (nI 1)) hx hb dX2_peopleWho_37 (by decide) ?_
        refine lv_goto (tgt := 42) hx hb dX2_peopleWho_38 (by decide) ?_
        refine lv_iadd hx hb dX2_peopleWho_42 ?_
        refine lv_istore_n (lv' := [(2, .int (z14 + (nI 1))), (6, .ref (a + 2 * k14 + 34)), (5, .int (nI k14)), (4, .int (nI 24)), (3, .ref (a + 3)), (0, .ref a), (1, .int v)]) hx hb dX2_peopleWho_43 rfl hl (by decide) rfl (fun ls hl => ?_)
        refine lv_iinc (v := (nI (k14 + 1))) (lv' := [(5, .int (nI (k14 + 1))), (2, .int (z14 + (nI 1))), (6, .ref (a + 2 * k14 + 34)), (4, .int (nI 24)), (3, .ref (a + 3)), (0, .ref a), (1, .int v)]) hx hb dX2_peopleWho_44 hl (k := 2) rfl ((nI_1 k14)) (by decide) rfl (fun ls hl => ?_)
        refine lv_goto (tgt := 14) hx hb dX2_peopleWho_47 (by decide) ?_
        exact ih14 (z14 + (nI 1)) _ _ _ ⟨hW, hS, lv_sub hl [0, 3, 4, 1, 5, 6] rfl, (by rw [hE14]; show _ = xf_sum (fun k => if M (a + 2 * k + 34) 3 = v then nI 1 else nI 0) k14 + _; simp only [if_pos c_3])⟩

set_option maxHeartbeats 4000000 in
set_option maxRecDepth 100000 in
/-- halves of all windows -/
theorem c_X2_halvesOfWindows (l : Launch) {G : va_G} {g : Nat → ClassId} {t0 τ : Nat → Nat} {A : Nat → Prop} (O : xk_O τ A) (M : xm_T) (a : Nat) (hτ : τ a = 1) : Met l yX2_halvesOfWindows wsX2_halvesOfWindows ({ frames := 0, cells := 0, slots := 0, locals := 0 }) (va_Pc [.ref a] (xS_t G g t0 τ A M)) (va_Qi (fun r M' => r = xf_sum (fun k => M (a + 5 * k + 4) 2) 6 ∧ M' = M) (fun M' t => xw_D G g τ M' t.heap) A) 0 0 A := by
  refine Met.ofW (cc := cX2_halvesOfWindows) (maxL := 6) (ret := (some .int)) (by decide) rfl ?_
  intro p e s m args below meth c s₁ B hml hv
  obtain ⟨rfl, hW, hK, hst, hnw⟩ := hv
  have hx := B.exec
  have hb := B.bytes
  have hr := B.returns
  have hts := atoms_spec (ws := wsX2_halvesOfWindows) B.pre
  have hown : s.vm.findClass RX2 = some m.cls := findClass_of_methodNamed B.named
  have hlocks := B.notSynchronized
  have hS : va_S A s.heap s.heap [] := va_S.rf
  have inX2 : ∀ w ∈ u_ws RX2 TX2 7, w ∈ wsX2_halvesOfWindows := by decide +kernel
  have inX5 : ∀ w ∈ u_ws RX5 TX5 7, w ∈ wsX2_halvesOfWindows := by decide +kernel
  have hl := lv_entry ([.ref a]) (n := 6) (Nat.le_of_ble_eq_true rfl)
  rw [lg_entry_eq]
  generalize (lg_sl ([.ref a]) ++ List.replicate (6 - (lg_sl ([.ref a])).length) Slot.unset).toArray = ls at hl ⊢
  have hl : lv_has ls 6 [(0, .ref a)] := hl
  refine lv_iconst (v := (nI 0)) hx hb dX2_halvesOfWindows_0 (by decide) ?_
  refine lv_istore_n (lv' := [(1, .int (nI 0)), (0, .ref a)]) hx hb dX2_halvesOfWindows_1 rfl hl (by decide) rfl (fun ls hl => ?_)
  refine lv_aload_n hx hb dX2_halvesOfWindows_2 rfl (lv_at hl 1 rfl) ?_
  refine xg_get (κ := 1) (ci := 2) (C := RX2) (T := TX2) (N := 7) hx hb hts inX2 hown hK hW hτ (by decide) rfl rfl 1 (by decide) (hts (.fieldLink RX2 25 "HalfTickets$Ministry" "windows" "[LHalfTickets$Window;") (List.mem_of_getElem? (i := 1) (by decide +kernel))) (fun _ h9 => h9) rfl dX2_halvesOfWindows_3 ?_
  refine lv_astore_n (lv' := [(2, .ref (a + 2)), (1, .int (nI 0)), (0, .ref a)]) hx hb dX2_halvesOfWindows_6 rfl hl (by decide) rfl (fun ls hl => ?_)
  refine lv_aload_n hx hb dX2_halvesOfWindows_7 rfl (lv_at hl 0 rfl) ?_
  refine xg_alen (κ := 3) (v := nI 6) hx hb hK hW (O.m2 hτ) (by decide) rfl 3 rfl rfl dX2_halvesOfWindows_8 ?_
  refine lv_istore_n (lv' := [(3, .int (nI 6)), (2, .ref (a + 2)), (1, .int (nI 0)), (0, .ref a)]) hx hb dX2_halvesOfWindows_9 rfl hl (by decide) rfl (fun ls hl => ?_)
  refine lv_iconst (v := (nI 0)) hx hb dX2_halvesOfWindows_10 (by decide) ?_
  refine lv_istore (lv' := [(4, .int (nI 0)), (3, .int (nI 6)), (2, .ref (a + 2)), (1, .int (nI 0)), (0, .ref a)]) hx hb dX2_halvesOfWindows_11 hl (by decide) rfl (fun ls hl => ?_)
  refine xl_up (σ := Int32) 6 (fun kk zz H locs ls => xw_D G g τ M H ∧ va_S A s.heap H locs ∧ lv_has ls 6 [(4, .int (nI kk)), (3, .int (nI 6)), (2, .ref (a + 2)), (1, .int zz), (0, .ref a)] ∧ zz = xf_sum (fun k => M (a + 5 * k + 4) 2) kk) (fun z13 H locs ls hI => ?_) (fun k13 z13 H locs ls hk13 hI ih13 => ?_) (k0 := 0) (z0 := (nI 0)) (Nat.zero_le _) ⟨hW, hS, lv_sub hl [0, 1, 2, 3, 4] rfl, rfl⟩
  · obtain ⟨hW, hS, hl, hE13⟩ := hI
    refine lv_iload hx hb dX2_halvesOfWindows_13 (lv_at hl 0 rfl) ?_
    refine lv_iload_n hx hb dX2_halvesOfWindows_15 rfl (lv_at hl 1 rfl) ?_
    refine lv_icmp_ge (tgt := 39) hx hb dX2_halvesOfWindows_16 (by decide) (fun c_1 => ?_) (fun c_1 => ?_)
    · refine lv_iload_n hx hb dX2_halvesOfWindows_39 rfl (lv_at hl 3 rfl) ?_
      exact W.iret (v := z13) hx hb hr (fun t ht hWm => ⟨⟨z13, M, rfl, ⟨hE13, rfl⟩, xw_end ht hW⟩, hS.F ht⟩) hS.2.2 dX2_halvesOfWindows_40
    · exact absurd (nI_le (Nat.le_refl _) (by decide)) c_1
  · obtain ⟨hW, hS, hl, hE13⟩ := hI
    refine lv_iload hx hb dX2_halvesOfWindows_13 (lv_at hl 0 rfl) ?_
    refine lv_iload_n hx hb dX2_halvesOfWindows_15 rfl (lv_at hl 1 rfl) ?_
    refine lv_icmp_ge (tgt := 39) hx hb dX2_halvesOfWindows_16 (by decide) (fun c_2 => ?_) (fun c_2 => ?_)
    · exact absurd c_2 (nI_ge hk13 (by decide))
    · refine lv_aload_n hx hb dX2_halvesOfWindows_19 rfl (lv_at hl 2 rfl) ?_
      refine lv_iload hx hb dX2_halvesOfWindows_20 (lv_at hl 0 rfl) ?_
      refine xg_aldW (a := a) hx hb hK hW (O.m2 hτ) k13 rfl hk13 dX2_halvesOfWindows_22 ?_
      refine lv_astore (lv' := [(5, .ref (a + 5 * k13 + 4)), (4, .int (nI k13)), (3, .int (nI 6)), (2, .ref (a + 2)), (1, .int z13), (0, .ref a)]) hx hb dX2_halvesOfWindows_23 hl (by decide) rfl (fun ls hl => ?_)
      refine lv_iload_n hx hb dX2_halvesOfWindows_25 rfl (lv_at hl 4 rfl) ?_
      refine lv_aload hx hb dX2_halvesOfWindows_26 (lv_at hl 0 rfl) ?_
      refine xg_get (κ := 5) (ci := 5) (C := RX5) (T := TX5) (N := 7) hx hb hts inX5 hown hK hW (O.w hτ hk13) (by decide) rfl rfl 2 (by decide) (hts (.fieldLink RX2 72 "HalfTickets$Window" "halves" "I") (List.mem_of_getElem? (i := 2) (by decide +kernel))) (fun _ h9 => h9) rfl dX2_halvesOfWindows_28 ?_
      refine lv_iadd hx hb dX2_halvesOfWindows_31 ?_
      refine lv_istore_n (lv' := [(1, .int (z13 + (M (a + 5 * k13 + 4) 2))), (5, .ref (a + 5 * k13 + 4)), (4, .int (nI k13)), (3, .int (nI 6)), (2, .ref (a + 2)), (0, .ref a)]) hx hb dX2_halvesOfWindows_32 rfl hl (by decide) rfl (fun ls hl => ?_)
      refine lv_iinc (v := (nI (k13 + 1))) (lv' := [(4, .int (nI (k13 + 1))), (1, .int (z13 + (M (a + 5 * k13 + 4) 2))), (5, .ref (a + 5 * k13 + 4)), (3, .int (nI 6)), (2, .ref (a + 2)), (0, .ref a)]) hx hb dX2_halvesOfWindows_33 hl (k := 2) rfl ((nI_1 k13)) (by decide) rfl (fun ls hl => ?_)
      refine lv_goto (tgt := 13) hx hb dX2_halvesOfWindows_36 (by decide) ?_
      exact ih13 (z13 + (M (a + 5 * k13 + 4) 2)) _ _ _ ⟨hW, hS, lv_sub hl [0, 3, 4, 1, 5] rfl, (by rw [hE13]; rfl)⟩

set_option maxHeartbeats 4000000 in
set_option maxRecDepth 100000 in
/-- halves of all people -/
theorem c_X2_halvesOfPeople (l : Launch) {G : va_G} {g : Nat → ClassId} {t0 τ : Nat → Nat} {A : Nat → Prop} (O : xk_O τ A) (M : xm_T) (a : Nat) (hτ : τ a = 1) : Met l yX2_halvesOfPeople wsX2_halvesOfPeople ({ frames := 0, cells := 0, slots := 0, locals := 0 }) (va_Pc [.ref a] (xS_t G g t0 τ A M)) (va_Qi (fun r M' => r = xf_sum (fun k => if M (a + 2 * k + 34) 5 = 0 then nI 0 else nI 1) 24 ∧ M' = M) (fun M' t => xw_D G g τ M' t.heap) A) 0 0 A := by
  refine Met.ofW (cc := cX2_halvesOfPeople) (maxL := 6) (ret := (some .int)) (by decide) rfl ?_
  intro p e s m args below meth c s₁ B hml hv
  obtain ⟨rfl, hW, hK, hst, hnw⟩ := hv
  have hx := B.exec
  have hb := B.bytes
  have hr := B.returns
  have hts := atoms_spec (ws := wsX2_halvesOfPeople) B.pre
  have hown : s.vm.findClass RX2 = some m.cls := findClass_of_methodNamed B.named
  have hlocks := B.notSynchronized
  have hS : va_S A s.heap s.heap [] := va_S.rf
  have inX2 : ∀ w ∈ u_ws RX2 TX2 7, w ∈ wsX2_halvesOfPeople := by decide +kernel
  have inX4 : ∀ w ∈ u_ws RX4 TX4 12, w ∈ wsX2_halvesOfPeople := by decide +kernel
  have hl := lv_entry ([.ref a]) (n := 6) (Nat.le_of_ble_eq_true rfl)
  rw [lg_entry_eq]
  generalize (lg_sl ([.ref a]) ++ List.replicate (6 - (lg_sl ([.ref a])).length) Slot.unset).toArray = ls at hl ⊢
  have hl : lv_has ls 6 [(0, .ref a)] := hl
  refine lv_iconst (v := (nI 0)) hx hb dX2_halvesOfPeople_0 (by decide) ?_
  refine lv_istore_n (lv' := [(1, .int (nI 0)), (0, .ref a)]) hx hb dX2_halvesOfPeople_1 rfl hl (by decide) rfl (fun ls hl => ?_)
  refine lv_aload_n hx hb dX2_halvesOfPeople_2 rfl (lv_at hl 1 rfl) ?_
  refine xg_get (κ := 1) (ci := 2) (C := RX2) (T := TX2) (N := 7) hx hb hts inX2 hown hK hW hτ (by decide) rfl rfl 2 (by decide) (hts (.fieldLink RX2 31 "HalfTickets$Ministry" "persons" "[LHalfTickets$Person;") (List.mem_of_getElem? (i := 1) (by decide +kernel))) (fun _ h9 => h9) rfl dX2_halvesOfPeople_3 ?_
  refine lv_astore_n (lv' := [(2, .ref (a + 3)), (1, .int (nI 0)), (0, .ref a)]) hx hb dX2_halvesOfPeople_6 rfl hl (by decide) rfl (fun ls hl => ?_)
  refine lv_aload_n hx hb dX2_halvesOfPeople_7 rfl (lv_at hl 0 rfl) ?_
  refine xg_alen (κ := 4) (v := nI 24) hx hb hK hW (O.m3 hτ) (by decide) rfl 4 rfl rfl dX2_halvesOfPeople_8 ?_
  refine lv_istore_n (lv' := [(3, .int (nI 24)), (2, .ref (a + 3)), (1, .int (nI 0)), (0, .ref a)]) hx hb dX2_halvesOfPeople_9 rfl hl (by decide) rfl (fun ls hl => ?_)
  refine lv_iconst (v := (nI 0)) hx hb dX2_halvesOfPeople_10 (by decide) ?_
  refine lv_istore (lv' := [(4, .int (nI 0)), (3, .int (nI 24)), (2, .ref (a + 3)), (1, .int (nI 0)), (0, .ref a)]) hx hb dX2_halvesOfPeople_11 hl (by decide) rfl (fun ls hl => ?_)
  refine xl_up (σ := Int32) 24 (fun kk zz H locs ls => xw_D G g τ M H ∧ va_S A s.heap H locs ∧ lv_has ls 6 [(4, .int (nI kk)), (3, .int (nI 24)), (2, .ref (a + 3)), (1, .int zz), (0, .ref a)] ∧ zz = xf_sum (fun k => if M (a + 2 * k + 34) 5 = 0 then nI 0 else nI 1) kk) (fun z13 H locs ls hI => ?_) (fun k13 z13 H locs ls hk13 hI ih13 => ?_) (k0 := 0) (z0 := (nI 0)) (Nat.zero_le _) ⟨hW, hS, lv_sub hl [0, 1, 2, 3, 4] rfl, rfl⟩
  · obtain ⟨hW, hS, hl, hE13⟩ := hI
    refine lv_iload hx hb dX2_halvesOfPeople_13 (lv_at hl 0 rfl) ?_
    refine lv_iload_n hx hb dX2_halvesOfPeople_15 rfl (lv_at hl 1 rfl) ?_
    refine lv_icmp_ge (tgt := 47) hx hb dX2_halvesOfPeople_16 (by decide) (fun c_1 => ?_) (fun c_1 => ?_)
    · refine lv_iload_n hx hb dX2_halvesOfPeople_47 rfl (lv_at hl 3 rfl) ?_
      exact W.iret (v := z13) hx hb hr (fun t ht hWm => ⟨⟨z13, M, rfl, ⟨hE13, rfl⟩, xw_end ht hW⟩, hS.F ht⟩) hS.2.2 dX2_halvesOfPeople_48
    · exact absurd (nI_le (Nat.le_refl _) (by decide)) c_1
  · obtain ⟨hW, hS, hl, hE13⟩ := hI
    refine lv_iload hx hb dX2_halvesOfPeople_13 (lv_at hl 0 rfl) ?_
    refine lv_iload_n hx hb dX2_halvesOfPeople_15 rfl (lv_at hl 1 rfl) ?_
    refine lv_icmp_ge (tgt := 47) hx hb dX2_halvesOfPeople_16 (by decide) (fun c_2 => ?_) (fun c_2 => ?_)
    · exact absurd c_2 (nI_ge hk13 (by decide))
    · refine lv_aload_n hx hb dX2_halvesOfPeople_19 rfl (lv_at hl 2 rfl) ?_
      refine lv_iload hx hb dX2_halvesOfPeople_20 (lv_at hl 0 rfl) ?_
      refine xg_aldP (a := a) hx hb hK hW (O.m3 hτ) k13 rfl hk13 dX2_halvesOfPeople_22 ?_
      refine lv_astore (lv' := [(5, .ref (a + 2 * k13 + 34)), (4, .int (nI k13)), (3, .int (nI 24)), (2, .ref (a + 3)), (1, .int z13), (0, .ref a)]) hx hb dX2_halvesOfPeople_23 hl (by decide) rfl (fun ls hl => ?_)
      refine lv_iload_n hx hb dX2_halvesOfPeople_25 rfl (lv_at hl 4 rfl) ?_
      refine lv_aload hx hb dX2_halvesOfPeople_26 (lv_at hl 0 rfl) ?_
      refine xg_get (κ := 8) (ci := 4) (C := RX4) (T := TX4) (N := 12) hx hb hts inX4 hown hK hW (O.p hτ hk13) (by decide) rfl rfl 5 (by decide) (hts (.fieldLink RX2 75 "HalfTickets$Person" "hasHalf" "Z") (List.mem_of_getElem? (i := 2) (by decide +kernel))) (fun _ h9 => h9) rfl dX2_halvesOfPeople_28 ?_
      refine lv_if_eq (tgt := 38) hx hb dX2_halvesOfPeople_31 (by decide) (fun c_3 => ?_) (fun c_3 => ?_)
      · refine lv_iconst (v := (nI 0)) hx hb dX2_halvesOfPeople_38 (by decide) ?_
        refine lv_iadd hx hb dX2_halvesOfPeople_39 ?_
        refine lv_istore_n (lv' := [(1, .int (z13 + (nI 0))), (5, .ref (a + 2 * k13 + 34)), (4, .int (nI k13)), (3, .int (nI 24)), (2, .ref (a + 3)), (0, .ref a)]) hx hb dX2_halvesOfPeople_40 rfl hl (by decide) rfl (fun ls hl => ?_)
        refine lv_iinc (v := (nI (k13 + 1))) (lv' := [(4, .int (nI (k13 + 1))), (1, .int (z13 + (nI 0))), (5, .ref (a + 2 * k13 + 34)), (3, .int (nI 24)), (2, .ref (a + 3)), (0, .ref a)]) hx hb dX2_halvesOfPeople_41 hl (k := 2) rfl ((nI_1 k13)) (by decide) rfl (fun ls hl => ?_)
        refine lv_goto (tgt := 13) hx hb dX2_halvesOfPeople_44 (by decide) ?_
        exact ih13 (z13 + (nI 0)) _ _ _ ⟨hW, hS, lv_sub hl [0, 3, 4, 1, 5] rfl, (by rw [hE13]; show _ = xf_sum (fun k => if M (a + 2 * k + 34) 5 = 0 then nI 0 else nI 1) k13 + _; simp only [if_pos c_3])⟩
      · refine lv_iconst (v := (nI 1)) hx hb dX2_halvesOfPeople_34 (by decide) ?_
        refine lv_goto (tgt := 39) hx hb dX2_halvesOfPeople_35 (by decide) ?_
        refine lv_iadd hx hb dX2_halvesOfPeople_39 ?_
        refine lv_istore_n (lv' := [(1, .int (z13 + (nI 1))), (5, .ref (a + 2 * k13 + 34)), (4, .int (nI k13)), (3, .int (nI 24)), (2, .ref (a + 3)), (0, .ref a)]) hx hb dX2_halvesOfPeople_40 rfl hl (by decide) rfl (fun ls hl => ?_)
        refine lv_iinc (v := (nI (k13 + 1))) (lv' := [(4, .int (nI (k13 + 1))), (1, .int (z13 + (nI 1))), (5, .ref (a + 2 * k13 + 34)), (3, .int (nI 24)), (2, .ref (a + 3)), (0, .ref a)]) hx hb dX2_halvesOfPeople_41 hl (k := 2) rfl ((nI_1 k13)) (by decide) rfl (fun ls hl => ?_)
        refine lv_goto (tgt := 13) hx hb dX2_halvesOfPeople_44 (by decide) ?_
        exact ih13 (z13 + (nI 1)) _ _ _ ⟨hW, hS, lv_sub hl [0, 3, 4, 1, 5] rfl, (by rw [hE13]; show _ = xf_sum (fun k => if M (a + 2 * k + 34) 5 = 0 then nI 0 else nI 1) k13 + _; simp only [if_neg c_3])⟩

set_option maxHeartbeats 4000000 in
set_option maxRecDepth 100000 in
/-- waits of all people -/
theorem c_X2_waits (l : Launch) {G : va_G} {g : Nat → ClassId} {t0 τ : Nat → Nat} {A : Nat → Prop} (O : xk_O τ A) (M : xm_T) (a : Nat) (hτ : τ a = 1) : Met l yX2_waits wsX2_waits ({ frames := 0, cells := 0, slots := 0, locals := 0 }) (va_Pc [.ref a] (xS_t G g t0 τ A M)) (va_Qi (fun r M' => r = xf_sum (fun k => M (a + 2 * k + 34) 7) 24 ∧ M' = M) (fun M' t => xw_D G g τ M' t.heap) A) 0 0 A := by
  refine Met.ofW (cc := cX2_waits) (maxL := 6) (ret := (some .int)) (by decide) rfl ?_
  intro p e s m args below meth c s₁ B hml hv
  obtain ⟨rfl, hW, hK, hst, hnw⟩ := hv
  have hx := B.exec
  have hb := B.bytes
  have hr := B.returns
  have hts := atoms_spec (ws := wsX2_waits) B.pre
  have hown : s.vm.findClass RX2 = some m.cls := findClass_of_methodNamed B.named
  have hlocks := B.notSynchronized
  have hS : va_S A s.heap s.heap [] := va_S.rf
  have inX2 : ∀ w ∈ u_ws RX2 TX2 7, w ∈ wsX2_waits := by decide +kernel
  have inX4 : ∀ w ∈ u_ws RX4 TX4 12, w ∈ wsX2_waits := by decide +kernel
  have hl := lv_entry ([.ref a]) (n := 6) (Nat.le_of_ble_eq_true rfl)
  rw [lg_entry_eq]
  generalize (lg_sl ([.ref a]) ++ List.replicate (6 - (lg_sl ([.ref a])).length) Slot.unset).toArray = ls at hl ⊢
  have hl : lv_has ls 6 [(0, .ref a)] := hl
  refine lv_iconst (v := (nI 0)) hx hb dX2_waits_0 (by decide) ?_
  refine lv_istore_n (lv' := [(1, .int (nI 0)), (0, .ref a)]) hx hb dX2_waits_1 rfl hl (by decide) rfl (fun ls hl => ?_)
  refine lv_aload_n hx hb dX2_waits_2 rfl (lv_at hl 1 rfl) ?_
  refine xg_get (κ := 1) (ci := 2) (C := RX2) (T := TX2) (N := 7) hx hb hts inX2 hown hK hW hτ (by decide) rfl rfl 2 (by decide) (hts (.fieldLink RX2 31 "HalfTickets$Ministry" "persons" "[LHalfTickets$Person;") (List.mem_of_getElem? (i := 1) (by decide +kernel))) (fun _ h9 => h9) rfl dX2_waits_3 ?_
  refine lv_astore_n (lv' := [(2, .ref (a + 3)), (1, .int (nI 0)), (0, .ref a)]) hx hb dX2_waits_6 rfl hl (by decide) rfl (fun ls hl => ?_)
  refine lv_aload_n hx hb dX2_waits_7 rfl (lv_at hl 0 rfl) ?_
  refine xg_alen (κ := 4) (v := nI 24) hx hb hK hW (O.m3 hτ) (by decide) rfl 4 rfl rfl dX2_waits_8 ?_
  refine lv_istore_n (lv' := [(3, .int (nI 24)), (2, .ref (a + 3)), (1, .int (nI 0)), (0, .ref a)]) hx hb dX2_waits_9 rfl hl (by decide) rfl (fun ls hl => ?_)
  refine lv_iconst (v := (nI 0)) hx hb dX2_waits_10 (by decide) ?_
  refine lv_istore (lv' := [(4, .int (nI 0)), (3, .int (nI 24)), (2, .ref (a + 3)), (1, .int (nI 0)), (0, .ref a)]) hx hb dX2_waits_11 hl (by decide) rfl (fun ls hl => ?_)
  refine xl_up (σ := Int32) 24 (fun kk zz H locs ls => xw_D G g τ M H ∧ va_S A s.heap H locs ∧ lv_has ls 6 [(4, .int (nI kk)), (3, .int (nI 24)), (2, .ref (a + 3)), (1, .int zz), (0, .ref a)] ∧ zz = xf_sum (fun k => M (a + 2 * k + 34) 7) kk) (fun z13 H locs ls hI => ?_) (fun k13 z13 H locs ls hk13 hI ih13 => ?_) (k0 := 0) (z0 := (nI 0)) (Nat.zero_le _) ⟨hW, hS, lv_sub hl [0, 1, 2, 3, 4] rfl, rfl⟩
  · obtain ⟨hW, hS, hl, hE13⟩ := hI
    refine lv_iload hx hb dX2_waits_13 (lv_at hl 0 rfl) ?_
    refine lv_iload_n hx hb dX2_waits_15 rfl (lv_at hl 1 rfl) ?_
    refine lv_icmp_ge (tgt := 39) hx hb dX2_waits_16 (by decide) (fun c_1 => ?_) (fun c_1 => ?_)
    · refine lv_iload_n hx hb dX2_waits_39 rfl (lv_at hl 3 rfl) ?_
      exact W.iret (v := z13) hx hb hr (fun t ht hWm => ⟨⟨z13, M, rfl, ⟨hE13, rfl⟩, xw_end ht hW⟩, hS.F ht⟩) hS.2.2 dX2_waits_40
    · exact absurd (nI_le (Nat.le_refl _) (by decide)) c_1
  · obtain ⟨hW, hS, hl, hE13⟩ := hI
    refine lv_iload hx hb dX2_waits_13 (lv_at hl 0 rfl) ?_
    refine lv_iload_n hx hb dX2_waits_15 rfl (lv_at hl 1 rfl) ?_
    refine lv_icmp_ge (tgt := 39) hx hb dX2_waits_16 (by decide) (fun c_2 => ?_) (fun c_2 => ?_)
    · exact absurd c_2 (nI_ge hk13 (by decide))
    · refine lv_aload_n hx hb dX2_waits_19 rfl (lv_at hl 2 rfl) ?_
      refine lv_iload hx hb dX2_waits_20 (lv_at hl 0 rfl) ?_
      refine xg_aldP (a := a) hx hb hK hW (O.m3 hτ) k13 rfl hk13 dX2_waits_22 ?_
      refine lv_astore (lv' := [(5, .ref (a + 2 * k13 + 34)), (4, .int (nI k13)), (3, .int (nI 24)), (2, .ref (a + 3)), (1, .int z13), (0, .ref a)]) hx hb dX2_waits_23 hl (by decide) rfl (fun ls hl => ?_)
      refine lv_iload_n hx hb dX2_waits_25 rfl (lv_at hl 4 rfl) ?_
      refine lv_aload hx hb dX2_waits_26 (lv_at hl 0 rfl) ?_
      refine xg_get (κ := 8) (ci := 4) (C := RX4) (T := TX4) (N := 12) hx hb hts inX4 hown hK hW (O.p hτ hk13) (by decide) rfl rfl 7 (by decide) (hts (.fieldLink RX2 78 "HalfTickets$Person" "waits" "I") (List.mem_of_getElem? (i := 2) (by decide +kernel))) (fun _ h9 => h9) rfl dX2_waits_28 ?_
      refine lv_iadd hx hb dX2_waits_31 ?_
      refine lv_istore_n (lv' := [(1, .int (z13 + (M (a + 2 * k13 + 34) 7))), (5, .ref (a + 2 * k13 + 34)), (4, .int (nI k13)), (3, .int (nI 24)), (2, .ref (a + 3)), (0, .ref a)]) hx hb dX2_waits_32 rfl hl (by decide) rfl (fun ls hl => ?_)
      refine lv_iinc (v := (nI (k13 + 1))) (lv' := [(4, .int (nI (k13 + 1))), (1, .int (z13 + (M (a + 2 * k13 + 34) 7))), (5, .ref (a + 2 * k13 + 34)), (3, .int (nI 24)), (2, .ref (a + 3)), (0, .ref a)]) hx hb dX2_waits_33 hl (k := 2) rfl ((nI_1 k13)) (by decide) rfl (fun ls hl => ?_)
      refine lv_goto (tgt := 13) hx hb dX2_waits_36 (by decide) ?_
      exact ih13 (z13 + (M (a + 2 * k13 + 34) 7)) _ _ _ ⟨hW, hS, lv_sub hl [0, 3, 4, 1, 5] rfl, (by rw [hE13]; rfl)⟩

set_option maxHeartbeats 4000000 in
set_option maxRecDepth 100000 in
/-- sendings back of all people -/
theorem c_X2_timesSentBack (l : Launch) {G : va_G} {g : Nat → ClassId} {t0 τ : Nat → Nat} {A : Nat → Prop} (O : xk_O τ A) (M : xm_T) (a : Nat) (hτ : τ a = 1) : Met l yX2_timesSentBack wsX2_timesSentBack ({ frames := 0, cells := 0, slots := 0, locals := 0 }) (va_Pc [.ref a] (xS_t G g t0 τ A M)) (va_Qi (fun r M' => r = xf_sum (fun k => M (a + 2 * k + 34) 9) 24 ∧ M' = M) (fun M' t => xw_D G g τ M' t.heap) A) 0 0 A := by
  refine Met.ofW (cc := cX2_timesSentBack) (maxL := 6) (ret := (some .int)) (by decide) rfl ?_
  intro p e s m args below meth c s₁ B hml hv
  obtain ⟨rfl, hW, hK, hst, hnw⟩ := hv
  have hx := B.exec
  have hb := B.bytes
  have hr := B.returns
  have hts := atoms_spec (ws := wsX2_timesSentBack) B.pre
  have hown : s.vm.findClass RX2 = some m.cls := findClass_of_methodNamed B.named
  have hlocks := B.notSynchronized
  have hS : va_S A s.heap s.heap [] := va_S.rf
  have inX2 : ∀ w ∈ u_ws RX2 TX2 7, w ∈ wsX2_timesSentBack := by decide +kernel
  have inX4 : ∀ w ∈ u_ws RX4 TX4 12, w ∈ wsX2_timesSentBack := by decide +kernel
  have hl := lv_entry ([.ref a]) (n := 6) (Nat.le_of_ble_eq_true rfl)
  rw [lg_entry_eq]
  generalize (lg_sl ([.ref a]) ++ List.replicate (6 - (lg_sl ([.ref a])).length) Slot.unset).toArray = ls at hl ⊢
  have hl : lv_has ls 6 [(0, .ref a)] := hl
  refine lv_iconst (v := (nI 0)) hx hb dX2_timesSentBack_0 (by decide) ?_
  refine lv_istore_n (lv' := [(1, .int (nI 0)), (0, .ref a)]) hx hb dX2_timesSentBack_1 rfl hl (by decide) rfl (fun ls hl => ?_)
  refine lv_aload_n hx hb dX2_timesSentBack_2 rfl (lv_at hl 1 rfl) ?_
  refine xg_get (κ := 1) (ci := 2) (C := RX2) (T := TX2) (N := 7) hx hb hts inX2 hown hK hW hτ (by decide) rfl rfl 2 (by decide) (hts (.fieldLink RX2 31 "HalfTickets$Ministry" "persons" "[LHalfTickets$Person;") (List.mem_of_getElem? (i := 1) (by decide +kernel))) (fun _ h9 => h9) rfl dX2_timesSentBack_3 ?_
  refine lv_astore_n (lv' := [(2, .ref (a + 3)), (1, .int (nI 0)), (0, .ref a)]) hx hb dX2_timesSentBack_6 rfl hl (by decide) rfl (fun ls hl => ?_)
  refine lv_aload_n hx hb dX2_timesSentBack_7 rfl (lv_at hl 0 rfl) ?_
  refine xg_alen (κ := 4) (v := nI 24) hx hb hK hW (O.m3 hτ) (by decide) rfl 4 rfl rfl dX2_timesSentBack_8 ?_
  refine lv_istore_n (lv' := [(3, .int (nI 24)), (2, .ref (a + 3)), (1, .int (nI 0)), (0, .ref a)]) hx hb dX2_timesSentBack_9 rfl hl (by decide) rfl (fun ls hl => ?_)
  refine lv_iconst (v := (nI 0)) hx hb dX2_timesSentBack_10 (by decide) ?_
  refine lv_istore (lv' := [(4, .int (nI 0)), (3, .int (nI 24)), (2, .ref (a + 3)), (1, .int (nI 0)), (0, .ref a)]) hx hb dX2_timesSentBack_11 hl (by decide) rfl (fun ls hl => ?_)
  refine xl_up (σ := Int32) 24 (fun kk zz H locs ls => xw_D G g τ M H ∧ va_S A s.heap H locs ∧ lv_has ls 6 [(4, .int (nI kk)), (3, .int (nI 24)), (2, .ref (a + 3)), (1, .int zz), (0, .ref a)] ∧ zz = xf_sum (fun k => M (a + 2 * k + 34) 9) kk) (fun z13 H locs ls hI => ?_) (fun k13 z13 H locs ls hk13 hI ih13 => ?_) (k0 := 0) (z0 := (nI 0)) (Nat.zero_le _) ⟨hW, hS, lv_sub hl [0, 1, 2, 3, 4] rfl, rfl⟩
  · obtain ⟨hW, hS, hl, hE13⟩ := hI
    refine lv_iload hx hb dX2_timesSentBack_13 (lv_at hl 0 rfl) ?_
    refine lv_iload_n hx hb dX2_timesSentBack_15 rfl (lv_at hl 1 rfl) ?_
    refine lv_icmp_ge (tgt := 39) hx hb dX2_timesSentBack_16 (by decide) (fun c_1 => ?_) (fun c_1 => ?_)
    · refine lv_iload_n hx hb dX2_timesSentBack_39 rfl (lv_at hl 3 rfl) ?_
      exact W.iret (v := z13) hx hb hr (fun t ht hWm => ⟨⟨z13, M, rfl, ⟨hE13, rfl⟩, xw_end ht hW⟩, hS.F ht⟩) hS.2.2 dX2_timesSentBack_40
    · exact absurd (nI_le (Nat.le_refl _) (by decide)) c_1
  · obtain ⟨hW, hS, hl, hE13⟩ := hI
    refine lv_iload hx hb dX2_timesSentBack_13 (lv_at hl 0 rfl) ?_
    refine lv_iload_n hx hb dX2_timesSentBack_15 rfl (lv_at hl 1 rfl) ?_
    refine lv_icmp_ge (tgt := 39) hx hb dX2_timesSentBack_16 (by decide) (fun c_2 => ?_) (fun c_2 => ?_)
    · exact absurd c_2 (nI_ge hk13 (by decide))
    · refine lv_aload_n hx hb dX2_timesSentBack_19 rfl (lv_at hl 2 rfl) ?_
      refine lv_iload hx hb dX2_timesSentBack_20 (lv_at hl 0 rfl) ?_
      refine xg_aldP (a := a) hx hb hK hW (O.m3 hτ) k13 rfl hk13 dX2_timesSentBack_22 ?_
      refine lv_astore (lv' := [(5, .ref (a + 2 * k13 + 34)), (4, .int (nI k13)), (3, .int (nI 24)), (2, .ref (a + 3)), (1, .int z13), (0, .ref a)]) hx hb dX2_timesSentBack_23 hl (by decide) rfl (fun ls hl => ?_)
      refine lv_iload_n hx hb dX2_timesSentBack_25 rfl (lv_at hl 4 rfl) ?_
      refine lv_aload hx hb dX2_timesSentBack_26 (lv_at hl 0 rfl) ?_
      refine xg_get (κ := 8) (ci := 4) (C := RX4) (T := TX4) (N := 12) hx hb hts inX4 hown hK hW (O.p hτ hk13) (by decide) rfl rfl 9 (by decide) (hts (.fieldLink RX2 81 "HalfTickets$Person" "sentBack" "I") (List.mem_of_getElem? (i := 2) (by decide +kernel))) (fun _ h9 => h9) rfl dX2_timesSentBack_28 ?_
      refine lv_iadd hx hb dX2_timesSentBack_31 ?_
      refine lv_istore_n (lv' := [(1, .int (z13 + (M (a + 2 * k13 + 34) 9))), (5, .ref (a + 2 * k13 + 34)), (4, .int (nI k13)), (3, .int (nI 24)), (2, .ref (a + 3)), (0, .ref a)]) hx hb dX2_timesSentBack_32 rfl hl (by decide) rfl (fun ls hl => ?_)
      refine lv_iinc (v := (nI (k13 + 1))) (lv' := [(4, .int (nI (k13 + 1))), (1, .int (z13 + (M (a + 2 * k13 + 34) 9))), (5, .ref (a + 2 * k13 + 34)), (3, .int (nI 24)), (2, .ref (a + 3)), (0, .ref a)]) hx hb dX2_timesSentBack_33 hl (k := 2) rfl ((nI_1 k13)) (by decide) rfl (fun ls hl => ?_)
      refine lv_goto (tgt := 13) hx hb dX2_timesSentBack_36 (by decide) ?_
      exact ih13 (z13 + (M (a + 2 * k13 + 34) 9)) _ _ _ ⟨hW, hS, lv_sub hl [0, 3, 4, 1, 5] rfl, (by rw [hE13]; rfl)⟩

set_option maxHeartbeats 4000000 in
set_option maxRecDepth 100000 in
/-- History.kept() -/
theorem c_X0_kept (l : Launch) {G : va_G} {g : Nat → ClassId} {t0 τ : Nat → Nat} {A : Nat → Prop} (O : xk_O τ A) (M : xm_T) (h : Nat) (hτ : τ h = 10) : Met l yX0_kept wsX0_kept ({ frames := 0, cells := 0, slots := 0, locals := 0 }) (va_Pc [.ref h] (xS_t G g t0 τ A M)) (va_Qi (fun r M' => r = M h 2 ∧ M' = M) (fun M' t => xw_D G g τ M' t.heap) A) 0 0 A := by
  refine Met.ofW (cc := cX0_kept) (maxL := 1) (ret := (some .int)) (by decide) rfl ?_
  intro p e s m args below meth c s₁ B hml hv
  obtain ⟨rfl, hW, hK, hst, hnw⟩ := hv
  have hx := B.exec
  have hb := B.bytes
  have hr := B.returns
  have hts := atoms_spec (ws := wsX0_kept) B.pre
  have hown : s.vm.findClass RX0 = some m.cls := findClass_of_methodNamed B.named
  have hlocks := B.notSynchronized
  have hS : va_S A s.heap s.heap [] := va_S.rf
  have inX0 : ∀ w ∈ u_ws RX0 TX0 3, w ∈ wsX0_kept := by decide +kernel
  have hl := lv_entry ([.ref h]) (n := 1) (Nat.le_of_ble_eq_true rfl)
  rw [lg_entry_eq]
  generalize (lg_sl ([.ref h]) ++ List.replicate (1 - (lg_sl ([.ref h])).length) Slot.unset).toArray = ls at hl ⊢
  have hl : lv_has ls 1 [(0, .ref h)] := hl
  refine lv_aload_n hx hb dX0_kept_0 rfl (lv_at hl 0 rfl) ?_
  refine xg_get (κ := 10) (ci := 0) (C := RX0) (T := TX0) (N := 3) hx hb hts inX0 hown hK hW hτ (by decide) rfl rfl 2 (by decide) (hts (.fieldLink RX0 18 "HalfTickets$History" "kept" "I") (List.mem_of_getElem? (i := 1) (by decide +kernel))) (fun _ h9 => h9) rfl dX0_kept_1 ?_
  exact W.iret (v := (M h 2)) hx hb hr (fun t ht hWm => ⟨⟨(M h 2), M, rfl, ⟨rfl, rfl⟩, xw_end ht hW⟩, hS.F ht⟩) hS.2.2 dX0_kept_4

set_option maxHeartbeats 4000000 in
set_option maxRecDepth 100000 in
/-- Pad.length() -/
theorem c_X3_length (l : Launch) {G : va_G} {g : Nat → ClassId} {t0 τ : Nat → Nat} {A : Nat → Prop} (O : xk_O τ A) (M : xm_T) (d : Nat) (hτ : τ d = 14) : Met l yX3_length wsX3_length ({ frames := 0, cells := 0, slots := 0, locals := 0 }) (va_Pc [.ref d] (xS_t G g t0 τ A M)) (va_Qi (fun r M' => r = M d 1 ∧ M' = M) (fun M' t => xw_D G g τ M' t.heap) A) 0 0 A := by
  refine Met.ofW (cc := cX3_length) (maxL := 1) (ret := (some .int)) (by decide) rfl ?_
  intro p e s m args below meth c s₁ B hml hv
  obtain ⟨rfl, hW, hK, hst, hnw⟩ := hv
  have hx := B.exec
  have hb := B.bytes
  have hr := B.returns
  have hts := atoms_spec (ws := wsX3_length) B.pre
  have hown : s.vm.findClass RX3 = some m.cls := findClass_of_methodNamed B.named
  have hlocks := B.notSynchronized
  have hS : va_S A s.heap s.heap [] := va_S.rf
  have inX3 : ∀ w ∈ u_ws RX3 TX3 2, w ∈ wsX3_length := by decide +kernel
  have hl := lv_entry ([.ref d]) (n := 1) (Nat.le_of_ble_eq_true rfl)
  rw [lg_entry_eq]
  generalize (lg_sl ([.ref d]) ++ List.replicate (1 - (lg_sl ([.ref d])).length) Slot.unset).toArray = ls at hl ⊢
  have hl : lv_has ls 1 [(0, .ref d)] := hl
  refine lv_aload_n hx hb dX3_length_0 rfl (lv_at hl 0 rfl) ?_
  refine xg_get (κ := 14) (ci := 3) (C := RX3) (T := TX3) (N := 2) hx hb hts inX3 hown hK hW hτ (by decide) rfl rfl 1 (by decide) (hts (.fieldLink RX3 21 "HalfTickets$Pad" "length" "I") (List.mem_of_getElem? (i := 1) (by decide +kernel))) (fun _ h9 => h9) rfl dX3_length_1 ?_
  exact W.iret (v := (M d 1)) hx hb hr (fun t ht hWm => ⟨⟨(M d 1), M, rfl, ⟨rfl, rfl⟩, xw_end ht hW⟩, hS.F ht⟩) hS.2.2 dX3_length_4

set_option maxHeartbeats 4000000 in
set_option maxRecDepth 100000 in
/-- Pad.clear() -/
theorem c_X3_clear (l : Launch) {G : va_G} {g : Nat → ClassId} {t0 τ : Nat → Nat} {A : Nat → Prop} (O : xk_O τ A) (M : xm_T) (d : Nat) (hτ : τ d = 14) : Met l yX3_clear wsX3_clear ({ frames := 0, cells := 0, slots := 0, locals := 0 }) (va_Pc [.ref d] (xS_t G g t0 τ A M)) (va_Qv (fun M' => M' = xu_p M d 1 (nI 0)) (fun M' t => xw_D G g τ M' t.heap) A) 0 0 A := by
  refine Met.ofW (cc := cX3_clear) (maxL := 1) (ret := none) (by decide) rfl ?_
  intro p e s m args below meth c s₁ B hml hv
  obtain ⟨rfl, hW, hK, hst, hnw⟩ := hv
  have hx := B.exec
  have hb := B.bytes
  have hr := B.returns
  have hts := atoms_spec (ws := wsX3_clear) B.pre
  have hown : s.vm.findClass RX3 = some m.cls := findClass_of_methodNamed B.named
  have hlocks := B.notSynchronized
  have hS : va_S A s.heap s.heap [] := va_S.rf
  have inX3 : ∀ w ∈ u_ws RX3 TX3 2, w ∈ wsX3_clear := by decide +kernel
  have hl := lv_entry ([.ref d]) (n := 1) (Nat.le_of_ble_eq_true rfl)
  rw [lg_entry_eq]
  generalize (lg_sl ([.ref d]) ++ List.replicate (1 - (lg_sl ([.ref d])).length) Slot.unset).toArray = ls at hl ⊢
  have hl : lv_has ls 1 [(0, .ref d)] := hl
  refine lv_aload_n hx hb dX3_clear_0 rfl (lv_at hl 0 rfl) ?_
  refine lv_iconst (v := (nI 0)) hx hb dX3_clear_1 (by decide) ?_
  refine xg_put (κ := 14) (ci := 3) (C := RX3) (T := TX3) (N := 2) hx hb hts inX3 tyX3 tyX3_ok nmX3 hown hK O hW hS hτ (by decide) rfl rfl 1 (by decide) (v := (nI 0)) rfl trivial (hts (.fieldLink RX3 21 "HalfTickets$Pad" "length" "I") (List.mem_of_getElem? (i := 1) (by decide +kernel))) (fun _ h9 => h9) rfl (ty := .int) (by decide +kernel) rfl rfl (Nat.le_of_ble_eq_true rfl) dX3_clear_2 (fun H locs hW hS => ?_)
  obtain ⟨M_1, eM_1⟩ : ∃ M9, M9 = xu_p M d 1 (nI 0) := ⟨_, rfl⟩
  rw [← eM_1] at hW
  exact W.vret hx hb hr (fun t ht hWm => ⟨⟨M_1, rfl, eM_1, xw_end ht hW⟩, hS.F ht⟩) hS.2.2 dX3_clear_5
end
section
/-- the six states of the history at h have the numbers of the ministry at o -/
def xn_H (M : xm_T) (h o : Nat) : Prop := ∀ i, i < 6 → ∀ k, k < 24 → M (h + 82 * i + 2 + 2 * k + 34) 0 = M (o + 2 * k + 34) 0
/-- what remember does: the history's own cells alone change, next stays within, the numbers stay -/
def xf_rem (M M' : xm_T) (h : Nat) : Prop := (∃ n, n ≤ 6 ∧ M' h 1 = nI n) ∧ (∀ x, x < h ∨ h + 494 ≤ x → M' x = M x) ∧ ∀ i, i < 6 → ∀ k, k < 24 → M' (h + 82 * i + 2 + 2 * k + 34) 0 = M (h + 82 * i + 2 + 2 * k + 34) 0

set_option maxHeartbeats 4000000 in
set_option maxRecDepth 100000 in
/-- History.remember(o) -/
theorem c_X0_remember (l : Launch) {G : va_G} {g : Nat → ClassId} {t0 τ : Nat → Nat} {A : Nat → Prop} (O : xk_O τ A) (M : xm_T) (h o : Nat) (hτ : τ h = 10) (hτo : τ o = 1) (hd : o + 82 ≤ h ∨ h + 494 ≤ o) {n : Nat} (hn : n ≤ 6) (hM : M h 1 = nI n) (hN : xn_H M h o) : Met l yX0_remember wsX0_remember ({ frames := 4, cells := 0, slots := 0, locals := 130 }) (va_Pc [.ref h, .ref o] (xS_t G g t0 τ A M)) (va_Qv (fun M' => xf_rem M M' h) (fun M' t => xw_D G g τ M' t.heap) A) 0 0 A := by
  refine Met.ofW (cc := cX0_remember) (maxL := 2) (ret := none) (by decide) rfl ?_
  intro p e s m args below meth c s₁ B hml hv
  obtain ⟨rfl, hW, hK, hst, hnw⟩ := hv
  have hx := B.exec
  have hb := B.bytes
  have hr := B.returns
  have hts := atoms_spec (ws := wsX0_remember) B.pre
  have hown : s.vm.findClass RX0 = some m.cls := findClass_of_methodNamed B.named
  have hlocks := B.notSynchronized
  have hS : va_S A s.heap s.heap [] := va_S.rf
  have inX0 : ∀ w ∈ u_ws RX0 TX0 3, w ∈ wsX0_remember := by decide +kernel
  have hl := lv_entry ([.ref h, .ref o]) (n := 2) (Nat.le_of_ble_eq_true rfl)
  rw [lg_entry_eq]
  generalize (lg_sl ([.ref h, .ref o]) ++ List.replicate (2 - (lg_sl ([.ref h, .ref o])).length) Slot.unset).toArray = ls at hl ⊢
  have hl : lv_has ls 2 [(0, .ref h), (1, .ref o)] := hl
  refine lv_aload_n hx hb dX0_remember_0 rfl (lv_at hl 0 rfl) ?_
  refine xg_get (κ := 10) (ci := 0) (C := RX0) (T := TX0) (N := 3) hx hb hts inX0 hown hK hW hτ (by decide) rfl rfl 1 (by decide) (hts (.fieldLink RX0 22 "HalfTickets$History" "next" "I") (List.mem_of_getElem? (i := 1) (by decide +kernel))) (fun _ h9 => h9) rfl dX0_remember_1 ?_
  refine lv_aload_n hx hb dX0_remember_4 rfl (lv_at hl 0 rfl) ?_
  refine xg_get (κ := 10) (ci := 0) (C := RX0) (T := TX0) (N := 3) hx hb hts inX0 hown hK hW hτ (by decide) rfl rfl 0 (by decide) (hts (.fieldLink RX0 11 "HalfTickets$History" "states" "[LHalfTickets$Ministry;") (List.mem_of_getElem? (i := 2) (by decide +kernel))) (fun _ h9 => h9) rfl dX0_remember_5 ?_
  refine xg_alen (κ := 11) (v := nI 6) hx hb hK hW (O.h1 hτ) (by decide) rfl 5 rfl rfl dX0_remember_8 ?_
  refine lv_icmp_lt (tgt := 17) hx hb dX0_remember_9 (by decide) (fun c_1 => ?_) (fun c_1 => ?_)
  · have hn6 : n < 6 := by rw [hM] at c_1; exact (nI_ltI (by omega) (by omega)).mp c_1
    obtain ⟨j, hj, hMj⟩ : ∃ j, j < 6 ∧ M h 1 = nI j := ⟨n, hn6, hM⟩
    have hx1 : ∀ x, x ≠ h → M x = M x := fun _ _ => rfl
    refine lv_aload_n hx hb dX0_remember_17 rfl (lv_at hl 0 rfl) ?_
    refine xg_get (κ := 10) (ci := 0) (C := RX0) (T := TX0) (N := 3) hx hb hts inX0 hown hK hW hτ (by decide) rfl rfl 0 (by decide) (hts (.fieldLink RX0 11 "HalfTickets$History" "states" "[LHalfTickets$Ministry;") (List.mem_of_getElem? (i := 2) (by decide +kernel))) (fun _ h9 => h9) rfl dX0_remember_18 ?_
    refine lv_aload_n hx hb dX0_remember_21 rfl (lv_at hl 0 rfl) ?_
    refine xg_get (κ := 10) (ci := 0) (C := RX0) (T := TX0) (N := 3) hx hb hts inX0 hown hK hW hτ (by decide) rfl rfl 1 (by decide) (hts (.fieldLink RX0 22 "HalfTickets$History" "next" "I") (List.mem_of_getElem? (i := 1) (by decide +kernel))) (fun _ h9 => h9) rfl dX0_remember_22 ?_
    refine xg_aldH (a := h) hx hb hK hW (O.h1 hτ) j hMj hj dX0_remember_25 ?_
    refine lv_aload_n hx hb dX0_remember_26 rfl (lv_at hl 1 rfl) ?_
    have hNj : ∀ k, k < 24 → M (h + 82 * j + 2 + 2 * k + 34) 0 = M (o + 2 * k + 34) 0 := fun k hk => by rw [hx1 _ (by omega), hx1 _ (by omega)]; exact hN j hj k hk
    refine xc_v (xr_V (As := [.ref o]) (rest := []) (κ := 1) ⟨hx, hb, hml, hown, hts⟩ (c_X2_become l O M (h + 82 * j + 2) o (O.hm hτ hj) hτo (by omega) hNj) (cwV 1 hts gX0_remember_X2_become rfl rfl rfl (by decide +kernel) ⟨Nat.le_of_ble_eq_true rfl, Nat.le_of_ble_eq_true rfl⟩) hK hst hnw hS hW (O.hm hτ hj) (by decide) rfl rfl rfl hl.1 rfl (Nat.le_of_ble_eq_true rfl) dX0_remember_27 ⟨Nat.zero_le _, Nat.zero_le _⟩) hS (fun M_2 H locs hq_3 hW hS => ?_)
    have hc1 : M_2 h = M h := by rw [hq_3]; exact xf_out (by omega)
    have hc2 : ∀ x, x < h ∨ h + 494 ≤ x → M_2 x = M x := fun x hx => (show M_2 x = M x by rw [hq_3, xf_out (by omega)]).trans (hx1 x (by omega))
    have hc3 : ∀ i, i < 6 → ∀ k, k < 24 → M_2 (h + 82 * i + 2 + 2 * k + 34) 0 = M (h + 82 * i + 2 + 2 * k + 34) 0 := fun i hi k hk => by
        rw [hq_3]
        by_cases hij : i = j
        · subst hij
          rw [xf_in (by omega), hx1 _ (by omega), hN i hi k hk]
          congr 1
          omega
        · exact (show xf_cp M (h + 82 * j + 2) o 82 (h + 82 * i + 2 + 2 * k + 34) 0 = M (h + 82 * i + 2 + 2 * k + 34) 0 by rw [xf_out (by omega)]).trans (congrFun (hx1 _ (by omega)) 0)
    refine lv_aload_n hx hb dX0_remember_30 rfl (lv_at hl 0 rfl) ?_
    refine lv_dup hx hb dX0_remember_31 rfl ?_
    refine xg_get (κ := 10) (ci := 0) (C := RX0) (T := TX0) (N := 3) hx hb hts inX0 hown hK hW hτ (by decide) rfl rfl 1 (by decide) (hts (.fieldLink RX0 22 "HalfTickets$History" "next" "I") (List.mem_of_getElem? (i := 1) (by decide +kernel))) (fun _ h9 => h9) rfl dX0_remember_32 ?_
    refine lv_iconst (v := (nI 1)) hx hb dX0_remember_35 (by decide) ?_
    refine lv_iadd hx hb dX0_remember_36 ?_
    refine xg_put (κ := 10) (ci := 0) (C := RX0) (T := TX0) (N := 3) hx hb hts inX0 tyX0 tyX0_ok nmX0 hown hK O hW hS hτ (by decide) rfl rfl 1 (by decide) (v := ((M_2 h 1) + (nI 1))) rfl trivial (hts (.fieldLink RX0 22 "HalfTickets$History" "next" "I") (List.mem_of_getElem? (i := 1) (by decide +kernel))) (fun _ h9 => h9) rfl (ty := .int) (by decide +kernel) rfl rfl (Nat.le_of_ble_eq_true rfl) dX0_remember_37 (fun H locs hW hS => ?_)
    obtain ⟨M_5, eM_5⟩ : ∃ M9, M9 = xu_p M_2 h 1 ((M_2 h 1) + (nI 1)) := ⟨_, rfl⟩
    rw [← eM_5] at hW
    refine lv_aload_n hx hb dX0_remember_40 rfl (lv_at hl 0 rfl) ?_
    refine lv_aload_n hx hb dX0_remember_41 rfl (lv_at hl 0 rfl) ?_
    refine xg_get (κ := 10) (ci := 0) (C := RX0) (T := TX0) (N := 3) hx hb hts inX0 hown hK hW hτ (by decide) rfl rfl 2 (by decide) (hts (.fieldLink RX0 18 "HalfTickets$History" "kept" "I") (List.mem_of_getElem? (i := 3) (by decide +kernel))) (fun _ h9 => h9) rfl dX0_remember_42 ?_
    refine lv_iconst (v := (nI 1)) hx hb dX0_remember_45 (by decide) ?_
    refine lv_iadd hx hb dX0_remember_46 ?_
    refine lv_aload_n hx hb dX0_remember_47 rfl (lv_at hl 0 rfl) ?_
    refine xg_get (κ := 10) (ci := 0) (C := RX0) (T := TX0) (N := 3) hx hb hts inX0 hown hK hW hτ (by decide) rfl rfl 0 (by decide) (hts (.fieldLink RX0 11 "HalfTickets$History" "states" "[LHalfTickets$Ministry;") (List.mem_of_getElem? (i := 2) (by decide +kernel))) (fun _ h9 => h9) rfl dX0_remember_48 ?_
    refine xg_alen (κ := 11) (v := nI 6) hx hb hK hW (O.h1 hτ) (by decide) rfl 5 rfl rfl dX0_remember_51 ?_
    refine va_mmin hx hb (by rw [hml]; exact hl.1.symm) hown (hts (.methodLink RX0 29 Lib.Math.min.name) (List.mem_of_getElem? (i := 4) (by decide +kernel))) (hts (.static Lib.Math.min.name) (List.mem_of_getElem? (i := 5) (by decide +kernel))) (hts (.initialized "java/lang/Math") (List.mem_of_getElem? (i := 6) (by decide +kernel))) (hts (.code Lib.Math.min.name Lib.Math.min.code 2 (some .int)) (List.mem_of_getElem? (i := 7) (by decide +kernel))) (Nat.le_of_ble_eq_true rfl) (Nat.le_of_ble_eq_true rfl) (Nat.zero_le _) (Nat.zero_le _) dX0_remember_52 ?_
    refine xg_put (κ := 10) (ci := 0) (C := RX0) (T := TX0) (N := 3) hx hb hts inX0 tyX0 tyX0_ok nmX0 hown hK O hW hS hτ (by decide) rfl rfl 2 (by decide) (v := (if (nI 6) < ((M_5 h 2) + (nI 1)) then (nI 6) else ((M_5 h 2) + (nI 1)))) rfl trivial (hts (.fieldLink RX0 18 "HalfTickets$History" "kept" "I") (List.mem_of_getElem? (i := 3) (by decide +kernel))) (fun _ h9 => h9) rfl (ty := .int) (by decide +kernel) rfl rfl (Nat.le_of_ble_eq_true rfl) dX0_remember_55 (fun H locs hW hS => ?_)
    obtain ⟨M_6, eM_6⟩ : ∃ M9, M9 = xu_p M_5 h 2 (if (nI 6) < ((M_5 h 2) + (nI 1)) then (nI 6) else ((M_5 h 2) + (nI 1))) := ⟨_, rfl⟩
    rw [← eM_6] at hW
    have hpost : xf_rem M M_6 h := by
        have g1 : ∀ x, x ≠ h → M_6 x = M_2 x := fun x hx => by rw [eM_6, xu_p, xr_n _ _ hx, eM_5, xu_p, xr_n _ _ hx]
        refine ⟨⟨j + 1, by omega, ?_⟩, fun x hx => ?_, fun i hi k hk => ?_⟩
        · rw [eM_6, xu_n _ (Or.inr (by decide)), eM_5, xu_s, hc1, hMj]
          exact nI_1 j
        · rw [g1 x (by omega)]
          exact hc2 x hx
        · rw [g1 _ (by omega)]
          exact hc3 i hi k hk
    exact W.vret hx hb hr (fun t ht hWm => ⟨⟨M_6, rfl, hpost, xw_end ht hW⟩, hS.F ht⟩) hS.2.2 dX0_remember_58
  · refine lv_aload_n hx hb dX0_remember_12 rfl (lv_at hl 0 rfl) ?_
    refine lv_iconst (v := (nI 0)) hx hb dX0_remember_13 (by decide) ?_
    refine xg_put (κ := 10) (ci := 0) (C := RX0) (T := TX0) (N := 3) hx hb hts inX0 tyX0 tyX0_ok nmX0 hown hK O hW hS hτ (by decide) rfl rfl 1 (by decide) (v := (nI 0)) rfl trivial (hts (.fieldLink RX0 22 "HalfTickets$History" "next" "I") (List.mem_of_getElem? (i := 1) (by decide +kernel))) (fun _ h9 => h9) rfl (ty := .int) (by decide +kernel) rfl rfl (Nat.le_of_ble_eq_true rfl) dX0_remember_14 (fun H locs hW hS => ?_)
    obtain ⟨M_7, eM_7⟩ : ∃ M9, M9 = xu_p M h 1 (nI 0) := ⟨_, rfl⟩
    rw [← eM_7] at hW
    obtain ⟨j, hj, hMj⟩ : ∃ j, j < 6 ∧ M_7 h 1 = nI j := ⟨0, by decide, by rw [eM_7]; exact xu_s _ _ _ _⟩
    have hx1 : ∀ x, x ≠ h → M_7 x = M x := fun x hx => by rw [eM_7]; exact xr_n _ _ hx
    refine lv_aload_n hx hb dX0_remember_17 rfl (lv_at hl 0 rfl) ?_
    refine xg_get (κ := 10) (ci := 0) (C := RX0) (T := TX0) (N := 3) hx hb hts inX0 hown hK hW hτ (by decide) rfl rfl 0 (by decide) (hts (.fieldLink RX0 11 "HalfTickets$History" "states" "[LHalfTickets$Ministry;") (List.mem_of_getElem? (i := 2) (by decide +kernel))) (fun _ h9 => h9) rfl dX0_remember_18 ?_
    refine lv_aload_n hx hb dX0_remember_21 rfl (lv_at hl 0 rfl) ?_
    refine xg_get (κ := 10) (ci := 0) (C := RX0) (T := TX0) (N := 3) hx hb hts inX0 hown hK hW hτ (by decide) rfl rfl 1 (by decide) (hts (.fieldLink RX0 22 "HalfTickets$History" "next" "I") (List.mem_of_getElem? (i := 1) (by decide +kernel))) (fun _ h9 => h9) rfl dX0_remember_22 ?_
    refine xg_aldH (a := h) hx hb hK hW (O.h1 hτ) j hMj hj dX0_remember_25 ?_
    refine lv_aload_n hx hb dX0_remember_26 rfl (lv_at hl 1 rfl) ?_
    have hNj : ∀ k, k < 24 → M_7 (h + 82 * j + 2 + 2 * k + 34) 0 = M_7 (o + 2 * k + 34) 0 := fun k hk => by rw [hx1 _ (by omega), hx1 _ (by omega)]; exact hN j hj k hk
    refine xc_v (xr_V (As := [.ref o]) (rest := []) (κ := 1) ⟨hx, hb, hml, hown, hts⟩ (c_X2_become l O M_7 (h + 82 * j + 2) o (O.hm hτ hj) hτo (by omega) hNj) (cwV 1 hts gX0_remember_X2_become rfl rfl rfl (by decide +kernel) ⟨Nat.le_of_ble_eq_true rfl, Nat.le_of_ble_eq_true rfl⟩) hK hst hnw hS hW (O.hm hτ hj) (by decide) rfl rfl rfl hl.1 rfl (Nat.le_of_ble_eq_true rfl) dX0_remember_27 ⟨Nat.zero_le _, Nat.zero_le _⟩) hS (fun M_8 H locs hq_9 hW hS => ?_)
    have hc1 : M_8 h = M_7 h := by rw [hq_9]; exact xf_out (by omega)
    have hc2 : ∀ x, x < h ∨ h + 494 ≤ x → M_8 x = M x := fun x hx => (show M_8 x = M_7 x by rw [hq_9, xf_out (by omega)]).trans (hx1 x (by omega))
    have hc3 : ∀ i, i < 6 → ∀ k, k < 24 → M_8 (h + 82 * i + 2 + 2 * k + 34) 0 = M (h + 82 * i + 2 + 2 * k + 34) 0 := fun i hi k hk => by
        rw [hq_9]
        by_cases hij : i = j
        · subst hij
          rw [xf_in (by omega), hx1 _ (by omega), hN i hi k hk]
          congr 1
          omega
        · exact (show xf_cp M_7 (h + 82 * j + 2) o 82 (h + 82 * i + 2 + 2 * k + 34) 0 = M_7 (h + 82 * i + 2 + 2 * k + 34) 0 by rw [xf_out (by omega)]).trans (congrFun (hx1 _ (by omega)) 0)
    refine lv_aload_n hx hb dX0_remember_30 rfl (lv_at hl 0 rfl) ?_
    refine lv_dup hx hb dX0_remember_31 rfl ?_
    refine xg_get (κ := 10) (ci := 0) (C := RX0) (T := TX0) (N := 3) hx hb hts inX0 hown hK hW hτ (by decide) rfl rfl 1 (by decide) (hts (.fieldLink RX0 22 "HalfTickets$History" "next" "I") (List.mem_of_getElem? (i := 1) (by decide +kernel))) (fun _ h9 => h9) rfl dX0_remember_32 ?_
    refine lv_iconst (v := (nI 1)) hx hb dX0_remember_35 (by decide) ?_
    refine lv_iadd hx hb dX0_remember_36 ?_
    refine xg_put (κ := 10) (ci := 0) (C := RX0) (T := TX0) (N := 3) hx hb hts inX0 tyX0 tyX0_ok nmX0 hown hK O hW hS hτ (by decide) rfl rfl 1 (by decide) (v := ((M_8 h 1) + (nI 1))) rfl trivial (hts (.fieldLink RX0 22 "HalfTickets$History" "next" "I") (List.mem_of_getElem? (i := 1) (by decide +kernel))) (fun _ h9 => h9) rfl (ty := .int) (by decide +kernel) rfl rfl (Nat.le_of_ble_eq_true rfl) dX0_remember_37 (fun H locs hW hS => ?_)
    obtain ⟨M_11, eM_11⟩ : ∃ M9, M9 = xu_p M_8 h 1 ((M_8 h 1) + (nI 1)) := ⟨_, rfl⟩
    rw [← eM_11] at hW
    refine lv_aload_n hx hb dX0_remember_40 rfl (lv_at hl 0 rfl) ?_
    refine lv_aload_n hx hb dX0_remember_41 rfl (lv_at hl 0 rfl) ?_
    refine xg_get (κ := 10) (ci := 0) (C := RX0) (T := TX0) (N := 3) hx hb hts inX0 hown hK hW hτ (by decide) rfl rfl 2 (by decide) (hts (.fieldLink RX0 18 "HalfTickets$History" "kept" "I") (List.mem_of_getElem? (i := 3) (by decide +kernel))) (fun _ h9 => h9) rfl dX0_remember_42 ?_
    refine lv_iconst (v := (nI 1)) hx hb dX0_remember_45 (by decide) ?_
    refine lv_iadd hx hb dX0_remember_46 ?_
    refine lv_aload_n hx hb dX0_remember_47 rfl (lv_at hl 0 rfl) ?_
    refine xg_get (κ := 10) (ci := 0) (C := RX0) (T := TX0) (N := 3) hx hb hts inX0 hown hK hW hτ (by decide) rfl rfl 0 (by decide) (hts (.fieldLink RX0 11 "HalfTickets$History" "states" "[LHalfTickets$Ministry;") (List.mem_of_getElem? (i := 2) (by decide +kernel))) (fun _ h9 => h9) rfl dX0_remember_48 ?_
    refine xg_alen (κ := 11) (v := nI 6) hx hb hK hW (O.h1 hτ) (by decide) rfl 5 rfl rfl dX0_remember_51 ?_
    refine va_mmin hx hb (by rw [hml]; exact hl.1.symm) hown (hts (.methodLink RX0 29 Lib.Math.min.name) (List.mem_of_getElem? (i := 4) (by decide +kernel))) (hts (.static Lib.Math.min.name) (List.mem_of_getElem? (i := 5) (by decide +kernel))) (hts (.initialized "java/lang/Math") (List.mem_of_getElem? (i := 6) (by decide +kernel))) (hts (.code Lib.Math.min.name Lib.Math.min.code 2 (some .int)) (List.mem_of_getElem? (i := 7) (by decide +kernel))) (Nat.le_of_ble_eq_true rfl) (Nat.le_of_ble_eq_true rfl) (Nat.zero_le _) (Nat.zero_le _) dX0_remember_52 ?_
    refine xg_put (κ := 10) (ci := 0) (C := RX0) (T := TX0) (N := 3) hx hb hts inX0 tyX0 tyX0_ok nmX0 hown hK O hW hS hτ (by decide) rfl rfl 2 (by decide) (v := (if (nI 6) < ((M_11 h 2) + (nI 1)) then (nI 6) else ((M_11 h 2) + (nI 1)))) rfl trivial (hts (.fieldLink RX0 18 "HalfTickets$History" "kept" "I") (List.mem_of_getElem? (i := 3) (by decide +kernel))) (fun _ h9 => h9) rfl (ty := .int) (by decide +kernel) rfl rfl (Nat.le_of_ble_eq_true rfl) dX0_remember_55 (fun H locs hW hS => ?_)
    obtain ⟨M_12, eM_12⟩ : ∃ M9, M9 = xu_p M_11 h 2 (if (nI 6) < ((M_11 h 2) + (nI 1)) then (nI 6) else ((M_11 h 2) + (nI 1))) := ⟨_, rfl⟩
    rw [← eM_12] at hW
    have hpost : xf_rem M M_12 h := by
        have g1 : ∀ x, x ≠ h → M_12 x = M_8 x := fun x hx => by rw [eM_12, xu_p, xr_n _ _ hx, eM_11, xu_p, xr_n _ _ hx]
        refine ⟨⟨j + 1, by omega, ?_⟩, fun x hx => ?_, fun i hi k hk => ?_⟩
        · rw [eM_12, xu_n _ (Or.inr (by decide)), eM_11, xu_s, hc1, hMj]
          exact nI_1 j
        · rw [g1 x (by omega)]
          exact hc2 x hx
        · rw [g1 _ (by omega)]
          exact hc3 i hi k hk
    exact W.vret hx hb hr (fun t ht hWm => ⟨⟨M_12, rfl, hpost, xw_end ht hW⟩, hS.F ht⟩) hS.2.2 dX0_remember_58
end
section
/-! CONSTRUCTORS: they make cells one behind the other; facts of single cells, and the heap's size -/
def xA_k (h sz : Nat) : Nat → Prop := fun q => q = h ∨ sz ≤ q
def xK_t (G : va_G) (g : Nat → ClassId) (t0 : Nat → Nat) (A : Nat → Prop) (U : State) : Prop := va_K G vwCl (xw_tys g) U ∧ xw_st t0 A U U.heap ∧ xw_nw g U
def xK_p (G : va_G) (g : Nat → ClassId) (t0 : Nat → Nat) (A : Nat → Prop) (sz h ci : Nat) (fs : List Value) (U : State) : Prop := U.heap.size = sz ∧ va_at G vwCl (h, .inr (ci, fs)) U.heap ∧ xK_t G g t0 A U
theorem xK_blind {G : va_G} {g : Nat → ClassId} {t0 : Nat → Nat} {A : Nat → Prop} {sz h ci : Nat} {fs : List Value} (av : List Value) : FrameBlind (va_Pc av (xK_p G g t0 A sz h ci fs)) := fun a U f mk q => ⟨q.1, q.2.1, q.2.2.1, va_K.moved (u := U) (U := U.calling f mk a) (Vm.Alike.refl U.vm) q.2.2.2.1, q.2.2.2.2.1.moved (u := U) (U := U.calling f mk a) (Vm.Alike.refl U.vm), q.2.2.2.2.2.call⟩
theorem xK_mk {G : va_G} {g : Nat → ClassId} {t0 : Nat → Nat} {A A' : Nat → Prop} {s U : State} {H : Heap} {locs : List Loc} (hK : va_K G vwCl (xw_tys g) s) (hst : xw_st t0 A s s.heap) (hnw : xw_nw g s) (hS : va_S A' s.heap H locs) (hAA : ∀ q, A' q → A q) (hU : U.heap = H) (hWm : s.WarmedH U.vm) : xK_t G g t0 A U :=
  ⟨va_K.moved hWm.alike hK, (hst.moved hWm.alike).kept (fun a h1 h2 => by rw [hU]; exact hS.2.1 a h1 (fun z => h2 (hAA a z))), hnw.warm hWm⟩
theorem xw_arrq {cA : ClassId} {n : Nat} {f f' : Nat → Option Nat} (h : ∀ j, j < n → f j = f' j) : vp_cell cA (n, .inr (.inr (.inr (.inr f)))) = vp_cell cA (n, .inr (.inr (.inr (.inr f')))) := by
  rw [vp_cell_q, vp_cell_q]
  unfold arrV
  congr 1
  congr 1
  funext j
  exact congrArg va_rf (h j.val j.isLt)
def xk_L (G : va_G) (g : Nat → ClassId) (x : Nat) (H : Heap) : Prop := va_at G vwCl (x, .inr (1, [.ref (x + 1), .int (nI 0)])) H ∧ va_at G vwCl (x + 1, .inl (g 0, 24, .inl (fun _ => nI 0))) H
def xk_W (G : va_G) (g : Nat → ClassId) (x : Nat) (v : Int32) (H : Heap) : Prop := va_at G vwCl (x, .inr (5, [.int (nI 1), .int (nI 1), .int v, .int (nI 0), .int (nI 0), .ref (x + 1), .ref (x + 3)])) H ∧ xk_L G g (x + 1) H ∧ xk_L G g (x + 3) H
def xk_P (G : va_G) (g : Nat → ClassId) (x : Nat) (v : Int32) (H : Heap) : Prop := va_at G vwCl (x, .inr (4, [.int v, .ref (x + 1), .int (nI 0), .int (nI 4), .int (nI 0), .int (nI 0), .int (nI 0), .int (nI 0), .int (nI 0), .int (nI 0), .int (-6), .int (nI 0)])) H ∧ va_at G vwCl (x + 1, .inl (g 0, 8, .inl (fun _ => nI 0))) H
def xk_D (G : va_G) (g : Nat → ClassId) (x : Nat) (H : Heap) : Prop := va_at G vwCl (x, .inr (3, [.ref (x + 1), .int (nI 0)])) H ∧ va_at G vwCl (x + 1, .inl (g 2, 60, .inl (fun _ => nI 0))) H
def xk_M (G : va_G) (g : Nat → ClassId) (x : Nat) (H : Heap) : Prop := va_at G vwCl (x, .inr (2, [.ref (x + 1), .ref (x + 2), .ref (x + 3), .int (nI 0), .int (nI 0), .int (nI 0), .int (nI 0)])) H ∧ va_at G vwCl (x + 1, .inl (g 0, 3, .inl xs_0)) H ∧
  va_at G vwCl (x + 2, .inl (g 3, 6, .inr (.inr (.inr (.inr (fun w => some (x + 2 + 5 * w + 2))))))) H ∧ va_at G vwCl (x + 3, .inl (g 4, 24, .inr (.inr (.inr (.inr (fun k => some (x + 3 + 2 * k + 31))))))) H ∧
  (∀ w, w < 6 → xk_W G g (x + 5 * w + 4) (nI 8) H) ∧ ∀ k, k < 24 → xk_P G g (x + 2 * k + 34) (nI k) H
def xk_H (G : va_G) (g : Nat → ClassId) (x : Nat) (H : Heap) : Prop := va_at G vwCl (x, .inr (0, [.ref (x + 1), .int (nI 0), .int (nI 0)])) H ∧ va_at G vwCl (x + 1, .inl (g 5, 6, .inr (.inr (.inr (.inr (fun i => some (x + 1 + 82 * i + 1))))))) H ∧ ∀ i, i < 6 → xk_M G g (x + 82 * i + 2) H
/-- the whole object -/
def xk_B (G : va_G) (g : Nat → ClassId) (x : Nat) (H : Heap) : Prop := va_at G vwCl (x, .inr (6, [.ref (x + 1), .ref (x + 83), .ref (x + 165), .ref (x + 659), .ref (x + 824), .ref (x + 825)])) H ∧ xk_M G g (x + 1) H ∧ xk_M G g (x + 83) H ∧ xk_H G g (x + 165) H ∧
  va_at G vwCl (x + 659, .inl (g 5, 2, .inr (.inr (.inr (.inr (fun i => some (x + 659 + 82 * i + 1))))))) H ∧ (∀ i, i < 2 → xk_M G g (x + 82 * i + 660) H) ∧ va_at G vwCl (x + 824, .inl (g 1, 2, .inl (fun _ => nI 0))) H ∧ xk_D G g (x + 825) H
theorem xk_L.kept {G : va_G} {g : Nat → ClassId} {x : Nat} {H H1 : Heap} (h : xk_L G g x H) (ho : ∀ q, x ≤ q ∧ q < x + 2 → H1[q]? = H[q]?) : xk_L G g x H1 := ⟨h.1.kept (ho _ (by omega)), h.2.kept (ho _ (by omega))⟩
theorem xk_D.kept {G : va_G} {g : Nat → ClassId} {x : Nat} {H H1 : Heap} (h : xk_D G g x H) (ho : ∀ q, x ≤ q ∧ q < x + 2 → H1[q]? = H[q]?) : xk_D G g x H1 := ⟨h.1.kept (ho _ (by omega)), h.2.kept (ho _ (by omega))⟩
theorem xk_P.kept {G : va_G} {g : Nat → ClassId} {x : Nat} {v : Int32} {H H1 : Heap} (h : xk_P G g x v H) (ho : ∀ q, x ≤ q ∧ q < x + 2 → H1[q]? = H[q]?) : xk_P G g x v H1 := ⟨h.1.kept (ho _ (by omega)), h.2.kept (ho _ (by omega))⟩
theorem xk_W.kept {G : va_G} {g : Nat → ClassId} {x : Nat} {v : Int32} {H H1 : Heap} (h : xk_W G g x v H) (ho : ∀ q, x ≤ q ∧ q < x + 5 → H1[q]? = H[q]?) : xk_W G g x v H1 := ⟨h.1.kept (ho _ (by omega)), h.2.1.kept (fun q hq => ho q (by omega)), h.2.2.kept (fun q hq => ho q (by omega))⟩
theorem xk_M.kept {G : va_G} {g : Nat → ClassId} {x : Nat} {H H1 : Heap} (h : xk_M G g x H) (ho : ∀ q, x ≤ q ∧ q < x + 82 → H1[q]? = H[q]?) : xk_M G g x H1 := ⟨h.1.kept (ho _ (by omega)), h.2.1.kept (ho _ (by omega)), h.2.2.1.kept (ho _ (by omega)), h.2.2.2.1.kept (ho _ (by omega)), fun w hw => (h.2.2.2.2.1 w hw).kept (fun q hq => ho q (by omega)), fun k hk => (h.2.2.2.2.2 k hk).kept (fun q hq => ho q (by omega))⟩
theorem xk_H.kept {G : va_G} {g : Nat → ClassId} {x : Nat} {H H1 : Heap} (h : xk_H G g x H) (ho : ∀ q, x ≤ q ∧ q < x + 494 → H1[q]? = H[q]?) : xk_H G g x H1 := ⟨h.1.kept (ho _ (by omega)), h.2.1.kept (ho _ (by omega)), fun i hi => (h.2.2 i hi).kept (fun q hq => ho q (by omega))⟩
theorem xk_B.kept {G : va_G} {g : Nat → ClassId} {x : Nat} {H H1 : Heap} (h : xk_B G g x H) (ho : ∀ q, x ≤ q ∧ q < x + 827 → H1[q]? = H[q]?) : xk_B G g x H1 := ⟨h.1.kept (ho _ (by omega)), h.2.1.kept (fun q hq => ho q (by omega)), h.2.2.1.kept (fun q hq => ho q (by omega)), h.2.2.2.1.kept (fun q hq => ho q (by omega)), h.2.2.2.2.1.kept (ho _ (by omega)), fun i hi => (h.2.2.2.2.2.1 i hi).kept (fun q hq => ho q (by omega)), h.2.2.2.2.2.2.1.kept (ho _ (by omega)), h.2.2.2.2.2.2.2.kept (fun q hq => ho q (by omega))⟩
theorem xk_end {P : Heap → Prop} {t : State} {H : Heap} {n : Nat} (ht : t.heap = H) (hz : H.size = n) (hp : P H) : t.heap.size = n ∧ P t.heap := by rw [ht]; exact ⟨hz, hp⟩
section XK
variable {p : Program} {l : Launch} {e : Env} {R : Room} {s : State} {m : MethodId} {args : Array Value} {below : List Frame} {meth : Method} {c : Code} {H : Heap} {locs : List Loc} {cells slots : Nat} {Q : State → Prop}
variable {cc : ByteArray} {pc : Nat} {ls : Array Slot} {rest : List Value} {G : va_G} {g : Nat → ClassId} {t0 : Nat → Nat} {A A' : Nat → Prop} {a : Nat} {H0 : Heap}
theorem xk_get (hexec : p.tables.exec = Jvm.exec) (hb : c.code = cc) {own ref C : String} {T : u_T} {N ci index : Nat} {Ts : List Cond} (hts : ∀ w ∈ Ts, w.before args s = true) (hin : ∀ w ∈ u_ws C T N, w ∈ Ts) (hown : s.vm.findClass own = some m.cls) (hK : va_K G vwCl (xw_tys g) s) {fs : List Value} (hat : va_at G vwCl (a, .inr (ci, fs)) H) (hc : vwCl[ci]? = some (C, T, N)) (k : Nat) (hk : k < N) (hlink : (Cond.fieldLink own index ref (T k).2.1 (T k).2.2.1).before args s = true) (hsame : ∀ x, s.fieldFound? (T k).1 (T k).2.1 (T k).2.2.1 = some x → s.fieldFound? ref (T k).2.1 (T k).2.2.1 = some x) {v : Value} (hv : fs[k]? = some v) (hdg : decode cc pc = .ok (.getfield index, 3))
    (kk : W p l e R s m args below meth c H locs cells slots Q (F0 m (pc + 3) ls (v :: rest))) : W p l e R s m args below meth c H locs cells slots Q (F0 m pc ls (.ref a :: rest)) :=
  va_get hexec hb hts hin hown hK (xw_P1 hat) 0 rfl hc k hk hlink hsame hv hdg kk
theorem xk_new (hexec : p.tables.exec = Jvm.exec) (hb : c.code = cc) {own C : String} {T : u_T} {N ci index h : Nat} {Ts : List Cond} (hts : ∀ w ∈ Ts, w.before args s = true) (hin : ∀ w ∈ u_ws C T N, w ∈ Ts) (ty : Nat → FieldType) (hty : ∀ k, k < N → parseFieldDescriptor (T k).2.2.1 = some (ty k)) (hown : s.vm.findClass own = some m.cls) (hcl : (Cond.classLink own index C).before args s = true) (hinst : (Cond.instantiable C N).before args s = true) (hini : (Cond.initialized C).before args s = true)
    (hK : va_K G vwCl (xw_tys g) s) (hS : va_S A' H0 H locs) (hz : H.size = h) (hc : vwCl[ci]? = some (C, T, N)) {fs : List Value} (hfs : ∀ j, j < N → defaultValue (ty j) = vp_V fs j) (hcells : cells + 1 ≤ R.cells) (hslots : slots + N ≤ R.slots) (hdg : decode cc pc = .ok (.new index, 3))
    (kk : ∀ H1 : Heap, va_at G vwCl (h, .inr (ci, fs)) H1 → H1.size = h + 1 → (∀ q, q < h → H1[q]? = H[q]?) → va_S A' H0 H1 locs → W p l e R s m args below meth c H1 locs (cells + 1) (slots + N) Q (F0 m (pc + 3) ls (.ref h :: rest))) : W p l e R s m args below meth c H locs cells slots Q (F0 m pc ls rest) := by
  have hKn := hK.1 ci _ hc
  refine W.newcK hexec hb hown hcl hinst hini rfl hdg hcells hslots hKn.2.1 hz fun H1 kC hkC e1 z1 o1 => ?_
  exact kk H1 ⟨_, hc, (u_born ty hts hin hKn hkC e1 hty).to hfs⟩ z1 o1 ⟨Nat.le_trans hS.1 (by omega), fun x h1 h2 => (o1 x (by rw [← hz]; exact Nat.lt_of_lt_of_le h1 hS.1)).trans (hS.2.1 x h1 h2), hS.2.2⟩
theorem xk_newa (hexec : p.tables.exec = Jvm.exec) (hb : c.code = cc) {atype : ArrayType} (harr : (Cond.arrayClass (newarray.typeOf atype)).before args s = true) {cA : ClassId} (hcA : s.vm.findClass ("[" ++ (newarray.typeOf atype).toString) = some cA) (hS : va_S A' H0 H locs) {h N : Nat} (hz : H.size = h) {n : Int32} (hn : n = nI N) (hN : N < 2 ^ 31) (hbytes : N * componentBytes (newarray.typeOf atype) ≤ 536870912) (hcells : cells + 1 ≤ R.cells) (hslots : slots + N ≤ R.slots) (hdg : decode cc pc = .ok (.newarray atype, 2))
    (kk : ∀ H1 : Heap, H1[h]? = some (arrV cA N (fun _ => defaultValue (newarray.typeOf atype))) → H1.size = h + 1 → (∀ q, q < h → H1[q]? = H[q]?) → va_S A' H0 H1 locs → W p l e R s m args below meth c H1 locs (cells + 1) (slots + N) Q (F0 m (pc + 2) ls (.ref h :: rest))) : W p l e R s m args below meth c H locs cells slots Q (F0 m pc ls (.int n :: rest)) := by
  subst hn
  refine va_newaK hexec hb harr rfl hdg rfl (nI_pos hN) (nI_clamp hN) hbytes hcells hslots hz fun H1 cA' e1 z1 o1 _ hNm => ?_
  cases hcA.symm.trans hNm
  exact kk H1 e1 z1 o1 ⟨Nat.le_trans hS.1 (by omega), fun x h1 h2 => (o1 x (by rw [← hz]; exact Nat.lt_of_lt_of_le h1 hS.1)).trans (hS.2.1 x h1 h2), hS.2.2⟩
theorem xk_newq (hexec : p.tables.exec = Jvm.exec) (hb : c.code = cc) {own C : String} {index : Nat} (hown : s.vm.findClass own = some m.cls) (hclink : (Cond.classLink own index C).before args s = true) (hover : va_AO C s) (hK : va_K G vwCl (xw_tys g) s) (t1 : Nat) {cA : ClassId} (ht : (xw_tys g)[t1]? = some (cA, .object C)) (hS : va_S A' H0 H locs) {h N : Nat} (hz : H.size = h) {n : Int32} (hn : n = nI N) (hN : N < 2 ^ 31) (hbytes : N * 4 ≤ 536870912) (hcells : cells + 1 ≤ R.cells) (hslots : slots + N ≤ R.slots) (hdg : decode cc pc = .ok (.anewarray index, 3))
    (kk : ∀ H1 : Heap, va_at G vwCl (h, .inl (cA, N, .inr (.inr (.inr (.inr (fun _ => none)))))) H1 → H1.size = h + 1 → (∀ q, q < h → H1[q]? = H[q]?) → va_S A' H0 H1 locs → W p l e R s m args below meth c H1 locs (cells + 1) (slots + N) Q (F0 m (pc + 3) ls (.ref h :: rest))) : W p l e R s m args below meth c H locs cells slots Q (F0 m pc ls (.int n :: rest)) := by
  subst hn
  subst hz
  have hcl : (nI N).toNatClampNeg = N := nI_clamp hN
  refine W.anew hexec hb hown hclink (va_AO.use hover) rfl hdg rfl (nI_pos hN) (by rw [hcl]; exact hbytes) hcells (by rw [hcl]; exact hslots) fun cA' kA comp f1 f2 f3 f4 => ?_
  obtain ⟨_, _, _, _, _, f5⟩ := (hK.2 t1 _ ht).2
  cases f5.symm.trans f1
  rw [hcl]
  generalize hH1 : H.push ({ cls := cA, slots := Array.replicate N .null, vm := .none } : Cell) = H1
  have z1 : H1.size = H.size + 1 := by rw [← hH1, Array.size_push]
  have e1 : H1[H.size]? = some (arrV cA N (fun _ => .null)) := by rw [← hH1, Array.getElem?_push_size, ← arrV_new]
  have o1 : ∀ q : Nat, q < H.size → H1[q]? = H[q]? := fun q hq => by rw [← hH1, Array.getElem?_push, if_neg (Nat.ne_of_lt hq)]
  exact kk H1 (by show H1[H.size]? = some (vp_cell _ _); rw [vp_cell_q]; exact e1) z1 o1 ⟨Nat.le_trans hS.1 (by omega), fun x h1 h2 => (o1 x (Nat.lt_of_lt_of_le h1 hS.1)).trans (hS.2.1 x h1 h2), hS.2.2⟩
theorem xk_put (hexec : p.tables.exec = Jvm.exec) (hb : c.code = cc) {own ref C : String} {T : u_T} {N ci index : Nat} {Ts : List Cond} (hts : ∀ w ∈ Ts, w.before args s = true) (hin : ∀ w ∈ u_ws C T N, w ∈ Ts) (ty0 : Nat → FieldType) (hty : ∀ k, k < N → parseFieldDescriptor (T k).2.2.1 = some (ty0 k)) (hnm : ∀ a, a < N → ∀ b, b < N → a ≠ b → (T a).2.1 ≠ (T b).2.1) (hown : s.vm.findClass own = some m.cls) (hK : va_K G vwCl (xw_tys g) s) (hS0 : va_S A' H0 H locs) {fs : List Value} (hat : va_at G vwCl (a, .inr (ci, fs)) H) (hA : A' a) (hc : vwCl[ci]? = some (C, T, N)) (k : Nat) (hk : k < N) (hlink : (Cond.fieldLink own index ref (T k).2.1 (T k).2.2.1).before args s = true) (hsame : ∀ x, s.fieldFound? (T k).1 (T k).2.1 (T k).2.2.1 = some x → s.fieldFound? ref (T k).2.1 (T k).2.2.1 = some x) (hfin : (T k).2.2.2 = false) {ty : FieldType} {v : Value} (hd : parseFieldDescriptor (T k).2.2.1 = some ty) (hn : narrow ty v = v) (hfit : fits ty v = true) (hl : k < fs.length)
    (hdg : decode cc pc = .ok (.putfield index, 3)) (kk : ∀ (H1 : Heap) (locs1 : List Loc), va_at G vwCl (a, .inr (ci, fs.set k v)) H1 → H1.size = H.size → (∀ q, q ≠ a → H1[q]? = H[q]?) → va_S A' H0 H1 locs1 → W p l e R s m args below meth c H1 locs1 cells slots Q (F0 m (pc + 3) ls rest)) : W p l e R s m args below meth c H locs cells slots Q (F0 m pc ls (v :: .ref a :: rest)) := by
  have hap := va_apart (own := own) hts hin ty0 hty hnm hK hc
  obtain ⟨r, h1, cell, q1, q2, q3, q4⟩ := hat
  have hr : r = (C, T, N) := Option.some.inj (h1.symm.trans hc)
  subst hr
  obtain ⟨hS, hfc, kC, hkC, hkind⟩ := hK.1 ci _ hc
  obtain ⟨cf, kf, fi, f, hi, hsl⟩ := hS k hk
  have hlay := hts _ (hin _ (u_in_lay hk))
  unfold u_lay at hlay
  rw [if_neg (by rw [hfin]; decide)] at hlay
  have hst := (u_facts hfc hkC (u_lays hts hin hk) hi).1
  have h6 := u_store hfc hkC hkind hlay hi hd hn hfit
  refine W.putK hexec hb (f := f) ⟨hown, hlink, ⟨_, _, _, hsame _ hi⟩, hst⟩ (by rw [q2]; exact h6) q1 q3 (by rw [hsl]; exact k2_hasslot (q4 k hk)) rfl rfl hdg fun H' e1 e2 e3 => ?_
  rw [hsl] at e1 ⊢
  exact kk H' _ ⟨_, hc, t_OB.to (V := updV (vp_V fs) k v) ⟨_, e1, q2, q3, t_set q4 hap hk v⟩ (fun j _ => vp_updV_set hl v j)⟩ e2 e3 (hS0.put e2 e3 hA)
theorem xk_putF (hexec : p.tables.exec = Jvm.exec) (hb : c.code = cc) {own ref C : String} {T : u_T} {N ci index : Nat} {Ts : List Cond} (hts : ∀ w ∈ Ts, w.before args s = true) (hin : ∀ w ∈ u_ws C T N, w ∈ Ts) (ty0 : Nat → FieldType) (hty : ∀ k, k < N → parseFieldDescriptor (T k).2.2.1 = some (ty0 k)) (hnm : ∀ a, a < N → ∀ b, b < N → a ≠ b → (T a).2.1 ≠ (T b).2.1) (hown : s.vm.findClass own = some m.cls) (hK : va_K G vwCl (xw_tys g) s) (hS0 : va_S A' H0 H locs) {fs : List Value} (hat : va_at G vwCl (a, .inr (ci, fs)) H) (hA : A' a) (hc : vwCl[ci]? = some (C, T, N)) (k : Nat) (hk : k < N) (hlink : (Cond.fieldLink own index ref (T k).2.1 (T k).2.2.1).before args s = true) (hsame : ∀ x, s.fieldFound? (T k).1 (T k).2.1 (T k).2.2.1 = some x → s.fieldFound? ref (T k).2.1 (T k).2.2.1 = some x) (hfin : (T k).2.2.2 = true) (hin2 : meth.name = "<init>") (hdecl : (T k).1 = own) {ty : FieldType} {v : Value} (hd : parseFieldDescriptor (T k).2.2.1 = some ty) (hn : narrow ty v = v) (hfit : fits ty v = true) (hl : k < fs.length)
    (hdg : decode cc pc = .ok (.putfield index, 3)) (kk : ∀ (H1 : Heap) (locs1 : List Loc), va_at G vwCl (a, .inr (ci, fs.set k v)) H1 → H1.size = H.size → (∀ q, q ≠ a → H1[q]? = H[q]?) → va_S A' H0 H1 locs1 → W p l e R s m args below meth c H1 locs1 cells slots Q (F0 m (pc + 3) ls rest)) : W p l e R s m args below meth c H locs cells slots Q (F0 m pc ls (v :: .ref a :: rest)) := by
  have hap := va_apart (own := own) hts hin ty0 hty hnm hK hc
  obtain ⟨r, h1, cell, q1, q2, q3, q4⟩ := hat
  have hr : r = (C, T, N) := Option.some.inj (h1.symm.trans hc)
  subst hr
  obtain ⟨hS, hfc, kC, hkC, hkind⟩ := hK.1 ci _ hc
  obtain ⟨cf, kf, fi, f, hi, hsl⟩ := hS k hk
  have hlay := hts _ (hin _ (u_in_lay hk))
  unfold u_lay at hlay
  rw [if_pos hfin] at hlay
  have hst := (u_facts hfc hkC (u_lays hts hin hk) hi).1
  have hcf : m.cls = cf := by
    obtain ⟨_, _, c', _, _, _, -, -, hf', -, -, -, hown2, -⟩ := Cond.laysFinal_spec hlay
    have e1 : c' = cf := by have := hi.symm.trans hf'; simp at this; exact this.1.symm
    rw [hdecl] at hown2
    rw [← e1]; exact Option.some.inj (hown.symm.trans hown2)
  have h6 := u_fits hfc hkC hkind (Or.inr hlay) hi hd hn hfit
  refine W.putFinK hexec hb hown hlink (hsame _ hi) hst hcf hin2 (by rw [q2]; exact h6) q1 q3 (by rw [hsl]; exact k2_hasslot (q4 k hk)) rfl rfl hdg fun H' e1 e2 e3 => ?_
  rw [hsl] at e1 ⊢
  exact kk H' _ ⟨_, hc, t_OB.to (V := updV (vp_V fs) k v) ⟨_, e1, q2, q3, t_set q4 hap hk v⟩ (fun j _ => vp_updV_set hl v j)⟩ e2 e3 (hS0.put e2 e3 hA)
theorem xk_astq (hexec : p.tables.exec = Jvm.exec) (hb : c.code = cc) (hK : va_K G vwCl (xw_tys g) s) (hS : va_S A' H0 H locs) {cA : ClassId} {r : vw_C} {n v ci : Nat} {vs : List Value} {f : Nat → Option Nat} (hat : va_at G vwCl (a, .inl (cA, n, .inr (.inr (.inr (.inr f))))) H) (hA : A' a) (t1 : Nat) (ht : (xw_tys g)[t1]? = some (cA, .object r.1)) (hv : va_at G vwCl (v, .inr (ci, vs)) H) (hc : vwCl[ci]? = some r) {i : Int32} (k : Nat) (hi : i = nI k) (hk : k < n) (hn : n < 2 ^ 31) (hdg : decode cc pc = .ok (.aastore, 1))
    (kk : ∀ (H1 : Heap) (locs1 : List Loc), va_at G vwCl (a, .inl (cA, n, .inr (.inr (.inr (.inr (va_up f k (some v))))))) H1 → H1.size = H.size → (∀ q, q ≠ a → H1[q]? = H[q]?) → va_S A' H0 H1 locs1 → W p l e R s m args below meth c H1 locs1 cells slots Q (F0 m (pc + 1) ls rest)) : W p l e R s m args below meth c H locs cells slots Q (F0 m pc ls (.ref v :: .int i :: .ref a :: rest)) := by
  subst hi
  have hcl : (nI k).toNatClampNeg = k := nI_clamp (by omega)
  obtain ⟨r', hr', cellV, g1, g2, g3, -⟩ := hv
  have hcls := (hK.1 ci r hc).2
  obtain ⟨kA, comp, k1, k2, k3, -⟩ := (hK.2 t1 _ ht).2
  have hcomp : comp = G.1 ci := Option.some.inj (k3.symm.trans hcls.1)
  subst hcomp
  obtain ⟨kC, hkC, -⟩ := hcls.2
  refine W.aast hexec hb hat (fun q h => by cases h) (fun h => by cases h) k1 k2 rfl hkC ⟨nI_pos (by omega), by show _ < (arrV _ _ _).slots.size; rw [arrV_size, hcl]; exact hk⟩ g1 (fun q h => by rw [g3] at h; cases h) (by rw [g2]; exact hkC) (by rw [g2]; exact va_assign hcls) rfl rfl hdg fun H1 e z oq => ?_
  refine kk H1 _ ?_ z oq (hS.put z oq hA)
  show H1[a]? = some (vp_cell _ _)
  rw [e, hcl]
  rw [vp_cell_q, vp_cell_q, arrV_store]
  congr 2
  funext q
  by_cases hq : q = k
  · subst hq
    simp [updV, va_up, va_rf]
  · simp [updV, va_up, hq]
theorem xk_clone (hexec : p.tables.exec = Jvm.exec) (hb : c.code = cc) (hml : c.maxLocals = ls.size) {own : String} {index : Nat} (hown : s.vm.findClass own = some m.cls)
    (hlink : (Cond.methodLink own index ⟨"[I", "clone", "()Ljava/lang/Object;"⟩).before args s = true) (hsame : (Cond.sameMethod "[I" "java/lang/Object" "clone" "()Ljava/lang/Object;").before args s = true)
    (hnat : (Cond.native ⟨"java/lang/Object", "clone", "()Ljava/lang/Object;"⟩).before args s = true) (hinst : (Cond.instanceMethod ⟨"java/lang/Object", "clone", "()Ljava/lang/Object;"⟩).before args s = true)
    (hsel : (Cond.selects "[I" ⟨"[I", "clone", "()Ljava/lang/Object;"⟩ ⟨"java/lang/Object", "clone", "()Ljava/lang/Object;"⟩).before args s = true) (hcl : va_Nw (.castable "[I" "java/lang/Cloneable") s)
    (hK : va_K G vwCl (xw_tys g) s) (hnw : xw_nw g s) {t h : Nat} (hC : xs_C t A' s s.heap) (hS : va_S A' s.heap H locs) (hz : H.size = h)
    (hframes : 1 ≤ R.frames) (hlocals : (rest.map fun v => v.category).sum + 14 ≤ R.locals) (hcells : cells + 1 ≤ R.cells) (hslots : slots + 3 ≤ R.slots) (hdg : decode cc pc = .ok (.invokevirtual index, 3))
    (kk : ∀ H1 : Heap, va_at G vwCl (h, .inl (g 0, 3, .inl xs_0)) H1 → H1.size = h + 1 → (∀ q, q < h → H1[q]? = H[q]?) → va_S A' s.heap H1 locs → W p l e R s m args below meth c H1 locs (cells + 1) (slots + 3) Q (F0 m (pc + 3) ls (.ref h :: rest))) : W p l e R s m args below meth c H locs cells slots Q (F0 m pc ls (.ref t :: rest)) := by
  obtain ⟨cell, h1, h2, h3, h4, h5, h6, h7⟩ := hC
  have hg0 : g 0 = cell.cls := Option.some.inj (hnw.2.2.2.2.2.2.2.symm.trans h5)
  obtain ⟨c0, t0', f1, f2, f3⟩ := Cond.castable_spec (va_Nw.use (A := args) rfl hcl)
  cases h5.symm.trans f1
  have hcell : H[t]? = some cell := by rw [hS.2.1 t (Array.getElem?_eq_some_iff.mp h1).1 h7]; exact h1
  intro T hT X
  obtain ⟨-, kA, hkA, comp, hkind⟩ := State.isArrayOf_alike X.warmed.alike ((hK.2 0 _ rfl).1 0 (fun _ => .null))
  obtain ⟨-, kS, hkS, compS, hkindS⟩ := (hK.2 0 _ rfl).1 0 (fun _ => .null)
  have hkA' : T.vm.classes[cell.cls]? = some kA := by rw [← hg0]; exact hkA
  have hkS' : s.vm.classes[cell.cls]? = some kS := by rw [← hg0]; exact hkS
  obtain ⟨vm', X', st⟩ := X.cloneArray hexec hown hlink hsame hnat hinst hsel (a := t) (cell := cell) (by rw [hT]; exact hcell) h4 h3 f1 f2 f3
    (fun i v hv => by
      have hi : i < 3 := by rw [← h2]; exact (Array.getElem?_eq_some_iff.mp hv).1
      rw [h6 i hi] at hv
      cases hv
      simp [State.fitsSlot, State.slotType?, hkA', hkind, fits])
    (g := F0 m pc ls (.ref t :: rest)) rfl (by rw [hml]) rfl (by rw [hb]; exact hdg) hframes (by show 2 * 0 + _ + 14 ≤ _; omega) hcells (by rw [h2]; exact hslots) (hloader := Vm.clonesLoader_of_array hkS' hkindS)
  have hcellE : ({ cls := cell.cls, slots := cell.slots } : Cell) = vp_cell (g 0) (3, .inl xs_0) := by
    rw [vp_cell_i]
    unfold arrV
    have hsl : cell.slots = Array.ofFn (n := 3) (fun j => Value.int (xs_0 j.val)) := by
      apply Array.ext
      · rw [h2, Array.size_ofFn]
      · intro i hi1 hi2
        have h8 := h6 i (by rw [← h2]; exact hi1)
        rw [Array.getElem?_eq_getElem hi1] at h8
        rw [Option.some.inj h8, Array.getElem_ofFn]
    rw [hsl, hg0]
  rw [hcellE, h2] at X'
  generalize hH1 : H.push (vp_cell (g 0) (3, .inl xs_0)) = H1
  have z1 : H1.size = H.size + 1 := by rw [← hH1, Array.size_push]
  have e1 : H1[H.size]? = some (vp_cell (g 0) (3, .inl xs_0)) := by rw [← hH1, Array.getElem?_push_size]
  have o1 : ∀ q : Nat, q < H.size → H1[q]? = H[q]? := fun q hq => by rw [← hH1, Array.getElem?_push, if_neg (Nat.ne_of_lt hq)]
  obtain ⟨t', b1, b2⟩ := kk H1 (by rw [← hz]; exact e1) (by rw [z1, hz]) (fun q hq => o1 q (by rw [hz]; exact hq)) ⟨Nat.le_trans hS.1 (by omega), fun y g1 g2 => (o1 y (Nat.lt_of_lt_of_le g1 hS.1)).trans (hS.2.1 y g1 g2), hS.2.2⟩
    ((T.setVm vm').pushCell (vp_cell (g 0) (3, .inl xs_0))) (by rw [← hH1, ← hT]; rfl) X'
  refine ⟨t', st t' ?_, b2⟩
  rw [hcellE, hT, hz]
  exact b1
/-- a constructor's call -/
theorem xk_I {y : MethodName} {bytes : ByteArray} {maxL nL na n mc ms index sz b ci : Nat} {ws : List Cond} {rm : Room} {Ts : List Cond} {own : String} {As st fs : List Value} {P : Heap → Prop}
    (S : CallFix p m c cc nL s args Ts own) (hM : Met l y ws rm (va_Pc (.ref b :: As) (xK_p G g t0 A sz b ci fs)) (va_Qv (fun _ : Unit => True) (fun _ t => t.heap.size = sz + n ∧ P t.heap) (xA_k b sz)) mc ms (xA_k b sz)) (cw : CallB R s args own index y bytes maxL none ws rm mc ms na ∧ y.name = "<init>" ∧ (Cond.instanceMethod y).before args s = true)
    (hK : va_K G vwCl (xw_tys g) s) (hst : xw_st t0 A s s.heap) (hnw : xw_nw g s) (hS : va_S A' s.heap H locs) (hAA : ∀ q, A' q → A q) (hz : H.size = sz) (hat : va_at G vwCl (b, .inr (ci, fs)) H) (hA' : ∀ q, xA_k b sz q → A' q)
    (hn : As.length = na) (hsize : ls.size = nL) (hstack : st = As.reverse ++ .ref b :: rest) (hWd : (rest.map fun v => v.category).sum ≤ 8) (hdg : decode cc pc = .ok (.invokespecial index, 3)) (hf : cells + mc ≤ R.cells ∧ slots + ms ≤ R.slots)
    (kk : ∀ (H1 : Heap) (locs1 : List Loc), P H1 → H1.size = sz + n → (∀ q, q < sz ∧ q ≠ b → H1[q]? = H[q]?) → va_S A' s.heap H1 locs1 → W p l e R s m args below meth c H1 locs1 (cells + mc) (slots + ms) Q (F0 m (pc + 3) ls rest)) : W p l e R s m args below meth c H locs cells slots Q (F0 m pc ls st) :=
  va_callv (va_runI S hM cw ⟨xK_blind _, fun U hU hWm => ⟨rfl, by rw [hU]; exact hz, by rw [hU]; exact hat, xK_mk hK hst hnw hS hAA hU hWm⟩⟩ rfl hn hsize hstack (lv_room hWd) hdg hf) hS (fun q _ h => hA' q h) hA' (fun u t H1 locs1 ht _ _ hB _ hk1 hS1 => kk H1 locs1 (by rw [← ht]; exact hB.2) (by rw [← ht]; exact hB.1) (fun q hq => hk1 q (by rw [hz]; exact hq.1) (fun z => z.elim hq.2 (fun z2 => absurd hq.1 (Nat.not_lt.mpr z2)))) hS1)
theorem xk_IN {y : MethodName} {bytes : ByteArray} {maxL nL na n mc ms index sz b ci : Nat} {ws : List Cond} {rm : Room} {Ts : List Cond} {own host : String} {As st fs : List Value} {P : Heap → Prop}
    (S : CallFix p m c cc nL s args Ts own) (hM : Met l y ws rm (va_Pc (.ref b :: As) (xK_p G g t0 A sz b ci fs)) (va_Qv (fun _ : Unit => True) (fun _ t => t.heap.size = sz + n ∧ P t.heap) (xA_k b sz)) mc ms (xA_k b sz)) (cw : va_CN R s args own index y host bytes maxL none ws rm mc ms na ∧ y.name = "<init>" ∧ (Cond.instanceMethod y).before args s = true)
    (hK : va_K G vwCl (xw_tys g) s) (hst : xw_st t0 A s s.heap) (hnw : xw_nw g s) (hS : va_S A' s.heap H locs) (hAA : ∀ q, A' q → A q) (hz : H.size = sz) (hat : va_at G vwCl (b, .inr (ci, fs)) H) (hA' : ∀ q, xA_k b sz q → A' q)
    (hn : As.length = na) (hsize : ls.size = nL) (hstack : st = As.reverse ++ .ref b :: rest) (hWd : (rest.map fun v => v.category).sum ≤ 8) (hdg : decode cc pc = .ok (.invokespecial index, 3)) (hf : cells + mc ≤ R.cells ∧ slots + ms ≤ R.slots)
    (kk : ∀ (H1 : Heap) (locs1 : List Loc), P H1 → H1.size = sz + n → (∀ q, q < sz ∧ q ≠ b → H1[q]? = H[q]?) → va_S A' s.heap H1 locs1 → W p l e R s m args below meth c H1 locs1 (cells + mc) (slots + ms) Q (F0 m (pc + 3) ls rest)) : W p l e R s m args below meth c H locs cells slots Q (F0 m pc ls st) :=
  va_callv (va_runIN S hM cw ⟨xK_blind _, fun U hU hWm => ⟨rfl, by rw [hU]; exact hz, by rw [hU]; exact hat, xK_mk hK hst hnw hS hAA hU hWm⟩⟩ rfl hn hsize hstack (lv_room hWd) hdg hf) hS (fun q _ h => hA' q h) hA' (fun u t H1 locs1 ht _ _ hB _ hk1 hS1 => kk H1 locs1 (by rw [← ht]; exact hB.2) (by rw [← ht]; exact hB.1) (fun q hq => hk1 q (by rw [hz]; exact hq.1) (fun z => z.elim hq.2 (fun z2 => absurd hq.1 (Nat.not_lt.mpr z2)))) hS1)
/-- a loop that makes cells -/
theorem xl_upC (N : Nat) (cf sf : Nat → Nat) (I : Nat → Heap → List Loc → Array Slot → Prop)
    (hx : ∀ (H : Heap) (locs : List Loc) (ls : Array Slot), I N H locs ls → W p l e R s m args below meth c H locs (cf N) (sf N) Q (F0 m pc ls []))
    (hs : ∀ (k : Nat) (H : Heap) (locs : List Loc) (ls : Array Slot), k < N → I k H locs ls → (∀ (H' : Heap) (locs' : List Loc) (ls' : Array Slot), I (k + 1) H' locs' ls' → W p l e R s m args below meth c H' locs' (cf (k + 1)) (sf (k + 1)) Q (F0 m pc ls' [])) → W p l e R s m args below meth c H locs (cf k) (sf k) Q (F0 m pc ls []))
    {H : Heap} {locs : List Loc} {ls : Array Slot} (h0 : I 0 H locs ls) (hc : cells = cf 0) (hsl : slots = sf 0) : W p l e R s m args below meth c H locs cells slots Q (F0 m pc ls []) := by
  have key : ∀ (n k : Nat), k + n = N → ∀ (H : Heap) (locs : List Loc) (ls : Array Slot), I k H locs ls → W p l e R s m args below meth c H locs (cf k) (sf k) Q (F0 m pc ls []) := by
    intro n
    induction n with
    | zero => intro k hk H locs ls h; rw [Nat.add_zero] at hk; subst hk; exact hx H locs ls h
    | succ n ih => intro k hk H locs ls h; exact hs k H locs ls (by omega) h (fun H' locs' ls' h' => ih (k + 1) (by omega) H' locs' ls' h')
  subst hc
  subst hsl
  exact key N 0 (by omega) H locs ls h0
end XK
end
section
set_option maxHeartbeats 4000000 in
set_option maxRecDepth 100000 in
/-- Line() -/
theorem k_X1_init (l : Launch) {G : va_G} {g : Nat → ClassId} {t0 : Nat → Nat} {A : Nat → Prop} {h sz : Nat} (hh : h + 1 = sz) (hAA : ∀ q, xA_k h sz q → A q)  : Met l yX1_init wsX1_init ({ frames := 1, cells := 1, slots := 24, locals := 40 }) (va_Pc [.ref h] (xK_p G g t0 A sz h 1 [.null, .int 0])) (va_Qv (fun _ : Unit => True) (fun _ t => t.heap.size = sz + 1 ∧ xk_L G g h t.heap) (xA_k h sz)) 1 24 (xA_k h sz) := by
  refine Met.ofW (cc := cX1_init) (maxL := 1) (ret := none) (by decide) rfl ?_
  intro p e s m args below meth c s₁ B hml hv
  obtain ⟨rfl, hz, fa_0, hK, hst, hnw⟩ := hv
  have hx := B.exec
  have hb := B.bytes
  have hr := B.returns
  have hts := atoms_spec (ws := wsX1_init) B.pre
  have hown : s.vm.findClass RX1 = some m.cls := findClass_of_methodNamed B.named
  have hlocks := B.notSynchronized
  have hin : meth.name = "<init>" := (name_of_methodNamed B.named B.method).1
  have hS : va_S (xA_k h sz) s.heap s.heap [] := va_S.rf
  have hAh : xA_k h sz h := Or.inl rfl
  have inX1 : ∀ w ∈ u_ws RX1 TX1 2, w ∈ wsX1_init := by decide +kernel
  have hl := lv_entry ([.ref h]) (n := 1) (Nat.le_of_ble_eq_true rfl)
  rw [lg_entry_eq]
  generalize (lg_sl ([.ref h]) ++ List.replicate (1 - (lg_sl ([.ref h])).length) Slot.unset).toArray = ls at hl ⊢
  have hl : lv_has ls 1 [(0, .ref h)] := hl
  refine lv_aload_n hx hb dX1_init_0 rfl (lv_at hl 0 rfl) ?_
  refine W.objInit hx hb hown (hts (.methodLink RX1 3 objectInit) (List.mem_of_getElem? (i := 1) (by decide +kernel))) (hts (.instanceMethod objectInit) (List.mem_of_getElem? (i := 2) (by decide +kernel))) (hts (.code objectInit ⟨#[0xb1]⟩ 1 none) (List.mem_of_getElem? (i := 3) (by decide +kernel))) rfl (by rw [hml]; exact hl.1) rfl dX1_init_1 (Nat.le_of_ble_eq_true rfl) (Nat.le_of_ble_eq_true rfl) ?_
  refine W.eq (g2 := F0 m 4 ls []) rfl ?_
  refine lv_aload_n hx hb dX1_init_4 rfl (lv_at hl 0 rfl) ?_
  refine lv_bipush (v := (nI 24)) hx hb dX1_init_5 (by decide) ?_
  refine xk_newa (atype := .int) (h := sz) (N := 24) hx hb (hts (.arrayClass .int) (List.mem_of_getElem? (i := 4) (by decide +kernel))) (hK.2 0 _ rfl).2 hS hz rfl (by decide) (Nat.le_of_ble_eq_true rfl) (by decide +kernel) (by decide +kernel) dX1_init_7 (fun H fa_1 hz9 ho hS => ?_)
  replace hz := hz9
  clear hz9
  have fa_1 : va_at G vwCl (sz, .inl (g 0, 24, .inl (fun _ => nI 0))) H := fa_1
  replace fa_0 := va_at.kept fa_0 (ho h (by omega))
  clear ho
  refine xk_putF (ci := 1) (v := .ref sz) (ty := .array .int) (C := RX1) (T := TX1) (N := 2) hx hb hts inX1 tyX1 tyX1_ok nmX1 hown hK hS fa_0 hAh rfl 0 (by decide) (hts (.fieldLink RX1 9 "HalfTickets$Line" "numbers" "[I") (List.mem_of_getElem? (i := 5) (by decide +kernel))) (fun _ h9 => h9) rfl hin rfl (by decide +kernel) rfl rfl (Nat.le_of_ble_eq_true rfl) dX1_init_9 (fun H locs fa_0 hz9 ho hS => ?_)
  replace hz := hz9.trans hz
  clear hz9
  have fa_0 : va_at G vwCl (h, .inr (1, [.ref sz, .int 0])) H := fa_0
  replace fa_1 := va_at.kept fa_1 (ho sz (by omega))
  clear ho
  exact W.vret hx hb hr (fun t ht hWm => ⟨⟨(), rfl, trivial, xk_end ht hz (by subst hh; exact ⟨fa_0, fa_1⟩)⟩, hS.F ht⟩) hS.2.2 dX1_init_12

set_option maxHeartbeats 4000000 in
set_option maxRecDepth 100000 in
/-- Person(v) -/
theorem k_X4_init (l : Launch) {G : va_G} {g : Nat → ClassId} {t0 : Nat → Nat} {A : Nat → Prop} {h sz : Nat} (hh : h + 1 = sz) (hAA : ∀ q, xA_k h sz q → A q) (v : Int32) : Met l yX4_init wsX4_init ({ frames := 1, cells := 1, slots := 8, locals := 40 }) (va_Pc [.ref h, .int v] (xK_p G g t0 A sz h 4 [.int 0, .null, .int 0, .int 0, .int 0, .int 0, .int 0, .int 0, .int 0, .int 0, .int 0, .int 0])) (va_Qv (fun _ : Unit => True) (fun _ t => t.heap.size = sz + 1 ∧ xk_P G g h v t.heap) (xA_k h sz)) 1 8 (xA_k h sz) := by
  refine Met.ofW (cc := cX4_init) (maxL := 2) (ret := none) (by decide) rfl ?_
  intro p e s m args below meth c s₁ B hml hv
  obtain ⟨rfl, hz, fa_0, hK, hst, hnw⟩ := hv
  have hx := B.exec
  have hb := B.bytes
  have hr := B.returns
  have hts := atoms_spec (ws := wsX4_init) B.pre
  have hown : s.vm.findClass RX4 = some m.cls := findClass_of_methodNamed B.named
  have hlocks := B.notSynchronized
  have hin : meth.name = "<init>" := (name_of_methodNamed B.named B.method).1
  have hS : va_S (xA_k h sz) s.heap s.heap [] := va_S.rf
  have hAh : xA_k h sz h := Or.inl rfl
  have inX4 : ∀ w ∈ u_ws RX4 TX4 12, w ∈ wsX4_init := by decide +kernel
  have hl := lv_entry ([.ref h, .int v]) (n := 2) (Nat.le_of_ble_eq_true rfl)
  rw [lg_entry_eq]
  generalize (lg_sl ([.ref h, .int v]) ++ List.replicate (2 - (lg_sl ([.ref h, .int v])).length) Slot.unset).toArray = ls at hl ⊢
  have hl : lv_has ls 2 [(0, .ref h), (1, .int v)] := hl
  refine lv_aload_n hx hb dX4_init_0 rfl (lv_at hl 0 rfl) ?_
  refine W.objInit hx hb hown (hts (.methodLink RX4 3 objectInit) (List.mem_of_getElem? (i := 1) (by decide +kernel))) (hts (.instanceMethod objectInit) (List.mem_of_getElem? (i := 2) (by decide +kernel))) (hts (.code objectInit ⟨#[0xb1]⟩ 1 none) (List.mem_of_getElem? (i := 3) (by decide +kernel))) rfl (by rw [hml]; exact hl.1) rfl dX4_init_1 (Nat.le_of_ble_eq_true rfl) (Nat.le_of_ble_eq_true rfl) ?_
  refine W.eq (g2 := F0 m 4 ls []) rfl ?_
  refine lv_aload_n hx hb dX4_init_4 rfl (lv_at hl 0 rfl) ?_
  refine lv_bipush (v := (nI 8)) hx hb dX4_init_5 (by decide) ?_
  refine xk_newa (atype := .int) (h := sz) (N := 8) hx hb (hts (.arrayClass .int) (List.mem_of_getElem? (i := 4) (by decide +kernel))) (hK.2 0 _ rfl).2 hS hz rfl (by decide) (Nat.le_of_ble_eq_true rfl) (by decide +kernel) (by decide +kernel) dX4_init_7 (fun H fa_1 hz9 ho hS => ?_)
  replace hz := hz9
  clear hz9
  have fa_1 : va_at G vwCl (sz, .inl (g 0, 8, .inl (fun _ => nI 0))) H := fa_1
  replace fa_0 := va_at.kept fa_0 (ho h (by omega))
  clear ho
  refine xk_putF (ci := 4) (v := .ref sz) (ty := .array .int) (C := RX4) (T := TX4) (N := 12) hx hb hts inX4 tyX4 tyX4_ok nmX4 hown hK hS fa_0 hAh rfl 1 (by decide) (hts (.fieldLink RX4 9 "HalfTickets$Person" "errand" "[I") (List.mem_of_getElem? (i := 5) (by decide +kernel))) (fun _ h9 => h9) rfl hin rfl (by decide +kernel) rfl rfl (Nat.le_of_ble_eq_true rfl) dX4_init_9 (fun H locs fa_0 hz9 ho hS => ?_)
  replace hz := hz9.trans hz
  clear hz9
  have fa_0 : va_at G vwCl (h, .inr (4, [.int 0, .ref sz, .int 0, .int 0, .int 0, .int 0, .int 0, .int 0, .int 0, .int 0, .int 0, .int 0])) H := fa_0
  replace fa_1 := va_at.kept fa_1 (ho sz (by omega))
  clear ho
  refine lv_aload_n hx hb dX4_init_12 rfl (lv_at hl 0 rfl) ?_
  refine lv_iconst (v := (nI 4)) hx hb dX4_init_13 (by decide) ?_
  refine xk_put (ci := 4) (v := .int (nI 4)) (ty := .int) (C := RX4) (T := TX4) (N := 12) hx hb hts inX4 tyX4 tyX4_ok nmX4 hown hK hS fa_0 hAh rfl 3 (by decide) (hts (.fieldLink RX4 15 "HalfTickets$Person" "where" "I") (List.mem_of_getElem? (i := 6) (by decide +kernel))) (fun _ h9 => h9) rfl (by decide +kernel) rfl rfl (Nat.le_of_ble_eq_true rfl) dX4_init_14 (fun H locs fa_0 hz9 ho hS => ?_)
  replace hz := hz9.trans hz
  clear hz9
  have fa_0 : va_at G vwCl (h, .inr (4, [.int 0, .ref sz, .int 0, .int (nI 4), .int 0, .int 0, .int 0, .int 0, .int 0, .int 0, .int 0, .int 0])) H := fa_0
  replace fa_1 := va_at.kept fa_1 (ho sz (by omega))
  clear ho
  refine lv_aload_n hx hb dX4_init_17 rfl (lv_at hl 0 rfl) ?_
  refine lv_bipush (v := (-6)) hx hb dX4_init_18 (by decide) ?_
  refine xk_put (ci := 4) (v := .int (-6)) (ty := .int) (C := RX4) (T := TX4) (N := 12) hx hb hts inX4 tyX4 tyX4_ok nmX4 hown hK hS fa_0 hAh rfl 10 (by decide) (hts (.fieldLink RX4 19 "HalfTickets$Person" "goneBehind" "I") (List.mem_of_getElem? (i := 7) (by decide +kernel))) (fun _ h9 => h9) rfl (by decide +kernel) rfl rfl (Nat.le_of_ble_eq_true rfl) dX4_init_20 (fun H locs fa_0 hz9 ho hS => ?_)
  replace hz := hz9.trans hz
  clear hz9
  have fa_0 : va_at G vwCl (h, .inr (4, [.int 0, .ref sz, .int 0, .int (nI 4), .int 0, .int 0, .int 0, .int 0, .int 0, .int 0, .int (-6), .int 0])) H := fa_0
  replace fa_1 := va_at.kept fa_1 (ho sz (by omega))
  clear ho
  refine lv_aload_n hx hb dX4_init_23 rfl (lv_at hl 0 rfl) ?_
  refine lv_iload_n hx hb dX4_init_24 rfl (lv_at hl 1 rfl) ?_
  refine xk_putF (ci := 4) (v := .int v) (ty := .int) (C := RX4) (T := TX4) (N := 12) hx hb hts inX4 tyX4 tyX4_ok nmX4 hown hK hS fa_0 hAh rfl 0 (by decide) (hts (.fieldLink RX4 22 "HalfTickets$Person" "number" "I") (List.mem_of_getElem? (i := 8) (by decide +kernel))) (fun _ h9 => h9) rfl hin rfl (by decide +kernel) rfl rfl (Nat.le_of_ble_eq_true rfl) dX4_init_25 (fun H locs fa_0 hz9 ho hS => ?_)
  replace hz := hz9.trans hz
  clear hz9
  have fa_0 : va_at G vwCl (h, .inr (4, [.int v, .ref sz, .int 0, .int (nI 4), .int 0, .int 0, .int 0, .int 0, .int 0, .int 0, .int (-6), .int 0])) H := fa_0
  replace fa_1 := va_at.kept fa_1 (ho sz (by omega))
  clear ho
  exact W.vret hx hb hr (fun t ht hWm => ⟨⟨(), rfl, trivial, xk_end ht hz (by subst hh; exact ⟨fa_0, fa_1⟩)⟩, hS.F ht⟩) hS.2.2 dX4_init_28

set_option maxHeartbeats 4000000 in
set_option maxRecDepth 100000 in
/-- Pad() -/
theorem k_X3_init (l : Launch) {G : va_G} {g : Nat → ClassId} {t0 : Nat → Nat} {A : Nat → Prop} {h sz : Nat} (hh : h + 1 = sz) (hAA : ∀ q, xA_k h sz q → A q)  : Met l yX3_init wsX3_init ({ frames := 1, cells := 1, slots := 60, locals := 40 }) (va_Pc [.ref h] (xK_p G g t0 A sz h 3 [.null, .int 0])) (va_Qv (fun _ : Unit => True) (fun _ t => t.heap.size = sz + 1 ∧ xk_D G g h t.heap) (xA_k h sz)) 1 60 (xA_k h sz) := by
  refine Met.ofW (cc := cX3_init) (maxL := 1) (ret := none) (by decide) rfl ?_
  intro p e s m args below meth c s₁ B hml hv
  obtain ⟨rfl, hz, fa_0, hK, hst, hnw⟩ := hv
  have hx := B.exec
  have hb := B.bytes
  have hr := B.returns
  have hts := atoms_spec (ws := wsX3_init) B.pre
  have hown : s.vm.findClass RX3 = some m.cls := findClass_of_methodNamed B.named
  have hlocks := B.notSynchronized
  have hin : meth.name = "<init>" := (name_of_methodNamed B.named B.method).1
  have hS : va_S (xA_k h sz) s.heap s.heap [] := va_S.rf
  have hAh : xA_k h sz h := Or.inl rfl
  have inX3 : ∀ w ∈ u_ws RX3 TX3 2, w ∈ wsX3_init := by decide +kernel
  have hl := lv_entry ([.ref h]) (n := 1) (Nat.le_of_ble_eq_true rfl)
  rw [lg_entry_eq]
  generalize (lg_sl ([.ref h]) ++ List.replicate (1 - (lg_sl ([.ref h])).length) Slot.unset).toArray = ls at hl ⊢
  have hl : lv_has ls 1 [(0, .ref h)] := hl
  refine lv_aload_n hx hb dX3_init_0 rfl (lv_at hl 0 rfl) ?_
  refine W.objInit hx hb hown (hts (.methodLink RX3 3 objectInit) (List.mem_of_getElem? (i := 1) (by decide +kernel))) (hts (.instanceMethod objectInit) (List.mem_of_getElem? (i := 2) (by decide +kernel))) (hts (.code objectInit ⟨#[0xb1]⟩ 1 none) (List.mem_of_getElem? (i := 3) (by decide +kernel))) rfl (by rw [hml]; exact hl.1) rfl dX3_init_1 (Nat.le_of_ble_eq_true rfl) (Nat.le_of_ble_eq_true rfl) ?_
  refine W.eq (g2 := F0 m 4 ls []) rfl ?_
  refine lv_aload_n hx hb dX3_init_4 rfl (lv_at hl 0 rfl) ?_
  refine lv_bipush (v := (nI 60)) hx hb dX3_init_5 (by decide) ?_
  refine xk_newa (atype := .char) (h := sz) (N := 60) hx hb (hts (.arrayClass .char) (List.mem_of_getElem? (i := 4) (by decide +kernel))) (hK.2 2 _ rfl).2 hS hz rfl (by decide) (Nat.le_of_ble_eq_true rfl) (by decide +kernel) (by decide +kernel) dX3_init_7 (fun H fa_1 hz9 ho hS => ?_)
  replace hz := hz9
  clear hz9
  have fa_1 : va_at G vwCl (sz, .inl (g 2, 60, .inl (fun _ => nI 0))) H := fa_1
  replace fa_0 := va_at.kept fa_0 (ho h (by omega))
  clear ho
  refine xk_putF (ci := 3) (v := .ref sz) (ty := .array .char) (C := RX3) (T := TX3) (N := 2) hx hb hts inX3 tyX3 tyX3_ok nmX3 hown hK hS fa_0 hAh rfl 0 (by decide) (hts (.fieldLink RX3 9 "HalfTickets$Pad" "text" "[C") (List.mem_of_getElem? (i := 5) (by decide +kernel))) (fun _ h9 => h9) rfl hin rfl (by decide +kernel) rfl rfl (Nat.le_of_ble_eq_true rfl) dX3_init_9 (fun H locs fa_0 hz9 ho hS => ?_)
  replace hz := hz9.trans hz
  clear hz9
  have fa_0 : va_at G vwCl (h, .inr (3, [.ref sz, .int 0])) H := fa_0
  replace fa_1 := va_at.kept fa_1 (ho sz (by omega))
  clear ho
  exact W.vret hx hb hr (fun t ht hWm => ⟨⟨(), rfl, trivial, xk_end ht hz (by subst hh; exact ⟨fa_0, fa_1⟩)⟩, hS.F ht⟩) hS.2.2 dX3_init_12

set_option maxHeartbeats 4000000 in
set_option maxRecDepth 100000 in
/-- Window(v) -/
theorem k_X5_init (l : Launch) {G : va_G} {g : Nat → ClassId} {t0 : Nat → Nat} {A : Nat → Prop} {h sz : Nat} (hh : h + 1 = sz) (hAA : ∀ q, xA_k h sz q → A q) (v : Int32) : Met l yX5_init wsX5_init ({ frames := 2, cells := 4, slots := 52, locals := 70 }) (va_Pc [.ref h, .int v] (xK_p G g t0 A sz h 5 [.int 0, .int 0, .int 0, .int 0, .int 0, .null, .null])) (va_Qv (fun _ : Unit => True) (fun _ t => t.heap.size = sz + 4 ∧ xk_W G g h v t.heap) (xA_k h sz)) 4 52 (xA_k h sz) := by
  refine Met.ofW (cc := cX5_init) (maxL := 2) (ret := none) (by decide) rfl ?_
  intro p e s m args below meth c s₁ B hml hv
  obtain ⟨rfl, hz, fa_0, hK, hst, hnw⟩ := hv
  have hx := B.exec
  have hb := B.bytes
  have hr := B.returns
  have hts := atoms_spec (ws := wsX5_init) B.pre
  have hown : s.vm.findClass RX5 = some m.cls := findClass_of_methodNamed B.named
  have hlocks := B.notSynchronized
  have hin : meth.name = "<init>" := (name_of_methodNamed B.named B.method).1
  have hS : va_S (xA_k h sz) s.heap s.heap [] := va_S.rf
  have hAh : xA_k h sz h := Or.inl rfl
  have inX1 : ∀ w ∈ u_ws RX1 TX1 2, w ∈ wsX5_init := by decide +kernel
  have inX5 : ∀ w ∈ u_ws RX5 TX5 7, w ∈ wsX5_init := by decide +kernel
  have hl := lv_entry ([.ref h, .int v]) (n := 2) (Nat.le_of_ble_eq_true rfl)
  rw [lg_entry_eq]
  generalize (lg_sl ([.ref h, .int v]) ++ List.replicate (2 - (lg_sl ([.ref h, .int v])).length) Slot.unset).toArray = ls at hl ⊢
  have hl : lv_has ls 2 [(0, .ref h), (1, .int v)] := hl
  refine lv_aload_n hx hb dX5_init_0 rfl (lv_at hl 0 rfl) ?_
  refine W.objInit hx hb hown (hts (.methodLink RX5 1 objectInit) (List.mem_of_getElem? (i := 1) (by decide +kernel))) (hts (.instanceMethod objectInit) (List.mem_of_getElem? (i := 2) (by decide +kernel))) (hts (.code objectInit ⟨#[0xb1]⟩ 1 none) (List.mem_of_getElem? (i := 3) (by decide +kernel))) rfl (by rw [hml]; exact hl.1) rfl dX5_init_1 (Nat.le_of_ble_eq_true rfl) (Nat.le_of_ble_eq_true rfl) ?_
  refine W.eq (g2 := F0 m 4 ls []) rfl ?_
  refine lv_aload_n hx hb dX5_init_4 rfl (lv_at hl 0 rfl) ?_
  refine lv_iconst (v := (nI 1)) hx hb dX5_init_5 (by decide) ?_
  refine xk_put (ci := 5) (v := .int (nI 1)) (ty := .boolean) (C := RX5) (T := TX5) (N := 7) hx hb hts inX5 tyX5 tyX5_ok nmX5 hown hK hS fa_0 hAh rfl 0 (by decide) (hts (.fieldLink RX5 7 "HalfTickets$Window" "isOpen" "Z") (List.mem_of_getElem? (i := 4) (by decide +kernel))) (fun _ h9 => h9) rfl (by decide +kernel) rfl rfl (Nat.le_of_ble_eq_true rfl) dX5_init_6 (fun H locs fa_0 hz9 ho hS => ?_)
  replace hz := hz9.trans hz
  clear hz9
  have fa_0 : va_at G vwCl (h, .inr (5, [.int (nI 1), .int 0, .int 0, .int 0, .int 0, .null, .null])) H := fa_0
  clear ho
  refine lv_aload_n hx hb dX5_init_9 rfl (lv_at hl 0 rfl) ?_
  refine lv_iconst (v := (nI 1)) hx hb dX5_init_10 (by decide) ?_
  refine xk_put (ci := 5) (v := .int (nI 1)) (ty := .int) (C := RX5) (T := TX5) (N := 7) hx hb hts inX5 tyX5 tyX5_ok nmX5 hown hK hS fa_0 hAh rfl 1 (by decide) (hts (.fieldLink RX5 13 "HalfTickets$Window" "clerks" "I") (List.mem_of_getElem? (i := 5) (by decide +kernel))) (fun _ h9 => h9) rfl (by decide +kernel) rfl rfl (Nat.le_of_ble_eq_true rfl) dX5_init_11 (fun H locs fa_0 hz9 ho hS => ?_)
  replace hz := hz9.trans hz
  clear hz9
  have fa_0 : va_at G vwCl (h, .inr (5, [.int (nI 1), .int (nI 1), .int 0, .int 0, .int 0, .null, .null])) H := fa_0
  clear ho
  refine lv_aload_n hx hb dX5_init_14 rfl (lv_at hl 0 rfl) ?_
  refine xk_new (h := sz) (ci := 1) (fs := [.null, .int 0]) (C := RX1) (T := TX1) (N := 2) hx hb hts inX1 tyX1 tyX1_ok hown (hts (.classLink RX5 17 RX1) (List.mem_of_getElem? (i := 6) (by decide +kernel))) (hts (.instantiable RX1 2) (List.mem_of_getElem? (i := 7) (by decide +kernel))) (hts (.initialized RX1) (List.mem_of_getElem? (i := 8) (by decide +kernel))) hK hS hz rfl (fun j hj => by rcases (show j = 0 ∨ j = 1 by omega) with rfl | rfl <;> rfl) (by decide +kernel) (by decide +kernel) dX5_init_15 (fun H fa_1 hz9 ho hS => ?_)
  replace hz := hz9
  clear hz9
  replace fa_0 := va_at.kept fa_0 (ho h (by omega))
  clear ho
  refine lv_dup hx hb dX5_init_18 rfl ?_
  refine xk_IN (As := []) (rest := [.ref sz, .ref h]) (sz := (sz + 1)) ⟨hx, hb, hml, hown, hts⟩ (k_X1_init l (A := A) (h := sz) (sz := (sz + 1)) (by omega) (fun q hq => hAA q (hq.elim (fun z => Or.inr (by omega)) (fun z => Or.inr (by omega))))) ⟨va_cnB 0 hts gX5_init_X1_init_n19 rfl rfl rfl hnw.2.2.1 (hts (.initialized RX1) (List.mem_of_getElem? (i := 8) (by decide +kernel))) (by decide +kernel) ⟨Nat.le_of_ble_eq_true rfl, Nat.le_of_ble_eq_true rfl⟩, rfl, (hts (.instanceMethod yX1_init) (List.mem_of_getElem? (i := 12) (by decide +kernel)))⟩ hK hst hnw hS hAA hz fa_1 (fun q hq => hq.elim (fun z => Or.inr (by omega)) (fun z => Or.inr (by omega))) rfl hl.1 rfl (Nat.le_of_ble_eq_true rfl) dX5_init_19 ⟨by decide +kernel, by decide +kernel⟩ (fun H locs fp_2 hz9 ho hS => ?_)
  replace fa_0 := va_at.kept fa_0 (ho h (by omega))
  clear ho
  replace hz : H.size = (sz + 2) := by omega
  clear hz9
  refine xk_putF (ci := 5) (v := .ref sz) (ty := .object "HalfTickets$Line") (C := RX5) (T := TX5) (N := 7) hx hb hts inX5 tyX5 tyX5_ok nmX5 hown hK hS fa_0 hAh rfl 5 (by decide) (hts (.fieldLink RX5 20 "HalfTickets$Window" "queue" "LHalfTickets$Line;") (List.mem_of_getElem? (i := 9) (by decide +kernel))) (fun _ h9 => h9) rfl hin rfl (by decide +kernel) rfl rfl (Nat.le_of_ble_eq_true rfl) dX5_init_22 (fun H locs fa_0 hz9 ho hS => ?_)
  replace hz := hz9.trans hz
  clear hz9
  have fa_0 : va_at G vwCl (h, .inr (5, [.int (nI 1), .int (nI 1), .int 0, .int 0, .int 0, .ref sz, .null])) H := fa_0
  replace fp_2 := fp_2.kept (fun q hq => ho q (by omega))
  clear ho
  refine lv_aload_n hx hb dX5_init_25 rfl (lv_at hl 0 rfl) ?_
  refine xk_new (h := (sz + 2)) (ci := 1) (fs := [.null, .int 0]) (C := RX1) (T := TX1) (N := 2) hx hb hts inX1 tyX1 tyX1_ok hown (hts (.classLink RX5 17 RX1) (List.mem_of_getElem? (i := 6) (by decide +kernel))) (hts (.instantiable RX1 2) (List.mem_of_getElem? (i := 7) (by decide +kernel))) (hts (.initialized RX1) (List.mem_of_getElem? (i := 8) (by decide +kernel))) hK hS hz rfl (fun j hj => by rcases (show j = 0 ∨ j = 1 by omega) with rfl | rfl <;> rfl) (by decide +kernel) (by decide +kernel) dX5_init_26 (fun H fa_3 hz9 ho hS => ?_)
  replace hz := hz9
  clear hz9
  replace fa_0 := va_at.kept fa_0 (ho h (by omega))
  replace fp_2 := fp_2.kept (fun q hq => ho q (by omega))
  clear ho
  refine lv_dup hx hb dX5_init_29 rfl ?_
  refine xk_IN (As := []) (rest := [.ref (sz + 2), .ref h]) (sz := (sz + 3)) ⟨hx, hb, hml, hown, hts⟩ (k_X1_init l (A := A) (h := (sz + 2)) (sz := (sz + 3)) (by omega) (fun q hq => hAA q (hq.elim (fun z => Or.inr (by omega)) (fun z => Or.inr (by omega))))) ⟨va_cnB 0 hts gX5_init_X1_init_n19 rfl rfl rfl hnw.2.2.1 (hts (.initialized RX1) (List.mem_of_getElem? (i := 8) (by decide +kernel))) (by decide +kernel) ⟨Nat.le_of_ble_eq_true rfl, Nat.le_of_ble_eq_true rfl⟩, rfl, (hts (.instanceMethod yX1_init) (List.mem_of_getElem? (i := 12) (by decide +kernel)))⟩ hK hst hnw hS hAA hz fa_3 (fun q hq => hq.elim (fun z => Or.inr (by omega)) (fun z => Or.inr (by omega))) rfl hl.1 rfl (Nat.le_of_ble_eq_true rfl) dX5_init_30 ⟨by decide +kernel, by decide +kernel⟩ (fun H locs fp_4 hz9 ho hS => ?_)
  replace fa_0 := va_at.kept fa_0 (ho h (by omega))
  replace fp_2 := fp_2.kept (fun q hq => ho q (by omega))
  clear ho
  replace hz : H.size = (sz + 4) := by omega
  clear hz9
  refine xk_putF (ci := 5) (v := .ref (sz + 2)) (ty := .object "HalfTickets$Line") (C := RX5) (T := TX5) (N := 7) hx hb hts inX5 tyX5 tyX5_ok nmX5 hown hK hS fa_0 hAh rfl 6 (by decide) (hts (.fieldLink RX5 24 "HalfTickets$Window" "serving" "LHalfTickets$Line;") (List.mem_of_getElem? (i := 10) (by decide +kernel))) (fun _ h9 => h9) rfl hin rfl (by decide +kernel) rfl rfl (Nat.le_of_ble_eq_true rfl) dX5_init_33 (fun H locs fa_0 hz9 ho hS => ?_)
  replace hz := hz9.trans hz
  clear hz9
  have fa_0 : va_at G vwCl (h, .inr (5, [.int (nI 1), .int (nI 1), .int 0, .int 0, .int 0, .ref sz, .ref (sz + 2)])) H := fa_0
  replace fp_2 := fp_2.kept (fun q hq => ho q (by omega))
  replace fp_4 := fp_4.kept (fun q hq => ho q (by omega))
  clear ho
  refine lv_aload_n hx hb dX5_init_36 rfl (lv_at hl 0 rfl) ?_
  refine lv_iload_n hx hb dX5_init_37 rfl (lv_at hl 1 rfl) ?_
  refine xk_put (ci := 5) (v := .int v) (ty := .int) (C := RX5) (T := TX5) (N := 7) hx hb hts inX5 tyX5 tyX5_ok nmX5 hown hK hS fa_0 hAh rfl 2 (by decide) (hts (.fieldLink RX5 27 "HalfTickets$Window" "halves" "I") (List.mem_of_getElem? (i := 11) (by decide +kernel))) (fun _ h9 => h9) rfl (by decide +kernel) rfl rfl (Nat.le_of_ble_eq_true rfl) dX5_init_38 (fun H locs fa_0 hz9 ho hS => ?_)
  replace hz := hz9.trans hz
  clear hz9
  have fa_0 : va_at G vwCl (h, .inr (5, [.int (nI 1), .int (nI 1), .int v, .int 0, .int 0, .ref sz, .ref (sz + 2)])) H := fa_0
  replace fp_2 := fp_2.kept (fun q hq => ho q (by omega))
  replace fp_4 := fp_4.kept (fun q hq => ho q (by omega))
  clear ho
  exact W.vret hx hb hr (fun t ht hWm => ⟨⟨(), rfl, trivial, xk_end ht hz (by subst hh; exact ⟨fa_0, fp_2, fp_4⟩)⟩, hS.F ht⟩) hS.2.2 dX5_init_41
end
section
theorem xk_up (F : Nat → Nat) (k j : Nat) : va_up (fun j => if j < k then some (F j) else none) k (some (F k)) j = if j < k + 1 then some (F j) else none := by
  unfold va_up
  by_cases h1 : j = k
  · subst h1
    rw [if_pos rfl, if_pos (Nat.lt_succ_self j)]
  · rw [if_neg h1]
    by_cases h2 : j < k
    · exact (if_pos h2).trans (if_pos (show j < k + 1 by omega)).symm
    · exact (if_neg h2).trans (if_neg (show ¬ j < k + 1 by omega)).symm
theorem xk_all {P : Nat → Prop} {k : Nat} (h : ∀ j, j < k → P j) (hk : P k) : ∀ j, j < k + 1 → P j := fun j hj => by
  rcases Nat.lt_or_ge j k with q | q
  · exact h j q
  · rw [show j = k by omega]; exact hk
theorem xk_q {G : va_G} {a n : Nat} {cA : ClassId} {f f' : Nat → Option Nat} {H : Heap} (h : va_at G vwCl (a, .inl (cA, n, .inr (.inr (.inr (.inr f))))) H) (hf : ∀ j, j < n → f j = f' j) : va_at G vwCl (a, .inl (cA, n, .inr (.inr (.inr (.inr f'))))) H := Eq.trans h (congrArg some (xw_arrq hf))

set_option maxHeartbeats 4000000 in
set_option maxRecDepth 100000 in
/-- Ministry() -/
theorem k_X2_init (l : Launch) {G : va_G} {g : Nat → ClassId} {t0 : Nat → Nat} {A : Nat → Prop} {h sz : Nat} (hh : h + 1 = sz) (hAA : ∀ q, xA_k h sz q → A q)  : Met l yX2_init wsX2_init ({ frames := 3, cells := 81, slots := 867, locals := 110 }) (va_Pc [.ref h] (xK_p G g t0 A sz h 2 [.null, .null, .null, .int 0, .int 0, .int 0, .int 0])) (va_Qv (fun _ : Unit => True) (fun _ t => t.heap.size = sz + 81 ∧ xk_M G g h t.heap) (xA_k h sz)) 81 867 (xA_k h sz) := by
  subst hh
  refine Met.ofW (cc := cX2_init) (maxL := 2) (ret := none) (by decide) rfl ?_
  intro p e s m args below meth c s₁ B hml hv
  obtain ⟨rfl, hz, fa_0, hK, hst, hnw⟩ := hv
  have hx := B.exec
  have hb := B.bytes
  have hr := B.returns
  have hts := atoms_spec (ws := wsX2_init) B.pre
  have hown : s.vm.findClass RX2 = some m.cls := findClass_of_methodNamed B.named
  have hlocks := B.notSynchronized
  have hin : meth.name = "<init>" := (name_of_methodNamed B.named B.method).1
  have hS : va_S (xA_k h (h + 1)) s.heap s.heap [] := va_S.rf
  have hAh : xA_k h (h + 1) h := Or.inl rfl
  have inX2 : ∀ w ∈ u_ws RX2 TX2 7, w ∈ wsX2_init := by decide +kernel
  have inX4 : ∀ w ∈ u_ws RX4 TX4 12, w ∈ wsX2_init := by decide +kernel
  have inX5 : ∀ w ∈ u_ws RX5 TX5 7, w ∈ wsX2_init := by decide +kernel
  have hl := lv_entry ([.ref h]) (n := 2) (Nat.le_of_ble_eq_true rfl)
  rw [lg_entry_eq]
  generalize (lg_sl ([.ref h]) ++ List.replicate (2 - (lg_sl ([.ref h])).length) Slot.unset).toArray = ls at hl ⊢
  have hl : lv_has ls 2 [(0, .ref h)] := hl
  refine lv_aload_n hx hb dX2_init_0 rfl (lv_at hl 0 rfl) ?_
  refine W.objInit hx hb hown (hts (.methodLink RX2 3 objectInit) (List.mem_of_getElem? (i := 1) (by decide +kernel))) (hts (.instanceMethod objectInit) (List.mem_of_getElem? (i := 2) (by decide +kernel))) (hts (.code objectInit ⟨#[0xb1]⟩ 1 none) (List.mem_of_getElem? (i := 3) (by decide +kernel))) rfl (by rw [hml]; exact hl.1) rfl dX2_init_1 (Nat.le_of_ble_eq_true rfl) (Nat.le_of_ble_eq_true rfl) ?_
  refine W.eq (g2 := F0 m 4 ls []) rfl ?_
  refine lv_aload_n hx hb dX2_init_4 rfl (lv_at hl 0 rfl) ?_
  refine va_getsN hx hb (hst.1.1.narrow hAA) hS hown (va_Nw.use rfl hnw.1) (fun _ h9 => h9) dX2_init_5 ?_
  refine xk_clone (h := (h + 1)) hx hb (by rw [hml]; exact hl.1.symm) hown (hts (.methodLink RX2 13 ⟨"[I", "clone", "()Ljava/lang/Object;"⟩) (List.mem_of_getElem? (i := 4) (by decide +kernel))) (hts (.sameMethod "[I" "java/lang/Object" "clone" "()Ljava/lang/Object;") (List.mem_of_getElem? (i := 5) (by decide +kernel))) (hts (.native ⟨"java/lang/Object", "clone", "()Ljava/lang/Object;"⟩) (List.mem_of_getElem? (i := 6) (by decide +kernel))) (hts (.instanceMethod ⟨"java/lang/Object", "clone", "()Ljava/lang/Object;"⟩) (List.mem_of_getElem? (i := 7) (by decide +kernel))) (hts (.selects "[I" ⟨"[I", "clone", "()Ljava/lang/Object;"⟩ ⟨"java/lang/Object", "clone", "()Ljava/lang/Object;"⟩) (List.mem_of_getElem? (i := 8) (by decide +kernel))) hnw.2.1 hK hnw (hst.2.2.2.narrow hAA) hS hz (Nat.le_of_ble_eq_true rfl) (Nat.le_of_ble_eq_true rfl) (by decide +kernel) (by decide +kernel) dX2_init_8 (fun H fa_1 hz9 ho hS => ?_)
  replace hz := hz9
  clear hz9
  replace fa_0 := va_at.kept fa_0 (ho h (by omega))
  clear ho
  refine va_castA hx hb hown (hts (.classLink RX2 14 "[I") (List.mem_of_getElem? (i := 9) (by decide +kernel))) (xw_P1 fa_1) 0 rfl hnw.2.2.2.2.2.2.2 dX2_init_11 ?_
  refine xk_putF (ci := 2) (v := .ref (h + 1)) (ty := .array .int) (C := RX2) (T := TX2) (N := 7) hx hb hts inX2 tyX2 tyX2_ok nmX2 hown hK hS fa_0 hAh rfl 0 (by decide) (hts (.fieldLink RX2 18 "HalfTickets$Ministry" "settings" "[I") (List.mem_of_getElem? (i := 10) (by decide +kernel))) (fun _ h9 => h9) rfl hin rfl (by decide +kernel) rfl rfl (Nat.le_of_ble_eq_true rfl) dX2_init_14 (fun H locs fa_0 hz9 ho hS => ?_)
  replace hz := hz9.trans hz
  clear hz9
  have fa_0 : va_at G vwCl (h, .inr (2, [.ref (h + 1), .null, .null, .int 0, .int 0, .int 0, .int 0])) H := fa_0
  replace fa_1 := va_at.kept fa_1 (ho (h + 1) (by omega))
  clear ho
  refine lv_aload_n hx hb dX2_init_17 rfl (lv_at hl 0 rfl) ?_
  refine lv_bipush (v := (nI 6)) hx hb dX2_init_18 (by decide) ?_
  refine xk_newq (C := RX5) (h := (h + 2)) (N := 6) hx hb hown (hts (.classLink RX2 23 RX5) (List.mem_of_getElem? (i := 11) (by decide +kernel))) hnw.2.2.2.2.2.2.1 hK 3 rfl hS hz rfl (by decide) (Nat.le_of_ble_eq_true rfl) (by decide +kernel) (by decide +kernel) dX2_init_20 (fun H fa_2 hz9 ho hS => ?_)
  replace hz := hz9
  clear hz9
  replace fa_0 := va_at.kept fa_0 (ho h (by omega))
  replace fa_1 := va_at.kept fa_1 (ho (h + 1) (by omega))
  clear ho
  refine xk_putF (ci := 2) (v := .ref (h + 2)) (ty := .array (.object "HalfTickets$Window")) (C := RX2) (T := TX2) (N := 7) hx hb hts inX2 tyX2 tyX2_ok nmX2 hown hK hS fa_0 hAh rfl 1 (by decide) (hts (.fieldLink RX2 25 "HalfTickets$Ministry" "windows" "[LHalfTickets$Window;") (List.mem_of_getElem? (i := 12) (by decide +kernel))) (fun _ h9 => h9) rfl hin rfl (by decide +kernel) rfl rfl (Nat.le_of_ble_eq_true rfl) dX2_init_23 (fun H locs fa_0 hz9 ho hS => ?_)
  replace hz := hz9.trans hz
  clear hz9
  have fa_0 : va_at G vwCl (h, .inr (2, [.ref (h + 1), .ref (h + 2), .null, .int 0, .int 0, .int 0, .int 0])) H := fa_0
  replace fa_1 := va_at.kept fa_1 (ho (h + 1) (by omega))
  replace fa_2 := va_at.kept fa_2 (ho (h + 2) (by omega))
  clear ho
  refine lv_aload_n hx hb dX2_init_26 rfl (lv_at hl 0 rfl) ?_
  refine lv_bipush (v := (nI 24)) hx hb dX2_init_27 (by decide) ?_
  refine xk_newq (C := RX4) (h := (h + 3)) (N := 24) hx hb hown (hts (.classLink RX2 29 RX4) (List.mem_of_getElem? (i := 13) (by decide +kernel))) hnw.2.2.2.2.2.1 hK 4 rfl hS hz rfl (by decide) (Nat.le_of_ble_eq_true rfl) (by decide +kernel) (by decide +kernel) dX2_init_29 (fun H fa_3 hz9 ho hS => ?_)
  replace hz := hz9
  clear hz9
  replace fa_0 := va_at.kept fa_0 (ho h (by omega))
  replace fa_1 := va_at.kept fa_1 (ho (h + 1) (by omega))
  replace fa_2 := va_at.kept fa_2 (ho (h + 2) (by omega))
  clear ho
  refine xk_putF (ci := 2) (v := .ref (h + 3)) (ty := .array (.object "HalfTickets$Person")) (C := RX2) (T := TX2) (N := 7) hx hb hts inX2 tyX2 tyX2_ok nmX2 hown hK hS fa_0 hAh rfl 2 (by decide) (hts (.fieldLink RX2 31 "HalfTickets$Ministry" "persons" "[LHalfTickets$Person;") (List.mem_of_getElem? (i := 14) (by decide +kernel))) (fun _ h9 => h9) rfl hin rfl (by decide +kernel) rfl rfl (Nat.le_of_ble_eq_true rfl) dX2_init_32 (fun H locs fa_0 hz9 ho hS => ?_)
  replace hz := hz9.trans hz
  clear hz9
  have fa_0 : va_at G vwCl (h, .inr (2, [.ref (h + 1), .ref (h + 2), .ref (h + 3), .int 0, .int 0, .int 0, .int 0])) H := fa_0
  replace fa_1 := va_at.kept fa_1 (ho (h + 1) (by omega))
  replace fa_2 := va_at.kept fa_2 (ho (h + 2) (by omega))
  replace fa_3 := va_at.kept fa_3 (ho (h + 3) (by omega))
  clear ho
  refine lv_iconst (v := (nI 0)) hx hb dX2_init_35 (by decide) ?_
  refine lv_istore_n (lv' := [(1, .int (nI 0)), (0, .ref h)]) hx hb dX2_init_36 rfl hl (by decide) rfl (fun ls hl => ?_)
  refine xl_upC 6 (fun kk => 3 + 5 * kk) (fun kk => 33 + 59 * kk) (fun kk H locs ls => H.size = (h + 5 * kk + 4) ∧ va_S (xA_k h (h + 1)) s.heap H locs ∧ lv_has ls 2 [(1, .int (nI kk)), (0, .ref h)] ∧ (va_at G vwCl (h, .inr (2, [.ref (h + 1), .ref (h + 2), .ref (h + 3), .int 0, .int 0, .int 0, .int 0])) H) ∧ (va_at G vwCl ((h + 1), .inl (g 0, 3, .inl xs_0)) H) ∧ (va_at G vwCl ((h + 2), .inl (g 3, 6, .inr (.inr (.inr (.inr (fun j => if j < kk then some (h + 5 * j + 4) else none))))))  H) ∧ (va_at G vwCl ((h + 3), .inl (g 4, 24, .inr (.inr (.inr (.inr (fun _ => none))))))  H) ∧ (∀ j, j < kk → xk_W G g (h + 5 * j + 4) (nI 8) H)) (fun H locs ls hI => ?_) (fun k37 H locs ls hk37 hI ih37 => ?_) ⟨(by rw [hz]), hS, lv_sub hl [0, 1] rfl, fa_0, fa_1, (xk_q fa_2 (fun j _ => (if_neg (Nat.not_lt_zero j)).symm)), fa_3, (fun j hj => absurd hj (Nat.not_lt_zero j))⟩ rfl rfl
  · obtain ⟨hz, hS, hl, fa_0, fs, fw, fq, fl⟩ := hI
    refine lv_iload_n hx hb dX2_init_37 rfl (lv_at hl 0 rfl) ?_
    refine lv_aload_n hx hb dX2_init_38 rfl (lv_at hl 1 rfl) ?_
    refine xk_get (ci := 2) (C := RX2) (T := TX2) (N := 7) hx hb hts inX2 hown hK fa_0 rfl 1 (by decide) (hts (.fieldLink RX2 25 "HalfTickets$Ministry" "windows" "[LHalfTickets$Window;") (List.mem_of_getElem? (i := 12) (by decide +kernel))) (fun _ h9 => h9) rfl dX2_init_39 ?_
    refine va_alen hx hb hK (xw_P1 fw) 0 3 rfl rfl (v := nI 6) rfl dX2_init_42 ?_
    refine lv_icmp_ge (tgt := 71) hx hb dX2_init_43 (by decide) (fun c_4 => ?_) (fun c_4 => ?_)
    · refine lv_iconst (v := (nI 0)) hx hb dX2_init_71 (by decide) ?_
      refine lv_istore_n (lv' := [(1, .int (nI 0)), (0, .ref h)]) hx hb dX2_init_72 rfl hl (by decide) rfl (fun ls hl => ?_)
      refine xl_upC 24 (fun kk => 33 + 2 * kk) (fun kk => 387 + 20 * kk) (fun kk H locs ls => H.size = (h + 2 * kk + 34) ∧ va_S (xA_k h (h + 1)) s.heap H locs ∧ lv_has ls 2 [(1, .int (nI kk)), (0, .ref h)] ∧ (va_at G vwCl (h, .inr (2, [.ref (h + 1), .ref (h + 2), .ref (h + 3), .int 0, .int 0, .int 0, .int 0])) H) ∧ (va_at G vwCl ((h + 1), .inl (g 0, 3, .inl xs_0)) H) ∧ (va_at G vwCl ((h + 2), .inl (g 3, 6, .inr (.inr (.inr (.inr (fun j => if j < 6 then some (h + 5 * j + 4) else none))))))  H) ∧ (va_at G vwCl ((h + 3), .inl (g 4, 24, .inr (.inr (.inr (.inr (fun j => if j < kk then some (h + 2 * j + 34) else none))))))  H) ∧ (∀ j, j < 6 → xk_W G g (h + 5 * j + 4) (nI 8) H) ∧ (∀ j, j < kk → xk_P G g (h + 2 * j + 34) (nI j) H)) (fun H locs ls hI => ?_) (fun k73 H locs ls hk73 hI ih73 => ?_) ⟨(by rw [hz]), hS, lv_sub hl [0, 1] rfl, fa_0, fs, fw, (xk_q fq (fun j _ => (if_neg (Nat.not_lt_zero j)).symm)), fl, (fun j hj => absurd hj (Nat.not_lt_zero j))⟩ rfl rfl
      · obtain ⟨hz, hS, hl, fa_0, fs, fw, fq, fl, fm⟩ := hI
        refine lv_iload_n hx hb dX2_init_73 rfl (lv_at hl 0 rfl) ?_
        refine lv_aload_n hx hb dX2_init_74 rfl (lv_at hl 1 rfl) ?_
        refine xk_get (ci := 2) (C := RX2) (T := TX2) (N := 7) hx hb hts inX2 hown hK fa_0 rfl 2 (by decide) (hts (.fieldLink RX2 31 "HalfTickets$Ministry" "persons" "[LHalfTickets$Person;") (List.mem_of_getElem? (i := 14) (by decide +kernel))) (fun _ h9 => h9) rfl dX2_init_75 ?_
        refine va_alen hx hb hK (xw_P1 fq) 0 4 rfl rfl (v := nI 24) rfl dX2_init_78 ?_
        refine lv_icmp_ge (tgt := 102) hx hb dX2_init_79 (by decide) (fun c_5 => ?_) (fun c_5 => ?_)
        · exact W.vret hx hb hr (fun t ht hWm => ⟨⟨(), rfl, trivial, xk_end ht hz (show xk_M G g h H from ⟨fa_0, fs, xk_q fw (fun j hj => by rw [if_pos hj]; congr 1; omega), xk_q fq (fun j hj => by rw [if_pos hj]; congr 1; omega), fl, fm⟩)⟩, hS.F ht⟩) hS.2.2 dX2_init_102
        · exact absurd (nI_le (Nat.le_refl _) (by decide)) c_5
      · obtain ⟨hz, hS, hl, fa_0, fs, fw, fq, fl, fm⟩ := hI
        refine lv_iload_n hx hb dX2_init_73 rfl (lv_at hl 0 rfl) ?_
        refine lv_aload_n hx hb dX2_init_74 rfl (lv_at hl 1 rfl) ?_
        refine xk_get (ci := 2) (C := RX2) (T := TX2) (N := 7) hx hb hts inX2 hown hK fa_0 rfl 2 (by decide) (hts (.fieldLink RX2 31 "HalfTickets$Ministry" "persons" "[LHalfTickets$Person;") (List.mem_of_getElem? (i := 14) (by decide +kernel))) (fun _ h9 => h9) rfl dX2_init_75 ?_
        refine va_alen hx hb hK (xw_P1 fq) 0 4 rfl rfl (v := nI 24) rfl dX2_init_78 ?_
        refine lv_icmp_ge (tgt := 102) hx hb dX2_init_79 (by decide) (fun c_6 => ?_) (fun c_6 => ?_)
        · exact absurd c_6 (nI_ge hk73 (by decide))
        · refine lv_aload_n hx hb dX2_init_82 rfl (lv_at hl 1 rfl) ?_
          refine xk_get (ci := 2) (C := RX2) (T := TX2) (N := 7) hx hb hts inX2 hown hK fa_0 rfl 2 (by decide) (hts (.fieldLink RX2 31 "HalfTickets$Ministry" "persons" "[LHalfTickets$Person;") (List.mem_of_getElem? (i := 14) (by decide +kernel))) (fun _ h9 => h9) rfl dX2_init_83 ?_
          refine lv_iload_n hx hb dX2_init_86 rfl (lv_at hl 0 rfl) ?_
          refine xk_new (h := (h + 2 * k73 + 34)) (ci := 4) (fs := [.int 0, .null, .int 0, .int 0, .int 0, .int 0, .int 0, .int 0, .int 0, .int 0, .int 0, .int 0]) (C := RX4) (T := TX4) (N := 12) hx hb hts inX4 tyX4 tyX4_ok hown (hts (.classLink RX2 29 RX4) (List.mem_of_getElem? (i := 13) (by decide +kernel))) (hts (.instantiable RX4 12) (List.mem_of_getElem? (i := 17) (by decide +kernel))) (hts (.initialized RX4) (List.mem_of_getElem? (i := 18) (by decide +kernel))) hK hS hz rfl (fun j hj => by rcases (show j = 0 ∨ j = 1 ∨ j = 2 ∨ j = 3 ∨ j = 4 ∨ j = 5 ∨ j = 6 ∨ j = 7 ∨ j = 8 ∨ j = 9 ∨ j = 10 ∨ j = 11 by omega) with rfl | rfl | rfl | rfl | rfl | rfl | rfl | rfl | rfl | rfl | rfl | rfl <;> rfl) (by show 33 + 2 * k73 + 1 ≤ 81; omega) (by show 387 + 20 * k73 + 12 ≤ 867; omega) dX2_init_87 (fun H fa_7 hz9 ho hS => ?_)
          replace hz := hz9
          clear hz9
          replace fa_0 := va_at.kept fa_0 (ho h (by omega))
          replace fs := va_at.kept fs (ho (h + 1) (by omega))
          replace fw := va_at.kept fw (ho (h + 2) (by omega))
          replace fq := va_at.kept fq (ho (h + 3) (by omega))
          replace fl : ∀ j, j < 6 → xk_W G g (h + 5 * j + 4) (nI 8) H := fun j hj => (fl j hj).kept (fun q hq => ho q (by omega))
          replace fm : ∀ j, j < k73 → xk_P G g (h + 2 * j + 34) (nI j) H := fun j hj => (fm j hj).kept (fun q hq => ho q (by omega))
          clear ho
          refine lv_dup hx hb dX2_init_90 rfl ?_
          refine lv_iload_n hx hb dX2_init_91 rfl (lv_at hl 0 rfl) ?_
          refine xk_I (As := [.int (nI k73)]) (rest := [.ref (h + 2 * k73 + 34), .int (nI k73), .ref (h + 3)]) (sz := (h + 2 * k73 + 35)) ⟨hx, hb, hml, hown, hts⟩ (k_X4_init l (A := A) (h := (h + 2 * k73 + 34)) (sz := (h + 2 * k73 + 35)) (by omega) (fun q hq => hAA q (hq.elim (fun z => Or.inr (by omega)) (fun z => Or.inr (by omega)))) (nI k73)) (cwI 1 hts gX2_init_X4_init rfl rfl rfl (hts (.initialized RX4) (List.mem_of_getElem? (i := 18) (by decide +kernel))) (hts (.methodLink RX2 38 yX4_init) (List.mem_of_getElem? (i := 36) (by decide +kernel))) (hts (.instanceMethod yX4_init) (List.mem_of_getElem? (i := 37) (by decide +kernel))) rfl (by decide +kernel) ⟨Nat.le_of_ble_eq_true rfl, Nat.le_of_ble_eq_true rfl⟩) hK hst hnw hS hAA hz fa_7 (fun q hq => hq.elim (fun z => Or.inr (by omega)) (fun z => Or.inr (by omega))) rfl hl.1 rfl (Nat.le_of_ble_eq_true rfl) dX2_init_92 ⟨by show 33 + 2 * k73 + 1 + 1 ≤ 81; omega, by show 387 + 20 * k73 + 12 + 8 ≤ 867; omega⟩ (fun H locs fp_8 hz9 ho hS => ?_)
          replace fa_0 := va_at.kept fa_0 (ho h (by omega))
          replace fs := va_at.kept fs (ho (h + 1) (by omega))
          replace fw := va_at.kept fw (ho (h + 2) (by omega))
          replace fq := va_at.kept fq (ho (h + 3) (by omega))
          replace fl : ∀ j, j < 6 → xk_W G g (h + 5 * j + 4) (nI 8) H := fun j hj => (fl j hj).kept (fun q hq => ho q (by omega))
          replace fm : ∀ j, j < k73 → xk_P G g (h + 2 * j + 34) (nI j) H := fun j hj => (fm j hj).kept (fun q hq => ho q (by omega))
          clear ho
          replace hz : H.size = (h + 2 * k73 + 36) := by omega
          clear hz9
          refine xk_astq (r := (RX4, TX4, 12)) hx hb hK hS fq (Or.inr (by omega)) 4 rfl fp_8.1 rfl k73 rfl hk73 (by decide) dX2_init_95 (fun H locs fq hz9 ho hS => ?_)
          replace hz := hz9.trans hz
          clear hz9
          have fq := (show va_at G vwCl _ _ from fq)
          replace fa_0 := va_at.kept fa_0 (ho h (by omega))
          replace fs := va_at.kept fs (ho (h + 1) (by omega))
          replace fw := va_at.kept fw (ho (h + 2) (by omega))
          replace fl : ∀ j, j < 6 → xk_W G g (h + 5 * j + 4) (nI 8) H := fun j hj => (fl j hj).kept (fun q hq => ho q (by omega))
          replace fm : ∀ j, j < k73 → xk_P G g (h + 2 * j + 34) (nI j) H := fun j hj => (fm j hj).kept (fun q hq => ho q (by omega))
          replace fp_8 := fp_8.kept (fun q hq => ho q (by omega))
          clear ho
          refine lv_iinc (v := (nI (k73 + 1))) (lv' := [(1, .int (nI (k73 + 1))), (0, .ref h)]) hx hb dX2_init_96 hl (k := 0) rfl ((nI_1 k73)) (by decide) rfl (fun ls hl => ?_)
          refine lv_goto (tgt := 73) hx hb dX2_init_99 (by decide) ?_
          refine W.cs (cells' := 33 + 2 * (k73 + 1)) (slots' := 387 + 20 * (k73 + 1)) (by show 33 + 2 * k73 + 1 + 1 = _; omega) (by show 387 + 20 * k73 + 12 + 8 = _; omega) ?_
          exact ih73 _ _ _ ⟨(by rw [hz]; omega), hS, lv_sub hl [0, 1] rfl, fa_0, fs, fw, (xk_q fq (fun j _ => xk_up (fun j => h + 2 * j + 34) k73 j)), fl, (xk_all fm fp_8)⟩
    · exact absurd (nI_le (Nat.le_refl _) (by decide)) c_4
  · obtain ⟨hz, hS, hl, fa_0, fs, fw, fq, fl⟩ := hI
    refine lv_iload_n hx hb dX2_init_37 rfl (lv_at hl 0 rfl) ?_
    refine lv_aload_n hx hb dX2_init_38 rfl (lv_at hl 1 rfl) ?_
    refine xk_get (ci := 2) (C := RX2) (T := TX2) (N := 7) hx hb hts inX2 hown hK fa_0 rfl 1 (by decide) (hts (.fieldLink RX2 25 "HalfTickets$Ministry" "windows" "[LHalfTickets$Window;") (List.mem_of_getElem? (i := 12) (by decide +kernel))) (fun _ h9 => h9) rfl dX2_init_39 ?_
    refine va_alen hx hb hK (xw_P1 fw) 0 3 rfl rfl (v := nI 6) rfl dX2_init_42 ?_
    refine lv_icmp_ge (tgt := 71) hx hb dX2_init_43 (by decide) (fun c_9 => ?_) (fun c_9 => ?_)
    · exact absurd c_9 (nI_ge hk37 (by decide))
    · refine lv_aload_n hx hb dX2_init_46 rfl (lv_at hl 1 rfl) ?_
      refine xk_get (ci := 2) (C := RX2) (T := TX2) (N := 7) hx hb hts inX2 hown hK fa_0 rfl 1 (by decide) (hts (.fieldLink RX2 25 "HalfTickets$Ministry" "windows" "[LHalfTickets$Window;") (List.mem_of_getElem? (i := 12) (by decide +kernel))) (fun _ h9 => h9) rfl dX2_init_47 ?_
      refine lv_iload_n hx hb dX2_init_50 rfl (lv_at hl 0 rfl) ?_
      refine xk_new (h := (h + 5 * k37 + 4)) (ci := 5) (fs := [.int 0, .int 0, .int 0, .int 0, .int 0, .null, .null]) (C := RX5) (T := TX5) (N := 7) hx hb hts inX5 tyX5 tyX5_ok hown (hts (.classLink RX2 23 RX5) (List.mem_of_getElem? (i := 11) (by decide +kernel))) (hts (.instantiable RX5 7) (List.mem_of_getElem? (i := 15) (by decide +kernel))) (hts (.initialized RX5) (List.mem_of_getElem? (i := 16) (by decide +kernel))) hK hS hz rfl (fun j hj => by rcases (show j = 0 ∨ j = 1 ∨ j = 2 ∨ j = 3 ∨ j = 4 ∨ j = 5 ∨ j = 6 by omega) with rfl | rfl | rfl | rfl | rfl | rfl | rfl <;> rfl) (by show 3 + 5 * k37 + 1 ≤ 81; omega) (by show 33 + 59 * k37 + 7 ≤ 867; omega) dX2_init_51 (fun H fa_10 hz9 ho hS => ?_)
      replace hz := hz9
      clear hz9
      replace fa_0 := va_at.kept fa_0 (ho h (by omega))
      replace fs := va_at.kept fs (ho (h + 1) (by omega))
      replace fw := va_at.kept fw (ho (h + 2) (by omega))
      replace fq := va_at.kept fq (ho (h + 3) (by omega))
      replace fl : ∀ j, j < k37 → xk_W G g (h + 5 * j + 4) (nI 8) H := fun j hj => (fl j hj).kept (fun q hq => ho q (by omega))
      clear ho
      refine lv_dup hx hb dX2_init_54 rfl ?_
      refine lv_aload_n hx hb dX2_init_55 rfl (lv_at hl 1 rfl) ?_
      refine xk_get (ci := 2) (C := RX2) (T := TX2) (N := 7) hx hb hts inX2 hown hK fa_0 rfl 0 (by decide) (hts (.fieldLink RX2 18 "HalfTickets$Ministry" "settings" "[I") (List.mem_of_getElem? (i := 10) (by decide +kernel))) (fun _ h9 => h9) rfl dX2_init_56 ?_
      refine lv_iconst (v := (nI 1)) hx hb dX2_init_59 (by decide) ?_
      refine va_iald hx hb hK (xw_P1 fs) 0 0 rfl rfl (nI_in (by decide) (by decide)) dX2_init_60 ?_
      rw [show xs_0 (nI 1).toNatClampNeg = nI 8 from by decide]
      refine xk_I (As := [.int (nI 8)]) (rest := [.ref (h + 5 * k37 + 4), .int (nI k37), .ref (h + 2)]) (sz := (h + 5 * k37 + 5)) ⟨hx, hb, hml, hown, hts⟩ (k_X5_init l (A := A) (h := (h + 5 * k37 + 4)) (sz := (h + 5 * k37 + 5)) (by omega) (fun q hq => hAA q (hq.elim (fun z => Or.inr (by omega)) (fun z => Or.inr (by omega)))) (nI 8)) (cwI 1 hts gX2_init_X5_init rfl rfl rfl (hts (.initialized RX5) (List.mem_of_getElem? (i := 16) (by decide +kernel))) (hts (.methodLink RX2 35 yX5_init) (List.mem_of_getElem? (i := 19) (by decide +kernel))) (hts (.instanceMethod yX5_init) (List.mem_of_getElem? (i := 20) (by decide +kernel))) rfl (by decide +kernel) ⟨Nat.le_of_ble_eq_true rfl, Nat.le_of_ble_eq_true rfl⟩) hK hst hnw hS hAA hz fa_10 (fun q hq => hq.elim (fun z => Or.inr (by omega)) (fun z => Or.inr (by omega))) rfl hl.1 rfl (Nat.le_of_ble_eq_true rfl) dX2_init_61 ⟨by show 3 + 5 * k37 + 1 + 4 ≤ 81; omega, by show 33 + 59 * k37 + 7 + 52 ≤ 867; omega⟩ (fun H locs fp_11 hz9 ho hS => ?_)
      replace fa_0 := va_at.kept fa_0 (ho h (by omega))
      replace fs := va_at.kept fs (ho (h + 1) (by omega))
      replace fw := va_at.kept fw (ho (h + 2) (by omega))
      replace fq := va_at.kept fq (ho (h + 3) (by omega))
      replace fl : ∀ j, j < k37 → xk_W G g (h + 5 * j + 4) (nI 8) H := fun j hj => (fl j hj).kept (fun q hq => ho q (by omega))
      clear ho
      replace hz : H.size = (h + 5 * k37 + 9) := by omega
      clear hz9
      refine xk_astq (r := (RX5, TX5, 7)) hx hb hK hS fw (Or.inr (by omega)) 3 rfl fp_11.1 rfl k37 rfl hk37 (by decide) dX2_init_64 (fun H locs fw hz9 ho hS => ?_)
      replace hz := hz9.trans hz
      clear hz9
      have fw := (show va_at G vwCl _ _ from fw)
      replace fa_0 := va_at.kept fa_0 (ho h (by omega))
      replace fs := va_at.kept fs (ho (h + 1) (by omega))
      replace fq := va_at.kept fq (ho (h + 3) (by omega))
      replace fl : ∀ j, j < k37 → xk_W G g (h + 5 * j + 4) (nI 8) H := fun j hj => (fl j hj).kept (fun q hq => ho q (by omega))
      replace fp_11 := fp_11.kept (fun q hq => ho q (by omega))
      clear ho
      refine lv_iinc (v := (nI (k37 + 1))) (lv' := [(1, .int (nI (k37 + 1))), (0, .ref h)]) hx hb dX2_init_65 hl (k := 0) rfl ((nI_1 k37)) (by decide) rfl (fun ls hl => ?_)
      refine lv_goto (tgt := 37) hx hb dX2_init_68 (by decide) ?_
      refine W.cs (cells' := 3 + 5 * (k37 + 1)) (slots' := 33 + 59 * (k37 + 1)) (by show 3 + 5 * k37 + 1 + 4 = _; omega) (by show 33 + 59 * k37 + 7 + 52 = _; omega) ?_
      exact ih37 _ _ _ ⟨(by rw [hz]; omega), hS, lv_sub hl [0, 1] rfl, fa_0, fs, (xk_q fw (fun j _ => xk_up (fun j => h + 5 * j + 4) k37 j)), fq, (xk_all fl fp_11)⟩

set_option maxHeartbeats 4000000 in
set_option maxRecDepth 100000 in
/-- History() -/
theorem k_X0_init (l : Launch) {G : va_G} {g : Nat → ClassId} {t0 : Nat → Nat} {A : Nat → Prop} {h sz : Nat} (hh : h + 1 = sz) (hAA : ∀ q, xA_k h sz q → A q)  : Met l yX0_init wsX0_init ({ frames := 4, cells := 493, slots := 5250, locals := 150 }) (va_Pc [.ref h] (xK_p G g t0 A sz h 0 [.null, .int 0, .int 0])) (va_Qv (fun _ : Unit => True) (fun _ t => t.heap.size = sz + 493 ∧ xk_H G g h t.heap) (xA_k h sz)) 493 5250 (xA_k h sz) := by
  subst hh
  refine Met.ofW (cc := cX0_init) (maxL := 2) (ret := none) (by decide) rfl ?_
  intro p e s m args below meth c s₁ B hml hv
  obtain ⟨rfl, hz, fa_0, hK, hst, hnw⟩ := hv
  have hx := B.exec
  have hb := B.bytes
  have hr := B.returns
  have hts := atoms_spec (ws := wsX0_init) B.pre
  have hown : s.vm.findClass RX0 = some m.cls := findClass_of_methodNamed B.named
  have hlocks := B.notSynchronized
  have hin : meth.name = "<init>" := (name_of_methodNamed B.named B.method).1
  have hS : va_S (xA_k h (h + 1)) s.heap s.heap [] := va_S.rf
  have hAh : xA_k h (h + 1) h := Or.inl rfl
  have inX0 : ∀ w ∈ u_ws RX0 TX0 3, w ∈ wsX0_init := by decide +kernel
  have inX2 : ∀ w ∈ u_ws RX2 TX2 7, w ∈ wsX0_init := by decide +kernel
  have hl := lv_entry ([.ref h]) (n := 2) (Nat.le_of_ble_eq_true rfl)
  rw [lg_entry_eq]
  generalize (lg_sl ([.ref h]) ++ List.replicate (2 - (lg_sl ([.ref h])).length) Slot.unset).toArray = ls at hl ⊢
  have hl : lv_has ls 2 [(0, .ref h)] := hl
  refine lv_aload_n hx hb dX0_init_0 rfl (lv_at hl 0 rfl) ?_
  refine W.objInit hx hb hown (hts (.methodLink RX0 3 objectInit) (List.mem_of_getElem? (i := 1) (by decide +kernel))) (hts (.instanceMethod objectInit) (List.mem_of_getElem? (i := 2) (by decide +kernel))) (hts (.code objectInit ⟨#[0xb1]⟩ 1 none) (List.mem_of_getElem? (i := 3) (by decide +kernel))) rfl (by rw [hml]; exact hl.1) rfl dX0_init_1 (Nat.le_of_ble_eq_true rfl) (Nat.le_of_ble_eq_true rfl) ?_
  refine W.eq (g2 := F0 m 4 ls []) rfl ?_
  refine lv_aload_n hx hb dX0_init_4 rfl (lv_at hl 0 rfl) ?_
  refine lv_bipush (v := (nI 6)) hx hb dX0_init_5 (by decide) ?_
  refine xk_newq (C := RX2) (h := (h + 1)) (N := 6) hx hb hown (hts (.classLink RX0 9 RX2) (List.mem_of_getElem? (i := 4) (by decide +kernel))) hnw.2.2.2.2.1 hK 5 rfl hS hz rfl (by decide) (Nat.le_of_ble_eq_true rfl) (by decide +kernel) (by decide +kernel) dX0_init_7 (fun H fa_1 hz9 ho hS => ?_)
  replace hz := hz9
  clear hz9
  replace fa_0 := va_at.kept fa_0 (ho h (by omega))
  clear ho
  refine xk_putF (ci := 0) (v := .ref (h + 1)) (ty := .array (.object "HalfTickets$Ministry")) (C := RX0) (T := TX0) (N := 3) hx hb hts inX0 tyX0 tyX0_ok nmX0 hown hK hS fa_0 hAh rfl 0 (by decide) (hts (.fieldLink RX0 11 "HalfTickets$History" "states" "[LHalfTickets$Ministry;") (List.mem_of_getElem? (i := 5) (by decide +kernel))) (fun _ h9 => h9) rfl hin rfl (by decide +kernel) rfl rfl (Nat.le_of_ble_eq_true rfl) dX0_init_10 (fun H locs fa_0 hz9 ho hS => ?_)
  replace hz := hz9.trans hz
  clear hz9
  have fa_0 : va_at G vwCl (h, .inr (0, [.ref (h + 1), .int 0, .int 0])) H := fa_0
  replace fa_1 := va_at.kept fa_1 (ho (h + 1) (by omega))
  clear ho
  refine lv_iconst (v := (nI 0)) hx hb dX0_init_13 (by decide) ?_
  refine lv_istore_n (lv' := [(1, .int (nI 0)), (0, .ref h)]) hx hb dX0_init_14 rfl hl (by decide) rfl (fun ls hl => ?_)
  refine xl_upC 6 (fun kk => 1 + 82 * kk) (fun kk => 6 + 874 * kk) (fun kk H locs ls => H.size = (h + 82 * kk + 2) ∧ va_S (xA_k h (h + 1)) s.heap H locs ∧ lv_has ls 2 [(1, .int (nI kk)), (0, .ref h)] ∧ (va_at G vwCl (h, .inr (0, [.ref (h + 1), .int 0, .int 0])) H) ∧ (va_at G vwCl ((h + 1), .inl (g 5, 6, .inr (.inr (.inr (.inr (fun j => if j < kk then some (h + 82 * j + 2) else none))))))  H) ∧ (∀ j, j < kk → xk_M G g (h + 82 * j + 2) H)) (fun H locs ls hI => ?_) (fun k15 H locs ls hk15 hI ih15 => ?_) ⟨(by rw [hz]), hS, lv_sub hl [0, 1] rfl, fa_0, (xk_q fa_1 (fun j _ => (if_neg (Nat.not_lt_zero j)).symm)), (fun j hj => absurd hj (Nat.not_lt_zero j))⟩ rfl rfl
  · obtain ⟨hz, hS, hl, fa_0, fq, fl⟩ := hI
    refine lv_iload_n hx hb dX0_init_15 rfl (lv_at hl 0 rfl) ?_
    refine lv_aload_n hx hb dX0_init_16 rfl (lv_at hl 1 rfl) ?_
    refine xk_get (ci := 0) (C := RX0) (T := TX0) (N := 3) hx hb hts inX0 hown hK fa_0 rfl 0 (by decide) (hts (.fieldLink RX0 11 "HalfTickets$History" "states" "[LHalfTickets$Ministry;") (List.mem_of_getElem? (i := 5) (by decide +kernel))) (fun _ h9 => h9) rfl dX0_init_17 ?_
    refine va_alen hx hb hK (xw_P1 fq) 0 5 rfl rfl (v := nI 6) rfl dX0_init_20 ?_
    refine lv_icmp_ge (tgt := 43) hx hb dX0_init_21 (by decide) (fun c_2 => ?_) (fun c_2 => ?_)
    · exact W.vret hx hb hr (fun t ht hWm => ⟨⟨(), rfl, trivial, xk_end ht hz (show xk_H G g h H from ⟨fa_0, xk_q fq (fun j hj => by rw [if_pos hj]; congr 1; omega), fl⟩)⟩, hS.F ht⟩) hS.2.2 dX0_init_43
    · exact absurd (nI_le (Nat.le_refl _) (by decide)) c_2
  · obtain ⟨hz, hS, hl, fa_0, fq, fl⟩ := hI
    refine lv_iload_n hx hb dX0_init_15 rfl (lv_at hl 0 rfl) ?_
    refine lv_aload_n hx hb dX0_init_16 rfl (lv_at hl 1 rfl) ?_
    refine xk_get (ci := 0) (C := RX0) (T := TX0) (N := 3) hx hb hts inX0 hown hK fa_0 rfl 0 (by decide) (hts (.fieldLink RX0 11 "HalfTickets$History" "states" "[LHalfTickets$Ministry;") (List.mem_of_getElem? (i := 5) (by decide +kernel))) (fun _ h9 => h9) rfl dX0_init_17 ?_
    refine va_alen hx hb hK (xw_P1 fq) 0 5 rfl rfl (v := nI 6) rfl dX0_init_20 ?_
    refine lv_icmp_ge (tgt := 43) hx hb dX0_init_21 (by decide) (fun c_3 => ?_) (fun c_3 => ?_)
    · exact absurd c_3 (nI_ge hk15 (by decide))
    · refine lv_aload_n hx hb dX0_init_24 rfl (lv_at hl 1 rfl) ?_
      refine xk_get (ci := 0) (C := RX0) (T := TX0) (N := 3) hx hb hts inX0 hown hK fa_0 rfl 0 (by decide) (hts (.fieldLink RX0 11 "HalfTickets$History" "states" "[LHalfTickets$Ministry;") (List.mem_of_getElem? (i := 5) (by decide +kernel))) (fun _ h9 => h9) rfl dX0_init_25 ?_
      refine lv_iload_n hx hb dX0_init_28 rfl (lv_at hl 0 rfl) ?_
      refine xk_new (h := (h + 82 * k15 + 2)) (ci := 2) (fs := [.null, .null, .null, .int 0, .int 0, .int 0, .int 0]) (C := RX2) (T := TX2) (N := 7) hx hb hts inX2 tyX2 tyX2_ok hown (hts (.classLink RX0 9 RX2) (List.mem_of_getElem? (i := 4) (by decide +kernel))) (hts (.instantiable RX2 7) (List.mem_of_getElem? (i := 6) (by decide +kernel))) (hts (.initialized RX2) (List.mem_of_getElem? (i := 7) (by decide +kernel))) hK hS hz rfl (fun j hj => by rcases (show j = 0 ∨ j = 1 ∨ j = 2 ∨ j = 3 ∨ j = 4 ∨ j = 5 ∨ j = 6 by omega) with rfl | rfl | rfl | rfl | rfl | rfl | rfl <;> rfl) (by show 1 + 82 * k15 + 1 ≤ 493; omega) (by show 6 + 874 * k15 + 7 ≤ 5250; omega) dX0_init_29 (fun H fa_4 hz9 ho hS => ?_)
      replace hz := hz9
      clear hz9
      replace fa_0 := va_at.kept fa_0 (ho h (by omega))
      replace fq := va_at.kept fq (ho (h + 1) (by omega))
      replace fl : ∀ j, j < k15 → xk_M G g (h + 82 * j + 2) H := fun j hj => (fl j hj).kept (fun q hq => ho q (by omega))
      clear ho
      refine lv_dup hx hb dX0_init_32 rfl ?_
      refine xk_I (As := []) (rest := [.ref (h + 82 * k15 + 2), .int (nI k15), .ref (h + 1)]) (sz := (h + 82 * k15 + 3)) ⟨hx, hb, hml, hown, hts⟩ (k_X2_init l (A := A) (h := (h + 82 * k15 + 2)) (sz := (h + 82 * k15 + 3)) (by omega) (fun q hq => hAA q (hq.elim (fun z => Or.inr (by omega)) (fun z => Or.inr (by omega))))) (cwI 0 hts gX0_init_X2_init rfl rfl rfl (hts (.initialized RX2) (List.mem_of_getElem? (i := 7) (by decide +kernel))) (hts (.methodLink RX0 17 yX2_init) (List.mem_of_getElem? (i := 8) (by decide +kernel))) (hts (.instanceMethod yX2_init) (List.mem_of_getElem? (i := 9) (by decide +kernel))) rfl (by decide +kernel) ⟨Nat.le_of_ble_eq_true rfl, Nat.le_of_ble_eq_true rfl⟩) hK hst hnw hS hAA hz fa_4 (fun q hq => hq.elim (fun z => Or.inr (by omega)) (fun z => Or.inr (by omega))) rfl hl.1 rfl (Nat.le_of_ble_eq_true rfl) dX0_init_33 ⟨by show 1 + 82 * k15 + 1 + 81 ≤ 493; omega, by show 6 + 874 * k15 + 7 + 867 ≤ 5250; omega⟩ (fun H locs fp_5 hz9 ho hS => ?_)
      replace fa_0 := va_at.kept fa_0 (ho h (by omega))
      replace fq := va_at.kept fq (ho (h + 1) (by omega))
      replace fl : ∀ j, j < k15 → xk_M G g (h + 82 * j + 2) H := fun j hj => (fl j hj).kept (fun q hq => ho q (by omega))
      clear ho
      replace hz : H.size = (h + 82 * k15 + 84) := by omega
      clear hz9
      refine xk_astq (r := (RX2, TX2, 7)) hx hb hK hS fq (Or.inr (by omega)) 5 rfl fp_5.1 rfl k15 rfl hk15 (by decide) dX0_init_36 (fun H locs fq hz9 ho hS => ?_)
      replace hz := hz9.trans hz
      clear hz9
      have fq := (show va_at G vwCl _ _ from fq)
      replace fa_0 := va_at.kept fa_0 (ho h (by omega))
      replace fl : ∀ j, j < k15 → xk_M G g (h + 82 * j + 2) H := fun j hj => (fl j hj).kept (fun q hq => ho q (by omega))
      replace fp_5 := fp_5.kept (fun q hq => ho q (by omega))
      clear ho
      refine lv_iinc (v := (nI (k15 + 1))) (lv' := [(1, .int (nI (k15 + 1))), (0, .ref h)]) hx hb dX0_init_37 hl (k := 0) rfl ((nI_1 k15)) (by decide) rfl (fun ls hl => ?_)
      refine lv_goto (tgt := 15) hx hb dX0_init_40 (by decide) ?_
      refine W.cs (cells' := 1 + 82 * (k15 + 1)) (slots' := 6 + 874 * (k15 + 1)) (by show 1 + 82 * k15 + 1 + 81 = _; omega) (by show 6 + 874 * k15 + 7 + 867 = _; omega) ?_
      exact ih15 _ _ _ ⟨(by rw [hz]; omega), hS, lv_sub hl [0, 1] rfl, fa_0, (xk_q fq (fun j _ => xk_up (fun j => h + 82 * j + 2) k15 j)), (xk_all fl fp_5)⟩
end
section
set_option maxHeartbeats 4000000 in
set_option maxRecDepth 100000 in
/-- HalfTickets() -/
theorem k_X6_init (l : Launch) {G : va_G} {g : Nat → ClassId} {t0 : Nat → Nat} {A : Nat → Prop} {h sz : Nat} (hh : h + 1 = sz) (hAA : ∀ q, xA_k h sz q → A q)  : Met l yX6_init wsX6_init ({ frames := 5, cells := 826, slots := 8815, locals := 190 }) (va_Pc [.ref h] (xK_p G g t0 A sz h 6 [.null, .null, .null, .null, .null, .null])) (va_Qv (fun _ : Unit => True) (fun _ t => t.heap.size = sz + 826 ∧ xk_B G g h t.heap) (xA_k h sz)) 826 8815 (xA_k h sz) := by
  subst hh
  refine Met.ofW (cc := cX6_init) (maxL := 2) (ret := none) (by decide) rfl ?_
  intro p e s m args below meth c s₁ B hml hv
  obtain ⟨rfl, hz, fa_0, hK, hst, hnw⟩ := hv
  have hx := B.exec
  have hb := B.bytes
  have hr := B.returns
  have hts := atoms_spec (ws := wsX6_init) B.pre
  have hown : s.vm.findClass RX6 = some m.cls := findClass_of_methodNamed B.named
  have hlocks := B.notSynchronized
  have hin : meth.name = "<init>" := (name_of_methodNamed B.named B.method).1
  have hS : va_S (xA_k h (h + 1)) s.heap s.heap [] := va_S.rf
  have hAh : xA_k h (h + 1) h := Or.inl rfl
  have inX0 : ∀ w ∈ u_ws RX0 TX0 3, w ∈ wsX6_init := by decide +kernel
  have inX2 : ∀ w ∈ u_ws RX2 TX2 7, w ∈ wsX6_init := by decide +kernel
  have inX3 : ∀ w ∈ u_ws RX3 TX3 2, w ∈ wsX6_init := by decide +kernel
  have inX6 : ∀ w ∈ u_ws RX6 TX6 6, w ∈ wsX6_init := by decide +kernel
  have hl := lv_entry ([.ref h]) (n := 2) (Nat.le_of_ble_eq_true rfl)
  rw [lg_entry_eq]
  generalize (lg_sl ([.ref h]) ++ List.replicate (2 - (lg_sl ([.ref h])).length) Slot.unset).toArray = ls at hl ⊢
  have hl : lv_has ls 2 [(0, .ref h)] := hl
  refine lv_aload_n hx hb dX6_init_0 rfl (lv_at hl 0 rfl) ?_
  refine W.objInit hx hb hown (hts (.methodLink RX6 1 objectInit) (List.mem_of_getElem? (i := 1) (by decide +kernel))) (hts (.instanceMethod objectInit) (List.mem_of_getElem? (i := 2) (by decide +kernel))) (hts (.code objectInit ⟨#[0xb1]⟩ 1 none) (List.mem_of_getElem? (i := 3) (by decide +kernel))) rfl (by rw [hml]; exact hl.1) rfl dX6_init_1 (Nat.le_of_ble_eq_true rfl) (Nat.le_of_ble_eq_true rfl) ?_
  refine W.eq (g2 := F0 m 4 ls []) rfl ?_
  refine lv_aload_n hx hb dX6_init_4 rfl (lv_at hl 0 rfl) ?_
  refine xk_new (h := (h + 1)) (ci := 2) (fs := [.null, .null, .null, .int 0, .int 0, .int 0, .int 0]) (C := RX2) (T := TX2) (N := 7) hx hb hts inX2 tyX2 tyX2_ok hown (hts (.classLink RX6 7 RX2) (List.mem_of_getElem? (i := 4) (by decide +kernel))) (hts (.instantiable RX2 7) (List.mem_of_getElem? (i := 5) (by decide +kernel))) (hts (.initialized RX2) (List.mem_of_getElem? (i := 6) (by decide +kernel))) hK hS hz rfl (fun j hj => by rcases (show j = 0 ∨ j = 1 ∨ j = 2 ∨ j = 3 ∨ j = 4 ∨ j = 5 ∨ j = 6 by omega) with rfl | rfl | rfl | rfl | rfl | rfl | rfl <;> rfl) (by decide +kernel) (by decide +kernel) dX6_init_5 (fun H fa_1 hz9 ho hS => ?_)
  replace hz := hz9
  clear hz9
  replace fa_0 := va_at.kept fa_0 (ho h (by omega))
  clear ho
  refine lv_dup hx hb dX6_init_8 rfl ?_
  refine xk_I (As := []) (rest := [.ref (h + 1), .ref h]) (sz := (h + 2)) ⟨hx, hb, hml, hown, hts⟩ (k_X2_init l (A := A) (h := (h + 1)) (sz := (h + 2)) (by omega) (fun q hq => hAA q (hq.elim (fun z => Or.inr (by omega)) (fun z => Or.inr (by omega))))) (cwI 0 hts gX6_init_X2_init rfl rfl rfl (hts (.initialized RX2) (List.mem_of_getElem? (i := 6) (by decide +kernel))) (hts (.methodLink RX6 9 yX2_init) (List.mem_of_getElem? (i := 20) (by decide +kernel))) (hts (.instanceMethod yX2_init) (List.mem_of_getElem? (i := 21) (by decide +kernel))) rfl (by decide +kernel) ⟨Nat.le_of_ble_eq_true rfl, Nat.le_of_ble_eq_true rfl⟩) hK hst hnw hS hAA hz fa_1 (fun q hq => hq.elim (fun z => Or.inr (by omega)) (fun z => Or.inr (by omega))) rfl hl.1 rfl (Nat.le_of_ble_eq_true rfl) dX6_init_9 ⟨by decide +kernel, by decide +kernel⟩ (fun H locs fp_2 hz9 ho hS => ?_)
  replace fa_0 := va_at.kept fa_0 (ho h (by omega))
  clear ho
  replace hz : H.size = (h + 83) := by omega
  clear hz9
  refine xk_putF (ci := 6) (v := .ref (h + 1)) (ty := .object "HalfTickets$Ministry") (C := RX6) (T := TX6) (N := 6) hx hb hts inX6 tyX6 tyX6_ok nmX6 hown hK hS fa_0 hAh rfl 0 (by decide) (hts (.fieldLink RX6 10 "HalfTickets" "now" "LHalfTickets$Ministry;") (List.mem_of_getElem? (i := 7) (by decide +kernel))) (fun _ h9 => h9) rfl hin rfl (by decide +kernel) rfl rfl (Nat.le_of_ble_eq_true rfl) dX6_init_12 (fun H locs fa_0 hz9 ho hS => ?_)
  replace hz := hz9.trans hz
  clear hz9
  have fa_0 : va_at G vwCl (h, .inr (6, [.ref (h + 1), .null, .null, .null, .null, .null])) H := fa_0
  replace fp_2 := fp_2.kept (fun q hq => ho q (by omega))
  clear ho
  refine lv_aload_n hx hb dX6_init_15 rfl (lv_at hl 0 rfl) ?_
  refine xk_new (h := (h + 83)) (ci := 2) (fs := [.null, .null, .null, .int 0, .int 0, .int 0, .int 0]) (C := RX2) (T := TX2) (N := 7) hx hb hts inX2 tyX2 tyX2_ok hown (hts (.classLink RX6 7 RX2) (List.mem_of_getElem? (i := 4) (by decide +kernel))) (hts (.instantiable RX2 7) (List.mem_of_getElem? (i := 5) (by decide +kernel))) (hts (.initialized RX2) (List.mem_of_getElem? (i := 6) (by decide +kernel))) hK hS hz rfl (fun j hj => by rcases (show j = 0 ∨ j = 1 ∨ j = 2 ∨ j = 3 ∨ j = 4 ∨ j = 5 ∨ j = 6 by omega) with rfl | rfl | rfl | rfl | rfl | rfl | rfl <;> rfl) (by decide +kernel) (by decide +kernel) dX6_init_16 (fun H fa_3 hz9 ho hS => ?_)
  replace hz := hz9
  clear hz9
  replace fa_0 := va_at.kept fa_0 (ho h (by omega))
  replace fp_2 := fp_2.kept (fun q hq => ho q (by omega))
  clear ho
  refine lv_dup hx hb dX6_init_19 rfl ?_
  refine xk_I (As := []) (rest := [.ref (h + 83), .ref h]) (sz := (h + 84)) ⟨hx, hb, hml, hown, hts⟩ (k_X2_init l (A := A) (h := (h + 83)) (sz := (h + 84)) (by omega) (fun q hq => hAA q (hq.elim (fun z => Or.inr (by omega)) (fun z => Or.inr (by omega))))) (cwI 0 hts gX6_init_X2_init rfl rfl rfl (hts (.initialized RX2) (List.mem_of_getElem? (i := 6) (by decide +kernel))) (hts (.methodLink RX6 9 yX2_init) (List.mem_of_getElem? (i := 20) (by decide +kernel))) (hts (.instanceMethod yX2_init) (List.mem_of_getElem? (i := 21) (by decide +kernel))) rfl (by decide +kernel) ⟨Nat.le_of_ble_eq_true rfl, Nat.le_of_ble_eq_true rfl⟩) hK hst hnw hS hAA hz fa_3 (fun q hq => hq.elim (fun z => Or.inr (by omega)) (fun z => Or.inr (by omega))) rfl hl.1 rfl (Nat.le_of_ble_eq_true rfl) dX6_init_20 ⟨by decide +kernel, by decide +kernel⟩ (fun H locs fp_4 hz9 ho hS => ?_)
  replace fa_0 := va_at.kept fa_0 (ho h (by omega))
  replace fp_2 := fp_2.kept (fun q hq => ho q (by omega))
  clear ho
  replace hz : H.size = (h + 165) := by omega
  clear hz9
  refine xk_putF (ci := 6) (v := .ref (h + 83)) (ty := .object "HalfTickets$Ministry") (C := RX6) (T := TX6) (N := 6) hx hb hts inX6 tyX6 tyX6_ok nmX6 hown hK hS fa_0 hAh rfl 1 (by decide) (hts (.fieldLink RX6 16 "HalfTickets" "trial" "LHalfTickets$Ministry;") (List.mem_of_getElem? (i := 8) (by decide +kernel))) (fun _ h9 => h9) rfl hin rfl (by decide +kernel) rfl rfl (Nat.le_of_ble_eq_true rfl) dX6_init_23 (fun H locs fa_0 hz9 ho hS => ?_)
  replace hz := hz9.trans hz
  clear hz9
  have fa_0 : va_at G vwCl (h, .inr (6, [.ref (h + 1), .ref (h + 83), .null, .null, .null, .null])) H := fa_0
  replace fp_2 := fp_2.kept (fun q hq => ho q (by omega))
  replace fp_4 := fp_4.kept (fun q hq => ho q (by omega))
  clear ho
  refine lv_aload_n hx hb dX6_init_26 rfl (lv_at hl 0 rfl) ?_
  refine xk_new (h := (h + 165)) (ci := 0) (fs := [.null, .int 0, .int 0]) (C := RX0) (T := TX0) (N := 3) hx hb hts inX0 tyX0 tyX0_ok hown (hts (.classLink RX6 19 RX0) (List.mem_of_getElem? (i := 9) (by decide +kernel))) (hts (.instantiable RX0 3) (List.mem_of_getElem? (i := 10) (by decide +kernel))) (hts (.initialized RX0) (List.mem_of_getElem? (i := 11) (by decide +kernel))) hK hS hz rfl (fun j hj => by rcases (show j = 0 ∨ j = 1 ∨ j = 2 by omega) with rfl | rfl | rfl <;> rfl) (by decide +kernel) (by decide +kernel) dX6_init_27 (fun H fa_5 hz9 ho hS => ?_)
  replace hz := hz9
  clear hz9
  replace fa_0 := va_at.kept fa_0 (ho h (by omega))
  replace fp_2 := fp_2.kept (fun q hq => ho q (by omega))
  replace fp_4 := fp_4.kept (fun q hq => ho q (by omega))
  clear ho
  refine lv_dup hx hb dX6_init_30 rfl ?_
  refine xk_I (As := []) (rest := [.ref (h + 165), .ref h]) (sz := (h + 166)) ⟨hx, hb, hml, hown, hts⟩ (k_X0_init l (A := A) (h := (h + 165)) (sz := (h + 166)) (by omega) (fun q hq => hAA q (hq.elim (fun z => Or.inr (by omega)) (fun z => Or.inr (by omega))))) (cwI 0 hts gX6_init_X0_init rfl rfl rfl (hts (.initialized RX0) (List.mem_of_getElem? (i := 11) (by decide +kernel))) (hts (.methodLink RX6 21 yX0_init) (List.mem_of_getElem? (i := 64) (by decide +kernel))) (hts (.instanceMethod yX0_init) (List.mem_of_getElem? (i := 65) (by decide +kernel))) rfl (by decide +kernel) ⟨Nat.le_of_ble_eq_true rfl, Nat.le_of_ble_eq_true rfl⟩) hK hst hnw hS hAA hz fa_5 (fun q hq => hq.elim (fun z => Or.inr (by omega)) (fun z => Or.inr (by omega))) rfl hl.1 rfl (Nat.le_of_ble_eq_true rfl) dX6_init_31 ⟨by decide +kernel, by decide +kernel⟩ (fun H locs fp_6 hz9 ho hS => ?_)
  replace fa_0 := va_at.kept fa_0 (ho h (by omega))
  replace fp_2 := fp_2.kept (fun q hq => ho q (by omega))
  replace fp_4 := fp_4.kept (fun q hq => ho q (by omega))
  clear ho
  replace hz : H.size = (h + 659) := by omega
  clear hz9
  refine xk_putF (ci := 6) (v := .ref (h + 165)) (ty := .object "HalfTickets$History") (C := RX6) (T := TX6) (N := 6) hx hb hts inX6 tyX6 tyX6_ok nmX6 hown hK hS fa_0 hAh rfl 2 (by decide) (hts (.fieldLink RX6 22 "HalfTickets" "history" "LHalfTickets$History;") (List.mem_of_getElem? (i := 12) (by decide +kernel))) (fun _ h9 => h9) rfl hin rfl (by decide +kernel) rfl rfl (Nat.le_of_ble_eq_true rfl) dX6_init_34 (fun H locs fa_0 hz9 ho hS => ?_)
  replace hz := hz9.trans hz
  clear hz9
  have fa_0 : va_at G vwCl (h, .inr (6, [.ref (h + 1), .ref (h + 83), .ref (h + 165), .null, .null, .null])) H := fa_0
  replace fp_2 := fp_2.kept (fun q hq => ho q (by omega))
  replace fp_4 := fp_4.kept (fun q hq => ho q (by omega))
  replace fp_6 := fp_6.kept (fun q hq => ho q (by omega))
  clear ho
  refine lv_aload_n hx hb dX6_init_37 rfl (lv_at hl 0 rfl) ?_
  refine lv_iconst (v := (nI 2)) hx hb dX6_init_38 (by decide) ?_
  refine xk_newq (C := RX2) (h := (h + 659)) (N := 2) hx hb hown (hts (.classLink RX6 7 RX2) (List.mem_of_getElem? (i := 4) (by decide +kernel))) hnw.2.2.2.2.1 hK 5 rfl hS hz rfl (by decide) (Nat.le_of_ble_eq_true rfl) (by decide +kernel) (by decide +kernel) dX6_init_39 (fun H fa_7 hz9 ho hS => ?_)
  replace hz := hz9
  clear hz9
  replace fa_0 := va_at.kept fa_0 (ho h (by omega))
  replace fp_2 := fp_2.kept (fun q hq => ho q (by omega))
  replace fp_4 := fp_4.kept (fun q hq => ho q (by omega))
  replace fp_6 := fp_6.kept (fun q hq => ho q (by omega))
  clear ho
  refine xk_putF (ci := 6) (v := .ref (h + 659)) (ty := .array (.object "HalfTickets$Ministry")) (C := RX6) (T := TX6) (N := 6) hx hb hts inX6 tyX6 tyX6_ok nmX6 hown hK hS fa_0 hAh rfl 3 (by decide) (hts (.fieldLink RX6 26 "HalfTickets" "slots" "[LHalfTickets$Ministry;") (List.mem_of_getElem? (i := 13) (by decide +kernel))) (fun _ h9 => h9) rfl hin rfl (by decide +kernel) rfl rfl (Nat.le_of_ble_eq_true rfl) dX6_init_42 (fun H locs fa_0 hz9 ho hS => ?_)
  replace hz := hz9.trans hz
  clear hz9
  have fa_0 : va_at G vwCl (h, .inr (6, [.ref (h + 1), .ref (h + 83), .ref (h + 165), .ref (h + 659), .null, .null])) H := fa_0
  replace fp_2 := fp_2.kept (fun q hq => ho q (by omega))
  replace fp_4 := fp_4.kept (fun q hq => ho q (by omega))
  replace fp_6 := fp_6.kept (fun q hq => ho q (by omega))
  replace fa_7 := va_at.kept fa_7 (ho (h + 659) (by omega))
  clear ho
  refine lv_iconst (v := (nI 0)) hx hb dX6_init_45 (by decide) ?_
  refine lv_istore_n (lv' := [(1, .int (nI 0)), (0, .ref h)]) hx hb dX6_init_46 rfl hl (by decide) rfl (fun ls hl => ?_)
  refine lv_iload_n hx hb dX6_init_47 rfl (lv_at hl 0 rfl) ?_
  refine lv_aload_n hx hb dX6_init_48 rfl (lv_at hl 1 rfl) ?_
  refine xk_get (ci := 6) (C := RX6) (T := TX6) (N := 6) hx hb hts inX6 hown hK fa_0 rfl 3 (by decide) (hts (.fieldLink RX6 26 "HalfTickets" "slots" "[LHalfTickets$Ministry;") (List.mem_of_getElem? (i := 13) (by decide +kernel))) (fun _ h9 => h9) rfl dX6_init_49 ?_
  refine va_alen hx hb hK (xw_P1 fa_7) 0 5 rfl rfl (v := nI 2) rfl dX6_init_52 ?_
  refine lv_icmp_ge (tgt := 75) hx hb dX6_init_53 (by decide) (fun c_8 => ?_) (fun c_8 => ?_)
  · exact absurd c_8 (by decide)
  · refine lv_aload_n hx hb dX6_init_56 rfl (lv_at hl 1 rfl) ?_
    refine xk_get (ci := 6) (C := RX6) (T := TX6) (N := 6) hx hb hts inX6 hown hK fa_0 rfl 3 (by decide) (hts (.fieldLink RX6 26 "HalfTickets" "slots" "[LHalfTickets$Ministry;") (List.mem_of_getElem? (i := 13) (by decide +kernel))) (fun _ h9 => h9) rfl dX6_init_57 ?_
    refine lv_iload_n hx hb dX6_init_60 rfl (lv_at hl 0 rfl) ?_
    refine xk_new (h := (h + 660)) (ci := 2) (fs := [.null, .null, .null, .int 0, .int 0, .int 0, .int 0]) (C := RX2) (T := TX2) (N := 7) hx hb hts inX2 tyX2 tyX2_ok hown (hts (.classLink RX6 7 RX2) (List.mem_of_getElem? (i := 4) (by decide +kernel))) (hts (.instantiable RX2 7) (List.mem_of_getElem? (i := 5) (by decide +kernel))) (hts (.initialized RX2) (List.mem_of_getElem? (i := 6) (by decide +kernel))) hK hS hz rfl (fun j hj => by rcases (show j = 0 ∨ j = 1 ∨ j = 2 ∨ j = 3 ∨ j = 4 ∨ j = 5 ∨ j = 6 by omega) with rfl | rfl | rfl | rfl | rfl | rfl | rfl <;> rfl) (by decide +kernel) (by decide +kernel) dX6_init_61 (fun H fa_9 hz9 ho hS => ?_)
    replace hz := hz9
    clear hz9
    replace fa_0 := va_at.kept fa_0 (ho h (by omega))
    replace fp_2 := fp_2.kept (fun q hq => ho q (by omega))
    replace fp_4 := fp_4.kept (fun q hq => ho q (by omega))
    replace fp_6 := fp_6.kept (fun q hq => ho q (by omega))
    replace fa_7 := va_at.kept fa_7 (ho (h + 659) (by omega))
    clear ho
    refine lv_dup hx hb dX6_init_64 rfl ?_
    refine xk_I (As := []) (rest := [.ref (h + 660), .int (nI 0), .ref (h + 659)]) (sz := (h + 661)) ⟨hx, hb, hml, hown, hts⟩ (k_X2_init l (A := A) (h := (h + 660)) (sz := (h + 661)) (by omega) (fun q hq => hAA q (hq.elim (fun z => Or.inr (by omega)) (fun z => Or.inr (by omega))))) (cwI 0 hts gX6_init_X2_init rfl rfl rfl (hts (.initialized RX2) (List.mem_of_getElem? (i := 6) (by decide +kernel))) (hts (.methodLink RX6 9 yX2_init) (List.mem_of_getElem? (i := 20) (by decide +kernel))) (hts (.instanceMethod yX2_init) (List.mem_of_getElem? (i := 21) (by decide +kernel))) rfl (by decide +kernel) ⟨Nat.le_of_ble_eq_true rfl, Nat.le_of_ble_eq_true rfl⟩) hK hst hnw hS hAA hz fa_9 (fun q hq => hq.elim (fun z => Or.inr (by omega)) (fun z => Or.inr (by omega))) rfl hl.1 rfl (Nat.le_of_ble_eq_true rfl) dX6_init_65 ⟨by decide +kernel, by decide +kernel⟩ (fun H locs fp_10 hz9 ho hS => ?_)
    replace fa_0 := va_at.kept fa_0 (ho h (by omega))
    replace fp_2 := fp_2.kept (fun q hq => ho q (by omega))
    replace fp_4 := fp_4.kept (fun q hq => ho q (by omega))
    replace fp_6 := fp_6.kept (fun q hq => ho q (by omega))
    replace fa_7 := va_at.kept fa_7 (ho (h + 659) (by omega))
    clear ho
    replace hz : H.size = (h + 742) := by omega
    clear hz9
    refine xk_astq (r := (RX2, TX2, 7)) hx hb hK hS fa_7 (Or.inr (by omega)) 5 rfl fp_10.1 rfl 0 rfl (by decide) (by decide) dX6_init_68 (fun H locs fa_7 hz9 ho hS => ?_)
    replace hz := hz9.trans hz
    clear hz9
    have fa_7 := (show va_at G vwCl _ _ from fa_7)
    replace fa_0 := va_at.kept fa_0 (ho h (by omega))
    replace fp_2 := fp_2.kept (fun q hq => ho q (by omega))
    replace fp_4 := fp_4.kept (fun q hq => ho q (by omega))
    replace fp_6 := fp_6.kept (fun q hq => ho q (by omega))
    replace fp_10 := fp_10.kept (fun q hq => ho q (by omega))
    clear ho
    refine lv_iinc (v := (nI 1)) (lv' := [(1, .int (nI 1)), (0, .ref h)]) hx hb dX6_init_69 hl (k := 0) rfl (rfl) (by decide) rfl (fun ls hl => ?_)
    refine lv_goto (tgt := 47) hx hb dX6_init_72 (by decide) ?_
    refine lv_iload_n hx hb dX6_init_47 rfl (lv_at hl 0 rfl) ?_
    refine lv_aload_n hx hb dX6_init_48 rfl (lv_at hl 1 rfl) ?_
    refine xk_get (ci := 6) (C := RX6) (T := TX6) (N := 6) hx hb hts inX6 hown hK fa_0 rfl 3 (by decide) (hts (.fieldLink RX6 26 "HalfTickets" "slots" "[LHalfTickets$Ministry;") (List.mem_of_getElem? (i := 13) (by decide +kernel))) (fun _ h9 => h9) rfl dX6_init_49 ?_
    refine va_alen hx hb hK (xw_P1 fa_7) 0 5 rfl rfl (v := nI 2) rfl dX6_init_52 ?_
    refine lv_icmp_ge (tgt := 75) hx hb dX6_init_53 (by decide) (fun c_11 => ?_) (fun c_11 => ?_)
    · exact absurd c_11 (by decide)
    · refine lv_aload_n hx hb dX6_init_56 rfl (lv_at hl 1 rfl) ?_
      refine xk_get (ci := 6) (C := RX6) (T := TX6) (N := 6) hx hb hts inX6 hown hK fa_0 rfl 3 (by decide) (hts (.fieldLink RX6 26 "HalfTickets" "slots" "[LHalfTickets$Ministry;") (List.mem_of_getElem? (i := 13) (by decide +kernel))) (fun _ h9 => h9) rfl dX6_init_57 ?_
      refine lv_iload_n hx hb dX6_init_60 rfl (lv_at hl 0 rfl) ?_
      refine xk_new (h := (h + 742)) (ci := 2) (fs := [.null, .null, .null, .int 0, .int 0, .int 0, .int 0]) (C := RX2) (T := TX2) (N := 7) hx hb hts inX2 tyX2 tyX2_ok hown (hts (.classLink RX6 7 RX2) (List.mem_of_getElem? (i := 4) (by decide +kernel))) (hts (.instantiable RX2 7) (List.mem_of_getElem? (i := 5) (by decide +kernel))) (hts (.initialized RX2) (List.mem_of_getElem? (i := 6) (by decide +kernel))) hK hS hz rfl (fun j hj => by rcases (show j = 0 ∨ j = 1 ∨ j = 2 ∨ j = 3 ∨ j = 4 ∨ j = 5 ∨ j = 6 by omega) with rfl | rfl | rfl | rfl | rfl | rfl | rfl <;> rfl) (by decide +kernel) (by decide +kernel) dX6_init_61 (fun H fa_12 hz9 ho hS => ?_)
      replace hz := hz9
      clear hz9
      replace fa_0 := va_at.kept fa_0 (ho h (by omega))
      replace fp_2 := fp_2.kept (fun q hq => ho q (by omega))
      replace fp_4 := fp_4.kept (fun q hq => ho q (by omega))
      replace fp_6 := fp_6.kept (fun q hq => ho q (by omega))
      replace fa_7 := va_at.kept fa_7 (ho (h + 659) (by omega))
      replace fp_10 := fp_10.kept (fun q hq => ho q (by omega))
      clear ho
      refine lv_dup hx hb dX6_init_64 rfl ?_
      refine xk_I (As := []) (rest := [.ref (h + 742), .int (nI 1), .ref (h + 659)]) (sz := (h + 743)) ⟨hx, hb, hml, hown, hts⟩ (k_X2_init l (A := A) (h := (h + 742)) (sz := (h + 743)) (by omega) (fun q hq => hAA q (hq.elim (fun z => Or.inr (by omega)) (fun z => Or.inr (by omega))))) (cwI 0 hts gX6_init_X2_init rfl rfl rfl (hts (.initialized RX2) (List.mem_of_getElem? (i := 6) (by decide +kernel))) (hts (.methodLink RX6 9 yX2_init) (List.mem_of_getElem? (i := 20) (by decide +kernel))) (hts (.instanceMethod yX2_init) (List.mem_of_getElem? (i := 21) (by decide +kernel))) rfl (by decide +kernel) ⟨Nat.le_of_ble_eq_true rfl, Nat.le_of_ble_eq_true rfl⟩) hK hst hnw hS hAA hz fa_12 (fun q hq => hq.elim (fun z => Or.inr (by omega)) (fun z => Or.inr (by omega))) rfl hl.1 rfl (Nat.le_of_ble_eq_true rfl) dX6_init_65 ⟨by decide +kernel, by decide +kernel⟩ (fun H locs fp_13 hz9 ho hS => ?_)
      replace fa_0 := va_at.kept fa_0 (ho h (by omega))
      replace fp_2 := fp_2.kept (fun q hq => ho q (by omega))
      replace fp_4 := fp_4.kept (fun q hq => ho q (by omega))
      replace fp_6 := fp_6.kept (fun q hq => ho q (by omega))
      replace fa_7 := va_at.kept fa_7 (ho (h + 659) (by omega))
      replace fp_10 := fp_10.kept (fun q hq => ho q (by omega))
      clear ho
      replace hz : H.size = (h + 824) := by omega
      clear hz9
      refine xk_astq (r := (RX2, TX2, 7)) hx hb hK hS fa_7 (Or.inr (by omega)) 5 rfl fp_13.1 rfl 1 rfl (by decide) (by decide) dX6_init_68 (fun H locs fa_7 hz9 ho hS => ?_)
      replace hz := hz9.trans hz
      clear hz9
      have fa_7 := (show va_at G vwCl _ _ from fa_7)
      replace fa_0 := va_at.kept fa_0 (ho h (by omega))
      replace fp_2 := fp_2.kept (fun q hq => ho q (by omega))
      replace fp_4 := fp_4.kept (fun q hq => ho q (by omega))
      replace fp_6 := fp_6.kept (fun q hq => ho q (by omega))
      replace fp_10 := fp_10.kept (fun q hq => ho q (by omega))
      replace fp_13 := fp_13.kept (fun q hq => ho q (by omega))
      clear ho
      refine lv_iinc (v := (nI 2)) (lv' := [(1, .int (nI 2)), (0, .ref h)]) hx hb dX6_init_69 hl (k := 0) rfl (rfl) (by decide) rfl (fun ls hl => ?_)
      refine lv_goto (tgt := 47) hx hb dX6_init_72 (by decide) ?_
      refine lv_iload_n hx hb dX6_init_47 rfl (lv_at hl 0 rfl) ?_
      refine lv_aload_n hx hb dX6_init_48 rfl (lv_at hl 1 rfl) ?_
      refine xk_get (ci := 6) (C := RX6) (T := TX6) (N := 6) hx hb hts inX6 hown hK fa_0 rfl 3 (by decide) (hts (.fieldLink RX6 26 "HalfTickets" "slots" "[LHalfTickets$Ministry;") (List.mem_of_getElem? (i := 13) (by decide +kernel))) (fun _ h9 => h9) rfl dX6_init_49 ?_
      refine va_alen hx hb hK (xw_P1 fa_7) 0 5 rfl rfl (v := nI 2) rfl dX6_init_52 ?_
      refine lv_icmp_ge (tgt := 75) hx hb dX6_init_53 (by decide) (fun c_14 => ?_) (fun c_14 => ?_)
      · refine lv_aload_n hx hb dX6_init_75 rfl (lv_at hl 1 rfl) ?_
        refine lv_iconst (v := (nI 2)) hx hb dX6_init_76 (by decide) ?_
        refine xk_newa (atype := .boolean) (h := (h + 824)) (N := 2) hx hb (hts (.arrayClass .boolean) (List.mem_of_getElem? (i := 14) (by decide +kernel))) (hK.2 1 _ rfl).2 hS hz rfl (by decide) (Nat.le_of_ble_eq_true rfl) (by decide +kernel) (by decide +kernel) dX6_init_77 (fun H fa_15 hz9 ho hS => ?_)
        replace hz := hz9
        clear hz9
        have fa_15 : va_at G vwCl ((h + 824), .inl (g 1, 2, .inl (fun _ => nI 0))) H := fa_15
        replace fa_0 := va_at.kept fa_0 (ho h (by omega))
        replace fp_2 := fp_2.kept (fun q hq => ho q (by omega))
        replace fp_4 := fp_4.kept (fun q hq => ho q (by omega))
        replace fp_6 := fp_6.kept (fun q hq => ho q (by omega))
        replace fa_7 := va_at.kept fa_7 (ho (h + 659) (by omega))
        replace fp_10 := fp_10.kept (fun q hq => ho q (by omega))
        replace fp_13 := fp_13.kept (fun q hq => ho q (by omega))
        clear ho
        refine xk_putF (ci := 6) (v := .ref (h + 824)) (ty := .array .boolean) (C := RX6) (T := TX6) (N := 6) hx hb hts inX6 tyX6 tyX6_ok nmX6 hown hK hS fa_0 hAh rfl 4 (by decide) (hts (.fieldLink RX6 30 "HalfTickets" "isSaved" "[Z") (List.mem_of_getElem? (i := 15) (by decide +kernel))) (fun _ h9 => h9) rfl hin rfl (by decide +kernel) rfl rfl (Nat.le_of_ble_eq_true rfl) dX6_init_79 (fun H locs fa_0 hz9 ho hS => ?_)
        replace hz := hz9.trans hz
        clear hz9
        have fa_0 : va_at G vwCl (h, .inr (6, [.ref (h + 1), .ref (h + 83), .ref (h + 165), .ref (h + 659), .ref (h + 824), .null])) H := fa_0
        replace fp_2 := fp_2.kept (fun q hq => ho q (by omega))
        replace fp_4 := fp_4.kept (fun q hq => ho q (by omega))
        replace fp_6 := fp_6.kept (fun q hq => ho q (by omega))
        replace fa_7 := va_at.kept fa_7 (ho (h + 659) (by omega))
        replace fp_10 := fp_10.kept (fun q hq => ho q (by omega))
        replace fp_13 := fp_13.kept (fun q hq => ho q (by omega))
        replace fa_15 := va_at.kept fa_15 (ho (h + 824) (by omega))
        clear ho
        refine lv_aload_n hx hb dX6_init_82 rfl (lv_at hl 1 rfl) ?_
        refine xk_new (h := (h + 825)) (ci := 3) (fs := [.null, .int 0]) (C := RX3) (T := TX3) (N := 2) hx hb hts inX3 tyX3 tyX3_ok hown (hts (.classLink RX6 34 RX3) (List.mem_of_getElem? (i := 16) (by decide +kernel))) (hts (.instantiable RX3 2) (List.mem_of_getElem? (i := 17) (by decide +kernel))) (hts (.initialized RX3) (List.mem_of_getElem? (i := 18) (by decide +kernel))) hK hS hz rfl (fun j hj => by rcases (show j = 0 ∨ j = 1 by omega) with rfl | rfl <;> rfl) (by decide +kernel) (by decide +kernel) dX6_init_83 (fun H fa_16 hz9 ho hS => ?_)
        replace hz := hz9
        clear hz9
        replace fa_0 := va_at.kept fa_0 (ho h (by omega))
        replace fp_2 := fp_2.kept (fun q hq => ho q (by omega))
        replace fp_4 := fp_4.kept (fun q hq => ho q (by omega))
        replace fp_6 := fp_6.kept (fun q hq => ho q (by omega))
        replace fa_7 := va_at.kept fa_7 (ho (h + 659) (by omega))
        replace fp_10 := fp_10.kept (fun q hq => ho q (by omega))
        replace fp_13 := fp_13.kept (fun q hq => ho q (by omega))
        replace fa_15 := va_at.kept fa_15 (ho (h + 824) (by omega))
        clear ho
        refine lv_dup hx hb dX6_init_86 rfl ?_
        refine xk_IN (As := []) (rest := [.ref (h + 825), .ref h]) (sz := (h + 826)) ⟨hx, hb, hml, hown, hts⟩ (k_X3_init l (A := A) (h := (h + 825)) (sz := (h + 826)) (by omega) (fun q hq => hAA q (hq.elim (fun z => Or.inr (by omega)) (fun z => Or.inr (by omega))))) ⟨va_cnB 0 hts gX6_init_X3_init_n36 rfl rfl rfl hnw.2.2.2.1 (hts (.initialized RX3) (List.mem_of_getElem? (i := 18) (by decide +kernel))) (by decide +kernel) ⟨Nat.le_of_ble_eq_true rfl, Nat.le_of_ble_eq_true rfl⟩, rfl, (hts (.instanceMethod yX3_init) (List.mem_of_getElem? (i := 71) (by decide +kernel)))⟩ hK hst hnw hS hAA hz fa_16 (fun q hq => hq.elim (fun z => Or.inr (by omega)) (fun z => Or.inr (by omega))) rfl hl.1 rfl (Nat.le_of_ble_eq_true rfl) dX6_init_87 ⟨by decide +kernel, by decide +kernel⟩ (fun H locs fp_17 hz9 ho hS => ?_)
        replace fa_0 := va_at.kept fa_0 (ho h (by omega))
        replace fp_2 := fp_2.kept (fun q hq => ho q (by omega))
        replace fp_4 := fp_4.kept (fun q hq => ho q (by omega))
        replace fp_6 := fp_6.kept (fun q hq => ho q (by omega))
        replace fa_7 := va_at.kept fa_7 (ho (h + 659) (by omega))
        replace fp_10 := fp_10.kept (fun q hq => ho q (by omega))
        replace fp_13 := fp_13.kept (fun q hq => ho q (by omega))
        replace fa_15 := va_at.kept fa_15 (ho (h + 824) (by omega))
        clear ho
        replace hz : H.size = (h + 827) := by omega
        clear hz9
        refine xk_putF (ci := 6) (v := .ref (h + 825)) (ty := .object "HalfTickets$Pad") (C := RX6) (T := TX6) (N := 6) hx hb hts inX6 tyX6 tyX6_ok nmX6 hown hK hS fa_0 hAh rfl 5 (by decide) (hts (.fieldLink RX6 37 "HalfTickets" "pad" "LHalfTickets$Pad;") (List.mem_of_getElem? (i := 19) (by decide +kernel))) (fun _ h9 => h9) rfl hin rfl (by decide +kernel) rfl rfl (Nat.le_of_ble_eq_true rfl) dX6_init_90 (fun H locs fa_0 hz9 ho hS => ?_)
        replace hz := hz9.trans hz
        clear hz9
        have fa_0 : va_at G vwCl (h, .inr (6, [.ref (h + 1), .ref (h + 83), .ref (h + 165), .ref (h + 659), .ref (h + 824), .ref (h + 825)])) H := fa_0
        replace fp_2 := fp_2.kept (fun q hq => ho q (by omega))
        replace fp_4 := fp_4.kept (fun q hq => ho q (by omega))
        replace fp_6 := fp_6.kept (fun q hq => ho q (by omega))
        replace fa_7 := va_at.kept fa_7 (ho (h + 659) (by omega))
        replace fp_10 := fp_10.kept (fun q hq => ho q (by omega))
        replace fp_13 := fp_13.kept (fun q hq => ho q (by omega))
        replace fa_15 := va_at.kept fa_15 (ho (h + 824) (by omega))
        replace fp_17 := fp_17.kept (fun q hq => ho q (by omega))
        clear ho
        exact W.vret hx hb hr (fun t ht hWm => ⟨⟨(), rfl, trivial, xk_end ht hz (show xk_B G g h H from ⟨fa_0, fp_2, fp_4, fp_6, xk_q fa_7 (fun j hj => by rcases (show j = 0 ∨ j = 1 by omega) with rfl | rfl <;> rfl), (fun j hj => by rcases (show j = 0 ∨ j = 1 by omega) with rfl | rfl; exact fp_10; exact fp_13), fa_15, fp_17⟩)⟩, hS.F ht⟩) hS.2.2 dX6_init_93
      · exact absurd (by decide) c_14
end
section
/-! THE CLASS AS FUNCTIONS OF THE MEMORY (a: a ministry's address) -/
def zl_pl (f : Nat → Int32) (n : Int32) : Nat → Nat
  | 0 => 0
  | L + 1 => if zl_pl f n L < L then zl_pl f n L else if f L = n then L else L + 1
/-- one taken out of the line at q, at its place j -/
def zl_rm (q j : Nat) (M : xm_T) : xm_T := xr_up (xu_p M q 1 (M q 1 - nI 1)) (q + 1) (fun i => if j ≤ i ∧ i + 1 < (M q 1).toNatClampNeg then M (q + 1) (i + 1) else M (q + 1) i)
def zl_rv (q : Nat) (n : Int32) (M : xm_T) : xm_T := if zl_pl (M (q + 1)) n (M q 1).toNatClampNeg < (M q 1).toNatClampNeg then zl_rm q (zl_pl (M (q + 1)) n (M q 1).toNatClampNeg) M else M
def zl_ap (q : Nat) (n : Int32) (M : xm_T) : xm_T := xu_p (xu_p M (q + 1) (M q 1).toNatClampNeg n) q 1 (M q 1 + nI 1)
/-- the window that the person at p needs -/
def zm_wz (M : xm_T) (p : Nat) : Nat := (M (p + 1) (M p 4).toNatClampNeg).toNatClampNeg
def zm_h (v : Int32) : Int32 := if v = 0 then nI 0 else nI 1
def zm_jn (a k : Nat) (M : xm_T) : xm_T := if zm_wz M (a + 2 * k + 34) < 6 then zl_ap (a + 5 * zm_wz M (a + 2 * k + 34) + 5) (M (a + 2 * k + 34) 0) (xu_p (xu_p M (a + 2 * k + 34) 3 (nI 0)) (a + 2 * k + 34) 8 (nI 0)) else M
def zm_go (p : Nat) (x y : Int32) (M : xm_T) : xm_T := xu_p (xu_p (xu_p M p 3 x) p 5 (nI 0)) p 10 y
def zm_sa (a k : Nat) (y : Int32) (M : xm_T) : xm_T := if zm_wz M (a + 2 * k + 34) < 6 then zm_go (a + 2 * k + 34) (nI 3) y (xu_p (zl_rv (a + 5 * zm_wz M (a + 2 * k + 34) + 5) (M (a + 2 * k + 34) 0) M) a 5 (M a 5 + zm_h (M (a + 2 * k + 34) 5))) else M
/-- done at the window w -/
def zm_f0 (a w k : Nat) (M : xm_T) : xm_T := zm_go (a + 2 * k + 34) (nI 2) (M a 4 + nI 1) (xu_p (xu_p (xu_p M (a + 5 * w + 4) 3 (M (a + 5 * w + 4) 3 + nI 1)) (a + 2 * k + 34) 4 (M (a + 2 * k + 34) 4 + nI 1)) (a + 5 * w + 4) 2 (M (a + 5 * w + 4) 2 + zm_h (M (a + 2 * k + 34) 5)))
/-- the window gives a half -/
def zm_f1 (a w k : Nat) (M : xm_T) : xm_T := zm_jn a k (xu_p (xu_p (xu_p (xu_p (xu_p M (a + 5 * w + 4) 3 (M (a + 5 * w + 4) 3 + nI 1)) (a + 5 * w + 4) 2 (M (a + 5 * w + 4) 2 + (if M (a + 2 * k + 34) 5 = 0 then (-1) else nI 0))) (a + 2 * k + 34) 5 (nI 1)) (a + 2 * k + 34) 4 (M (a + 2 * k + 34) 4 + nI 1)) (a + 2 * k + 34) 11 (nI 1))
/-- its own half is stamped -/
def zm_f2 (a w k : Nat) (M : xm_T) : xm_T := zm_jn a k (xu_p (xu_p (xu_p M (a + 5 * w + 4) 3 (M (a + 5 * w + 4) 3 + nI 1)) (a + 2 * k + 34) 4 (M (a + 2 * k + 34) 4 + nI 1)) (a + 2 * k + 34) 11 (nI 1))
/-- sent back -/
def zm_f3 (a w k : Nat) (M : xm_T) : xm_T := zm_jn a k (xu_p (xu_p (xu_p (xu_p M (a + 5 * w + 4) 3 (M (a + 5 * w + 4) 3 + nI 1)) (a + 2 * k + 34) 9 (M (a + 2 * k + 34) 9 + nI 1)) (a + 5 * w + 4) 4 (M (a + 5 * w + 4) 4 + nI 1)) (a + 2 * k + 34) 11 (nI 1))
def zm_fi (a w k : Nat) (M : xm_T) : xm_T := if M (a + 2 * k + 34) 4 + nI 1 < M (a + 2 * k + 34) 2 then (if M (a + 5 * w + 4) 2 ≤ 0 then (if M (a + 2 * k + 34) 5 = 0 then zm_f3 a w k M else zm_f2 a w k M) else zm_f1 a w k M) else zm_f0 a w k M
def zm_it {σ : Type} (f : σ → σ) : Nat → σ → σ
  | 0, z => z
  | n + 1, z => f (zm_it f n z)
def zm_fo (f : Nat → xm_T → xm_T) : Nat → xm_T → xm_T
  | 0, M => M
  | n + 1, M => f n (zm_fo f n M)
/-- one turn of serveAt: memory and place -/
def zm_s0 (a w k : Nat) (z : xm_T × Nat) : xm_T × Nat := if z.1 (a + 2 * k + 34) 6 + nI 1 < z.1 (a + 1) 0 then (xu_p z.1 (a + 2 * k + 34) 6 (z.1 (a + 2 * k + 34) 6 + nI 1), z.2 + 1) else (zm_fi a w k (zl_rv (a + 5 * w + 7) (z.1 (a + 2 * k + 34) 0) (xu_p z.1 (a + 2 * k + 34) 6 (z.1 (a + 2 * k + 34) 6 + nI 1))), z.2)
def zm_s1 (a w : Nat) (z : xm_T × Nat) : xm_T × Nat := if (z.1 (a + 5 * w + 8) z.2).toNatClampNeg < 24 then zm_s0 a w (z.1 (a + 5 * w + 8) z.2).toNatClampNeg z else z
def zm_sv (a w : Nat) (M : xm_T) : xm_T := (zm_it (zm_s1 a w) (M (a + 5 * w + 7) 1).toNatClampNeg (M, 0)).1
/-- one turn of callAt -/
def zm_cp (a w : Nat) (M : xm_T) : Nat := (M (a + 5 * w + 6) 0).toNatClampNeg
abbrev zm_c0 (a w : Nat) (M : xm_T) : Prop := M (a + 5 * w + 5) 1 = nI 0 ∨ ¬ zm_cp a w M < 24 ∨ ¬ M (a + 2 * zm_cp a w M + 34) 11 = 0
def zm_c2 (a w k : Nat) (M : xm_T) : xm_T := xu_p (xu_p (zl_ap (a + 5 * w + 7) (M (a + 2 * k + 34) 0) (zl_rv (a + 5 * w + 5) (M (a + 2 * k + 34) 0) M)) (a + 2 * k + 34) 3 (nI 1)) (a + 2 * k + 34) 6 (nI 0)
def zm_cl (a w : Nat) : Nat → xm_T → xm_T
  | 0, M => M
  | n + 1, M => if zm_c0 a w M then M else zm_cl a w n (zm_c2 a w (zm_cp a w M) M)
def zm_ca (a w : Nat) (M : xm_T) : xm_T := zm_cl a w (M (a + 5 * w + 4) 1 - M (a + 5 * w + 7) 1).toNatClampNeg M
/-- one person waits -/
def zm_w0 (a k : Nat) (M : xm_T) : xm_T := xu_p (xu_p M (a + 2 * k + 34) 7 (M (a + 2 * k + 34) 7 + nI 1)) (a + 2 * k + 34) 8 (M (a + 2 * k + 34) 8 + nI 1)
def zm_w1 (a k : Nat) (M : xm_T) : xm_T := if M (a + 2 * k + 34) 3 = 0 then (if ¬ M (a + 1) 2 = 0 ∧ ¬ M (a + 2 * k + 34) 8 + nI 1 < M (a + 1) 2 then zm_sa a k (M a 4 + nI 1) (zm_w0 a k M) else zm_w0 a k M) else M
def zm_wa (a : Nat) (M : xm_T) : xm_T := zm_fo (zm_w1 a) 24 M
def zm_cf (a k : Nat) (M : xm_T) : xm_T := xu_p M (a + 2 * k + 34) 11 (nI 0)
def zm_v1 (a w : Nat) (M : xm_T) : xm_T := if M (a + 5 * w + 4) 0 = 0 then M else zm_ca a w (zm_sv a w M)
def zm_t0 (a : Nat) (M : xm_T) : xm_T := zm_wa a (zm_fo (zm_v1 a) 6 (zm_fo (zm_cf a) 24 M))
def zm_ti (a : Nat) (M : xm_T) : xm_T := xu_p (zm_t0 a M) a 4 (zm_t0 a M a 4 + nI 1)
/-- one person comes, with an errand of m windows -/
def zm_a0 (a k m : Nat) (e : Nat → Int32) (M : xm_T) : xm_T := xu_p (xr_up (xu_p M a 3 (M a 3 + nI 1)) (a + 2 * k + 35) (fun j => if j < m then e j else M (a + 2 * k + 35) j)) (a + 2 * k + 34) 2 (nI m)
def zm_ad (a m : Nat) (e : Nat → Int32) (M : xm_T) : xm_T := if (M a 3).toNatClampNeg < 24 then zm_jn a (M a 3).toNatClampNeg (zm_a0 a (M a 3).toNatClampNeg m e M) else M

/-! SAME BLOCK, SAME OUTCOME -/
def zz_g (a b : Nat) (M N : xm_T) : Prop := ∀ c, c < 82 → M (a + c) = N (b + c)
def zz_o (a : Nat) (M M' : xm_T) : Prop := ∀ x, x < a ∨ a + 82 ≤ x → M' x = M x
def zz_Z (a b : Nat) (M N M' N' : xm_T) : Prop := zz_g a b M' N' ∧ zz_o a M M' ∧ zz_o b N N'
theorem zZ_rf {a b : Nat} {M N : xm_T} (h : zz_g a b M N) : zz_Z a b M N M N := ⟨h, fun _ _ => rfl, fun _ _ => rfl⟩
theorem zz_Z.tr {a b : Nat} {M N M1 N1 M2 N2 : xm_T} (h : zz_Z a b M N M1 N1) (h2 : zz_Z a b M1 N1 M2 N2) : zz_Z a b M N M2 N2 := ⟨h2.1, fun x hx => (h2.2.1 x hx).trans (h.2.1 x hx), fun x hx => (h2.2.2 x hx).trans (h.2.2 x hx)⟩
theorem zz_Z.rd {a b : Nat} {M N M1 N1 : xm_T} (h : zz_Z a b M N M1 N1) (c : Nat) (hc : c < 82) {x y : Nat} (hx : x = a + c) (hy : y = b + c) : M1 x = N1 y := by subst hx; subst hy; exact h.1 c hc
theorem zz_Z.row {a b : Nat} {M N M1 N1 : xm_T} (h : zz_Z a b M N M1 N1) (c : Nat) (hc : c < 82) {x y : Nat} (hx : x = a + c) (hy : y = b + c) {f f' : Nat → Int32} (hf : f = f') : zz_Z a b M N (xr_up M1 x f) (xr_up N1 y f') := by
  subst hx; subst hy; subst hf
  refine ⟨fun d hd => ?_, fun z hz => ?_, fun z hz => ?_⟩
  · by_cases hdc : d = c
    · subst hdc; rw [xr_s, xr_s]
    · rw [xr_n _ _ (by omega), xr_n _ _ (by omega)]; exact h.1 d hd
  · rw [xr_n _ _ (by omega)]; exact h.2.1 z hz
  · rw [xr_n _ _ (by omega)]; exact h.2.2 z hz
theorem zz_Z.up {a b : Nat} {M N M1 N1 : xm_T} (h : zz_Z a b M N M1 N1) (c : Nat) (hc : c < 82) {x y : Nat} (hx : x = a + c) (hy : y = b + c) (i : Nat) {u v : Int32} (hu : u = v) : zz_Z a b M N (xu_p M1 x i u) (xu_p N1 y i v) := by
  unfold xu_p
  exact h.row c hc hx hy (by rw [h.rd c hc hx hy, hu])
theorem zZ_rv {a b : Nat} {M N M1 N1 : xm_T} (h : zz_Z a b M N M1 N1) (c : Nat) (hc : c + 1 < 82) {x y : Nat} (hx : x = a + c) (hy : y = b + c) {n n' : Int32} (hn : n = n') : zz_Z a b M N (zl_rv x n M1) (zl_rv y n' N1) := by
  have e1 := h.rd c (by omega) hx hy
  have e2 := h.rd (c + 1) hc (x := x + 1) (y := y + 1) (by omega) (by omega)
  subst hn
  unfold zl_rv
  rw [e1, e2]
  by_cases q : zl_pl (N1 (y + 1)) n (N1 y 1).toNatClampNeg < (N1 y 1).toNatClampNeg
  · rw [if_pos q, if_pos q]
    unfold zl_rm
    rw [e1, e2]
    exact (h.up c (by omega) hx hy 1 rfl).row (c + 1) hc (by omega) (by omega) rfl
  · rw [if_neg q, if_neg q]
    exact h
theorem zZ_ap {a b : Nat} {M N M1 N1 : xm_T} (h : zz_Z a b M N M1 N1) (c : Nat) (hc : c + 1 < 82) {x y : Nat} (hx : x = a + c) (hy : y = b + c) {n n' : Int32} (hn : n = n') : zz_Z a b M N (zl_ap x n M1) (zl_ap y n' N1) := by
  have e1 := h.rd c (by omega) hx hy
  subst hn
  unfold zl_ap
  rw [e1]
  exact (h.up (c + 1) hc (by omega) (by omega) _ rfl).up c (by omega) hx hy 1 rfl
theorem zZ_go {a b : Nat} {M N M1 N1 : xm_T} (h : zz_Z a b M N M1 N1) (c : Nat) (hc : c < 82) {x y : Nat} (hx : x = a + c) (hy : y = b + c) {u u' v v' : Int32} (hu : u = u') (hv : v = v') : zz_Z a b M N (zm_go x u v M1) (zm_go y u' v' N1) := by
  subst hu; subst hv
  exact ((h.up c hc hx hy 3 rfl).up c hc hx hy 5 rfl).up c hc hx hy 10 rfl
theorem zZ_wz {a b : Nat} {M N M1 N1 : xm_T} (h : zz_Z a b M N M1 N1) {k : Nat} (hk : k < 24) : zm_wz M1 (a + 2 * k + 34) = zm_wz N1 (b + 2 * k + 34) := by
  have e1 := h.rd (2 * k + 34) (by omega) (x := a + 2 * k + 34) (y := b + 2 * k + 34) (by omega) (by omega)
  have e2 := h.rd (2 * k + 35) (by omega) (x := a + 2 * k + 34 + 1) (y := b + 2 * k + 34 + 1) (by omega) (by omega)
  unfold zm_wz
  rw [e1, e2]
theorem zZ_jn {a b : Nat} {M N M1 N1 : xm_T} (h : zz_Z a b M N M1 N1) {k : Nat} (hk : k < 24) : zz_Z a b M N (zm_jn a k M1) (zm_jn b k N1) := by
  have e1 := h.rd (2 * k + 34) (by omega) (x := a + 2 * k + 34) (y := b + 2 * k + 34) (by omega) (by omega)
  unfold zm_jn
  rw [zZ_wz h hk, e1]
  by_cases q : zm_wz N1 (b + 2 * k + 34) < 6
  · rw [if_pos q, if_pos q]
    exact zZ_ap ((h.up (2 * k + 34) (by omega) (by omega) (by omega) 3 rfl).up (2 * k + 34) (by omega) (by omega) (by omega) 8 rfl) (5 * zm_wz N1 (b + 2 * k + 34) + 5) (by omega) (by omega) (by omega) rfl
  · rw [if_neg q, if_neg q]
    exact h
theorem zZ_sa {a b : Nat} {M N M1 N1 : xm_T} (h : zz_Z a b M N M1 N1) {k : Nat} (hk : k < 24) {y y' : Int32} (hy : y = y') : zz_Z a b M N (zm_sa a k y M1) (zm_sa b k y' N1) := by
  have e1 := h.rd (2 * k + 34) (by omega) (x := a + 2 * k + 34) (y := b + 2 * k + 34) (by omega) (by omega)
  have e0 := h.rd 0 (by omega) (x := a) (y := b) (by omega) (by omega)
  unfold zm_sa
  rw [zZ_wz h hk, e1, e0]
  by_cases q : zm_wz N1 (b + 2 * k + 34) < 6
  · rw [if_pos q, if_pos q]
    exact zZ_go ((zZ_rv h (5 * zm_wz N1 (b + 2 * k + 34) + 5) (by omega) (by omega) (by omega) rfl).up 0 (by omega) (by omega) (by omega) 5 rfl) (2 * k + 34) (by omega) (by omega) (by omega) rfl hy
  · rw [if_neg q, if_neg q]
    exact h
theorem zZ_fi {a b : Nat} {M N M1 N1 : xm_T} (h : zz_Z a b M N M1 N1) {w k : Nat} (hw : w < 6) (hk : k < 24) : zz_Z a b M N (zm_fi a w k M1) (zm_fi b w k N1) := by
  have e1 := h.rd (2 * k + 34) (by omega) (x := a + 2 * k + 34) (y := b + 2 * k + 34) (by omega) (by omega)
  have e0 := h.rd 0 (by omega) (x := a) (y := b) (by omega) (by omega)
  have e2 := h.rd (5 * w + 4) (by omega) (x := a + 5 * w + 4) (y := b + 5 * w + 4) (by omega) (by omega)
  have hV : ∀ {P Q : xm_T} (i : Nat) {u v : Int32}, zz_Z a b M N P Q → u = v → zz_Z a b M N (xu_p P (a + 5 * w + 4) i u) (xu_p Q (b + 5 * w + 4) i v) := fun i _ _ g q => g.up (5 * w + 4) (by omega) (by omega) (by omega) i q
  have hP : ∀ {P Q : xm_T} (i : Nat) {u v : Int32}, zz_Z a b M N P Q → u = v → zz_Z a b M N (xu_p P (a + 2 * k + 34) i u) (xu_p Q (b + 2 * k + 34) i v) := fun i _ _ g q => g.up (2 * k + 34) (by omega) (by omega) (by omega) i q
  unfold zm_fi zm_f0 zm_f1 zm_f2 zm_f3
  rw [e1, e0, e2]
  by_cases q : N1 (b + 2 * k + 34) 4 + nI 1 < N1 (b + 2 * k + 34) 2
  · rw [if_pos q, if_pos q]
    by_cases q2 : N1 (b + 5 * w + 4) 2 ≤ 0
    · rw [if_pos q2, if_pos q2]
      by_cases q3 : N1 (b + 2 * k + 34) 5 = 0
      · rw [if_pos q3, if_pos q3]
        exact zZ_jn (hP 11 (hV 4 (hP 9 (hV 3 h rfl) rfl) rfl) rfl) hk
      · rw [if_neg q3, if_neg q3]
        exact zZ_jn (hP 11 (hP 4 (hV 3 h rfl) rfl) rfl) hk
    · rw [if_neg q2, if_neg q2]
      exact zZ_jn (hP 11 (hP 4 (hP 5 (hV 2 (hV 3 h rfl) rfl) rfl) rfl) rfl) hk
  · rw [if_neg q, if_neg q]
    exact zZ_go (hV 2 (hP 4 (hV 3 h rfl) rfl) rfl) (2 * k + 34) (by omega) (by omega) (by omega) rfl rfl
theorem zZ_s1 {a b : Nat} {M N : xm_T} {z y : xm_T × Nat} (h : zz_Z a b M N z.1 y.1) (hzy : z.2 = y.2) {w : Nat} (hw : w < 6) : zz_Z a b M N (zm_s1 a w z).1 (zm_s1 b w y).1 ∧ (zm_s1 a w z).2 = (zm_s1 b w y).2 := by
  have e8 := h.rd (5 * w + 8) (by omega) (x := a + 5 * w + 8) (y := b + 5 * w + 8) (by omega) (by omega)
  unfold zm_s1
  rw [e8, hzy]
  generalize (y.1 (b + 5 * w + 8) y.2).toNatClampNeg = k
  by_cases hk : k < 24
  · rw [if_pos hk, if_pos hk]
    have e1 := h.rd (2 * k + 34) (by omega) (x := a + 2 * k + 34) (y := b + 2 * k + 34) (by omega) (by omega)
    have e2 := h.rd 1 (by omega) (x := a + 1) (y := b + 1) (by omega) (by omega)
    unfold zm_s0
    rw [e1, e2]
    have g := h.up (2 * k + 34) (by omega) (x := a + 2 * k + 34) (y := b + 2 * k + 34) (by omega) (by omega) 6 (u := y.1 (b + 2 * k + 34) 6 + nI 1) rfl
    by_cases q : y.1 (b + 2 * k + 34) 6 + nI 1 < y.1 (b + 1) 0
    · rw [if_pos q, if_pos q]
      exact ⟨g, congrArg (· + 1) hzy⟩
    · rw [if_neg q, if_neg q]
      exact ⟨zZ_fi (zZ_rv g (5 * w + 7) (by omega) (by omega) (by omega) rfl) hw hk, hzy⟩
  · rw [if_neg hk, if_neg hk]
    exact ⟨h, hzy⟩
theorem zZ_sv {a b : Nat} {M N M1 N1 : xm_T} (h : zz_Z a b M N M1 N1) {w : Nat} (hw : w < 6) : zz_Z a b M N (zm_sv a w M1) (zm_sv b w N1) := by
  have e7 := h.rd (5 * w + 7) (by omega) (x := a + 5 * w + 7) (y := b + 5 * w + 7) (by omega) (by omega)
  unfold zm_sv
  rw [e7]
  generalize (N1 (b + 5 * w + 7) 1).toNatClampNeg = n
  have key : ∀ n, zz_Z a b M N (zm_it (zm_s1 a w) n (M1, 0)).1 (zm_it (zm_s1 b w) n (N1, 0)).1 ∧ (zm_it (zm_s1 a w) n (M1, 0)).2 = (zm_it (zm_s1 b w) n (N1, 0)).2 := by
    intro n
    induction n with
    | zero => exact ⟨h, rfl⟩
    | succ n ih => exact zZ_s1 ih.1 ih.2 hw
  exact (key n).1
theorem zZ_cl {a b : Nat} {M N : xm_T} {w : Nat} (hw : w < 6) : ∀ (n : Nat) {M1 N1 : xm_T}, zz_Z a b M N M1 N1 → zz_Z a b M N (zm_cl a w n M1) (zm_cl b w n N1) := by
  intro n
  induction n with
  | zero => intro M1 N1 h; exact h
  | succ n ih =>
    intro M1 N1 h
    have e5 := h.rd (5 * w + 5) (by omega) (x := a + 5 * w + 5) (y := b + 5 * w + 5) (by omega) (by omega)
    have e6 := h.rd (5 * w + 6) (by omega) (x := a + 5 * w + 6) (y := b + 5 * w + 6) (by omega) (by omega)
    have ec : zm_cp a w M1 = zm_cp b w N1 := by unfold zm_cp; rw [e6]
    show zz_Z a b M N (if zm_c0 a w M1 then M1 else zm_cl a w n (zm_c2 a w (zm_cp a w M1) M1)) (if zm_c0 b w N1 then N1 else zm_cl b w n (zm_c2 b w (zm_cp b w N1) N1))
    by_cases hk : zm_cp b w N1 < 24
    · have e1 := h.rd (2 * zm_cp b w N1 + 34) (by omega) (x := a + 2 * zm_cp b w N1 + 34) (y := b + 2 * zm_cp b w N1 + 34) (by omega) (by omega)
      have hc : zm_c0 a w M1 ↔ zm_c0 b w N1 := by unfold zm_c0; rw [e5, ec, e1]
      by_cases q : zm_c0 b w N1
      · rw [if_pos q, if_pos (hc.mpr q)]
        exact h
      · rw [if_neg q, if_neg (fun z => q (hc.mp z)), ec]
        refine ih ?_
        unfold zm_c2
        rw [e1]
        exact ((zZ_ap (zZ_rv h (5 * w + 5) (by omega) (by omega) (by omega) rfl) (5 * w + 7) (by omega) (by omega) (by omega) rfl).up (2 * zm_cp b w N1 + 34) (by omega) (by omega) (by omega) 3 rfl).up (2 * zm_cp b w N1 + 34) (by omega) (by omega) (by omega) 6 rfl
    · rw [if_pos (Or.inr (Or.inl hk)), if_pos (Or.inr (Or.inl (by rw [ec]; exact hk)))]
      exact h
theorem zZ_ca {a b : Nat} {M N M1 N1 : xm_T} (h : zz_Z a b M N M1 N1) {w : Nat} (hw : w < 6) : zz_Z a b M N (zm_ca a w M1) (zm_ca b w N1) := by
  unfold zm_ca
  rw [h.rd (5 * w + 7) (by omega) (x := a + 5 * w + 7) (y := b + 5 * w + 7) (by omega) (by omega), h.rd (5 * w + 4) (by omega) (x := a + 5 * w + 4) (y := b + 5 * w + 4) (by omega) (by omega)]
  exact zZ_cl hw _ h
theorem zZ_fo {a b : Nat} {M N : xm_T} {f g : Nat → xm_T → xm_T} {L : Nat} (hf : ∀ (k : Nat) {M1 N1 : xm_T}, k < L → zz_Z a b M N M1 N1 → zz_Z a b M N (f k M1) (g k N1)) : ∀ (n : Nat) {M1 N1 : xm_T}, n ≤ L → zz_Z a b M N M1 N1 → zz_Z a b M N (zm_fo f n M1) (zm_fo g n N1) := by
  intro n
  induction n with
  | zero => intro M1 N1 _ h; exact h
  | succ n ih => intro M1 N1 hn h; exact hf n (by omega) (ih (by omega) h)
theorem zZ_w1 {a b : Nat} {M N M1 N1 : xm_T} (h : zz_Z a b M N M1 N1) {k : Nat} (hk : k < 24) : zz_Z a b M N (zm_w1 a k M1) (zm_w1 b k N1) := by
  have e1 := h.rd (2 * k + 34) (by omega) (x := a + 2 * k + 34) (y := b + 2 * k + 34) (by omega) (by omega)
  have e0 := h.rd 0 (by omega) (x := a) (y := b) (by omega) (by omega)
  have e2 := h.rd 1 (by omega) (x := a + 1) (y := b + 1) (by omega) (by omega)
  have g : zz_Z a b M N (zm_w0 a k M1) (zm_w0 b k N1) := by
    unfold zm_w0
    rw [e1]
    exact (h.up (2 * k + 34) (by omega) (by omega) (by omega) 7 rfl).up (2 * k + 34) (by omega) (by omega) (by omega) 8 rfl
  unfold zm_w1
  rw [e1, e0, e2]
  by_cases q : N1 (b + 2 * k + 34) 3 = 0
  · rw [if_pos q, if_pos q]
    by_cases q2 : ¬ N1 (b + 1) 2 = 0 ∧ ¬ N1 (b + 2 * k + 34) 8 + nI 1 < N1 (b + 1) 2
    · rw [if_pos q2, if_pos q2]
      exact zZ_sa g hk rfl
    · rw [if_neg q2, if_neg q2]
      exact g
  · rw [if_neg q, if_neg q]
    exact h
theorem zZ_v1 {a b : Nat} {M N M1 N1 : xm_T} (h : zz_Z a b M N M1 N1) {w : Nat} (hw : w < 6) : zz_Z a b M N (zm_v1 a w M1) (zm_v1 b w N1) := by
  have e2 := h.rd (5 * w + 4) (by omega) (x := a + 5 * w + 4) (y := b + 5 * w + 4) (by omega) (by omega)
  unfold zm_v1
  rw [e2]
  by_cases q : N1 (b + 5 * w + 4) 0 = 0
  · rw [if_pos q, if_pos q]; exact h
  · rw [if_neg q, if_neg q]; exact zZ_ca (zZ_sv h hw) hw
theorem zZ_ti {a b : Nat} {M N M1 N1 : xm_T} (h : zz_Z a b M N M1 N1) : zz_Z a b M N (zm_ti a M1) (zm_ti b N1) := by
  have g1 : zz_Z a b M N (zm_fo (zm_cf a) 24 M1) (zm_fo (zm_cf b) 24 N1) := zZ_fo (L := 24) (f := zm_cf a) (g := zm_cf b) (fun k P Q hk g => by unfold zm_cf; exact g.up (2 * k + 34) (by omega) (by omega) (by omega) 11 rfl) 24 (Nat.le_refl _) h
  have g2 : zz_Z a b M N (zm_fo (zm_v1 a) 6 (zm_fo (zm_cf a) 24 M1)) (zm_fo (zm_v1 b) 6 (zm_fo (zm_cf b) 24 N1)) := zZ_fo (L := 6) (f := zm_v1 a) (g := zm_v1 b) (fun k P Q hk g => zZ_v1 g hk) 6 (Nat.le_refl _) g1
  have g : zz_Z a b M N (zm_t0 a M1) (zm_t0 b N1) := by
    unfold zm_t0 zm_wa
    exact zZ_fo (L := 24) (f := zm_w1 a) (g := zm_w1 b) (fun k P Q hk g => zZ_w1 g hk) 24 (Nat.le_refl _) g2
  unfold zm_ti
  rw [g.rd 0 (by omega) (x := a) (y := b) (by omega) (by omega)]
  exact g.up 0 (by omega) (by omega) (by omega) 4 rfl
theorem zZ_tn {a b : Nat} {M N M1 N1 : xm_T} (h : zz_Z a b M N M1 N1) : ∀ n : Nat, zz_Z a b M N (zm_it (zm_ti a) n M1) (zm_it (zm_ti b) n N1) := by
  intro n
  induction n with
  | zero => exact h
  | succ n ih => exact zZ_ti ih
theorem zZ_ad {a b : Nat} {M N M1 N1 : xm_T} (h : zz_Z a b M N M1 N1) {m m' : Nat} {e e' : Nat → Int32} (hm : m = m') (he : ∀ j, j < m → e j = e' j) : zz_Z a b M N (zm_ad a m e M1) (zm_ad b m' e' N1) := by
  subst hm
  have e0 := h.rd 0 (by omega) (x := a) (y := b) (by omega) (by omega)
  unfold zm_ad
  rw [e0]
  generalize (N1 b 3).toNatClampNeg = k
  by_cases hk : k < 24
  · rw [if_pos hk, if_pos hk]
    have e1 := h.rd (2 * k + 35) (by omega) (x := a + 2 * k + 35) (y := b + 2 * k + 35) (by omega) (by omega)
    refine zZ_jn ?_ hk
    unfold zm_a0
    rw [e0]
    refine ((h.up 0 (by omega) (by omega) (by omega) 3 rfl).row (2 * k + 35) (by omega) (by omega) (by omega) ?_).up (2 * k + 34) (by omega) (by omega) (by omega) 2 rfl
    funext j
    by_cases hj : j < m
    · rw [if_pos hj, if_pos hj, he j hj]
    · rw [if_neg hj, if_neg hj, e1]
  · rw [if_neg hk, if_neg hk]
    exact h
end
section
/-! LINES AS LISTS; SUMS -/
def zl_L (M : xm_T) (q : Nat) (w : List Nat) : Prop := w.length ≤ 24 ∧ M q 1 = nI w.length ∧ ∀ j k, w[j]? = some k → M (q + 1) j = nI k
theorem zI_inj {a b : Nat} (ha : a < 2 ^ 31) (hb : b < 2 ^ 31) (h : nI a = nI b) : a = b := by
  have h2 := congrArg Int32.toNatClampNeg h
  rwa [nI_clamp ha, nI_clamp hb] at h2
theorem zl_nd {w : List Nat} (hN : w.Nodup) {i j k : Nat} (hi : w[i]? = some k) (hj : w[j]? = some k) : i = j := by
  obtain ⟨g1, e1⟩ := List.getElem?_eq_some_iff.mp hi
  obtain ⟨g2, e2⟩ := List.getElem?_eq_some_iff.mp hj
  have hpw := List.pairwise_iff_getElem.mp hN
  rcases Nat.lt_trichotomy i j with q1 | q1 | q1
  · exact absurd (e1.trans e2.symm) (hpw i j g1 g2 q1)
  · exact q1
  · exact absurd (e2.trans e1.symm) (hpw j i g2 g1 q1)
theorem zl_le : ∀ {l l' : List Nat}, l.Nodup → (∀ x, x ∈ l → x ∈ l') → l.length ≤ l'.length
  | [], _, _, _ => Nat.zero_le _
  | x :: l, l', hN, hs => by
    have hx : x ∈ l' := hs x (List.mem_cons.mpr (Or.inl rfl))
    have hN2 := List.nodup_cons.mp hN
    have h1 : l.length ≤ (l'.erase x).length := zl_le hN2.2 (fun y hy => (List.mem_erase_of_ne (show y ≠ x from fun z => hN2.1 (by rw [← z]; exact hy))).mpr (hs y (List.mem_cons.mpr (Or.inr hy))))
    have h2 := List.length_erase_of_mem hx
    have h3 : 0 < l'.length := List.length_pos_of_mem hx
    rw [List.length_cons]
    omega
theorem zl_le24 {w : List Nat} {n : Nat} (hN : w.Nodup) (h : ∀ k, k ∈ w → k < n) : w.length ≤ n := by
  have h1 := zl_le hN (l' := List.range n) (fun x hx => List.mem_range.mpr (h x hx))
  rwa [List.length_range] at h1
theorem zl_L.eq {M M' : xm_T} {q q' : Nat} {w : List Nat} (h : zl_L M q w) (h1 : M' q' 1 = M q 1) (h2 : M' (q' + 1) = M (q + 1)) : zl_L M' q' w := ⟨h.1, h1.trans h.2.1, fun j k hj => by rw [h2]; exact h.2.2 j k hj⟩
theorem zl_L.ap {M : xm_T} {q : Nat} {w : List Nat} (h : zl_L M q w) (hlt : w.length < 24) (n : Nat) : zl_L (zl_ap q (nI n) M) q (w ++ [n]) := by
  refine ⟨by rw [List.length_append]; exact hlt, ?_, fun j k hj => ?_⟩
  · unfold zl_ap
    rw [xu_s, h.2.1, List.length_append]
    exact nI_add _ _
  · unfold zl_ap
    rw [xu_n _ (Or.inl (by omega)), h.2.1, nI_clamp (by omega)]
    by_cases hjw : j = w.length
    · subst hjw
      rw [xu_s]
      rw [List.getElem?_append_right (Nat.le_refl _), Nat.sub_self] at hj
      exact congrArg nI (Option.some.inj hj)
    · rw [xu_n _ (Or.inr hjw)]
      have hl := (List.getElem?_eq_some_iff.mp hj).1
      rw [List.length_append] at hl
      have hl2 : j < w.length := by
        have : ([n] : List Nat).length = 1 := rfl
        omega
      rw [List.getElem?_append_left hl2] at hj
      exact h.2.2 j k hj
theorem zl_ap_o {M : xm_T} {q x : Nat} {n : Int32} (h1 : x ≠ q) (h2 : x ≠ q + 1) : zl_ap q n M x = M x := by
  unfold zl_ap xu_p
  rw [xr_n _ _ h1, xr_n _ _ h2]
theorem zl_pl_none {f : Nat → Int32} {n : Int32} : ∀ {L : Nat}, (∀ i, i < L → f i ≠ n) → zl_pl f n L = L
  | 0, _ => rfl
  | L + 1, h => by
    show (if zl_pl f n L < L then zl_pl f n L else if f L = n then L else L + 1) = L + 1
    rw [zl_pl_none (fun i hi => h i (by omega)), if_neg (Nat.lt_irrefl L), if_neg (h L (by omega))]
theorem zl_pl_some {f : Nat → Int32} {n : Int32} : ∀ {L j : Nat}, j < L → f j = n → (∀ i, i < j → f i ≠ n) → zl_pl f n L = j
  | 0, _, h, _, _ => absurd h (Nat.not_lt_zero _)
  | L + 1, j, h, hj, hi => by
    show (if zl_pl f n L < L then zl_pl f n L else if f L = n then L else L + 1) = j
    by_cases hjL : j < L
    · rw [zl_pl_some hjL hj hi, if_pos hjL]
    · have e : j = L := by omega
      subst e
      rw [zl_pl_none hi, if_neg (Nat.lt_irrefl j), if_pos hj]
/-- the place of one who stands there -/
theorem zl_L.pl {M : xm_T} {q : Nat} {w : List Nat} (h : zl_L M q w) (hN : w.Nodup) (hb : ∀ x, x ∈ w → x < 24) {j k : Nat} (hj : w[j]? = some k) : zl_pl (M (q + 1)) (nI k) w.length = j := by
  refine zl_pl_some (List.getElem?_eq_some_iff.mp hj).1 (h.2.2 j k hj) (fun i hi z => ?_)
  have hil : i < w.length := by have := (List.getElem?_eq_some_iff.mp hj).1; omega
  have e := List.getElem?_eq_getElem hil
  have m1 := hb _ (List.mem_of_getElem? e)
  have m2 := hb _ (List.mem_of_getElem? hj)
  have e2 := zI_inj (by omega) (by omega) ((h.2.2 i _ e).symm.trans z)
  rw [e2] at e
  have := zl_nd hN e hj
  omega
theorem zl_L.pl0 {M : xm_T} {q : Nat} {w : List Nat} (h : zl_L M q w) (hb : ∀ x, x ∈ w → x < 24) {k : Nat} (hk : k < 24) (hn : k ∉ w) : zl_pl (M (q + 1)) (nI k) w.length = w.length := by
  refine zl_pl_none (fun i hi z => hn ?_)
  have e := List.getElem?_eq_getElem hi
  have m1 := hb _ (List.mem_of_getElem? e)
  have e2 := zI_inj (by omega) (by omega) ((h.2.2 i _ e).symm.trans z)
  rw [← e2]
  exact List.mem_of_getElem? e
theorem zl_L.rv {M : xm_T} {q : Nat} {w : List Nat} (h : zl_L M q w) (hN : w.Nodup) (hb : ∀ x, x ∈ w → x < 24) {j k : Nat} (hj : w[j]? = some k) : zl_L (zl_rv q (nI k) M) q (w.eraseIdx j) := by
  have hjl := (List.getElem?_eq_some_iff.mp hj).1
  have hl : (M q 1).toNatClampNeg = w.length := by rw [h.2.1, nI_clamp (by have := h.1; omega)]
  have hle : (w.eraseIdx j).length = w.length - 1 := List.length_eraseIdx_of_lt hjl
  unfold zl_rv
  rw [hl, h.pl hN hb hj, if_pos hjl]
  unfold zl_rm
  refine ⟨by have := h.1; omega, ?_, fun i k' hi => ?_⟩
  · rw [xr_n _ _ (by omega), xu_s, h.2.1, hle]
    have e : w.length = (w.length - 1) + 1 := by omega
    rw [e]
    exact nI_pred _
  · rw [xr_s, hl]
    have hil := (List.getElem?_eq_some_iff.mp hi).1
    rw [List.getElem?_eraseIdx] at hi
    by_cases hij : i < j
    · rw [if_pos hij] at hi
      rw [if_neg (by omega)]
      exact h.2.2 i k' hi
    · rw [if_neg hij] at hi
      rw [if_pos (by omega)]
      exact h.2.2 (i + 1) k' hi
theorem zl_rv_o {M : xm_T} {q x : Nat} {n : Int32} (h1 : x ≠ q) (h2 : x ≠ q + 1) : zl_rv q n M x = M x := by
  unfold zl_rv
  by_cases h : zl_pl (M (q + 1)) n (M q 1).toNatClampNeg < (M q 1).toNatClampNeg
  · rw [if_pos h]
    unfold zl_rm xu_p
    rw [xr_n _ _ h2, xr_n _ _ h1]
  · rw [if_neg h]
theorem zl_er {w : List Nat} (hN : w.Nodup) {j k : Nat} (hj : w[j]? = some k) (x : Nat) : x ∈ w.eraseIdx j ↔ x ∈ w ∧ x ≠ k := by
  rw [List.mem_eraseIdx_iff_getElem?]
  constructor
  · rintro ⟨i, hi, e⟩
    refine ⟨List.mem_of_getElem? e, fun z => hi ?_⟩
    rw [z] at e
    exact zl_nd hN e hj
  · rintro ⟨h1, h2⟩
    obtain ⟨i, e⟩ := List.getElem?_of_mem h1
    refine ⟨i, fun z => h2 ?_, e⟩
    rw [z, hj] at e
    exact (Option.some.inj e).symm
theorem zl_erN {w : List Nat} (hN : w.Nodup) (j : Nat) : (w.eraseIdx j).Nodup := List.Pairwise.eraseIdx j hN
theorem zl_apN {w : List Nat} (hN : w.Nodup) {k : Nat} (h : k ∉ w) : (w ++ [k]).Nodup := by
  rw [List.nodup_append]
  refine ⟨hN, List.nodup_cons.mpr ⟨List.not_mem_nil, List.nodup_nil⟩, fun x hx y hy e => h ?_⟩
  rw [List.mem_singleton] at hy
  rw [← hy, ← e]
  exact hx
theorem zs_c {f g : Nat → Int32} : ∀ {n : Nat}, (∀ k, k < n → g k = f k) → xf_sum g n = xf_sum f n
  | 0, _ => rfl
  | n + 1, h => by
    show xf_sum g n + g n = xf_sum f n + f n
    rw [zs_c (fun k hk => h k (by omega)), h n (by omega)]
theorem zs_up {f g : Nat → Int32} {k : Nat} : ∀ {n : Nat}, k < n → (∀ j, j < n → j ≠ k → g j = f j) → xf_sum g n = xf_sum f n + (g k - f k)
  | 0, h, _ => absurd h (Nat.not_lt_zero _)
  | n + 1, h, hj => by
    show xf_sum g n + g n = xf_sum f n + f n + (g k - f k)
    by_cases hkn : k = n
    · subst hkn
      rw [zs_c (f := f) (g := g) (fun j hjk => hj j (by omega) (by omega))]
      grind
    · rw [zs_up (by omega) (fun j hj1 hj2 => hj j (by omega) hj2), hj n (by omega) (by omega)]
      grind
end
section
/-! WHAT HOLDS OF A MINISTRY: n people, T ticks, G a bound of the ticks at which people went, B a bound of halves and servings -/
def zi_P (G : Nat) (f e : Nat → Int32) : Prop := ∃ m t : Nat, 1 ≤ m ∧ m ≤ 8 ∧ f 2 = nI m ∧ f 4 = nI t ∧ (∀ j, j < m → ∃ w, w < 6 ∧ e j = nI w) ∧ (((f 3 = nI 0 ∨ f 3 = nI 1) ∧ t < m ∧ f 10 = -6 ∧ (f 5 = nI 0 ∨ (f 5 = nI 1 ∧ 0 < t))) ∨ (f 3 = nI 2 ∧ t = m ∧ f 5 = nI 0 ∧ ∃ y, y ≤ G ∧ f 10 = nI y) ∨ (f 3 = nI 3 ∧ t < m ∧ f 5 = nI 0 ∧ ∃ y, y ≤ G ∧ f 10 = nI y))
def zi_N (f : Nat → Int32) : Prop := f 2 = nI 0 ∧ f 3 = nI 4 ∧ f 4 = nI 0 ∧ f 5 = nI 0 ∧ f 7 = nI 0 ∧ f 9 = nI 0 ∧ f 10 = -6
def zi_W (B : Nat) (f : Nat → Int32) : Prop := ∃ h s b : Nat, h ≤ B ∧ s ≤ B ∧ b ≤ s ∧ f 2 = nI h ∧ f 3 = nI s ∧ f 4 = nI b
def zi_Lw (a n : Nat) (M : xm_T) (w : Nat) (Q R : List Nat) : Prop := zl_L M (a + 5 * w + 5) Q ∧ zl_L M (a + 5 * w + 7) R ∧ Q.Nodup ∧ R.Nodup ∧ (∀ k, k ∈ Q ↔ k < n ∧ M (a + 2 * k + 34) 3 = nI 0 ∧ zm_wz M (a + 2 * k + 34) = w) ∧ ∀ k, k ∈ R ↔ k < n ∧ M (a + 2 * k + 34) 3 = nI 1 ∧ zm_wz M (a + 2 * k + 34) = w
def zi_L (a n : Nat) (M : xm_T) : Prop := ∃ Q R : Nat → List Nat, ∀ w, w < 6 → zi_Lw a n M w (Q w) (R w)
def zi_S (a : Nat) (M : xm_T) : Prop :=
  xf_sum (fun w => M (a + 5 * w + 4) 2) 6 + xf_sum (fun k => zm_h (M (a + 2 * k + 34) 5)) 24 + M a 5 = nI 48 + M a 6 ∧
  xf_sum (fun w => M (a + 5 * w + 4) 4) 6 = xf_sum (fun k => M (a + 2 * k + 34) 9) 24 ∧
  xf_sum (fun w => M (a + 5 * w + 4) 3) 6 = xf_sum (fun k => M (a + 2 * k + 34) 4) 24 + xf_sum (fun k => M (a + 2 * k + 34) 9) 24
def zi_A (a n T G : Nat) (M : xm_T) : Prop := n ≤ 24 ∧ M a 3 = nI n ∧ M a 4 = nI T ∧ T ≤ G ∧ ∃ v, v ≤ 20 ∧ M (a + 1) 1 = nI v
def zi (a : Nat) (M : xm_T) (n T G B : Nat) : Prop :=
  zi_A a n T G M ∧ (∀ k, k < 24 → M (a + 2 * k + 34) 0 = nI k) ∧ (∀ k, n ≤ k → k < 24 → zi_N (M (a + 2 * k + 34))) ∧ (∀ k, k < n → zi_P G (M (a + 2 * k + 34)) (M (a + 2 * k + 35))) ∧ (∀ w, w < 6 → zi_W B (M (a + 5 * w + 4))) ∧ zi_L a n M ∧ zi_S a M
/-- the person at p is at the window w, the one of its errand's m windows that has the place t -/
def zk_at (M : xm_T) (p t m w : Nat) : Prop := M p 2 = nI m ∧ M p 4 = nI t ∧ t < m ∧ m ≤ 8 ∧ M (p + 1) t = nI w ∧ w < 6
theorem zk_wz {M : xm_T} {p t m w : Nat} (h : zk_at M p t m w) : zm_wz M p = w := by
  obtain ⟨h1, h2, h3, h4, h5, h6⟩ := h
  unfold zm_wz
  rw [h2, nI_clamp (by omega), h5, nI_clamp (by omega)]
theorem zi.n {a n T G B : Nat} {M : xm_T} (h : zi a M n T G B) : n ≤ 24 := h.1.1
theorem zi_P.at {G p : Nat} {M : xm_T} (h : zi_P G (M p) (M (p + 1))) (hw : M p 3 = nI 0 ∨ M p 3 = nI 1) : ∃ t m w, zk_at M p t m w := by
  obtain ⟨m, t, h1, h2, h3, h4, h5, h6⟩ := h
  have e01 : ¬ nI 0 = nI 2 := by decide
  have e02 : ¬ nI 1 = nI 2 := by decide
  have e03 : ¬ nI 0 = nI 3 := by decide
  have e04 : ¬ nI 1 = nI 3 := by decide
  have ht : t < m := by
    rcases h6 with ⟨-, q, -⟩ | ⟨q, -⟩ | ⟨q, -⟩
    · exact q
    · rcases hw with z | z
      · exact absurd (z.symm.trans q) e01
      · exact absurd (z.symm.trans q) e02
    · rcases hw with z | z
      · exact absurd (z.symm.trans q) e03
      · exact absurd (z.symm.trans q) e04
  obtain ⟨w, hw6, he⟩ := h5 t ht
  exact ⟨t, m, w, h3, h4, ht, h2, he, hw6⟩
theorem zi_P.mono {G G' : Nat} {f e : Nat → Int32} (h : zi_P G f e) (hG : G ≤ G') : zi_P G' f e := by
  obtain ⟨m, t, h1, h2, h3, h4, h5, h6⟩ := h
  refine ⟨m, t, h1, h2, h3, h4, h5, ?_⟩
  rcases h6 with q | ⟨q1, q2, q3, y, q4, q5⟩ | ⟨q1, q2, q3, y, q4, q5⟩
  · exact Or.inl q
  · exact Or.inr (Or.inl ⟨q1, q2, q3, y, by omega, q5⟩)
  · exact Or.inr (Or.inr ⟨q1, q2, q3, y, by omega, q5⟩)
theorem zi_W.mono {B B' : Nat} {f : Nat → Int32} (h : zi_W B f) (hB : B ≤ B') : zi_W B' f := by
  obtain ⟨x, s, b, h1, h2, h3, h4⟩ := h
  exact ⟨x, s, b, by omega, by omega, h3, h4⟩
theorem zi.mono {a n T G B G' B' : Nat} {M : xm_T} (h : zi a M n T G B) (hG : G ≤ G') (hB : B ≤ B') : zi a M n T G' B' := by
  obtain ⟨⟨h1, h2, h3, h4, h5⟩, g1, g2, g3, g4, g5⟩ := h
  exact ⟨⟨h1, h2, h3, by omega, h5⟩, g1, g2, fun k hk => (g3 k hk).mono hG, fun w hw => (g4 w hw).mono hB, g5⟩
/-- the same as far as it matters -/
def zr (a b n : Nat) (M N : xm_T) : Prop :=
  (∀ i, i < 7 → 3 ≤ i → N b i = M a i) ∧ N (b + 1) 1 = M (a + 1) 1 ∧
  (∀ k, k < 24 → (∀ i, i = 0 ∨ i = 2 ∨ i = 3 ∨ i = 4 ∨ i = 5 ∨ i = 9 ∨ i = 10 ∨ (i = 7 ∧ n ≤ k) → N (b + 2 * k + 34) i = M (a + 2 * k + 34) i) ∧ N (b + 2 * k + 35) = M (a + 2 * k + 35)) ∧
  ∀ w, w < 6 → (∀ i, i < 5 → 2 ≤ i → N (b + 5 * w + 4) i = M (a + 5 * w + 4) i) ∧ N (b + 5 * w + 5) 1 = M (a + 5 * w + 5) 1 ∧ N (b + 5 * w + 6) = M (a + 5 * w + 6) ∧ N (b + 5 * w + 7) 1 = M (a + 5 * w + 7) 1 ∧ N (b + 5 * w + 8) = M (a + 5 * w + 8)
theorem zi_cg {a b n T G B : Nat} {M N : xm_T} (h : zi a M n T G B) (hr : zr a b n M N) : zi b N n T G B := by
  obtain ⟨⟨h1, h2, h3, h4, v, h5, h6⟩, g1, g2, g3, g4, ⟨Q, R, g5⟩, g6, g7, g8⟩ := h
  obtain ⟨r1, r2, r3, r4⟩ := hr
  have wz : ∀ k, k < 24 → zm_wz N (b + 2 * k + 34) = zm_wz M (a + 2 * k + 34) := fun k hk => by
    unfold zm_wz
    rw [(r3 k hk).1 4 (by omega), show N (b + 2 * k + 34 + 1) = M (a + 2 * k + 34 + 1) from (r3 k hk).2]
  refine ⟨⟨h1, by rw [r1 3 (by omega) (by omega)]; exact h2, by rw [r1 4 (by omega) (by omega)]; exact h3, h4, v, h5, by rw [r2]; exact h6⟩, fun k hk => by rw [(r3 k hk).1 0 (by omega)]; exact g1 k hk, fun k hn hk => ?_, fun k hk => ?_, fun w hw => ?_, ⟨Q, R, fun w hw => ?_⟩, ?_, ?_, ?_⟩
  · have r := (r3 k hk).1
    unfold zi_N
    rw [r 2 (by omega), r 3 (by omega), r 4 (by omega), r 5 (by omega), r 7 (by omega), r 9 (by omega), r 10 (by omega)]
    exact g2 k hn hk
  · have r := (r3 k (by omega)).1
    unfold zi_P
    rw [r 2 (by omega), r 3 (by omega), r 4 (by omega), r 5 (by omega), r 10 (by omega), (r3 k (by omega)).2]
    exact g3 k hk
  · have r := (r4 w hw).1
    unfold zi_W
    rw [r 2 (by omega) (by omega), r 3 (by omega) (by omega), r 4 (by omega) (by omega)]
    exact g4 w hw
  · obtain ⟨-, p1, p2, p3, p4⟩ := r4 w hw
    obtain ⟨e1, e2, e3, e4, e5, e6⟩ := g5 w hw
    refine ⟨e1.eq p1 p2, e2.eq p3 p4, e3, e4, fun k => ?_, fun k => ?_⟩
    · rw [e5]
      constructor
      · rintro ⟨z1, z2, z3⟩
        exact ⟨z1, by rw [(r3 k (by omega)).1 3 (by omega)]; exact z2, by rw [wz k (by omega)]; exact z3⟩
      · rintro ⟨z1, z2, z3⟩
        exact ⟨z1, by rw [← (r3 k (by omega)).1 3 (by omega)]; exact z2, by rw [← wz k (by omega)]; exact z3⟩
    · rw [e6]
      constructor
      · rintro ⟨z1, z2, z3⟩
        exact ⟨z1, by rw [(r3 k (by omega)).1 3 (by omega)]; exact z2, by rw [wz k (by omega)]; exact z3⟩
      · rintro ⟨z1, z2, z3⟩
        exact ⟨z1, by rw [← (r3 k (by omega)).1 3 (by omega)]; exact z2, by rw [← wz k (by omega)]; exact z3⟩
  · rw [zs_c (f := fun w => M (a + 5 * w + 4) 2) (fun w hw => (r4 w hw).1 2 (by omega) (by omega)), zs_c (f := fun k => zm_h (M (a + 2 * k + 34) 5)) (fun k hk => congrArg zm_h ((r3 k hk).1 5 (by omega))), r1 5 (by omega) (by omega), r1 6 (by omega) (by omega)]
    exact g6
  · rw [zs_c (f := fun w => M (a + 5 * w + 4) 4) (fun w hw => (r4 w hw).1 4 (by omega) (by omega)), zs_c (f := fun k => M (a + 2 * k + 34) 9) (fun k hk => (r3 k hk).1 9 (by omega))]
    exact g7
  · rw [zs_c (f := fun w => M (a + 5 * w + 4) 3) (fun w hw => (r4 w hw).1 3 (by omega) (by omega)), zs_c (f := fun k => M (a + 2 * k + 34) 9) (fun k hk => (r3 k hk).1 9 (by omega)), zs_c (f := fun k => M (a + 2 * k + 34) 4) (fun k hk => (r3 k hk).1 4 (by omega))]
    exact g8
theorem zi_g {a b n T G B : Nat} {M N : xm_T} (h : zi a M n T G B) (hg : zz_g a b M N) : zi b N n T G B := by
  have r : ∀ {x y : Nat} (c : Nat), c < 82 → x = a + c → y = b + c → N y = M x := fun c hc hx hy => by subst hx; subst hy; exact (hg c hc).symm
  refine zi_cg h ⟨fun i _ _ => by rw [r 0 (x := a) (y := b) (by omega) (by omega) (by omega)], by rw [r 1 (x := a + 1) (y := b + 1) (by omega) (by omega) (by omega)], fun k hk => ⟨fun i _ => by rw [r (2 * k + 34) (x := a + 2 * k + 34) (y := b + 2 * k + 34) (by omega) (by omega) (by omega)], r (2 * k + 35) (by omega) (by omega) (by omega)⟩, fun w hw => ⟨fun i _ _ => by rw [r (5 * w + 4) (x := a + 5 * w + 4) (y := b + 5 * w + 4) (by omega) (by omega) (by omega)], by rw [r (5 * w + 5) (x := a + 5 * w + 5) (y := b + 5 * w + 5) (by omega) (by omega) (by omega)], r (5 * w + 6) (by omega) (by omega) (by omega), by rw [r (5 * w + 7) (x := a + 5 * w + 7) (y := b + 5 * w + 7) (by omega) (by omega) (by omega)], r (5 * w + 8) (by omega) (by omega) (by omega)⟩⟩
/-- a change in the slots of people that don't matter -/
theorem zi_mi {a n T G B : Nat} {M N : xm_T} (h : zi a M n T G B) (ho : ∀ x, (∀ k, k < 24 → x ≠ a + 2 * k + 34) → N x = M x) (hp : ∀ k, k < 24 → ∀ i, i = 0 ∨ i = 2 ∨ i = 3 ∨ i = 4 ∨ i = 5 ∨ i = 9 ∨ i = 10 ∨ (i = 7 ∧ n ≤ k) → N (a + 2 * k + 34) i = M (a + 2 * k + 34) i) : zi a N n T G B := by
  have r : ∀ c, c < 34 ∨ (∃ k, c = 2 * k + 35) → N (a + c) = M (a + c) := fun c hc => ho _ (fun k hk z => by
    rcases hc with hc | ⟨j, hc⟩ <;> omega)
  refine zi_cg h ⟨fun i _ _ => by rw [show N a = M a from r 0 (by omega)], by rw [r 1 (by omega)], fun k hk => ⟨hp k hk, by rw [show a + 2 * k + 35 = a + (2 * k + 35) by omega]; exact r _ (Or.inr ⟨k, rfl⟩)⟩, fun w hw => ?_⟩
  have q : ∀ i, i < 5 → N (a + 5 * w + 4 + i) = M (a + 5 * w + 4 + i) := fun i hi => by
    rw [show a + 5 * w + 4 + i = a + (5 * w + 4 + i) by omega]; exact r _ (by omega)
  exact ⟨fun i _ _ => by rw [show N (a + 5 * w + 4) = M (a + 5 * w + 4) from q 0 (by omega)], congrFun (q 1 (by omega)) 1, q 2 (by omega), congrFun (q 3 (by omega)) 1, q 4 (by omega)⟩
/-- one person moves, one window's row changes -/
theorem zi_mv {a n T G B B' k w : Nat} {M N : xm_T} (h : zi a M n T G B) (hk : k < n) (hw : w < 6) (hB : B ≤ B')
    (ha : N a 3 = M a 3 ∧ N a 4 = M a 4 ∧ N a 6 = M a 6) (hs : N (a + 1) = M (a + 1))
    (hp : ∀ j, j < 24 → j ≠ k → N (a + 2 * j + 34) = M (a + 2 * j + 34)) (he : ∀ j, j < 24 → N (a + 2 * j + 35) = M (a + 2 * j + 35)) (h0 : N (a + 2 * k + 34) 0 = M (a + 2 * k + 34) 0)
    (hP : zi_P G (N (a + 2 * k + 34)) (M (a + 2 * k + 35)))
    (hv : ∀ v, v < 6 → v ≠ w → N (a + 5 * v + 4) = M (a + 5 * v + 4)) (hW : zi_W B' (N (a + 5 * w + 4))) (hL : zi_L a n N)
    (s1 : N (a + 5 * w + 4) 2 + zm_h (N (a + 2 * k + 34) 5) + N a 5 = M (a + 5 * w + 4) 2 + zm_h (M (a + 2 * k + 34) 5) + M a 5)
    (s2 : N (a + 5 * w + 4) 4 + M (a + 2 * k + 34) 9 = M (a + 5 * w + 4) 4 + N (a + 2 * k + 34) 9)
    (s3 : N (a + 5 * w + 4) 3 + M (a + 2 * k + 34) 4 + M (a + 2 * k + 34) 9 = M (a + 5 * w + 4) 3 + N (a + 2 * k + 34) 4 + N (a + 2 * k + 34) 9) : zi a N n T G B' := by
  obtain ⟨⟨h1, h2, h3, h4, v, h5, h6⟩, g1, g2, g3, g4, -, g6, g7, g8⟩ := h
  have hk24 : k < 24 := by omega
  refine ⟨⟨h1, by rw [ha.1]; exact h2, by rw [ha.2.1]; exact h3, h4, v, h5, by rw [hs]; exact h6⟩, fun j hj => ?_, fun j hn hj => ?_, fun j hj => ?_, fun v hv6 => ?_, hL, ?_, ?_, ?_⟩
  · by_cases q : j = k
    · subst q; rw [h0]; exact g1 j hj
    · rw [hp j hj q]; exact g1 j hj
  · rw [hp j hj (by omega)]; exact g2 j hn hj
  · rw [he j (by omega)]
    by_cases q : j = k
    · subst q; exact hP
    · rw [hp j (by omega) q]; exact g3 j hj
  · by_cases q : v = w
    · subst q; exact hW
    · rw [hv v hv6 q]; exact (g4 v hv6).mono hB
  · rw [zs_up (f := fun w => M (a + 5 * w + 4) 2) (g := fun w => N (a + 5 * w + 4) 2) hw (fun v hv6 q => by show N (a + 5 * v + 4) 2 = _; rw [hv v hv6 q]), zs_up (f := fun k => zm_h (M (a + 2 * k + 34) 5)) (g := fun k => zm_h (N (a + 2 * k + 34) 5)) hk24 (fun j hj q => by show zm_h (N (a + 2 * j + 34) 5) = _; rw [hp j hj q]), ha.2.2]
    grind
  · rw [zs_up (f := fun w => M (a + 5 * w + 4) 4) (g := fun w => N (a + 5 * w + 4) 4) hw (fun v hv6 q => by show N (a + 5 * v + 4) 4 = _; rw [hv v hv6 q]), zs_up (f := fun k => M (a + 2 * k + 34) 9) (g := fun k => N (a + 2 * k + 34) 9) hk24 (fun j hj q => by show N (a + 2 * j + 34) 9 = _; rw [hp j hj q])]
    grind
  · rw [zs_up (f := fun w => M (a + 5 * w + 4) 3) (g := fun w => N (a + 5 * w + 4) 3) hw (fun v hv6 q => by show N (a + 5 * v + 4) 3 = _; rw [hv v hv6 q]), zs_up (f := fun k => M (a + 2 * k + 34) 9) (g := fun k => N (a + 2 * k + 34) 9) hk24 (fun j hj q => by show N (a + 2 * j + 34) 9 = _; rw [hp j hj q]), zs_up (f := fun k => M (a + 2 * k + 34) 4) (g := fun k => N (a + 2 * k + 34) 4) hk24 (fun j hj q => by show N (a + 2 * j + 34) 4 = _; rw [hp j hj q])]
    grind
/-- the lines behind a move of k -/
theorem zi_lv {a n k : Nat} {M N : xm_T} {Q R Q' R' : Nat → List Nat} (hk : k < n) (hn : n ≤ 24) (hold : ∀ w, w < 6 → zi_Lw a n M w (Q w) (R w))
    (hp : ∀ j, j < 24 → j ≠ k → N (a + 2 * j + 34) = M (a + 2 * j + 34)) (he : ∀ j, j < 24 → N (a + 2 * j + 35) = M (a + 2 * j + 35))
    (hnew : ∀ w, w < 6 → zl_L N (a + 5 * w + 5) (Q' w) ∧ zl_L N (a + 5 * w + 7) (R' w) ∧ (Q' w).Nodup ∧ (R' w).Nodup ∧ (∀ j, j ≠ k → (j ∈ Q' w ↔ j ∈ Q w)) ∧ (∀ j, j ≠ k → (j ∈ R' w ↔ j ∈ R w)) ∧ (k ∈ Q' w ↔ N (a + 2 * k + 34) 3 = nI 0 ∧ zm_wz N (a + 2 * k + 34) = w) ∧ (k ∈ R' w ↔ N (a + 2 * k + 34) 3 = nI 1 ∧ zm_wz N (a + 2 * k + 34) = w)) : zi_L a n N := by
  have wz : ∀ j, j < 24 → j ≠ k → zm_wz N (a + 2 * j + 34) = zm_wz M (a + 2 * j + 34) := fun j hj q => by
    unfold zm_wz
    rw [hp j hj q, show N (a + 2 * j + 34 + 1) = M (a + 2 * j + 34 + 1) from he j hj]
  refine ⟨Q', R', fun w hw => ?_⟩
  obtain ⟨-, -, -, -, e5, e6⟩ := hold w hw
  obtain ⟨f1, f2, f3, f4, f5, f6, f7, f8⟩ := hnew w hw
  refine ⟨f1, f2, f3, f4, fun j => ?_, fun j => ?_⟩
  · by_cases q : j = k
    · subst q
      rw [f7]
      exact ⟨fun z => ⟨hk, z⟩, fun z => z.2⟩
    · rw [f5 j q, e5]
      constructor
      · rintro ⟨z1, z2⟩
        exact ⟨z1, by rw [hp j (by omega) q, wz j (by omega) q]; exact z2⟩
      · rintro ⟨z1, z2⟩
        exact ⟨z1, by rw [← wz j (by omega) q, ← hp j (by omega) q]; exact z2⟩
  · by_cases q : j = k
    · subst q
      rw [f8]
      exact ⟨fun z => ⟨hk, z⟩, fun z => z.2⟩
    · rw [f6 j q, e6]
      constructor
      · rintro ⟨z1, z2⟩
        exact ⟨z1, by rw [hp j (by omega) q, wz j (by omega) q]; exact z2⟩
      · rintro ⟨z1, z2⟩
        exact ⟨z1, by rw [← wz j (by omega) q, ← hp j (by omega) q]; exact z2⟩
end
section
/-! THE STEPS KEEP IT -/
theorem zu_3 (f : Nat → Int32) (i k : Nat) (v : Int32) (h : i ≠ k) : upd f k v i = f i := if_neg h
theorem zu_s (f : Nat → Int32) (k : Nat) (v : Int32) : upd f k v k = v := if_pos rfl
theorem zi_L.old {a n T G B : Nat} {M : xm_T} (h : zi a M n T G B) : zi_L a n M := h.2.2.2.2.2.1
/-- all of a line's numbers are people's -/
theorem zi_Lw.q {a n w : Nat} {M : xm_T} {Q R : List Nat} (h : zi_Lw a n M w Q R) (hn : n ≤ 24) : ∀ x, x ∈ Q → x < 24 := fun x hx => by have := ((h.2.2.2.2.1 x).mp hx).1; omega
theorem zi_Lw.r {a n w : Nat} {M : xm_T} {Q R : List Nat} (h : zi_Lw a n M w Q R) (hn : n ≤ 24) : ∀ x, x ∈ R → x < 24 := fun x hx => by have := ((h.2.2.2.2.2 x).mp hx).1; omega
theorem zl_room {w : List Nat} {k : Nat} (hN : w.Nodup) (hb : ∀ x, x ∈ w → x < 24) (hk : k < 24) (hkw : k ∉ w) : w.length < 24 := by
  have h1 := zl_le24 (n := 24) (zl_apN hN hkw) (fun x hx => by
    rcases List.mem_append.mp hx with q | q
    · exact hb x q
    · rw [List.mem_singleton.mp q]; exact hk)
  rw [List.length_append] at h1
  have : ([k] : List Nat).length = 1 := rfl
  omega
theorem zn_01 : ¬ nI 0 = nI 1 := by decide
theorem zn_10 : ¬ nI 1 = nI 0 := by decide
/-- from a window's serving line into a queue -/
theorem zi_q {a n T G B B' w j k t m w' : Nat} {M X : xm_T} {Q R : Nat → List Nat} (h : zi a M n T G B) (hB : B ≤ B') (hw : w < 6) (hold : ∀ v, v < 6 → zi_Lw a n M v (Q v) (R v)) (hj : (R w)[j]? = some k)
    (hX : ∀ x, x ≠ a + 2 * k + 34 → x ≠ a + 5 * w + 4 → X x = zl_rv (a + 5 * w + 7) (nI k) M x) (h0 : X (a + 2 * k + 34) 0 = nI k) (hat : zk_at X (a + 2 * k + 34) t m w')
    (hP : zi_P G (upd (upd (X (a + 2 * k + 34)) 3 (nI 0)) 8 (nI 0)) (M (a + 2 * k + 35))) (hW : zi_W B' (X (a + 5 * w + 4)))
    (s1 : X (a + 5 * w + 4) 2 + zm_h (X (a + 2 * k + 34) 5) = M (a + 5 * w + 4) 2 + zm_h (M (a + 2 * k + 34) 5))
    (s2 : X (a + 5 * w + 4) 4 + M (a + 2 * k + 34) 9 = M (a + 5 * w + 4) 4 + X (a + 2 * k + 34) 9)
    (s3 : X (a + 5 * w + 4) 3 + M (a + 2 * k + 34) 4 + M (a + 2 * k + 34) 9 = M (a + 5 * w + 4) 3 + X (a + 2 * k + 34) 4 + X (a + 2 * k + 34) 9) :
    zi a (zm_jn a k X) n T G B' ∧ (zm_jn a k X) (a + 5 * w + 7) 1 = nI ((R w).length - 1) := by
  have hn := h.n
  have hkR := List.mem_of_getElem? hj
  obtain ⟨hkn, hk1, hkw⟩ := ((hold w hw).2.2.2.2.2 k).mp hkR
  have hk24 : k < 24 := by omega
  have hw' := hat.2.2.2.2.2
  have ejn : zm_jn a k X = zl_ap (a + 5 * w' + 5) (nI k) (xu_p (xu_p X (a + 2 * k + 34) 3 (nI 0)) (a + 2 * k + 34) 8 (nI 0)) := by
    unfold zm_jn
    rw [zk_wz hat, if_pos hw', h0]
  obtain ⟨Y, eY⟩ : ∃ Y, Y = zm_jn a k X := ⟨_, rfl⟩
  rw [← eY]
  rw [ejn] at eY
  have yP : Y (a + 2 * k + 34) = upd (upd (X (a + 2 * k + 34)) 3 (nI 0)) 8 (nI 0) := by
    rw [eY, zl_ap_o (by omega) (by omega)]
    unfold xu_p
    rw [xr_s, xr_s]
  have yX : ∀ x, x ≠ a + 5 * w' + 5 → x ≠ a + 5 * w' + 6 → x ≠ a + 2 * k + 34 → Y x = X x := fun x h1 h2 h3 => by
    rw [eY, zl_ap_o h1 h2]
    unfold xu_p
    rw [xr_n _ _ h3, xr_n _ _ h3]
  have yM : ∀ x, x ≠ a + 5 * w' + 5 → x ≠ a + 5 * w' + 6 → x ≠ a + 2 * k + 34 → x ≠ a + 5 * w + 4 → x ≠ a + 5 * w + 7 → x ≠ a + 5 * w + 8 → Y x = M x := fun x h1 h2 h3 h4 h5 h6 => by
    rw [yX x h1 h2 h3, hX x h3 h4, zl_rv_o h5 h6]
  have yV : Y (a + 5 * w + 4) = X (a + 5 * w + 4) := yX _ (by omega) (by omega) (by omega)
  have hlR : zl_L Y (a + 5 * w + 7) ((R w).eraseIdx j) := ((hold w hw).2.1.rv (hold w hw).2.2.2.1 ((hold w hw).r hn) hj).eq (by rw [yX _ (by omega) (by omega) (by omega), hX _ (by omega) (by omega)]) (by rw [yX _ (by omega) (by omega) (by omega), hX _ (by omega) (by omega)])
  have hkQ : ∀ v, v < 6 → k ∉ Q v := fun v hv z => by
    have := ((hold v hv).2.2.2.2.1 k).mp z
    exact zn_01 (this.2.1.symm.trans hk1)
  have hroom : (Q w').length < 24 := zl_room (hold w' hw').2.2.1 ((hold w' hw').q hn) hk24 (hkQ w' hw')
  have hlQ : zl_L Y (a + 5 * w' + 5) (Q w' ++ [k]) := by
    rw [eY]
    refine zl_L.ap ((hold w' hw').1.eq ?_ ?_) hroom k
    · unfold xu_p
      rw [xr_n _ _ (by omega), xr_n _ _ (by omega), hX _ (by omega) (by omega), zl_rv_o (by omega) (by omega)]
    · unfold xu_p
      rw [xr_n _ _ (by omega), xr_n _ _ (by omega), hX _ (by omega) (by omega), zl_rv_o (by omega) (by omega)]
  have hwz : zm_wz Y (a + 2 * k + 34) = w' := by
    have : zm_wz Y (a + 2 * k + 34) = zm_wz X (a + 2 * k + 34) := by
      unfold zm_wz
      rw [yP, yX (a + 2 * k + 34 + 1) (by omega) (by omega) (by omega)]
      rfl
    rw [this, zk_wz hat]
  have hY3 : Y (a + 2 * k + 34) 3 = nI 0 := by rw [yP]; rfl
  have hp : ∀ i, i < 24 → i ≠ k → Y (a + 2 * i + 34) = M (a + 2 * i + 34) := fun i hi hik => yM _ (by omega) (by omega) (by omega) (by omega) (by omega) (by omega)
  have he : ∀ i, i < 24 → Y (a + 2 * i + 35) = M (a + 2 * i + 35) := fun i hi => yM _ (by omega) (by omega) (by omega) (by omega) (by omega) (by omega)
  have hA : Y a = M a := yM _ (by omega) (by omega) (by omega) (by omega) (by omega) (by omega)
  refine ⟨zi_mv h hkn hw hB ⟨by rw [hA], by rw [hA], by rw [hA]⟩ (yM _ (by omega) (by omega) (by omega) (by omega) (by omega) (by omega)) hp he (by rw [yP, h.2.1 k hk24]; exact h0) (by rw [yP]; exact hP) (fun v hv hvw => yM _ (by omega) (by omega) (by omega) (by omega) (by omega) (by omega)) (by rw [yV]; exact hW) ?_ ?_ ?_ ?_, ?_⟩
  · refine zi_lv (Q' := fun v => if v = w' then Q v ++ [k] else Q v) (R' := fun v => if v = w then (R v).eraseIdx j else R v) hkn hn hold hp he (fun v hv => ?_)
    have hq : zl_L Y (a + 5 * v + 5) (if v = w' then Q v ++ [k] else Q v) ∧ (if v = w' then Q v ++ [k] else Q v).Nodup ∧ (∀ i, i ≠ k → (i ∈ (if v = w' then Q v ++ [k] else Q v) ↔ i ∈ Q v)) ∧ (k ∈ (if v = w' then Q v ++ [k] else Q v) ↔ Y (a + 2 * k + 34) 3 = nI 0 ∧ zm_wz Y (a + 2 * k + 34) = v) := by
      by_cases q : v = w'
      · subst q
        rw [if_pos rfl]
        exact ⟨hlQ, zl_apN (hold v hv).2.2.1 (hkQ v hv), fun i hi => by rw [List.mem_append, List.mem_singleton]; exact ⟨fun z => z.resolve_right hi, Or.inl⟩, ⟨fun _ => ⟨hY3, hwz⟩, fun _ => List.mem_append.mpr (Or.inr (List.mem_singleton.mpr rfl))⟩⟩
      · rw [if_neg q]
        exact ⟨(hold v hv).1.eq (by rw [yM _ (by omega) (by omega) (by omega) (by omega) (by omega) (by omega)]) (yM _ (by omega) (by omega) (by omega) (by omega) (by omega) (by omega)), (hold v hv).2.2.1, fun i _ => Iff.rfl, ⟨fun z => absurd z (hkQ v hv), fun z => absurd (z.2.symm.trans hwz) q⟩⟩
    have hr : zl_L Y (a + 5 * v + 7) (if v = w then (R v).eraseIdx j else R v) ∧ (if v = w then (R v).eraseIdx j else R v).Nodup ∧ (∀ i, i ≠ k → (i ∈ (if v = w then (R v).eraseIdx j else R v) ↔ i ∈ R v)) ∧ (k ∈ (if v = w then (R v).eraseIdx j else R v) ↔ Y (a + 2 * k + 34) 3 = nI 1 ∧ zm_wz Y (a + 2 * k + 34) = v) := by
      have hno : ¬ (Y (a + 2 * k + 34) 3 = nI 1 ∧ zm_wz Y (a + 2 * k + 34) = v) := fun z => zn_01 (hY3.symm.trans z.1)
      by_cases q : v = w
      · subst q
        rw [if_pos rfl]
        have hN := (hold v hv).2.2.2.1
        exact ⟨hlR, zl_erN hN j, fun i hi => by rw [zl_er hN hj]; exact ⟨fun z => z.1, fun z => ⟨z, hi⟩⟩, ⟨fun z => absurd rfl ((zl_er hN hj k).mp z).2, fun z => absurd z hno⟩⟩
      · rw [if_neg q]
        exact ⟨(hold v hv).2.1.eq (by rw [yM _ (by omega) (by omega) (by omega) (by omega) (by omega) (by omega)]) (yM _ (by omega) (by omega) (by omega) (by omega) (by omega) (by omega)), (hold v hv).2.2.2.1, fun i _ => Iff.rfl, ⟨fun z => absurd (hkw.symm.trans (((hold v hv).2.2.2.2.2 k).mp z).2.2).symm q, fun z => absurd z hno⟩⟩
    exact ⟨hq.1, hr.1, hq.2.1, hr.2.1, hq.2.2.1, hr.2.2.1, hq.2.2.2, hr.2.2.2⟩
  · rw [yV, yP, hA]
    exact congrArg (· + M a 5) s1
  · rw [yV, yP]
    exact s2
  · rw [yV, yP]
    exact s3
  · rw [hlR.2.1, List.length_eraseIdx_of_lt (List.getElem?_eq_some_iff.mp hj).1]
/-- from a window's serving line away: done -/
theorem zi_d {a n T G B B' w j k : Nat} {M Y : xm_T} {Q R : Nat → List Nat} (h : zi a M n T G B) (hB : B ≤ B') (hw : w < 6) (hold : ∀ v, v < 6 → zi_Lw a n M v (Q v) (R v)) (hj : (R w)[j]? = some k)
    (hX : ∀ x, x ≠ a + 2 * k + 34 → x ≠ a + 5 * w + 4 → Y x = zl_rv (a + 5 * w + 7) (nI k) M x) (h0 : Y (a + 2 * k + 34) 0 = nI k) (h3 : Y (a + 2 * k + 34) 3 = nI 2)
    (hP : zi_P G (Y (a + 2 * k + 34)) (M (a + 2 * k + 35))) (hW : zi_W B' (Y (a + 5 * w + 4)))
    (s1 : Y (a + 5 * w + 4) 2 + zm_h (Y (a + 2 * k + 34) 5) = M (a + 5 * w + 4) 2 + zm_h (M (a + 2 * k + 34) 5))
    (s2 : Y (a + 5 * w + 4) 4 + M (a + 2 * k + 34) 9 = M (a + 5 * w + 4) 4 + Y (a + 2 * k + 34) 9)
    (s3 : Y (a + 5 * w + 4) 3 + M (a + 2 * k + 34) 4 + M (a + 2 * k + 34) 9 = M (a + 5 * w + 4) 3 + Y (a + 2 * k + 34) 4 + Y (a + 2 * k + 34) 9) :
    zi a Y n T G B' ∧ Y (a + 5 * w + 7) 1 = nI ((R w).length - 1) := by
  have hn := h.n
  have hkR := List.mem_of_getElem? hj
  obtain ⟨hkn, hk1, hkw⟩ := ((hold w hw).2.2.2.2.2 k).mp hkR
  have hk24 : k < 24 := by omega
  have yM : ∀ x, x ≠ a + 2 * k + 34 → x ≠ a + 5 * w + 4 → x ≠ a + 5 * w + 7 → x ≠ a + 5 * w + 8 → Y x = M x := fun x h3 h4 h5 h6 => by
    rw [hX x h3 h4, zl_rv_o h5 h6]
  have hlR : zl_L Y (a + 5 * w + 7) ((R w).eraseIdx j) := ((hold w hw).2.1.rv (hold w hw).2.2.2.1 ((hold w hw).r hn) hj).eq (by rw [hX _ (by omega) (by omega)]) (by rw [hX _ (by omega) (by omega)])
  have hkQ : ∀ v, v < 6 → k ∉ Q v := fun v hv z => by
    have := ((hold v hv).2.2.2.2.1 k).mp z
    exact zn_01 (this.2.1.symm.trans hk1)
  have hp : ∀ i, i < 24 → i ≠ k → Y (a + 2 * i + 34) = M (a + 2 * i + 34) := fun i hi hik => yM _ (by omega) (by omega) (by omega) (by omega)
  have he : ∀ i, i < 24 → Y (a + 2 * i + 35) = M (a + 2 * i + 35) := fun i hi => yM _ (by omega) (by omega) (by omega) (by omega)
  have hA : Y a = M a := yM _ (by omega) (by omega) (by omega) (by omega)
  have h30 : ¬ Y (a + 2 * k + 34) 3 = nI 0 := by rw [h3]; decide
  have h31 : ¬ Y (a + 2 * k + 34) 3 = nI 1 := by rw [h3]; decide
  refine ⟨zi_mv h hkn hw hB ⟨by rw [hA], by rw [hA], by rw [hA]⟩ (yM _ (by omega) (by omega) (by omega) (by omega)) hp he (by rw [h.2.1 k hk24]; exact h0) hP (fun v hv hvw => yM _ (by omega) (by omega) (by omega) (by omega)) hW ?_ (by rw [hA]; exact congrArg (· + M a 5) s1) s2 s3, ?_⟩
  · refine zi_lv (Q' := Q) (R' := fun v => if v = w then (R v).eraseIdx j else R v) hkn hn hold hp he (fun v hv => ?_)
    have hr : zl_L Y (a + 5 * v + 7) (if v = w then (R v).eraseIdx j else R v) ∧ (if v = w then (R v).eraseIdx j else R v).Nodup ∧ (∀ i, i ≠ k → (i ∈ (if v = w then (R v).eraseIdx j else R v) ↔ i ∈ R v)) ∧ (k ∈ (if v = w then (R v).eraseIdx j else R v) ↔ Y (a + 2 * k + 34) 3 = nI 1 ∧ zm_wz Y (a + 2 * k + 34) = v) := by
      have hno : ¬ (Y (a + 2 * k + 34) 3 = nI 1 ∧ zm_wz Y (a + 2 * k + 34) = v) := fun z => h31 z.1
      by_cases q : v = w
      · subst q
        rw [if_pos rfl]
        have hN := (hold v hv).2.2.2.1
        exact ⟨hlR, zl_erN hN j, fun i hi => by rw [zl_er hN hj]; exact ⟨fun z => z.1, fun z => ⟨z, hi⟩⟩, ⟨fun z => absurd rfl ((zl_er hN hj k).mp z).2, fun z => absurd z hno⟩⟩
      · rw [if_neg q]
        exact ⟨(hold v hv).2.1.eq (by rw [yM _ (by omega) (by omega) (by omega) (by omega)]) (yM _ (by omega) (by omega) (by omega) (by omega)), (hold v hv).2.2.2.1, fun i _ => Iff.rfl, ⟨fun z => absurd (hkw.symm.trans (((hold v hv).2.2.2.2.2 k).mp z).2.2).symm q, fun z => absurd z hno⟩⟩
    exact ⟨(hold v hv).1.eq (by rw [yM _ (by omega) (by omega) (by omega) (by omega)]) (yM _ (by omega) (by omega) (by omega) (by omega)), hr.1, (hold v hv).2.2.1, hr.2.1, fun i _ => Iff.rfl, hr.2.2.1, ⟨fun z => absurd z (hkQ v hv), fun z => absurd z.1 h30⟩, hr.2.2.2⟩
  · rw [hlR.2.1, List.length_eraseIdx_of_lt (List.getElem?_eq_some_iff.mp hj).1]
theorem zh_0 {v : Int32} (h : v = nI 0) : zm_h v = nI 0 := by subst h; rfl
theorem zh_1 {v : Int32} (h : v = nI 1) : zm_h v = nI 1 := by subst h; rfl
theorem zi_fi {a n T G B w j k : Nat} {M : xm_T} {Q R : Nat → List Nat} (h : zi a M n T G B) (hT : T + 1 ≤ G) (hB : B + 1 < 2 ^ 31) (hw : w < 6) (hold : ∀ v, v < 6 → zi_Lw a n M v (Q v) (R v)) (hj : (R w)[j]? = some k) :
    zi a (zm_fi a w k (zl_rv (a + 5 * w + 7) (nI k) M)) n T G (B + 1) ∧ (zm_fi a w k (zl_rv (a + 5 * w + 7) (nI k) M)) (a + 5 * w + 7) 1 = nI ((R w).length - 1) := by
  obtain ⟨hkn, hk1, hkw⟩ := ((hold w hw).2.2.2.2.2 k).mp (List.mem_of_getElem? hj)
  have hn := h.n
  have hk24 : k < 24 := by omega
  have hk0 := h.2.1 k hk24
  have hP := h.2.2.2.1 k hkn
  obtain ⟨m, t, p1, p2, p3, p4, p5, p6⟩ := hP
  obtain ⟨pt, p10, ph⟩ : t < m ∧ M (a + 2 * k + 34) 10 = -6 ∧ (M (a + 2 * k + 34) 5 = nI 0 ∨ (M (a + 2 * k + 34) 5 = nI 1 ∧ 0 < t)) := by
    rcases p6 with q | q | q
    · exact q.2
    · exact absurd (hk1.symm.trans q.1) (by decide)
    · exact absurd (hk1.symm.trans q.1) (by decide)
  obtain ⟨hv, sv, bv, w1, w2, w3, w4, w5, w6⟩ := h.2.2.2.2.1 w hw
  obtain ⟨N, eN⟩ : ∃ N, N = zl_rv (a + 5 * w + 7) (nI k) M := ⟨_, rfl⟩
  have nM : ∀ x, x ≠ a + 5 * w + 7 → x ≠ a + 5 * w + 8 → N x = M x := fun x h1 h2 => by rw [eN, zl_rv_o h1 h2]
  have nP : N (a + 2 * k + 34) = M (a + 2 * k + 34) := nM _ (by omega) (by omega)
  have nV : N (a + 5 * w + 4) = M (a + 5 * w + 4) := nM _ (by omega) (by omega)
  have nA : N a = M a := nM _ (by omega) (by omega)
  have nE : N (a + 2 * k + 34 + 1) = M (a + 2 * k + 35) := nM _ (by omega) (by omega)
  have a4 := h.1.2.2.1
  rw [← eN]
  unfold zm_fi
  rw [nP, nV, p4, p3, w4]
  have e1 : nI t + nI 1 = nI (t + 1) := nI_add t 1
  have e3 : nI sv + nI 1 = nI (sv + 1) := nI_add sv 1
  by_cases q : nI t + nI 1 < nI m
  · rw [if_pos q]
    have htm : t + 1 < m := by rw [e1] at q; exact (nI_ltI (by omega) (by omega)).mp q
    obtain ⟨w', hw', hE'⟩ := p5 (t + 1) htm
    obtain ⟨w0, hw0, hE0⟩ := p5 t pt
    by_cases q2 : nI hv ≤ 0
    · rw [if_pos q2]
      have hv0 : hv = 0 := by
        rcases Nat.eq_zero_or_pos hv with z | z
        · exact z
        · exact absurd q2 (nI_nle z (by omega))
      by_cases q3 : M (a + 2 * k + 34) 5 = 0
      · rw [if_pos q3]
        unfold zm_f3
        rw [nP, nV]
        refine zi_q (t := t) (m := m) (w' := w0) h (Nat.le_succ B) hw hold hj (fun x g1 g2 => ?_) ?_ ?_ ?_ ?_ ?_ ?_ ?_
        · rw [← eN]; simp only [xu_p]; rw [xr_n _ _ g1, xr_n _ _ g2, xr_n _ _ g1, xr_n _ _ g2]
        · simp (disch := omega) only [xu_p, xr_s, xr_n, nP, upd]; exact hk0
        · refine ⟨?_, ?_, pt, p2, ?_, hw0⟩
          · simp (disch := omega) only [xu_p, xr_s, xr_n, nP, upd]; exact p3
          · simp (disch := omega) only [xu_p, xr_s, xr_n, nP, upd]; exact p4
          · simp (disch := omega) only [xu_p, xr_s, xr_n, nE]; exact hE0
        · refine ⟨m, t, p1, p2, ?_, ?_, p5, Or.inl ⟨Or.inl ?_, pt, ?_, ?_⟩⟩
          · simp (disch := omega) only [xu_p, xr_s, xr_n, nP, upd]; exact p3
          · simp (disch := omega) only [xu_p, xr_s, xr_n, nP, upd]; exact p4
          · rfl
          · simp (disch := omega) only [xu_p, xr_s, xr_n, nP, upd]; exact p10
          · simp (disch := omega) only [xu_p, xr_s, xr_n, nP, upd]; exact ph
        · refine ⟨hv, sv + 1, bv + 1, by omega, by omega, by omega, ?_, ?_, ?_⟩
          · simp (disch := omega) only [xu_p, xr_s, xr_n, nV, upd]; exact w4
          · simp (disch := omega) only [xu_p, xr_s, xr_n, nV, upd]; exact (by rw [w5]; exact e3)
          · simp (disch := omega) only [xu_p, xr_s, xr_n, nV, upd]; exact (by rw [w6]; exact nI_add bv 1)
        · simp (disch := omega) only [xu_p, xr_s, xr_n, nP, nV, upd]; rfl
        · simp (disch := omega) only [xu_p, xr_s, xr_n, nP, nV, upd]; show _ + nI 1 + _ = _ + (_ + nI 1); grind
        · simp (disch := omega) only [xu_p, xr_s, xr_n, nP, nV, upd]; show _ + nI 1 + _ + _ = _ + _ + (_ + nI 1); grind
      · rw [if_neg q3]
        have ph1 : M (a + 2 * k + 34) 5 = nI 1 := (ph.resolve_left q3).1
        unfold zm_f2
        rw [nP, nV]
        refine zi_q (t := t + 1) (m := m) (w' := w') h (Nat.le_succ B) hw hold hj (fun x g1 g2 => ?_) ?_ ?_ ?_ ?_ ?_ ?_ ?_
        · rw [← eN]; simp only [xu_p]; rw [xr_n _ _ g1, xr_n _ _ g1, xr_n _ _ g2]
        · simp (disch := omega) only [xu_p, xr_s, xr_n, nP, upd]; exact hk0
        · refine ⟨?_, ?_, htm, p2, ?_, hw'⟩
          · simp (disch := omega) only [xu_p, xr_s, xr_n, nP, upd]; exact p3
          · simp (disch := omega) only [xu_p, xr_s, xr_n, nP, upd]; exact (by rw [p4]; exact e1)
          · simp (disch := omega) only [xu_p, xr_s, xr_n, nE]; exact hE'
        · refine ⟨m, t + 1, p1, p2, ?_, ?_, p5, Or.inl ⟨Or.inl ?_, htm, ?_, Or.inr ⟨?_, by omega⟩⟩⟩
          · simp (disch := omega) only [xu_p, xr_s, xr_n, nP, upd]; exact p3
          · simp (disch := omega) only [xu_p, xr_s, xr_n, nP, upd]; exact (by rw [p4]; exact e1)
          · rfl
          · simp (disch := omega) only [xu_p, xr_s, xr_n, nP, upd]; exact p10
          · simp (disch := omega) only [xu_p, xr_s, xr_n, nP, upd]; exact ph1
        · refine ⟨hv, sv + 1, bv, by omega, by omega, by omega, ?_, ?_, ?_⟩
          · simp (disch := omega) only [xu_p, xr_s, xr_n, nV, upd]; exact w4
          · simp (disch := omega) only [xu_p, xr_s, xr_n, nV, upd]; exact (by rw [w5]; exact e3)
          · simp (disch := omega) only [xu_p, xr_s, xr_n, nV, upd]; exact w6
        · simp (disch := omega) only [xu_p, xr_s, xr_n, nP, nV, upd]; rfl
        · simp (disch := omega) only [xu_p, xr_s, xr_n, nP, nV, upd]; rfl
        · simp (disch := omega) only [xu_p, xr_s, xr_n, nP, nV, upd]; show _ + nI 1 + _ + _ = _ + (_ + nI 1) + _; grind
    · rw [if_neg q2]
      have hvp : 0 < hv := by
        rcases Nat.eq_zero_or_pos hv with z | z
        · exact absurd (by rw [z]; decide) q2
        · exact z
      unfold zm_f1
      rw [nP, nV]
      refine zi_q (t := t + 1) (m := m) (w' := w') h (Nat.le_succ B) hw hold hj (fun x g1 g2 => ?_) ?_ ?_ ?_ ?_ ?_ ?_ ?_
      · rw [← eN]; simp only [xu_p]; rw [xr_n _ _ g1, xr_n _ _ g1, xr_n _ _ g1, xr_n _ _ g2, xr_n _ _ g2]
      · simp (disch := omega) only [xu_p, xr_s, xr_n, nP, upd]; exact hk0
      · refine ⟨?_, ?_, htm, p2, ?_, hw'⟩
        · simp (disch := omega) only [xu_p, xr_s, xr_n, nP, upd]; exact p3
        · simp (disch := omega) only [xu_p, xr_s, xr_n, nP, upd]; exact (by rw [p4]; exact e1)
        · simp (disch := omega) only [xu_p, xr_s, xr_n, nE]; exact hE'
      · refine ⟨m, t + 1, p1, p2, ?_, ?_, p5, Or.inl ⟨Or.inl ?_, htm, ?_, Or.inr ⟨?_, by omega⟩⟩⟩
        · simp (disch := omega) only [xu_p, xr_s, xr_n, nP, upd]; exact p3
        · simp (disch := omega) only [xu_p, xr_s, xr_n, nP, upd]; exact (by rw [p4]; exact e1)
        · rfl
        · simp (disch := omega) only [xu_p, xr_s, xr_n, nP, upd]; exact p10
        · simp (disch := omega) only [xu_p, xr_s, xr_n, nP, upd]; rfl
      · rcases ph with z | ⟨z, -⟩
        · refine ⟨hv - 1, sv + 1, bv, by omega, by omega, by omega, ?_, ?_, ?_⟩
          · simp (disch := omega) only [xu_p, xr_s, xr_n, nV, upd]
            show M (a + 5 * w + 4) 2 + (if M (a + 2 * k + 34) 5 = 0 then (-1) else nI 0) = _
            rw [if_pos (show M (a + 2 * k + 34) 5 = 0 from z), w4]
            have e := nI_pred (hv - 1)
            rw [show hv - 1 + 1 = hv by omega] at e
            rw [← e]
            grind
          · simp (disch := omega) only [xu_p, xr_s, xr_n, nV, upd]; exact (by rw [w5]; exact e3)
          · simp (disch := omega) only [xu_p, xr_s, xr_n, nV, upd]; exact w6
        · refine ⟨hv, sv + 1, bv, by omega, by omega, by omega, ?_, ?_, ?_⟩
          · simp (disch := omega) only [xu_p, xr_s, xr_n, nV, upd]
            show M (a + 5 * w + 4) 2 + (if M (a + 2 * k + 34) 5 = 0 then (-1) else nI 0) = _
            rw [if_neg (by rw [z]; decide), w4]
            exact nI_add hv 0
          · simp (disch := omega) only [xu_p, xr_s, xr_n, nV, upd]; exact (by rw [w5]; exact e3)
          · simp (disch := omega) only [xu_p, xr_s, xr_n, nV, upd]; exact w6
      · simp (disch := omega) only [xu_p, xr_s, xr_n, nP, nV, upd]
        show M (a + 5 * w + 4) 2 + (if M (a + 2 * k + 34) 5 = 0 then (-1) else nI 0) + zm_h (nI 1) = _
        rcases ph with z | ⟨z, -⟩
        · rw [if_pos (show M (a + 2 * k + 34) 5 = 0 from z), zh_0 z, zh_1 rfl, show nI 1 = 1 from rfl, show nI 0 = 0 from rfl]; grind
        · rw [if_neg (by rw [z]; decide), zh_1 z, zh_1 rfl, show nI 0 = 0 from rfl]; grind
      · simp (disch := omega) only [xu_p, xr_s, xr_n, nP, nV, upd]; rfl
      · simp (disch := omega) only [xu_p, xr_s, xr_n, nP, nV, upd]; show _ + nI 1 + _ + _ = _ + (_ + nI 1) + _; grind
  · rw [if_neg q]
    have htm : t + 1 = m := by
      have : ¬ t + 1 < m := fun z => q (by rw [e1]; exact nI_lt z (by omega))
      omega
    unfold zm_f0 zm_go
    rw [nP, nV, nA]
    refine zi_d h (Nat.le_succ B) hw hold hj (fun x g1 g2 => ?_) ?_ ?_ ?_ ?_ ?_ ?_ ?_
    · rw [← eN]; simp only [xu_p]; rw [xr_n _ _ g1, xr_n _ _ g1, xr_n _ _ g1, xr_n _ _ g2, xr_n _ _ g1, xr_n _ _ g2]
    · simp (disch := omega) only [xu_p, xr_s, xr_n, nP, upd]; exact hk0
    · simp (disch := omega) only [xu_p, xr_s, xr_n, nP, upd]; rfl
    · refine ⟨m, t + 1, p1, p2, ?_, ?_, p5, Or.inr (Or.inl ⟨?_, htm, ?_, T + 1, hT, ?_⟩)⟩
      · simp (disch := omega) only [xu_p, xr_s, xr_n, nP, upd]; exact p3
      · simp (disch := omega) only [xu_p, xr_s, xr_n, nP, upd]; exact (by rw [p4]; exact e1)
      · simp (disch := omega) only [xu_p, xr_s, xr_n, nP, upd]; rfl
      · simp (disch := omega) only [xu_p, xr_s, xr_n, nP, upd]; rfl
      · simp (disch := omega) only [xu_p, xr_s, xr_n, nP, upd]; exact (by rw [a4]; exact nI_add T 1)
    · refine ⟨hv + (if M (a + 2 * k + 34) 5 = 0 then 0 else 1), sv + 1, bv, by split <;> omega, by omega, by omega, ?_, ?_, ?_⟩
      · simp (disch := omega) only [xu_p, xr_s, xr_n, nV, upd]
        show M (a + 5 * w + 4) 2 + zm_h (M (a + 2 * k + 34) 5) = _
        rw [w4]
        unfold zm_h
        split
        · exact nI_add hv 0
        · exact nI_add hv 1
      · simp (disch := omega) only [xu_p, xr_s, xr_n, nV, upd]; exact (by rw [w5]; exact e3)
      · simp (disch := omega) only [xu_p, xr_s, xr_n, nV, upd]; exact w6
    · simp (disch := omega) only [xu_p, xr_s, xr_n, nP, nV, upd]
      show M (a + 5 * w + 4) 2 + zm_h (M (a + 2 * k + 34) 5) + zm_h (nI 0) = _
      rw [zh_0 rfl, show nI 0 = 0 from rfl]; grind
    · simp (disch := omega) only [xu_p, xr_s, xr_n, nP, nV, upd]; rfl
    · simp (disch := omega) only [xu_p, xr_s, xr_n, nP, nV, upd]; show _ + nI 1 + _ + _ = _ + (_ + nI 1) + _; grind
end
section
/-! CALLS, WAITS, COMINGS; A TICK KEEPS IT -/
theorem zi_c2 {a n T G B w k : Nat} {M : xm_T} {Q R : Nat → List Nat} (h : zi a M n T G B) (hw : w < 6) (hold : ∀ v, v < 6 → zi_Lw a n M v (Q v) (R v)) (hj : (Q w)[0]? = some k) : zi a (zm_c2 a w k M) n T G B := by
  have hn := h.n
  obtain ⟨hkn, hk1, hkw⟩ := ((hold w hw).2.2.2.2.1 k).mp (List.mem_of_getElem? hj)
  have hk24 : k < 24 := by omega
  have hk0 := h.2.1 k hk24
  obtain ⟨Y, eY⟩ : ∃ Y, Y = zm_c2 a w k M := ⟨_, rfl⟩
  rw [← eY]
  unfold zm_c2 at eY
  rw [hk0] at eY
  have hkR : ∀ v, v < 6 → k ∉ R v := fun v hv z => by
    have := ((hold v hv).2.2.2.2.2 k).mp z
    exact zn_01 (hk1.symm.trans this.2.1)
  have yM : ∀ x, x ≠ a + 2 * k + 34 → x ≠ a + 5 * w + 5 → x ≠ a + 5 * w + 6 → x ≠ a + 5 * w + 7 → x ≠ a + 5 * w + 8 → Y x = M x := fun x h1 h2 h3 h4 h5 => by
    rw [eY]; unfold xu_p; rw [xr_n _ _ h1, xr_n _ _ h1, zl_ap_o h4 h5, zl_rv_o h2 h3]
  have yP : Y (a + 2 * k + 34) = upd (upd (M (a + 2 * k + 34)) 3 (nI 1)) 6 (nI 0) := by
    rw [eY]; unfold xu_p; rw [xr_s, xr_s, zl_ap_o (by omega) (by omega), zl_rv_o (by omega) (by omega)]
  have hlQ : zl_L Y (a + 5 * w + 5) ((Q w).eraseIdx 0) := by
    refine ((hold w hw).1.rv (hold w hw).2.2.1 ((hold w hw).q hn) hj).eq ?_ ?_
    · rw [eY]; unfold xu_p; rw [xr_n _ _ (by omega), xr_n _ _ (by omega), zl_ap_o (by omega) (by omega)]
    · rw [eY]; unfold xu_p; rw [xr_n _ _ (by omega), xr_n _ _ (by omega), zl_ap_o (by omega) (by omega)]
  have hlR : zl_L Y (a + 5 * w + 7) (R w ++ [k]) := by
    have g1 : zl_L (zl_rv (a + 5 * w + 5) (nI k) M) (a + 5 * w + 7) (R w) := (hold w hw).2.1.eq (by rw [zl_rv_o (by omega) (by omega)]) (by rw [zl_rv_o (by omega) (by omega)])
    refine (g1.ap (zl_room (hold w hw).2.2.2.1 ((hold w hw).r hn) hk24 (hkR w hw)) k).eq ?_ ?_
    · rw [eY]; unfold xu_p; rw [xr_n _ _ (by omega), xr_n _ _ (by omega)]
    · rw [eY]; unfold xu_p; rw [xr_n _ _ (by omega), xr_n _ _ (by omega)]
  have hp : ∀ i, i < 24 → i ≠ k → Y (a + 2 * i + 34) = M (a + 2 * i + 34) := fun i hi hik => yM _ (by omega) (by omega) (by omega) (by omega) (by omega)
  have he : ∀ i, i < 24 → Y (a + 2 * i + 35) = M (a + 2 * i + 35) := fun i hi => yM _ (by omega) (by omega) (by omega) (by omega) (by omega)
  have hA : Y a = M a := yM _ (by omega) (by omega) (by omega) (by omega) (by omega)
  have hV : ∀ v, v < 6 → Y (a + 5 * v + 4) = M (a + 5 * v + 4) := fun v hv => yM _ (by omega) (by omega) (by omega) (by omega) (by omega)
  have hY3 : Y (a + 2 * k + 34) 3 = nI 1 := by rw [yP]; rfl
  have hwz : zm_wz Y (a + 2 * k + 34) = w := by
    have : zm_wz Y (a + 2 * k + 34) = zm_wz M (a + 2 * k + 34) := by
      unfold zm_wz
      rw [yP, yM (a + 2 * k + 34 + 1) (by omega) (by omega) (by omega) (by omega) (by omega)]
      rfl
    rw [this, hkw]
  refine zi_mv h hkn hw (Nat.le_refl B) ⟨by rw [hA], by rw [hA], by rw [hA]⟩ (yM _ (by omega) (by omega) (by omega) (by omega) (by omega)) hp he (by rw [yP]; rfl) ?_ (fun v hv _ => hV v hv) (by rw [hV w hw]; exact h.2.2.2.2.1 w hw) ?_ (by rw [hV w hw, yP, hA]; rfl) (by rw [hV w hw, yP]; rfl) (by rw [hV w hw, yP]; rfl)
  · obtain ⟨m, t, p1, p2, p3, p4, p5, p6⟩ := h.2.2.2.1 k hkn
    rw [yP]
    refine ⟨m, t, p1, p2, p3, p4, p5, ?_⟩
    rcases p6 with q | q | q
    · exact Or.inl ⟨Or.inr rfl, q.2⟩
    · exact absurd (hk1.symm.trans q.1) (by decide)
    · exact absurd (hk1.symm.trans q.1) (by decide)
  · refine zi_lv (Q' := fun v => if v = w then (Q v).eraseIdx 0 else Q v) (R' := fun v => if v = w then R v ++ [k] else R v) hkn hn hold hp he (fun v hv => ?_)
    have no0 : ¬ (Y (a + 2 * k + 34) 3 = nI 0 ∧ zm_wz Y (a + 2 * k + 34) = v) := fun z => zn_10 (hY3.symm.trans z.1)
    by_cases q : v = w
    · subst q
      simp only [↓reduceIte]
      exact ⟨hlQ, hlR, zl_erN (hold v hv).2.2.1 0, zl_apN (hold v hv).2.2.2.1 (hkR v hv), fun i hi => by rw [zl_er (hold v hv).2.2.1 hj]; exact ⟨fun z => z.1, fun z => ⟨z, hi⟩⟩, fun i hi => by rw [List.mem_append, List.mem_singleton]; exact ⟨fun z => z.resolve_right hi, Or.inl⟩, ⟨fun z => absurd rfl ((zl_er (hold v hv).2.2.1 hj k).mp z).2, fun z => absurd z no0⟩, ⟨fun _ => ⟨hY3, hwz⟩, fun _ => List.mem_append.mpr (Or.inr (List.mem_singleton.mpr rfl))⟩⟩
    · simp only [if_neg q]
      exact ⟨(hold v hv).1.eq (by rw [yM _ (by omega) (by omega) (by omega) (by omega) (by omega)]) (yM _ (by omega) (by omega) (by omega) (by omega) (by omega)), (hold v hv).2.1.eq (by rw [yM _ (by omega) (by omega) (by omega) (by omega) (by omega)]) (yM _ (by omega) (by omega) (by omega) (by omega) (by omega)), (hold v hv).2.2.1, (hold v hv).2.2.2.1, fun i _ => by first | exact trivial | exact Iff.rfl, fun i _ => by first | exact trivial | exact Iff.rfl, ⟨fun z => absurd (hkw.symm.trans (((hold v hv).2.2.2.2.1 k).mp z).2.2).symm q, fun z => absurd z no0⟩, ⟨fun z => absurd z (hkR v hv), fun z => absurd (z.2.symm.trans hwz) q⟩⟩
theorem zi_sa {a n T G B k y : Nat} {M : xm_T} (h : zi a M n T G B) (hkn : k < n) (hk1 : M (a + 2 * k + 34) 3 = nI 0) (hy : y ≤ G) : zi a (zm_sa a k (nI y) M) n T G B := by
  have hn := h.n
  have hk24 : k < 24 := by omega
  have hk0 := h.2.1 k hk24
  obtain ⟨Q, R, hold⟩ := h.2.2.2.2.2.1
  obtain ⟨t, m, w, hat⟩ := (h.2.2.2.1 k hkn).at (Or.inl hk1)
  have hw := hat.2.2.2.2.2
  have hwzM := zk_wz hat
  obtain ⟨j, hj⟩ := List.getElem?_of_mem (((hold w hw).2.2.2.2.1 k).mpr ⟨hkn, hk1, hwzM⟩)
  obtain ⟨Y, eY⟩ : ∃ Y, Y = zm_sa a k (nI y) M := ⟨_, rfl⟩
  rw [← eY]
  unfold zm_sa at eY
  rw [hwzM, if_pos hw, hk0] at eY
  have hkR : ∀ v, v < 6 → k ∉ R v := fun v hv z => by
    have := ((hold v hv).2.2.2.2.2 k).mp z
    exact zn_01 (hk1.symm.trans this.2.1)
  have yM : ∀ x, x ≠ a → x ≠ a + 2 * k + 34 → x ≠ a + 5 * w + 5 → x ≠ a + 5 * w + 6 → Y x = M x := fun x h0 h1 h2 h3 => by
    rw [eY]; unfold zm_go xu_p; rw [xr_n _ _ h1, xr_n _ _ h1, xr_n _ _ h1, xr_n _ _ h0, zl_rv_o h2 h3]
  have yP : Y (a + 2 * k + 34) = upd (upd (upd (M (a + 2 * k + 34)) 3 (nI 3)) 5 (nI 0)) 10 (nI y) := by
    rw [eY]; unfold zm_go xu_p; rw [xr_s, xr_s, xr_s, xr_n _ _ (by omega), zl_rv_o (by omega) (by omega)]
  have yA : Y a = upd (M a) 5 (M a 5 + zm_h (M (a + 2 * k + 34) 5)) := by
    rw [eY]; unfold zm_go xu_p; rw [xr_n _ _ (by omega), xr_n _ _ (by omega), xr_n _ _ (by omega), xr_s, zl_rv_o (by omega) (by omega)]
  have hlQ : zl_L Y (a + 5 * w + 5) ((Q w).eraseIdx j) := by
    refine ((hold w hw).1.rv (hold w hw).2.2.1 ((hold w hw).q hn) hj).eq ?_ ?_
    · rw [eY]; unfold zm_go xu_p; rw [xr_n _ _ (by omega), xr_n _ _ (by omega), xr_n _ _ (by omega), xr_n _ _ (by omega)]
    · rw [eY]; unfold zm_go xu_p; rw [xr_n _ _ (by omega), xr_n _ _ (by omega), xr_n _ _ (by omega), xr_n _ _ (by omega)]
  have hp : ∀ i, i < 24 → i ≠ k → Y (a + 2 * i + 34) = M (a + 2 * i + 34) := fun i hi hik => yM _ (by omega) (by omega) (by omega) (by omega)
  have he : ∀ i, i < 24 → Y (a + 2 * i + 35) = M (a + 2 * i + 35) := fun i hi => yM _ (by omega) (by omega) (by omega) (by omega)
  have hV : ∀ v, v < 6 → Y (a + 5 * v + 4) = M (a + 5 * v + 4) := fun v hv => yM _ (by omega) (by omega) (by omega) (by omega)
  have hY3 : Y (a + 2 * k + 34) 3 = nI 3 := by rw [yP]; rfl
  refine zi_mv h hkn hw (Nat.le_refl B) ⟨by rw [yA]; rfl, by rw [yA]; rfl, by rw [yA]; rfl⟩ (yM _ (by omega) (by omega) (by omega) (by omega)) hp he (by rw [yP]; rfl) ?_ (fun v hv _ => hV v hv) (by rw [hV w hw]; exact h.2.2.2.2.1 w hw) ?_ ?_ (by rw [hV w hw, yP]; rfl) (by rw [hV w hw, yP]; rfl)
  · obtain ⟨m', t', p1, p2, p3, p4, p5, p6⟩ := h.2.2.2.1 k hkn
    rw [yP]
    refine ⟨m', t', p1, p2, p3, p4, p5, ?_⟩
    rcases p6 with q | q | q
    · exact Or.inr (Or.inr ⟨rfl, q.2.1, rfl, y, hy, rfl⟩)
    · exact absurd (hk1.symm.trans q.1) (by decide)
    · exact absurd (hk1.symm.trans q.1) (by decide)
  · refine zi_lv (Q' := fun v => if v = w then (Q v).eraseIdx j else Q v) (R' := R) hkn hn hold hp he (fun v hv => ?_)
    have no0 : ¬ (Y (a + 2 * k + 34) 3 = nI 0 ∧ zm_wz Y (a + 2 * k + 34) = v) := fun z => absurd (hY3.symm.trans z.1) (by decide)
    have no1 : ¬ (Y (a + 2 * k + 34) 3 = nI 1 ∧ zm_wz Y (a + 2 * k + 34) = v) := fun z => absurd (hY3.symm.trans z.1) (by decide)
    have hR : zl_L Y (a + 5 * v + 7) (R v) := (hold v hv).2.1.eq (by rw [yM _ (by omega) (by omega) (by omega) (by omega)]) (yM _ (by omega) (by omega) (by omega) (by omega))
    by_cases q : v = w
    · subst q
      simp only [↓reduceIte]
      exact ⟨hlQ, hR, zl_erN (hold v hv).2.2.1 j, (hold v hv).2.2.2.1, fun i hi => by rw [zl_er (hold v hv).2.2.1 hj]; exact ⟨fun z => z.1, fun z => ⟨z, hi⟩⟩, fun i _ => by first | exact trivial | exact Iff.rfl, ⟨fun z => absurd rfl ((zl_er (hold v hv).2.2.1 hj k).mp z).2, fun z => absurd z no0⟩, ⟨fun z => absurd z (hkR v hv), fun z => absurd z no1⟩⟩
    · simp only [if_neg q]
      exact ⟨(hold v hv).1.eq (by rw [yM _ (by omega) (by omega) (by omega) (by omega)]) (yM _ (by omega) (by omega) (by omega) (by omega)), hR, (hold v hv).2.2.1, (hold v hv).2.2.2.1, fun i _ => by first | exact trivial | exact Iff.rfl, fun i _ => by first | exact trivial | exact Iff.rfl, ⟨fun z => absurd (hwzM.symm.trans (((hold v hv).2.2.2.2.1 k).mp z).2.2).symm q, fun z => absurd z no0⟩, ⟨fun z => absurd z (hkR v hv), fun z => absurd z no1⟩⟩
  · rw [hV w hw, yP, yA]
    show M (a + 5 * w + 4) 2 + zm_h (nI 0) + (M a 5 + zm_h (M (a + 2 * k + 34) 5)) = _
    rw [zh_0 rfl, show nI 0 = 0 from rfl]
    grind
theorem zi_s1 {a n T G B w L : Nat} {z : xm_T × Nat} (h : zi a z.1 n T G B) (hT : T + 1 ≤ G) (hB : B + 1 < 2 ^ 31) (hw : w < 6) (hL : z.1 (a + 5 * w + 7) 1 = nI L) (hL24 : L ≤ 24) (hz : z.2 < L) :
    zi a (zm_s1 a w z).1 n T G (B + 1) ∧ ∃ L', L' ≤ 24 ∧ (zm_s1 a w z).1 (a + 5 * w + 7) 1 = nI L' ∧ L' + z.2 + 1 = L + (zm_s1 a w z).2 := by
  obtain ⟨Q, R, hold⟩ := h.2.2.2.2.2.1
  have hn := h.n
  have hR := (hold w hw).2.1
  have hLR : (R w).length = L := by have := hR.1; exact zI_inj (by omega) (by omega) (hR.2.1.symm.trans hL)
  have hj : (R w)[z.2]? = some (R w)[z.2] := List.getElem?_eq_getElem (by omega)
  generalize (R w)[z.2] = k at hj
  obtain ⟨hkn, hk1, hkw⟩ := ((hold w hw).2.2.2.2.2 k).mp (List.mem_of_getElem? hj)
  have hk24 : k < 24 := by omega
  have hnum : z.1 (a + 5 * w + 8) z.2 = nI k := hR.2.2 _ _ hj
  unfold zm_s1
  rw [hnum, nI_clamp (by omega), if_pos hk24]
  obtain ⟨M1, e1⟩ : ∃ M1, M1 = xu_p z.1 (a + 2 * k + 34) 6 (z.1 (a + 2 * k + 34) 6 + nI 1) := ⟨_, rfl⟩
  have o1 : ∀ x, x ≠ a + 2 * k + 34 → M1 x = z.1 x := fun x hx => by rw [e1]; exact xr_n _ _ hx
  have s1 : ∀ i, i ≠ 6 → M1 (a + 2 * k + 34) i = z.1 (a + 2 * k + 34) i := fun i hi => by rw [e1]; exact xu_n _ (Or.inr hi)
  have h1 : zi a M1 n T G B := by
    refine zi_mi h (fun x hx => o1 x (hx k hk24)) (fun k' hk' i hi => ?_)
    by_cases q : k' = k
    · subst q; exact s1 i (by omega)
    · rw [o1 _ (by omega)]
  unfold zm_s0
  rw [← e1]
  by_cases q : z.1 (a + 2 * k + 34) 6 + nI 1 < z.1 (a + 1) 0
  · rw [if_pos q]
    exact ⟨h1.mono (Nat.le_refl G) (Nat.le_succ B), L, hL24, by show M1 (a + 5 * w + 7) 1 = _; rw [o1 _ (by omega)]; exact hL, rfl⟩
  · rw [if_neg q, h.2.1 k hk24]
    have hold1 : ∀ v, v < 6 → zi_Lw a n M1 v (Q v) (R v) := fun v hv => by
      obtain ⟨f1, f2, f3, f4, f5, f6⟩ := hold v hv
      have g3 : ∀ i, i < n → M1 (a + 2 * i + 34) 3 = z.1 (a + 2 * i + 34) 3 ∧ zm_wz M1 (a + 2 * i + 34) = zm_wz z.1 (a + 2 * i + 34) := fun i hi => by
        by_cases q : i = k
        · subst q
          exact ⟨s1 3 (by decide), by unfold zm_wz; rw [s1 4 (by decide), o1 _ (by omega)]⟩
        · exact ⟨by rw [o1 _ (by omega)], by unfold zm_wz; rw [o1 _ (by omega), o1 _ (by omega)]⟩
      refine ⟨f1.eq (by rw [o1 _ (by omega)]) (o1 _ (by omega)), f2.eq (by rw [o1 _ (by omega)]) (o1 _ (by omega)), f3, f4, fun i => ?_, fun i => ?_⟩
      · rw [f5]
        exact ⟨fun z => ⟨z.1, by rw [(g3 i z.1).1, (g3 i z.1).2]; exact z.2⟩, fun z => ⟨z.1, by rw [← (g3 i z.1).1, ← (g3 i z.1).2]; exact z.2⟩⟩
      · rw [f6]
        exact ⟨fun z => ⟨z.1, by rw [(g3 i z.1).1, (g3 i z.1).2]; exact z.2⟩, fun z => ⟨z.1, by rw [← (g3 i z.1).1, ← (g3 i z.1).2]; exact z.2⟩⟩
    obtain ⟨r1, r2⟩ := zi_fi h1 hT hB hw hold1 hj
    exact ⟨r1, L - 1, by omega, by rw [hLR] at r2; exact r2, by show L - 1 + z.2 + 1 = L + z.2; omega⟩
/-- the states of serveAt's loop -/
theorem zi_svn {a n T G B w L : Nat} {M : xm_T} (h : zi a M n T G B) (hT : T + 1 ≤ G) (hB : B + 24 < 2 ^ 31) (hw : w < 6) (hL : M (a + 5 * w + 7) 1 = nI L) (hL24 : L ≤ 24) :
    ∀ i, i ≤ L → zi a (zm_it (zm_s1 a w) i (M, 0)).1 n T G (B + i) ∧ ∃ L', L' ≤ 24 ∧ (zm_it (zm_s1 a w) i (M, 0)).1 (a + 5 * w + 7) 1 = nI L' ∧ L' + i = L + (zm_it (zm_s1 a w) i (M, 0)).2 := by
  intro i
  induction i with
  | zero => intro _; exact ⟨h, L, hL24, hL, rfl⟩
  | succ i ih =>
    intro hi
    obtain ⟨g1, L', g2, g3, g4⟩ := ih (by omega)
    obtain ⟨r1, L2, r2, r3, r4⟩ := zi_s1 g1 hT (by omega) hw g3 g2 (by omega)
    exact ⟨r1, L2, r2, r3, by show L2 + (i + 1) = L + (zm_s1 a w (zm_it (zm_s1 a w) i (M, 0))).2; omega⟩
theorem zi_Ls {a n T G B w : Nat} {M : xm_T} (h : zi a M n T G B) (hw : w < 6) : ∃ L, L ≤ 24 ∧ M (a + 5 * w + 7) 1 = nI L := by
  obtain ⟨Q, R, hold⟩ := h.2.2.2.2.2.1
  exact ⟨_, (hold w hw).2.1.1, (hold w hw).2.1.2.1⟩
theorem zi_Lq {a n T G B w : Nat} {M : xm_T} (h : zi a M n T G B) (hw : w < 6) : ∃ L, L ≤ 24 ∧ M (a + 5 * w + 5) 1 = nI L := by
  obtain ⟨Q, R, hold⟩ := h.2.2.2.2.2.1
  exact ⟨_, (hold w hw).1.1, (hold w hw).1.2.1⟩
theorem zi_sv {a n T G B w : Nat} {M : xm_T} (h : zi a M n T G B) (hT : T + 1 ≤ G) (hB : B + 24 < 2 ^ 31) (hw : w < 6) : zi a (zm_sv a w M) n T G (B + 24) := by
  obtain ⟨L, hL24, hL⟩ := zi_Ls h hw
  unfold zm_sv
  rw [hL, nI_clamp (by omega)]
  exact (zi_svn h hT hB hw hL hL24 L (Nat.le_refl L)).1.mono (Nat.le_refl G) (by omega)
/-- the head of a queue -/
theorem zi_hd {a n T G B w : Nat} {M : xm_T} (h : zi a M n T G B) (hw : w < 6) (hc : ¬ M (a + 5 * w + 5) 1 = nI 0) : ∃ Q R : Nat → List Nat, (∀ v, v < 6 → zi_Lw a n M v (Q v) (R v)) ∧ (Q w)[0]? = some (zm_cp a w M) ∧ zm_cp a w M < n ∧ M (a + 5 * w + 6) 0 = nI (zm_cp a w M) := by
  obtain ⟨Q, R, hold⟩ := h.2.2.2.2.2.1
  have hn := h.n
  have hQ := (hold w hw).1
  have hl : 0 < (Q w).length := by
    rcases Nat.eq_zero_or_pos (Q w).length with z | z
    · exact absurd (by rw [hQ.2.1, z]) hc
    · exact z
  have hj : (Q w)[0]? = some (Q w)[0] := List.getElem?_eq_getElem hl
  generalize (Q w)[0] = k at hj
  have hkn := (((hold w hw).2.2.2.2.1 k).mp (List.mem_of_getElem? hj)).1
  have hnum : M (a + 5 * w + 6) 0 = nI k := hQ.2.2 _ _ hj
  have e : zm_cp a w M = k := by unfold zm_cp; rw [hnum, nI_clamp (by omega)]
  exact ⟨Q, R, hold, by rw [e]; exact hj, by rw [e]; exact hkn, by rw [e]; exact hnum⟩
theorem zi_cl {a n T G B w : Nat} (hw : w < 6) : ∀ (i : Nat) {M : xm_T}, zi a M n T G B → zi a (zm_cl a w i M) n T G B := by
  intro i
  induction i with
  | zero => intro M h; exact h
  | succ i ih =>
    intro M h
    show zi a (if zm_c0 a w M then M else zm_cl a w i (zm_c2 a w (zm_cp a w M) M)) n T G B
    by_cases q : zm_c0 a w M
    · rw [if_pos q]; exact h
    · rw [if_neg q]
      obtain ⟨Q, R, hold, hj, -, -⟩ := zi_hd h hw (fun z => q (Or.inl z))
      exact ih (zi_c2 h hw hold hj)
theorem zi_w0 {a n T G B k : Nat} {M : xm_T} (h : zi a M n T G B) (hkn : k < n) : zi a (zm_w0 a k M) n T G B := by
  have hn := h.n
  have o1 : ∀ x, x ≠ a + 2 * k + 34 → zm_w0 a k M x = M x := fun x hx => by unfold zm_w0 xu_p; rw [xr_n _ _ hx, xr_n _ _ hx]
  have s1 : ∀ i, i ≠ 7 → i ≠ 8 → zm_w0 a k M (a + 2 * k + 34) i = M (a + 2 * k + 34) i := fun i h7 h8 => by unfold zm_w0; rw [xu_n _ (Or.inr h8), xu_n _ (Or.inr h7)]
  refine zi_mi h (fun x hx => o1 x (hx k (by omega))) (fun k' hk' i hi => ?_)
  by_cases q : k' = k
  · subst q; exact s1 i (by omega) (by omega)
  · rw [o1 _ (by omega)]
theorem zi_q0 {a n T G B k : Nat} {M : xm_T} (h : zi a M n T G B) (hk : k < 24) (hq : M (a + 2 * k + 34) 3 = nI 0) : k < n := by
  rcases Nat.lt_or_ge k n with z | z
  · exact z
  · exact absurd (hq.symm.trans (h.2.2.1 k z hk).2.1) (by decide)
theorem zi_w1 {a n T G B k : Nat} {M : xm_T} (h : zi a M n T G B) (hT : T + 1 ≤ G) (hk : k < 24) : zi a (zm_w1 a k M) n T G B := by
  unfold zm_w1
  by_cases q : M (a + 2 * k + 34) 3 = 0
  · rw [if_pos q]
    have hkn := zi_q0 h hk q
    have h0 := zi_w0 h hkn
    by_cases q2 : ¬ M (a + 1) 2 = 0 ∧ ¬ M (a + 2 * k + 34) 8 + nI 1 < M (a + 1) 2
    · rw [if_pos q2, h.1.2.2.1, show nI T + nI 1 = nI (T + 1) from nI_add T 1]
      exact zi_sa h0 hkn (by unfold zm_w0; rw [xu_n _ (Or.inr (by decide)), xu_n _ (Or.inr (by decide))]; exact q) hT
    · rw [if_neg q2]; exact h0
  · rw [if_neg q]; exact h
theorem zi_fo {a n T G B : Nat} {f : Nat → xm_T → xm_T} {L d : Nat} (hf : ∀ (k : Nat) {M : xm_T}, k < L → zi a M n T G (B + d * k) → zi a (f k M) n T G (B + d * (k + 1))) : ∀ (i : Nat) {M : xm_T}, i ≤ L → zi a M n T G B → zi a (zm_fo f i M) n T G (B + d * i) := by
  intro i
  induction i with
  | zero => intro M _ h; exact h
  | succ i ih => intro M hi h; exact hf i (by omega) (ih (by omega) h)
theorem zi_cf {a n T G B k : Nat} {M : xm_T} (h : zi a M n T G B) (hk : k < 24) : zi a (zm_cf a k M) n T G B := by
  have o1 : ∀ x, x ≠ a + 2 * k + 34 → zm_cf a k M x = M x := fun x hx => by unfold zm_cf xu_p; rw [xr_n _ _ hx]
  refine zi_mi h (fun x hx => o1 x (hx k hk)) (fun k' hk' i hi => ?_)
  by_cases q : k' = k
  · subst q; unfold zm_cf; rw [xu_n _ (Or.inr (by omega))]
  · rw [o1 _ (by omega)]
theorem zi_v1 {a n T G B w : Nat} {M : xm_T} (h : zi a M n T G B) (hT : T + 1 ≤ G) (hB : B + 24 < 2 ^ 31) (hw : w < 6) : zi a (zm_v1 a w M) n T G (B + 24) := by
  unfold zm_v1
  by_cases q : M (a + 5 * w + 4) 0 = 0
  · rw [if_pos q]; exact h.mono (Nat.le_refl G) (by omega)
  · rw [if_neg q]; exact zi_cl hw _ (zi_sv h hT hB hw)
theorem zi_t1 {a n T B : Nat} {M : xm_T} (h : zi a M n T T B) : zi a (zm_fo (zm_cf a) 24 M) n T (T + 1) B :=
  (zi_fo (d := 0) (fun k _ hk g => by rw [Nat.zero_mul] at g ⊢; exact zi_cf g hk) 24 (Nat.le_refl _) (h.mono (Nat.le_succ T) (Nat.le_refl B))).mono (Nat.le_refl _) (by omega)
theorem zi_t2 {a n T G B : Nat} {M : xm_T} (h : zi a M n T G B) (hT : T + 1 ≤ G) (hB : B + 144 < 2 ^ 31) : ∀ i, i ≤ 6 → zi a (zm_fo (zm_v1 a) i M) n T G (B + 24 * i) := fun i hi =>
  zi_fo (L := 6) (fun k _ hk g => by rw [show B + 24 * (k + 1) = B + 24 * k + 24 by omega]; exact zi_v1 g hT (by omega) hk) i hi h
theorem zi_t3 {a n T G B : Nat} {M : xm_T} (h : zi a M n T G B) (hT : T + 1 ≤ G) : ∀ i, i ≤ 24 → zi a (zm_fo (zm_w1 a) i M) n T G B := fun i hi =>
  (zi_fo (d := 0) (L := 24) (fun k _ hk g => by rw [Nat.zero_mul] at g ⊢; exact zi_w1 g hT hk) i hi h).mono (Nat.le_refl _) (by omega)
theorem zi_ti {a n T B : Nat} {M : xm_T} (h : zi a M n T T B) (hB : B + 144 < 2 ^ 31) : zi a (zm_ti a M) n (T + 1) (T + 1) (B + 144) := by
  have g1 := zi_t1 h
  have g2 : zi a (zm_fo (zm_v1 a) 6 (zm_fo (zm_cf a) 24 M)) n T (T + 1) (B + 24 * 6) := zi_t2 g1 (Nat.le_refl _) hB 6 (Nat.le_refl _)
  have g : zi a (zm_t0 a M) n T (T + 1) (B + 144) := by
    unfold zm_t0 zm_wa
    exact zi_t3 g2 (Nat.le_refl _) 24 (Nat.le_refl _)
  unfold zm_ti
  obtain ⟨N, eN⟩ : ∃ N, N = zm_t0 a M := ⟨_, rfl⟩
  rw [← eN] at g ⊢
  obtain ⟨⟨h1, h2, h3, h4, v, h5, h6⟩, g1, g2, g3, g4, ⟨Q, R, g5⟩, g6, g7, g8⟩ := g
  have o : ∀ x, x ≠ a → xu_p N a 4 (N a 4 + nI 1) x = N x := fun x hx => xr_n _ _ hx
  have o4 : ∀ i, i ≠ 4 → xu_p N a 4 (N a 4 + nI 1) a i = N a i := fun i hi => xu_n _ (Or.inr hi)
  have e4 : xu_p N a 4 (N a 4 + nI 1) a 4 = nI (T + 1) := by rw [xu_s, h3]; exact nI_add T 1
  generalize xu_p N a 4 (N a 4 + nI 1) = Y at o o4 e4
  have wz : ∀ k, zm_wz Y (a + 2 * k + 34) = zm_wz N (a + 2 * k + 34) := fun k => by unfold zm_wz; rw [o _ (by omega), o _ (by omega)]
  refine ⟨⟨h1, by rw [o4 3 (by decide)]; exact h2, e4, Nat.le_refl _, v, h5, by rw [o _ (by omega)]; exact h6⟩, fun k hk => by rw [o _ (by omega)]; exact g1 k hk, fun k hn hk => by rw [o _ (by omega)]; exact g2 k hn hk, fun k hk => by rw [o _ (by omega), o _ (by omega)]; exact g3 k hk, fun w hw => by rw [o _ (by omega)]; exact g4 w hw, ⟨Q, R, fun w hw => ?_⟩, ?_, ?_, ?_⟩
  · obtain ⟨e1, e2, e3, e4, e5, e6⟩ := g5 w hw
    exact ⟨e1.eq (by rw [o _ (by omega)]) (o _ (by omega)), e2.eq (by rw [o _ (by omega)]) (o _ (by omega)), e3, e4, fun k => by rw [e5, wz, o (a + 2 * k + 34) (by omega)], fun k => by rw [e6, wz, o (a + 2 * k + 34) (by omega)]⟩
  · rw [zs_c (f := fun w => N (a + 5 * w + 4) 2) (g := fun w => Y (a + 5 * w + 4) 2) (fun w _ => by rw [o (a + 5 * w + 4) (by omega)]), zs_c (f := fun k => zm_h (N (a + 2 * k + 34) 5)) (g := fun k => zm_h (Y (a + 2 * k + 34) 5)) (fun k _ => by rw [o (a + 2 * k + 34) (by omega)]), o4 5 (by decide), o4 6 (by decide)]
    exact g6
  · rw [zs_c (f := fun w => N (a + 5 * w + 4) 4) (g := fun w => Y (a + 5 * w + 4) 4) (fun w _ => by rw [o (a + 5 * w + 4) (by omega)]), zs_c (f := fun k => N (a + 2 * k + 34) 9) (g := fun k => Y (a + 2 * k + 34) 9) (fun k _ => by rw [o (a + 2 * k + 34) (by omega)])]
    exact g7
  · rw [zs_c (f := fun w => N (a + 5 * w + 4) 3) (g := fun w => Y (a + 5 * w + 4) 3) (fun w _ => by rw [o (a + 5 * w + 4) (by omega)]), zs_c (f := fun k => N (a + 2 * k + 34) 9) (g := fun k => Y (a + 2 * k + 34) 9) (fun k _ => by rw [o (a + 2 * k + 34) (by omega)]), zs_c (f := fun k => N (a + 2 * k + 34) 4) (g := fun k => Y (a + 2 * k + 34) 4) (fun k _ => by rw [o (a + 2 * k + 34) (by omega)])]
    exact g8
theorem zi_tn {a n B : Nat} {M : xm_T} : ∀ (i : Nat) {T : Nat}, zi a M n T T B → B + 144 * i < 2 ^ 31 → zi a (zm_it (zm_ti a) i M) n (T + i) (T + i) (B + 144 * i) := by
  intro i
  induction i with
  | zero => intro T h _; exact h
  | succ i ih =>
    intro T h hB
    rw [show B + 144 * (i + 1) = B + 144 * i + 144 by omega]
    exact zi_ti (ih h (by omega)) (by omega)
end
section
/-! ONE MORE PERSON KEEPS IT; WHAT SETTINGS AND WINDOWS CHANGE -/
theorem zi_ad {a n T G B m : Nat} {e : Nat → Int32} {M : xm_T} (h : zi a M n T G B) (hn : n < 24) (hm1 : 1 ≤ m) (hm8 : m ≤ 8) (hd : ∀ j, j < m → ∃ w, w < 6 ∧ e j = nI w) : zi a (zm_ad a m e M) (n + 1) T G B := by
  obtain ⟨⟨h1, h2, h3, h4, v, h5, h6⟩, g1, g2, g3, g4, ⟨Q, R, hold⟩, g6, g7, g8⟩ := h
  obtain ⟨w0, hw0, he0⟩ := hd 0 (by omega)
  obtain ⟨n2, n3, n4, n5, n7, n9, n10⟩ := g2 n (Nat.le_refl n) hn
  have hn0 := g1 n hn
  have en : (M a 3).toNatClampNeg = n := by rw [h2, nI_clamp (by omega)]
  obtain ⟨X, eX⟩ : ∃ X, X = zm_a0 a n m e M := ⟨_, rfl⟩
  have xP : X (a + 2 * n + 34) = upd (M (a + 2 * n + 34)) 2 (nI m) := by
    rw [eX]; unfold zm_a0 xu_p; rw [xr_s, xr_n _ _ (by omega), xr_n _ _ (by omega)]
  have xE : X (a + 2 * n + 35) = fun j => if j < m then e j else M (a + 2 * n + 35) j := by
    rw [eX]; unfold zm_a0 xu_p; rw [xr_n _ _ (by omega), xr_s]
  have xA : X a = upd (M a) 3 (nI (n + 1)) := by
    rw [eX]; unfold zm_a0 xu_p; rw [xr_n _ _ (by omega), xr_n _ _ (by omega), xr_s, h2, show nI n + nI 1 = nI (n + 1) from nI_add n 1]
  have xM : ∀ x, x ≠ a → x ≠ a + 2 * n + 34 → x ≠ a + 2 * n + 35 → X x = M x := fun x z1 z2 z3 => by
    rw [eX]; unfold zm_a0 xu_p; rw [xr_n _ _ z2, xr_n _ _ z3, xr_n _ _ z1]
  have hat : zk_at X (a + 2 * n + 34) 0 m w0 := by
    refine ⟨by rw [xP]; rfl, by rw [xP]; exact n4, by omega, hm8, ?_, hw0⟩
    show X (a + 2 * n + 35) 0 = nI w0
    rw [xE]
    show (if 0 < m then e 0 else _) = _
    rw [if_pos (by omega)]
    exact he0
  obtain ⟨Y, eY⟩ : ∃ Y, Y = zm_ad a m e M := ⟨_, rfl⟩
  rw [← eY]
  unfold zm_ad at eY
  rw [en, if_pos hn, ← eX] at eY
  unfold zm_jn at eY
  rw [zk_wz hat, if_pos hw0, xP, show upd (M (a + 2 * n + 34)) 2 (nI m) 0 = nI n from hn0] at eY
  have yX : ∀ x, x ≠ a + 2 * n + 34 → x ≠ a + 5 * w0 + 5 → x ≠ a + 5 * w0 + 6 → Y x = X x := fun x z1 z2 z3 => by
    rw [eY, zl_ap_o z2 z3]; unfold xu_p; rw [xr_n _ _ z1, xr_n _ _ z1]
  have yP : Y (a + 2 * n + 34) = upd (upd (upd (M (a + 2 * n + 34)) 2 (nI m)) 3 (nI 0)) 8 (nI 0) := by
    rw [eY, zl_ap_o (by omega) (by omega)]; unfold xu_p; rw [xr_s, xr_s, xP]
  have yE : Y (a + 2 * n + 35) = fun j => if j < m then e j else M (a + 2 * n + 35) j := by rw [yX _ (by omega) (by omega) (by omega), xE]
  have yA : Y a = upd (M a) 3 (nI (n + 1)) := by rw [yX _ (by omega) (by omega) (by omega), xA]
  have yM : ∀ x, x ≠ a → x ≠ a + 2 * n + 34 → x ≠ a + 2 * n + 35 → x ≠ a + 5 * w0 + 5 → x ≠ a + 5 * w0 + 6 → Y x = M x := fun x z1 z2 z3 z4 z5 => by
    rw [yX x z2 z4 z5, xM x z1 z2 z3]
  have hp : ∀ i, i < 24 → i ≠ n → Y (a + 2 * i + 34) = M (a + 2 * i + 34) := fun i hi q => yM _ (by omega) (by omega) (by omega) (by omega) (by omega)
  have he : ∀ i, i < 24 → i ≠ n → Y (a + 2 * i + 35) = M (a + 2 * i + 35) := fun i hi q => yM _ (by omega) (by omega) (by omega) (by omega) (by omega)
  have hV : ∀ v, v < 6 → Y (a + 5 * v + 4) = M (a + 5 * v + 4) := fun v hv => yM _ (by omega) (by omega) (by omega) (by omega) (by omega)
  have hkQ : ∀ v, v < 6 → n ∉ Q v := fun v hv z => by
    have := ((hold v hv).2.2.2.2.1 n).mp z
    omega
  have hkR : ∀ v, v < 6 → n ∉ R v := fun v hv z => by
    have := ((hold v hv).2.2.2.2.2 n).mp z
    omega
  have hY3 : Y (a + 2 * n + 34) 3 = nI 0 := by rw [yP]; rfl
  have hwz : zm_wz Y (a + 2 * n + 34) = w0 := by
    have : zm_wz Y (a + 2 * n + 34) = zm_wz X (a + 2 * n + 34) := by
      unfold zm_wz
      rw [yX (a + 2 * n + 34 + 1) (by omega) (by omega) (by omega), yP, xP]
      rfl
    rw [this, zk_wz hat]
  have wz : ∀ i, i < 24 → i ≠ n → zm_wz Y (a + 2 * i + 34) = zm_wz M (a + 2 * i + 34) := fun i hi q => by
    unfold zm_wz
    rw [hp i hi q, show Y (a + 2 * i + 34 + 1) = M (a + 2 * i + 34 + 1) from he i hi q]
  have hlQ : zl_L Y (a + 5 * w0 + 5) (Q w0 ++ [n]) := by
    rw [eY]
    refine zl_L.ap ((hold w0 hw0).1.eq ?_ ?_) (zl_room (hold w0 hw0).2.2.1 ((hold w0 hw0).q h1) hn (hkQ w0 hw0)) n
    · unfold xu_p; rw [xr_n _ _ (by omega), xr_n _ _ (by omega), xM _ (by omega) (by omega) (by omega)]
    · unfold xu_p; rw [xr_n _ _ (by omega), xr_n _ _ (by omega), xM _ (by omega) (by omega) (by omega)]
  refine ⟨⟨hn, by rw [yA]; rfl, by rw [yA]; exact h3, h4, v, h5, by rw [yM _ (by omega) (by omega) (by omega) (by omega) (by omega)]; exact h6⟩, fun k hk => ?_, fun k hk1 hk => ?_, fun k hk => ?_, fun w hw => by rw [hV w hw]; exact g4 w hw, ⟨fun v => if v = w0 then Q v ++ [n] else Q v, R, fun v hv => ?_⟩, ?_, ?_, ?_⟩
  · by_cases q : k = n
    · subst q; rw [yP]; exact hn0
    · rw [hp k hk q]; exact g1 k hk
  · rw [hp k hk (by omega)]; exact g2 k (by omega) hk
  · by_cases q : k = n
    · subst q
      rw [yP, yE]
      refine ⟨m, 0, hm1, hm8, rfl, n4, fun j hj => ?_, Or.inl ⟨Or.inl rfl, by omega, n10, Or.inl n5⟩⟩
      show ∃ w, w < 6 ∧ (if j < m then e j else _) = nI w
      rw [if_pos hj]
      exact hd j hj
    · rw [hp k (by omega) q, he k (by omega) q]; exact g3 k (by omega)
  · obtain ⟨e1, e2, e3, e4, e5, e6⟩ := hold v hv
    have hmem : ∀ i, i ≠ n → (i < n + 1 ↔ i < n) := fun i hi => by omega
    have hR : zl_L Y (a + 5 * v + 7) (R v) ∧ (R v).Nodup ∧ ∀ i, i ∈ R v ↔ i < n + 1 ∧ Y (a + 2 * i + 34) 3 = nI 1 ∧ zm_wz Y (a + 2 * i + 34) = v := by
      refine ⟨e2.eq (by rw [yM _ (by omega) (by omega) (by omega) (by omega) (by omega)]) (yM _ (by omega) (by omega) (by omega) (by omega) (by omega)), e4, fun i => ?_⟩
      by_cases q : i = n
      · subst q
        exact ⟨fun z => absurd z (hkR v hv), fun z => absurd (hY3.symm.trans z.2.1) zn_01⟩
      · rw [e6, hmem i q]
        constructor
        · rintro ⟨z1, z2⟩
          exact ⟨z1, by rw [hp i (by omega) q, wz i (by omega) q]; exact z2⟩
        · rintro ⟨z1, z2⟩
          exact ⟨z1, by rw [← wz i (by omega) q, ← hp i (by omega) q]; exact z2⟩
    have hQ : zl_L Y (a + 5 * v + 5) (if v = w0 then Q v ++ [n] else Q v) ∧ (if v = w0 then Q v ++ [n] else Q v).Nodup ∧ ∀ i, i ∈ (if v = w0 then Q v ++ [n] else Q v) ↔ i < n + 1 ∧ Y (a + 2 * i + 34) 3 = nI 0 ∧ zm_wz Y (a + 2 * i + 34) = v := by
      have hin : ∀ i, i ≠ n → (i ∈ (if v = w0 then Q v ++ [n] else Q v) ↔ i ∈ Q v) := fun i hi => by
        split
        · rw [List.mem_append, List.mem_singleton]; exact ⟨fun z => z.resolve_right hi, Or.inl⟩
        · exact Iff.rfl
      have hins : n ∈ (if v = w0 then Q v ++ [n] else Q v) ↔ v = w0 := by
        by_cases q : v = w0
        · rw [if_pos q]; exact ⟨fun _ => q, fun _ => List.mem_append.mpr (Or.inr (List.mem_singleton.mpr rfl))⟩
        · rw [if_neg q]; exact ⟨fun z => absurd z (hkQ v hv), fun z => absurd z q⟩
      refine ⟨?_, ?_, fun i => ?_⟩
      · by_cases q : v = w0
        · subst q; rw [if_pos rfl]; exact hlQ
        · rw [if_neg q]; exact e1.eq (by rw [yM _ (by omega) (by omega) (by omega) (by omega) (by omega)]) (yM _ (by omega) (by omega) (by omega) (by omega) (by omega))
      · split
        · exact zl_apN e3 (hkQ v hv)
        · exact e3
      · by_cases q : i = n
        · subst q
          rw [hins]
          exact ⟨fun z => ⟨by omega, hY3, hwz.trans z.symm⟩, fun z => z.2.2.symm.trans hwz⟩
        · rw [hin i q, e5, hmem i q]
          constructor
          · rintro ⟨z1, z2⟩
            exact ⟨z1, by rw [hp i (by omega) q, wz i (by omega) q]; exact z2⟩
          · rintro ⟨z1, z2⟩
            exact ⟨z1, by rw [← wz i (by omega) q, ← hp i (by omega) q]; exact z2⟩
    exact ⟨hQ.1, hR.1, hQ.2.1, hR.2.1, hQ.2.2, hR.2.2⟩
  · rw [zs_c (f := fun w => M (a + 5 * w + 4) 2) (g := fun w => Y (a + 5 * w + 4) 2) (fun w hw => by rw [hV w hw]), zs_c (f := fun k => zm_h (M (a + 2 * k + 34) 5)) (g := fun k => zm_h (Y (a + 2 * k + 34) 5)) (fun k hk => by
      by_cases q : k = n
      · subst q; rw [yP]; rfl
      · rw [hp k hk q]), yA]
    exact g6
  · rw [zs_c (f := fun w => M (a + 5 * w + 4) 4) (g := fun w => Y (a + 5 * w + 4) 4) (fun w hw => by rw [hV w hw]), zs_c (f := fun k => M (a + 2 * k + 34) 9) (g := fun k => Y (a + 2 * k + 34) 9) (fun k hk => by
      by_cases q : k = n
      · subst q; rw [yP]; rfl
      · rw [hp k hk q])]
    exact g7
  · rw [zs_c (f := fun w => M (a + 5 * w + 4) 3) (g := fun w => Y (a + 5 * w + 4) 3) (fun w hw => by rw [hV w hw]), zs_c (f := fun k => M (a + 2 * k + 34) 9) (g := fun k => Y (a + 2 * k + 34) 9) (fun k hk => by
      by_cases q : k = n
      · subst q; rw [yP]; rfl
      · rw [hp k hk q]), zs_c (f := fun k => M (a + 2 * k + 34) 4) (g := fun k => Y (a + 2 * k + 34) 4) (fun k hk => by
      by_cases q : k = n
      · subst q; rw [yP]; rfl
      · rw [hp k hk q])]
    exact g8
/-- a setting, a window's door, its clerks: nothing of it matters, but for HALVES' bound -/
theorem zi_set {a n T G B s : Nat} {M : xm_T} {v : Int32} (h : zi a M n T G B) (hv : s = 1 → ∃ y, y ≤ 20 ∧ v = nI y) : zi a (xu_p M (a + 1) s v) n T G B := by
  obtain ⟨⟨h1, h2, h3, h4, y, h5, h6⟩, g⟩ := h
  have o : ∀ x, x ≠ a + 1 → xu_p M (a + 1) s v x = M x := fun x hx => xr_n _ _ hx
  have key : zi a (xu_p M (a + 1) s v) n T G B ↔ zi_A a n T G (xu_p M (a + 1) s v) ∧ ((∀ k, k < 24 → M (a + 2 * k + 34) 0 = nI k) ∧ (∀ k, n ≤ k → k < 24 → zi_N (M (a + 2 * k + 34))) ∧ (∀ k, k < n → zi_P G (M (a + 2 * k + 34)) (M (a + 2 * k + 35))) ∧ (∀ w, w < 6 → zi_W B (M (a + 5 * w + 4))) ∧ zi_L a n M ∧ zi_S a M) := by
    have e : zi_L a n (xu_p M (a + 1) s v) ↔ zi_L a n M := by
      unfold zi_L zi_Lw zl_L zm_wz
      simp (disch := omega) only [o]
    have e2 : zi_S a (xu_p M (a + 1) s v) ↔ zi_S a M := by
      unfold zi_S
      simp (disch := omega) only [o]
    unfold zi
    rw [e, e2]
    simp (disch := omega) only [o]
  rw [key]
  refine ⟨⟨h1, by rw [o a (by omega)]; exact h2, by rw [o a (by omega)]; exact h3, h4, ?_⟩, g⟩
  by_cases q : s = 1
  · obtain ⟨z, z1, z2⟩ := hv q
    exact ⟨z, z1, by subst q; rw [xu_s]; exact z2⟩
  · exact ⟨y, h5, by rw [xu_n _ (Or.inr (Ne.symm q))]; exact h6⟩
theorem zi_win {a n T G B w s : Nat} {M : xm_T} {v : Int32} (h : zi a M n T G B) (hw : w < 6) (hs : s < 2) : zi a (xu_p M (a + 5 * w + 4) s v) n T G B := by
  have o : ∀ x, x ≠ a + 5 * w + 4 → xu_p M (a + 5 * w + 4) s v x = M x := fun x hx => xr_n _ _ hx
  refine zi_cg h ⟨fun i _ _ => by rw [o a (by omega)], by rw [o _ (by omega)], fun k hk => ⟨fun i _ => by rw [o _ (by omega)], o _ (by omega)⟩, fun u hu => ⟨fun i hi hi2 => ?_, by rw [o _ (by omega)], o _ (by omega), by rw [o _ (by omega)], o _ (by omega)⟩⟩
  exact xu_n _ (Or.inr (by omega))
/-- halves are brought -/
theorem zi_bri {a n T G B w x : Nat} {M : xm_T} (h : zi a M n T G B) (hw : w < 6) (hB : 20 ≤ B) (hb : ∃ y, y ≤ B ∧ M (a + 5 * w + 4) 2 + nI x = nI y) : zi a (xu_p (xu_p M (a + 5 * w + 4) 2 (M (a + 5 * w + 4) 2 + nI x)) a 6 (M a 6 + nI x)) n T G B := by
  obtain ⟨⟨h1, h2, h3, h4, y, h5, h6⟩, g1, g2, g3, g4, g5, s1, s2, s3⟩ := h
  obtain ⟨N, eN⟩ : ∃ N, N = xu_p (xu_p M (a + 5 * w + 4) 2 (M (a + 5 * w + 4) 2 + nI x)) a 6 (M a 6 + nI x) := ⟨_, rfl⟩
  rw [← eN]
  have o : ∀ z, z ≠ a → z ≠ a + 5 * w + 4 → N z = M z := fun z z1 z2 => by rw [eN]; unfold xu_p; rw [xr_n _ _ z1, xr_n _ _ z2]
  have nA : N a = upd (M a) 6 (M a 6 + nI x) := by rw [eN]; unfold xu_p; rw [xr_s, xr_n _ _ (by omega)]
  have nV : N (a + 5 * w + 4) = upd (M (a + 5 * w + 4)) 2 (M (a + 5 * w + 4) 2 + nI x) := by rw [eN]; unfold xu_p; rw [xr_n _ _ (by omega), xr_s]
  have hP : ∀ k, N (a + 2 * k + 34) = M (a + 2 * k + 34) := fun k => o _ (by omega) (by omega)
  have hE : ∀ k, N (a + 2 * k + 35) = M (a + 2 * k + 35) := fun k => o _ (by omega) (by omega)
  have wz : ∀ k, zm_wz N (a + 2 * k + 34) = zm_wz M (a + 2 * k + 34) := fun k => by unfold zm_wz; rw [hP, show N (a + 2 * k + 34 + 1) = M (a + 2 * k + 34 + 1) from hE k]
  refine ⟨⟨h1, by rw [nA]; exact h2, by rw [nA]; exact h3, h4, y, h5, by rw [o _ (by omega) (by omega)]; exact h6⟩, fun k hk => by rw [hP]; exact g1 k hk, fun k z hk => by rw [hP]; exact g2 k z hk, fun k hk => by rw [hP, hE]; exact g3 k hk, fun v hv => ?_, ?_, ?_, ?_, ?_⟩
  · by_cases q : v = w
    · subst q
      obtain ⟨c, s, b, c1, c2, c3, c4, c5, c6⟩ := g4 v hv
      obtain ⟨z, z1, z2⟩ := hb
      rw [nV]
      exact ⟨z, s, b, z1, c2, c3, z2, c5, c6⟩
    · rw [o _ (by omega) (by omega)]; exact g4 v hv
  · obtain ⟨Q, R, hold⟩ := g5
    refine ⟨Q, R, fun v hv => ?_⟩
    obtain ⟨e1, e2, e3, e4, e5, e6⟩ := hold v hv
    exact ⟨e1.eq (by rw [o _ (by omega) (by omega)]) (o _ (by omega) (by omega)), e2.eq (by rw [o _ (by omega) (by omega)]) (o _ (by omega) (by omega)), e3, e4, fun k => by rw [e5, wz, hP], fun k => by rw [e6, wz, hP]⟩
  · rw [zs_up (f := fun w => M (a + 5 * w + 4) 2) (g := fun w => N (a + 5 * w + 4) 2) hw (fun v hv q => by show N (a + 5 * v + 4) 2 = _; rw [o _ (by omega) (by omega)]), zs_c (f := fun k => zm_h (M (a + 2 * k + 34) 5)) (g := fun k => zm_h (N (a + 2 * k + 34) 5)) (fun k _ => by rw [hP]), nA, nV]
    show _ + (M (a + 5 * w + 4) 2 + nI x - M (a + 5 * w + 4) 2) + _ + M a 5 = nI 48 + (M a 6 + nI x)
    grind
  · rw [zs_c (f := fun w => M (a + 5 * w + 4) 4) (g := fun w => N (a + 5 * w + 4) 4) (fun v hv => by
      by_cases q : v = w
      · subst q; rw [nV]; rfl
      · rw [o _ (by omega) (by omega)]), zs_c (f := fun k => M (a + 2 * k + 34) 9) (g := fun k => N (a + 2 * k + 34) 9) (fun k _ => by rw [hP])]
    exact s2
  · rw [zs_c (f := fun w => M (a + 5 * w + 4) 3) (g := fun w => N (a + 5 * w + 4) 3) (fun v hv => by
      by_cases q : v = w
      · subst q; rw [nV]; rfl
      · rw [o _ (by omega) (by omega)]), zs_c (f := fun k => M (a + 2 * k + 34) 9) (g := fun k => N (a + 2 * k + 34) 9) (fun k _ => by rw [hP]), zs_c (f := fun k => M (a + 2 * k + 34) 4) (g := fun k => N (a + 2 * k + 34) 4) (fun k _ => by rw [hP])]
    exact s3
end
section
/-! WHAT THE WALKS TAKE OUT OF IT -/
theorem xf_at_n {M : xm_T} {q L j : Nat} {v : Int32} (hM : M q 1 = nI L) (hj : j < L) (hL : L ≤ 24) (hv : M (q + 1) j = v) : xf_at M q (nI j) = v := by
  unfold xf_at
  rw [if_neg (nI_pos (by omega)), hM, if_neg (nI_ge hj (by omega)), nI_clamp (by omega)]
  exact hv
theorem xf_at_e {M : xm_T} {q : Nat} (h : M q 1 = nI 0) (i : Int32) : xf_at M q i = -6 := by
  unfold xf_at
  by_cases h1 : i < 0
  · rw [if_pos h1]
  · rw [if_neg h1, h, if_pos (by rw [nI_0]; exact Int32.not_lt.mp h1)]
theorem xf_per_6 (M : xm_T) (a : Nat) : xf_per M a (-6) = none := by
  unfold xf_per
  rw [if_pos (by decide)]
theorem xf_per_s {M : xm_T} {a n k : Nat} (hM : M a 3 = nI n) (hn : n ≤ 24) (hk : k < n) : xf_per M a (nI k) = some (a + 2 * k + 34) := by
  unfold xf_per
  rw [if_neg (nI_pos (by omega)), hM, if_neg (nI_ge hk (by omega)), if_neg (nI_ge (by omega) (by omega)), nI_clamp (by omega)]
theorem xf_per_n {M : xm_T} {a n k : Nat} (hM : M a 3 = nI n) (hk : n ≤ k) (hk2 : k < 2 ^ 31) : xf_per M a (nI k) = none := by
  unfold xf_per
  rw [if_neg (nI_pos hk2), hM, if_pos (nI_le hk hk2)]
theorem xd_1 {D : Int32} {k : Nat} (h : k < D.toNatClampNeg) : ¬ D ≤ nI k := by
  by_cases hD : D < 0
  · have h1 : D.toInt < 0 := Int32.lt_iff_toInt_lt.mp hD
    have h2 : k < D.toInt.toNat := h
    omega
  · obtain ⟨j, hj, rfl⟩ := nI_of hD
    rw [nI_clamp hj] at h
    exact nI_ge h hj
theorem xd_2 (D : Int32) : D ≤ nI D.toNatClampNeg := by
  by_cases hD : D < 0
  · have h1 : D.toInt < 0 := Int32.lt_iff_toInt_lt.mp hD
    have h2 : D.toNatClampNeg = 0 := by show D.toInt.toNat = 0; omega
    rw [h2, nI_0]
    exact Int32.le_of_lt hD
  · obtain ⟨j, hj, rfl⟩ := nI_of hD
    rw [nI_clamp hj]
    exact nI_le (Nat.le_refl j) hj
theorem zi_sn {a n T G B w j L : Nat} {M : xm_T} (h : zi a M n T G B) (hw : w < 6) (hL : M (a + 5 * w + 7) 1 = nI L) (hL24 : L ≤ 24) (hjL : j < L) : ∃ k m t, k < n ∧ M (a + 5 * w + 8) j = nI k ∧ M (a + 2 * k + 34) 0 = nI k ∧ M (a + 2 * k + 34) 2 = nI m ∧ M (a + 2 * k + 34) 4 = nI t ∧ t < m ∧ m ≤ 8 ∧ (∀ i, i < m → ∃ u, u < 6 ∧ M (a + 2 * k + 35) i = nI u) ∧ ∀ u, u < 6 → ∃ L, L < 24 ∧ M (a + 5 * u + 5) 1 = nI L := by
  obtain ⟨Q, R, hold⟩ := h.2.2.2.2.2.1
  have hn := h.n
  have hR := (hold w hw).2.1
  have hLR : (R w).length = L := by have := hR.1; exact zI_inj (by omega) (by omega) (hR.2.1.symm.trans hL)
  have hj : (R w)[j]? = some (R w)[j] := List.getElem?_eq_getElem (by omega)
  generalize (R w)[j] = k at hj
  obtain ⟨hkn, hk1, hkw⟩ := ((hold w hw).2.2.2.2.2 k).mp (List.mem_of_getElem? hj)
  obtain ⟨m, t, p1, p2, p3, p4, p5, p6⟩ := h.2.2.2.1 k hkn
  have pt : t < m := by
    rcases p6 with q | q | q
    · exact q.2.1
    · exact absurd (hk1.symm.trans q.1) (by decide)
    · exact absurd (hk1.symm.trans q.1) (by decide)
  refine ⟨k, m, t, hkn, hR.2.2 _ _ hj, h.2.1 k (by omega), p3, p4, pt, p2, p5, fun u hu => ?_⟩
  have hkQ : k ∉ Q u := fun z => zn_01 ((((hold u hu).2.2.2.2.1 k).mp z).2.1.symm.trans hk1)
  exact ⟨_, zl_room (hold u hu).2.2.1 ((hold u hu).q hn) (by omega) hkQ, (hold u hu).1.2.1⟩
theorem zi_hn {a n T G B w : Nat} {M : xm_T} (h : zi a M n T G B) (hw : w < 6) (hc : ¬ M (a + 5 * w + 5) 1 = nI 0) : ∃ k, zm_cp a w M = k ∧ k < n ∧ M (a + 5 * w + 6) 0 = nI k ∧ M (a + 2 * k + 34) 0 = nI k ∧ (∃ L, L < 24 ∧ M (a + 5 * w + 7) 1 = nI L) ∧ zi a (zm_c2 a w k M) n T G B := by
  obtain ⟨Q, R, hold, hj, hkn, hnum⟩ := zi_hd h hw hc
  have hn := h.n
  refine ⟨zm_cp a w M, rfl, hkn, hnum, h.2.1 _ (by omega), ?_, zi_c2 h hw hold hj⟩
  have hk1 := (((hold w hw).2.2.2.2.1 _).mp (List.mem_of_getElem? hj)).2.1
  have hkR : zm_cp a w M ∉ R w := fun z => zn_01 (hk1.symm.trans (((hold w hw).2.2.2.2.2 _).mp z).2.1)
  exact ⟨_, zl_room (hold w hw).2.2.2.1 ((hold w hw).r hn) (by omega) hkR, (hold w hw).2.1.2.1⟩
theorem zi_wn {a n T G B k : Nat} {M : xm_T} (h : zi a M n T G B) (hkn : k < n) (hq : M (a + 2 * k + 34) 3 = nI 0) : ∃ t m w L, zk_at M (a + 2 * k + 34) t m w ∧ L ≤ 24 ∧ M (a + 5 * w + 5) 1 = nI L := by
  obtain ⟨t, m, w, hat⟩ := (h.2.2.2.1 k hkn).at (Or.inl hq)
  obtain ⟨L, hL, hL2⟩ := zi_Lq h hat.2.2.2.2.2
  exact ⟨t, m, w, L, hat, hL, hL2⟩
theorem zw_s {a k : Nat} {M : xm_T} (hk : k < 24) : zm_w1 a k M (a + 1) = M (a + 1) := by
  have h0 : zm_w0 a k M (a + 1) = M (a + 1) := by unfold zm_w0 xu_p; rw [xr_n _ _ (by omega), xr_n _ _ (by omega)]
  unfold zm_w1
  split
  · split
    · unfold zm_sa
      split
      · unfold zm_go xu_p
        rw [xr_n _ _ (by omega), xr_n _ _ (by omega), xr_n _ _ (by omega), xr_n _ _ (by omega), zl_rv_o (by omega) (by omega)]
        exact h0
      · exact h0
    · exact h0
  · rfl
theorem zw_fs {a : Nat} {M : xm_T} : ∀ (i : Nat), i ≤ 24 → zm_fo (zm_w1 a) i M (a + 1) = M (a + 1)
  | 0, _ => rfl
  | i + 1, h => by
    show zm_w1 a i (zm_fo (zm_w1 a) i M) (a + 1) = _
    rw [zw_s (by omega), zw_fs i (by omega)]
theorem zm_cl_stop {a w : Nat} {M : xm_T} (h : zm_c0 a w M) : ∀ N, zm_cl a w N M = M
  | 0 => rfl
  | N + 1 => if_pos h
end
section
/-! TEXTS: the errand k has em k digits ee k 0, ee k 1 ..; it begins at zt_s em k -/
def zt_s (m : Nat → Nat) : Nat → Nat
  | 0 => 0
  | k + 1 => zt_s m k + m k + 1
/-- the first L characters are those of the text -/
def zt (f : Nat → Int32) (L : Nat) (m : Nat → Nat) (e : Nat → Nat → Nat) : Prop := (∀ k j, j < m k → zt_s m k + j < L → f (zt_s m k + j) = nI (48 + e k j)) ∧ ∀ k, zt_s m k + m k < L → f (zt_s m k + m k) = nI 44
def zt_v (N : Nat) (m : Nat → Nat) (e : Nat → Nat → Nat) : Prop := ∀ k, k < N → 1 ≤ m k ∧ m k ≤ 8 ∧ (∀ j, j < m k → e k j < 6) ∧ ∀ j, j + 1 < m k → e k j ≠ e k (j + 1)
theorem zt_s_mono {m : Nat → Nat} : ∀ {k N : Nat}, k ≤ N → zt_s m k ≤ zt_s m N
  | k, 0, h => by rw [show k = 0 by omega]; exact Nat.le_refl _
  | k, N + 1, h => by
    by_cases q : k = N + 1
    · rw [q]; exact Nat.le_refl _
    · have := zt_s_mono (m := m) (k := k) (N := N) (by omega)
      show zt_s m k ≤ zt_s m N + m N + 1
      omega
theorem zt_s_le {m : Nat → Nat} {k N : Nat} (h : k < N) : zt_s m k + m k + 1 ≤ zt_s m N := zt_s_mono (m := m) (k := k + 1) h
theorem zt_one {m : Nat → Nat} {k j k' j' : Nat} (hj : j ≤ m k) (hj' : j' ≤ m k') (h : zt_s m k + j = zt_s m k' + j') : k = k' ∧ j = j' := by
  rcases Nat.lt_trichotomy k k' with q | q | q
  · have := zt_s_le (m := m) q; omega
  · subst q; exact ⟨rfl, by omega⟩
  · have := zt_s_le (m := m) q; omega
theorem zt_0 (f : Nat → Int32) (m : Nat → Nat) (e : Nat → Nat → Nat) : zt f 0 m e := ⟨fun _ _ _ h => absurd h (Nat.not_lt_zero _), fun _ h => absurd h (Nat.not_lt_zero _)⟩
theorem zt_d {f f' : Nat → Int32} {L k j : Nat} {m : Nat → Nat} {e : Nat → Nat → Nat} (h : zt f L m e) (hL : L = zt_s m k + j) (hj : j < m k) (h1 : ∀ i, i < L → f' i = f i) (h2 : f' L = nI (48 + e k j)) : zt f' (L + 1) m e := by
  refine ⟨fun k' j' hj' hl => ?_, fun k' hl => ?_⟩
  · by_cases q : zt_s m k' + j' = L
    · obtain ⟨rfl, rfl⟩ := zt_one (by omega) (by omega) (q.trans hL)
      rw [q]; exact h2
    · rw [h1 _ (by omega)]; exact h.1 k' j' hj' (by omega)
  · by_cases q : zt_s m k' + m k' = L
    · obtain ⟨rfl, z⟩ := zt_one (Nat.le_refl _) (by omega) (q.trans hL)
      omega
    · rw [h1 _ (by omega)]; exact h.2 k' (by omega)
theorem zt_c {f f' : Nat → Int32} {L k : Nat} {m : Nat → Nat} {e : Nat → Nat → Nat} (h : zt f L m e) (hL : L = zt_s m k + m k) (h1 : ∀ i, i < L → f' i = f i) (h2 : f' L = nI 44) : zt f' (L + 1) m e := by
  refine ⟨fun k' j' hj' hl => ?_, fun k' hl => ?_⟩
  · by_cases q : zt_s m k' + j' = L
    · obtain ⟨rfl, z⟩ := zt_one (by omega) (Nat.le_refl _) (q.trans hL)
      omega
    · rw [h1 _ (by omega)]; exact h.1 k' j' hj' (by omega)
  · by_cases q : zt_s m k' + m k' = L
    · rw [q]; exact h2
    · rw [h1 _ (by omega)]; exact h.2 k' (by omega)
def zc_w (v : Int32) : Int32 := if v < nI 48 then nI 0 else if nI 54 ≤ v then nI 0 else nI 1
theorem zc_w1 {x : Nat} (h : x < 6) : zc_w (nI (48 + x)) = nI 1 := by
  unfold zc_w
  rw [if_neg (nI_nlt (by omega) (by omega)), if_neg (nI_ge (by omega) (by omega))]
theorem zc_44 {x : Nat} (h : x < 6) : ¬ nI (48 + x) = nI 44 := fun z => by have := zI_inj (by omega) (by omega) z; omega
theorem zc_mx {x : Nat} (h : x < 2 ^ 31) : (if nI 0 < nI x then nI x else nI 0) = nI x := by
  by_cases q : nI 0 < nI x
  · rw [if_pos q]
  · rw [if_neg q]
    have : x = 0 := by
      rcases Nat.eq_zero_or_pos x with z | z
      · exact z
      · exact absurd (nI_lt z h) q
    rw [this]
theorem zc_sb (x : Nat) : nI (48 + x) - nI 48 = nI x := by
  rw [← nI_add]
  grind
/-- a person who comes, j of its errand's digits laid down -/
def zm_a1 (M : xm_T) (p j : Nat) (e : Nat → Int32) : xm_T := xu_p (xr_up M (p + 1) (fun i => if i < j then e i else M (p + 1) i)) p 2 (nI j)
theorem zm_a1_0 {M : xm_T} {p : Nat} {e : Nat → Int32} (h : M p 2 = nI 0) : zm_a1 M p 0 e = M := by
  funext x
  unfold zm_a1 xu_p
  by_cases q : x = p
  · subst q
    rw [xr_s, xr_n _ _ (by omega)]
    funext i
    by_cases qi : i = 2
    · subst qi; rw [zu_s, h]
    · rw [zu_3 _ _ _ _ qi]
  · rw [xr_n _ _ q]
    by_cases q2 : x = p + 1
    · subst q2
      rw [xr_s]
      funext i
      rw [if_neg (by omega)]
    · rw [xr_n _ _ q2]
theorem zm_a1_1 {M : xm_T} {p j : Nat} {e : Nat → Int32} : xu_p (xu_p (zm_a1 M p j e) (p + 1) j (e j)) p 2 (nI (j + 1)) = zm_a1 M p (j + 1) e := by
  funext x
  unfold zm_a1 xu_p
  by_cases q : x = p
  · subst q
    rw [xr_s, xr_n _ _ (by omega), xr_s, xr_n _ _ (by omega), xr_s, xr_n _ _ (by omega)]
    funext i
    by_cases qi : i = 2
    · subst qi; rw [zu_s, zu_s]
    · rw [zu_3 _ _ _ _ qi, zu_3 _ _ _ _ qi, zu_3 _ _ _ _ qi]
  · rw [xr_n _ _ q, xr_n _ _ q]
    by_cases q2 : x = p + 1
    · subst q2
      rw [xr_s, xr_s, xr_n _ _ (by omega), xr_s]
      funext i
      unfold upd
      by_cases qi : i = j
      · subst qi; rw [if_pos rfl, if_pos (by omega)]
      · rw [if_neg qi]
        show (if i < j then e i else M (p + 1) i) = _
        by_cases q3 : i < j
        · rw [if_pos q3, if_pos (by omega)]
        · rw [if_neg q3, if_neg (by omega)]
    · rw [xr_n _ _ q2, xr_n _ _ q2, xr_n _ _ q, xr_n _ _ q2]
theorem zm_a1_o {M : xm_T} {p j x : Nat} {e : Nat → Int32} (h1 : x ≠ p) (h2 : x ≠ p + 1) : zm_a1 M p j e x = M x := by
  unfold zm_a1 xu_p
  rw [xr_n _ _ h1, xr_n _ _ h2]
theorem zm_a1_2 {M : xm_T} {p j : Nat} {e : Nat → Int32} : zm_a1 M p j e p 2 = nI j := xu_s _ _ _ _
theorem zm_a1_p {M : xm_T} {p j i : Nat} {e : Nat → Int32} (h : i ≠ 2) : zm_a1 M p j e p i = M p i := by
  unfold zm_a1
  rw [xu_n _ (Or.inr h), xr_n _ _ (by omega)]
theorem zm_a1_e {M : xm_T} {p j i : Nat} {e : Nat → Int32} (h : i < j) : zm_a1 M p j e (p + 1) i = e i := by
  unfold zm_a1
  rw [xu_n _ (Or.inl (by omega)), xr_s]
  exact if_pos h
theorem zm_a1_a {M : xm_T} {a k m : Nat} {e : Nat → Int32} : zm_a1 (xu_p M a 3 (M a 3 + nI 1)) (a + 2 * k + 34) m e = zm_a0 a k m e M := by
  unfold zm_a1 zm_a0
  rw [show xu_p M a 3 (M a 3 + nI 1) (a + 2 * k + 34 + 1) = M (a + 2 * k + 34 + 1) from xr_n _ _ (by omega)]
theorem zi_an {a n T G B : Nat} {M : xm_T} (h : zi a M n T G B) (hn : n < 24) : ∀ u, u < 6 → ∃ L, L < 24 ∧ M (a + 5 * u + 5) 1 = nI L := fun u hu => by
  obtain ⟨Q, R, hold⟩ := h.2.2.2.2.2.1
  exact ⟨_, zl_room (hold u hu).2.2.1 ((hold u hu).q h.n) hn (fun z => by have := ((hold u hu).2.2.2.2.1 n).mp z; omega), (hold u hu).1.2.1⟩
/-- the people of a text come -/
def zm_al (a : Nat) (m : Nat → Nat) (e : Nat → Nat → Nat) : Nat → xm_T → xm_T := zm_fo (fun k => zm_ad a (m k) (fun j => nI (e k j)))
theorem zi_al {a n T G B : Nat} {M : xm_T} {m : Nat → Nat} {e : Nat → Nat → Nat} (h : zi a M n T G B) : ∀ (N : Nat), zt_v N m e → n + N ≤ 24 → zi a (zm_al a m e N M) (n + N) T G B
  | 0, _, _ => h
  | N + 1, hv, hn => by
    have g := zi_al h N (fun k hk => hv k (by omega)) (by omega)
    obtain ⟨v1, v2, v3, v4⟩ := hv N (by omega)
    exact zi_ad (n := n + N) g (by omega) v1 v2 (fun j hj => ⟨e N j, v3 j hj, rfl⟩)
theorem zZ_al {a b : Nat} {M N M1 N1 : xm_T} {m m' : Nat → Nat} {e e' : Nat → Nat → Nat} (h : zz_Z a b M N M1 N1) : ∀ (K : Nat), (∀ k, k < K → m k = m' k ∧ ∀ j, j < m k → e k j = e' k j) → zz_Z a b M N (zm_al a m e K M1) (zm_al b m' e' K N1)
  | 0, _ => h
  | K + 1, hm => zZ_ad (zZ_al h K (fun k hk => hm k (by omega))) (hm K (by omega)).1 (fun j hj => by rw [(hm K (by omega)).2 j hj])
theorem zo_ad {a m : Nat} {e : Nat → Int32} {M : xm_T} : zz_o a M (zm_ad a m e M) := (zZ_ad (zZ_rf (fun _ _ => rfl : zz_g a a M M)) rfl (fun _ _ => rfl)).2.1
theorem zo_al {a : Nat} {m : Nat → Nat} {e : Nat → Nat → Nat} {M : xm_T} (K : Nat) : zz_o a M (zm_al a m e K M) := (zZ_al (zZ_rf (fun _ _ => rfl : zz_g a a M M)) K (fun _ _ => ⟨rfl, fun _ _ => rfl⟩)).2.1
end
section
/-! LINES AND PEOPLE: what the methods do, as functions -/
def zl_pr (M : xm_T) (q : Nat) (n : Int32) (L : Nat) : Int32 := if zl_pl (M (q + 1)) n L < L then nI (zl_pl (M (q + 1)) n L) else -6
theorem zn_6 {j : Nat} (h : j < 2 ^ 31) : ¬ nI j = -6 := fun z => nI_pos h (by rw [z]; decide)
theorem zl_pl_le {f : Nat → Int32} {n : Int32} : ∀ {L : Nat}, zl_pl f n L ≤ L
  | 0 => Nat.le_refl 0
  | L + 1 => by
    have := zl_pl_le (f := f) (n := n) (L := L)
    show (if zl_pl f n L < L then zl_pl f n L else if f L = n then L else L + 1) ≤ L + 1
    split
    · omega
    · split <;> omega
/-- the numbers from j on, one down, as far as k -/
def zl_sh (M : xm_T) (q j k : Nat) : xm_T := xr_up M (q + 1) (fun i => if j ≤ i ∧ i < k then M (q + 1) (i + 1) else M (q + 1) i)
theorem zl_sh_0 (M : xm_T) (q j : Nat) : zl_sh M q j j = M := by
  funext x
  unfold zl_sh
  by_cases h : x = q + 1
  · subst h
    rw [xr_s]
    funext i
    rw [if_neg (by omega)]
  · rw [xr_n _ _ h]
theorem zl_sh_1 {M : xm_T} {q j k : Nat} (h : j ≤ k) : xu_p (zl_sh M q j k) (q + 1) k (zl_sh M q j k (q + 1) (k + 1)) = zl_sh M q j (k + 1) := by
  funext x
  unfold zl_sh xu_p
  by_cases hx : x = q + 1
  · subst hx
    rw [xr_s, xr_s, xr_s]
    funext i
    unfold upd
    by_cases hi : i = k
    · subst hi
      rw [if_pos rfl, if_neg (by omega), if_pos (by omega)]
    · rw [if_neg hi]
      show (if j ≤ i ∧ i < k then M (q + 1) (i + 1) else M (q + 1) i) = _
      by_cases h2 : j ≤ i ∧ i < k
      · rw [if_pos h2, if_pos (by omega)]
      · rw [if_neg h2, if_neg (by omega)]
  · rw [xr_n _ _ hx, xr_n _ _ hx, xr_n _ _ hx]
theorem zl_sh_q {M : xm_T} {q j k : Nat} : zl_sh M q j k q = M q := by
  unfold zl_sh
  rw [xr_n _ _ (by omega)]
theorem zl_rv_sh {M : xm_T} {q j L : Nat} {n : Int32} (hM : M q 1 = nI L) (hL : L ≤ 24) (hj : zl_pl (M (q + 1)) n L = j) (hjL : j < L) : zl_rv q n M = zl_sh (xu_p M q 1 (M q 1 - nI 1)) q j (L - 1) := by
  have hc : (M q 1).toNatClampNeg = L := by rw [hM, nI_clamp (by omega)]
  unfold zl_rv
  rw [hc, hj, if_pos hjL]
  unfold zl_rm zl_sh
  rw [hc]
  congr 1
  funext i
  rw [show xu_p M q 1 (M q 1 - nI 1) (q + 1) = M (q + 1) from xr_n _ _ (by omega)]
  by_cases h : j ≤ i ∧ i + 1 < L
  · rw [if_pos h, if_pos (by omega)]
  · rw [if_neg h, if_neg (by omega)]
theorem zl_rv_no {M : xm_T} {q j L : Nat} {n : Int32} (hM : M q 1 = nI L) (hL : L ≤ 24) (hj : zl_pl (M (q + 1)) n L = j) (hjL : L ≤ j) : zl_rv q n M = M := by
  unfold zl_rv
  rw [show (M q 1).toNatClampNeg = L by rw [hM, nI_clamp (by omega)], hj, if_neg (by omega)]
def zs_at (M : xm_T) (p : Nat) : Int32 := if (M p 3 = nI 0 ∨ M p 3 = nI 1) ∧ M p 4 < M p 2 then M (p + 1) (M p 4).toNatClampNeg else -6
theorem zs_in {M : xm_T} {p t m w : Nat} (h : zk_at M p t m w) (hw : M p 3 = nI 0 ∨ M p 3 = nI 1) : zs_at M p = nI w := by
  obtain ⟨h1, h2, h3, h4, h5, h6⟩ := h
  unfold zs_at
  rw [if_pos ⟨hw, by rw [h1, h2]; exact nI_lt h3 (by omega)⟩, h2, nI_clamp (by omega), h5]

set_option maxHeartbeats 4000000 in
set_option maxRecDepth 100000 in
/-- Line.placeOf(n) -/
theorem c_X1_placeOf (l : Launch) {G : va_G} {g : Nat → ClassId} {t0 τ : Nat → Nat} {A : Nat → Prop} (O : xk_O τ A) (M : xm_T) (q : Nat) (hτ : τ q = 6) {L : Nat} (hL : L ≤ 24) (hM : M q 1 = nI L) (n : Int32) : Met l yX1_placeOf wsX1_placeOf ({ frames := 0, cells := 0, slots := 0, locals := 0 }) (va_Pc [.ref q, .int n] (xS_t G g t0 τ A M)) (va_Qi (fun r M' => r = zl_pr M q n L ∧ M' = M) (fun M' t => xw_D G g τ M' t.heap) A) 0 0 A := by
  refine Met.ofW (cc := cX1_placeOf) (maxL := 3) (ret := (some .int)) (by decide) rfl ?_
  intro p e s m args below meth c s₁ B hml hv
  obtain ⟨rfl, hW, hK, hst, hnw⟩ := hv
  have hx := B.exec
  have hb := B.bytes
  have hr := B.returns
  have hts := atoms_spec (ws := wsX1_placeOf) B.pre
  have hown : s.vm.findClass RX1 = some m.cls := findClass_of_methodNamed B.named
  have hlocks := B.notSynchronized
  have hS : va_S A s.heap s.heap [] := va_S.rf
  have inX1 : ∀ w ∈ u_ws RX1 TX1 2, w ∈ wsX1_placeOf := by decide +kernel
  have hl := lv_entry ([.ref q, .int n]) (n := 3) (Nat.le_of_ble_eq_true rfl)
  rw [lg_entry_eq]
  generalize (lg_sl ([.ref q, .int n]) ++ List.replicate (3 - (lg_sl ([.ref q, .int n])).length) Slot.unset).toArray = ls at hl ⊢
  have hl : lv_has ls 3 [(0, .ref q), (1, .int n)] := hl
  refine lv_iconst (v := (nI 0)) hx hb dX1_placeOf_0 (by decide) ?_
  refine lv_istore_n (lv' := [(2, .int (nI 0)), (0, .ref q), (1, .int n)]) hx hb dX1_placeOf_1 rfl hl (by decide) rfl (fun ls hl => ?_)
  refine xl_up (σ := Unit) L (fun kk zz H locs ls => xw_D G g τ M H ∧ va_S A s.heap H locs ∧ lv_has ls 3 [(2, .int (nI kk)), (0, .ref q), (1, .int n)] ∧ ∀ j, j < kk → M (q + 1) j ≠ n) (fun z2 H locs ls hI => ?_) (fun k2 z2 H locs ls hk2 hI ih2 => ?_) (k0 := 0) (z0 := ()) (Nat.zero_le _) ⟨hW, hS, lv_sub hl [0, 1, 2] rfl, (fun j hj => absurd hj (Nat.not_lt_zero j))⟩
  · obtain ⟨hW, hS, hl, hE2⟩ := hI
    refine lv_iload_n hx hb dX1_placeOf_2 rfl (lv_at hl 0 rfl) ?_
    refine lv_aload_n hx hb dX1_placeOf_3 rfl (lv_at hl 1 rfl) ?_
    refine xg_get (κ := 6) (ci := 1) (C := RX1) (T := TX1) (N := 2) hx hb hts inX1 hown hK hW hτ (by decide) rfl rfl 1 (by decide) (hts (.fieldLink RX1 15 "HalfTickets$Line" "length" "I") (List.mem_of_getElem? (i := 1) (by decide +kernel))) (fun _ h9 => h9) rfl dX1_placeOf_4 ?_
    refine lv_icmp_ge (tgt := 28) hx hb dX1_placeOf_7 (by decide) (fun c_1 => ?_) (fun c_1 => ?_)
    · refine lv_bipush (v := (-6)) hx hb dX1_placeOf_28 (by decide) ?_
      exact W.iret (v := (-6)) hx hb hr (fun t ht hWm => ⟨⟨(-6), M, rfl, ⟨(by unfold zl_pr; rw [zl_pl_none hE2, if_neg (Nat.lt_irrefl _)]), rfl⟩, xw_end ht hW⟩, hS.F ht⟩) hS.2.2 dX1_placeOf_30
    · exact absurd (by rw [hM]; exact nI_le (Nat.le_refl _) (by omega)) c_1
  · obtain ⟨hW, hS, hl, hE2⟩ := hI
    refine lv_iload_n hx hb dX1_placeOf_2 rfl (lv_at hl 0 rfl) ?_
    refine lv_aload_n hx hb dX1_placeOf_3 rfl (lv_at hl 1 rfl) ?_
    refine xg_get (κ := 6) (ci := 1) (C := RX1) (T := TX1) (N := 2) hx hb hts inX1 hown hK hW hτ (by decide) rfl rfl 1 (by decide) (hts (.fieldLink RX1 15 "HalfTickets$Line" "length" "I") (List.mem_of_getElem? (i := 1) (by decide +kernel))) (fun _ h9 => h9) rfl dX1_placeOf_4 ?_
    refine lv_icmp_ge (tgt := 28) hx hb dX1_placeOf_7 (by decide) (fun c_2 => ?_) (fun c_2 => ?_)
    · exact absurd c_2 (by rw [hM]; exact nI_ge hk2 (by omega))
    · refine lv_aload_n hx hb dX1_placeOf_10 rfl (lv_at hl 1 rfl) ?_
      refine xg_get (κ := 6) (ci := 1) (C := RX1) (T := TX1) (N := 2) hx hb hts inX1 hown hK hW hτ (by decide) rfl rfl 0 (by decide) (hts (.fieldLink RX1 9 "HalfTickets$Line" "numbers" "[I") (List.mem_of_getElem? (i := 2) (by decide +kernel))) (fun _ h9 => h9) rfl dX1_placeOf_11 ?_
      refine lv_iload_n hx hb dX1_placeOf_14 rfl (lv_at hl 0 rfl) ?_
      refine xg_iald (κ := 124) (n := 24) hx hb hK hW (O.l hτ) (by decide) rfl k2 rfl (by omega) (by decide) dX1_placeOf_15 ?_
      refine lv_iload_n hx hb dX1_placeOf_16 rfl (lv_at hl 2 rfl) ?_
      refine lv_icmp_ne (tgt := 22) hx hb dX1_placeOf_17 (by decide) (fun c_3 => ?_) (fun c_3 => ?_)
      · refine lv_iinc (v := (nI (k2 + 1))) (lv' := [(2, .int (nI (k2 + 1))), (0, .ref q), (1, .int n)]) hx hb dX1_placeOf_22 hl (k := 0) rfl ((nI_1 k2)) (by decide) rfl (fun ls hl => ?_)
        refine lv_goto (tgt := 2) hx hb dX1_placeOf_25 (by decide) ?_
        exact ih2 () _ _ _ ⟨hW, hS, lv_sub hl [0, 1, 2] rfl, (fun j hj => by
              by_cases hjk : j = k2
              · subst hjk
                exact c_3
              · exact hE2 j (by omega))⟩
      · refine lv_iload_n hx hb dX1_placeOf_20 rfl (lv_at hl 0 rfl) ?_
        exact W.iret (v := (nI k2)) hx hb hr (fun t ht hWm => ⟨⟨(nI k2), M, rfl, ⟨(by unfold zl_pr; rw [zl_pl_some hk2 c_3 hE2, if_pos hk2]), rfl⟩, xw_end ht hW⟩, hS.F ht⟩) hS.2.2 dX1_placeOf_21

set_option maxHeartbeats 4000000 in
set_option maxRecDepth 100000 in
/-- Line.append(n), where there is room -/
theorem c_X1_append (l : Launch) {G : va_G} {g : Nat → ClassId} {t0 τ : Nat → Nat} {A : Nat → Prop} (O : xk_O τ A) (M : xm_T) (q : Nat) (hτ : τ q = 6) {L : Nat} (hL : L < 24) (hM : M q 1 = nI L) (n : Int32) : Met l yX1_append wsX1_append ({ frames := 0, cells := 0, slots := 0, locals := 0 }) (va_Pc [.ref q, .int n] (xS_t G g t0 τ A M)) (va_Qv (fun M' => M' = zl_ap q n M) (fun M' t => xw_D G g τ M' t.heap) A) 0 0 A := by
  refine Met.ofW (cc := cX1_append) (maxL := 2) (ret := none) (by decide) rfl ?_
  intro p e s m args below meth c s₁ B hml hv
  obtain ⟨rfl, hW, hK, hst, hnw⟩ := hv
  have hx := B.exec
  have hb := B.bytes
  have hr := B.returns
  have hts := atoms_spec (ws := wsX1_append) B.pre
  have hown : s.vm.findClass RX1 = some m.cls := findClass_of_methodNamed B.named
  have hlocks := B.notSynchronized
  have hS : va_S A s.heap s.heap [] := va_S.rf
  have inX1 : ∀ w ∈ u_ws RX1 TX1 2, w ∈ wsX1_append := by decide +kernel
  have hl := lv_entry ([.ref q, .int n]) (n := 2) (Nat.le_of_ble_eq_true rfl)
  rw [lg_entry_eq]
  generalize (lg_sl ([.ref q, .int n]) ++ List.replicate (2 - (lg_sl ([.ref q, .int n])).length) Slot.unset).toArray = ls at hl ⊢
  have hl : lv_has ls 2 [(0, .ref q), (1, .int n)] := hl
  refine lv_aload_n hx hb dX1_append_0 rfl (lv_at hl 0 rfl) ?_
  refine xg_get (κ := 6) (ci := 1) (C := RX1) (T := TX1) (N := 2) hx hb hts inX1 hown hK hW hτ (by decide) rfl rfl 1 (by decide) (hts (.fieldLink RX1 15 "HalfTickets$Line" "length" "I") (List.mem_of_getElem? (i := 1) (by decide +kernel))) (fun _ h9 => h9) rfl dX1_append_1 ?_
  refine lv_aload_n hx hb dX1_append_4 rfl (lv_at hl 0 rfl) ?_
  refine xg_get (κ := 6) (ci := 1) (C := RX1) (T := TX1) (N := 2) hx hb hts inX1 hown hK hW hτ (by decide) rfl rfl 0 (by decide) (hts (.fieldLink RX1 9 "HalfTickets$Line" "numbers" "[I") (List.mem_of_getElem? (i := 2) (by decide +kernel))) (fun _ h9 => h9) rfl dX1_append_5 ?_
  refine xg_alen (κ := 124) (v := nI 24) hx hb hK hW (O.l hτ) (by decide) rfl 0 rfl rfl dX1_append_8 ?_
  refine lv_icmp_ge (tgt := 32) hx hb dX1_append_9 (by decide) (fun c_1 => ?_) (fun c_1 => ?_)
  · exact absurd c_1 (by rw [hM]; exact nI_ge hL (by decide))
  · refine lv_aload_n hx hb dX1_append_12 rfl (lv_at hl 0 rfl) ?_
    refine xg_get (κ := 6) (ci := 1) (C := RX1) (T := TX1) (N := 2) hx hb hts inX1 hown hK hW hτ (by decide) rfl rfl 0 (by decide) (hts (.fieldLink RX1 9 "HalfTickets$Line" "numbers" "[I") (List.mem_of_getElem? (i := 2) (by decide +kernel))) (fun _ h9 => h9) rfl dX1_append_13 ?_
    refine lv_aload_n hx hb dX1_append_16 rfl (lv_at hl 0 rfl) ?_
    refine xg_get (κ := 6) (ci := 1) (C := RX1) (T := TX1) (N := 2) hx hb hts inX1 hown hK hW hτ (by decide) rfl rfl 1 (by decide) (hts (.fieldLink RX1 15 "HalfTickets$Line" "length" "I") (List.mem_of_getElem? (i := 1) (by decide +kernel))) (fun _ h9 => h9) rfl dX1_append_17 ?_
    refine lv_iload_n hx hb dX1_append_20 rfl (lv_at hl 1 rfl) ?_
    refine xg_iast (κ := 124) (n := 24) hx hb hK O hW hS (O.l hτ) (by decide) (fun _ => rfl) (fun _ => trivial) L hM hL (by decide) dX1_append_21 (fun H locs hW hS => ?_)
    obtain ⟨M_2, eM_2⟩ : ∃ M9, M9 = xu_p M (q + 1) L n := ⟨_, rfl⟩
    rw [← eM_2] at hW
    refine lv_aload_n hx hb dX1_append_22 rfl (lv_at hl 0 rfl) ?_
    refine lv_dup hx hb dX1_append_23 rfl ?_
    refine xg_get (κ := 6) (ci := 1) (C := RX1) (T := TX1) (N := 2) hx hb hts inX1 hown hK hW hτ (by decide) rfl rfl 1 (by decide) (hts (.fieldLink RX1 15 "HalfTickets$Line" "length" "I") (List.mem_of_getElem? (i := 1) (by decide +kernel))) (fun _ h9 => h9) rfl dX1_append_24 ?_
    refine lv_iconst (v := (nI 1)) hx hb dX1_append_27 (by decide) ?_
    refine lv_iadd hx hb dX1_append_28 ?_
    refine xg_put (κ := 6) (ci := 1) (C := RX1) (T := TX1) (N := 2) hx hb hts inX1 tyX1 tyX1_ok nmX1 hown hK O hW hS hτ (by decide) rfl rfl 1 (by decide) (v := ((M_2 q 1) + (nI 1))) rfl trivial (hts (.fieldLink RX1 15 "HalfTickets$Line" "length" "I") (List.mem_of_getElem? (i := 1) (by decide +kernel))) (fun _ h9 => h9) rfl (ty := .int) (by decide +kernel) rfl rfl (Nat.le_of_ble_eq_true rfl) dX1_append_29 (fun H locs hW hS => ?_)
    obtain ⟨M_3, eM_3⟩ : ∃ M9, M9 = xu_p M_2 q 1 ((M_2 q 1) + (nI 1)) := ⟨_, rfl⟩
    rw [← eM_3] at hW
    exact W.vret hx hb hr (fun t ht hWm => ⟨⟨M_3, rfl, (by rw [eM_3, eM_2, xu_n _ (Or.inl (by omega))]; unfold zl_ap; rw [hM, nI_clamp (by omega)]), xw_end ht hW⟩, hS.F ht⟩) hS.2.2 dX1_append_32

set_option maxHeartbeats 4000000 in
set_option maxRecDepth 100000 in
/-- Line.remove(n) -/
theorem c_X1_remove (l : Launch) {G : va_G} {g : Nat → ClassId} {t0 τ : Nat → Nat} {A : Nat → Prop} (O : xk_O τ A) (M : xm_T) (q : Nat) (hτ : τ q = 6) {L : Nat} (hL : L ≤ 24) (hM : M q 1 = nI L) (n : Int32) : Met l yX1_remove wsX1_remove ({ frames := 1, cells := 0, slots := 0, locals := 30 }) (va_Pc [.ref q, .int n] (xS_t G g t0 τ A M)) (va_Qv (fun M' => M' = zl_rv q n M) (fun M' t => xw_D G g τ M' t.heap) A) 0 0 A := by
  refine Met.ofW (cc := cX1_remove) (maxL := 4) (ret := none) (by decide) rfl ?_
  intro p e s m args below meth c s₁ B hml hv
  obtain ⟨rfl, hW, hK, hst, hnw⟩ := hv
  have hx := B.exec
  have hb := B.bytes
  have hr := B.returns
  have hts := atoms_spec (ws := wsX1_remove) B.pre
  have hown : s.vm.findClass RX1 = some m.cls := findClass_of_methodNamed B.named
  have hlocks := B.notSynchronized
  have hS : va_S A s.heap s.heap [] := va_S.rf
  have inX1 : ∀ w ∈ u_ws RX1 TX1 2, w ∈ wsX1_remove := by decide +kernel
  have hl := lv_entry ([.ref q, .int n]) (n := 4) (Nat.le_of_ble_eq_true rfl)
  rw [lg_entry_eq]
  generalize (lg_sl ([.ref q, .int n]) ++ List.replicate (4 - (lg_sl ([.ref q, .int n])).length) Slot.unset).toArray = ls at hl ⊢
  have hl : lv_has ls 4 [(0, .ref q), (1, .int n)] := hl
  refine lv_aload_n hx hb dX1_remove_0 rfl (lv_at hl 0 rfl) ?_
  refine lv_iload_n hx hb dX1_remove_1 rfl (lv_at hl 1 rfl) ?_
  refine xc_i (xr_V (As := [.int n]) (rest := []) (κ := 6) ⟨hx, hb, hml, hown, hts⟩ (c_X1_placeOf l O M q hτ hL hM n) (cwV 1 hts gX1_remove_X1_placeOf rfl rfl rfl (by decide +kernel) ⟨Nat.le_of_ble_eq_true rfl, Nat.le_of_ble_eq_true rfl⟩) hK hst hnw hS hW hτ (by decide) rfl rfl rfl hl.1 rfl (Nat.le_of_ble_eq_true rfl) dX1_remove_2 ⟨Nat.zero_le _, Nat.zero_le _⟩) hS (fun r_3 M_1 H locs hq_2 hW hS => ?_)
  obtain ⟨hq_2a, hq_2b⟩ := hq_2
  rw [hq_2b] at hW
  rw [hq_2a]
  obtain ⟨j, hj⟩ : ∃ j, zl_pl (M (q + 1)) n L = j := ⟨_, rfl⟩
  rcases Nat.lt_or_ge j L with hjL | hjL
  · have hpr : zl_pr M q n L = nI j := by unfold zl_pr; rw [hj, if_pos hjL]
    rw [hpr]
    refine lv_istore_n (lv' := [(2, .int (nI j)), (0, .ref q), (1, .int n)]) hx hb dX1_remove_5 rfl hl (by decide) rfl (fun ls hl => ?_)
    refine lv_iload_n hx hb dX1_remove_6 rfl (lv_at hl 0 rfl) ?_
    refine lv_bipush (v := (-6)) hx hb dX1_remove_7 (by decide) ?_
    refine lv_icmp_ne (tgt := 13) hx hb dX1_remove_9 (by decide) (fun c_4 => ?_) (fun c_4 => ?_)
    · refine lv_aload_n hx hb dX1_remove_13 rfl (lv_at hl 1 rfl) ?_
      refine lv_dup hx hb dX1_remove_14 rfl ?_
      refine xg_get (κ := 6) (ci := 1) (C := RX1) (T := TX1) (N := 2) hx hb hts inX1 hown hK hW hτ (by decide) rfl rfl 1 (by decide) (hts (.fieldLink RX1 15 "HalfTickets$Line" "length" "I") (List.mem_of_getElem? (i := 1) (by decide +kernel))) (fun _ h9 => h9) rfl dX1_remove_15 ?_
      refine lv_iconst (v := (nI 1)) hx hb dX1_remove_18 (by decide) ?_
      refine lv_isub hx hb dX1_remove_19 ?_
      refine xg_put (κ := 6) (ci := 1) (C := RX1) (T := TX1) (N := 2) hx hb hts inX1 tyX1 tyX1_ok nmX1 hown hK O hW hS hτ (by decide) rfl rfl 1 (by decide) (v := ((M q 1) - (nI 1))) rfl trivial (hts (.fieldLink RX1 15 "HalfTickets$Line" "length" "I") (List.mem_of_getElem? (i := 1) (by decide +kernel))) (fun _ h9 => h9) rfl (ty := .int) (by decide +kernel) rfl rfl (Nat.le_of_ble_eq_true rfl) dX1_remove_20 (fun H locs hW hS => ?_)
      obtain ⟨M_5, eM_5⟩ : ∃ M9, M9 = xu_p M q 1 ((M q 1) - (nI 1)) := ⟨_, rfl⟩
      rw [← eM_5] at hW
      refine lv_iload_n hx hb dX1_remove_23 rfl (lv_at hl 0 rfl) ?_
      refine lv_istore_n (lv' := [(3, .int (nI j)), (2, .int (nI j)), (0, .ref q), (1, .int n)]) hx hb dX1_remove_24 rfl hl (by decide) rfl (fun ls hl => ?_)
      have hlen : ∀ k, zl_sh M_5 q j k q 1 = nI (L - 1) := fun k => by rw [zl_sh_q, eM_5, xu_s, hM]; have e := nI_pred (L - 1); rw [show L - 1 + 1 = L by omega] at e; exact e
      replace hW : xw_D G g τ (zl_sh M_5 q j j) H := by rw [zl_sh_0]; exact hW
      have hj1 : j ≤ L - 1 := by omega
      refine xl_up (σ := Unit) (L - 1) (fun kk zz H locs ls => xw_D G g τ (zl_sh M_5 q j kk) H ∧ va_S A s.heap H locs ∧ lv_has ls 4 [(3, .int (nI kk)), (2, .int (nI j)), (0, .ref q), (1, .int n)] ∧ j ≤ kk) (fun z25 H locs ls hI => ?_) (fun k25 z25 H locs ls hk25 hI ih25 => ?_) (k0 := j) (z0 := ()) hj1 ⟨hW, hS, lv_sub hl [0, 1, 2, 3] rfl, (Nat.le_refl j)⟩
      · obtain ⟨hW, hS, hl, hE25⟩ := hI
        refine lv_iload_n hx hb dX1_remove_25 rfl (lv_at hl 0 rfl) ?_
        refine lv_aload_n hx hb dX1_remove_26 rfl (lv_at hl 2 rfl) ?_
        refine xg_get (κ := 6) (ci := 1) (C := RX1) (T := TX1) (N := 2) hx hb hts inX1 hown hK hW hτ (by decide) rfl rfl 1 (by decide) (hts (.fieldLink RX1 15 "HalfTickets$Line" "length" "I") (List.mem_of_getElem? (i := 1) (by decide +kernel))) (fun _ h9 => h9) rfl dX1_remove_27 ?_
        refine lv_icmp_ge (tgt := 53) hx hb dX1_remove_30 (by decide) (fun c_6 => ?_) (fun c_6 => ?_)
        · exact W.vret hx hb hr (fun t ht hWm => ⟨⟨(zl_sh M_5 q j (L - 1)), rfl, (by rw [eM_5]; exact (zl_rv_sh hM hL hj hjL).symm), xw_end ht hW⟩, hS.F ht⟩) hS.2.2 dX1_remove_53
        · exact absurd (by rw [hlen]; exact nI_le (Nat.le_refl _) (by omega)) c_6
      · obtain ⟨hW, hS, hl, hE25⟩ := hI
        refine lv_iload_n hx hb dX1_remove_25 rfl (lv_at hl 0 rfl) ?_
        refine lv_aload_n hx hb dX1_remove_26 rfl (lv_at hl 2 rfl) ?_
        refine xg_get (κ := 6) (ci := 1) (C := RX1) (T := TX1) (N := 2) hx hb hts inX1 hown hK hW hτ (by decide) rfl rfl 1 (by decide) (hts (.fieldLink RX1 15 "HalfTickets$Line" "length" "I") (List.mem_of_getElem? (i := 1) (by decide +kernel))) (fun _ h9 => h9) rfl dX1_remove_27 ?_
        refine lv_icmp_ge (tgt := 53) hx hb dX1_remove_30 (by decide) (fun c_7 => ?_) (fun c_7 => ?_)
        · exact absurd c_7 (by rw [hlen]; exact nI_ge hk25 (by omega))
        · refine lv_aload_n hx hb dX1_remove_33 rfl (lv_at hl 2 rfl) ?_
          refine xg_get (κ := 6) (ci := 1) (C := RX1) (T := TX1) (N := 2) hx hb hts inX1 hown hK hW hτ (by decide) rfl rfl 0 (by decide) (hts (.fieldLink RX1 9 "HalfTickets$Line" "numbers" "[I") (List.mem_of_getElem? (i := 2) (by decide +kernel))) (fun _ h9 => h9) rfl dX1_remove_34 ?_
          refine lv_iload_n hx hb dX1_remove_37 rfl (lv_at hl 0 rfl) ?_
          refine lv_aload_n hx hb dX1_remove_38 rfl (lv_at hl 2 rfl) ?_
          refine xg_get (κ := 6) (ci := 1) (C := RX1) (T := TX1) (N := 2) hx hb hts inX1 hown hK hW hτ (by decide) rfl rfl 0 (by decide) (hts (.fieldLink RX1 9 "HalfTickets$Line" "numbers" "[I") (List.mem_of_getElem? (i := 2) (by decide +kernel))) (fun _ h9 => h9) rfl dX1_remove_39 ?_
          refine lv_iload_n hx hb dX1_remove_42 rfl (lv_at hl 0 rfl) ?_
          refine lv_iconst (v := (nI 1)) hx hb dX1_remove_43 (by decide) ?_
          refine lv_iadd hx hb dX1_remove_44 ?_
          refine xg_iald (κ := 124) (n := 24) hx hb hK hW (O.l hτ) (by decide) rfl (k25 + 1) (nI_1 k25) (by omega) (by decide) dX1_remove_45 ?_
          refine xg_iast (κ := 124) (n := 24) hx hb hK O hW hS (O.l hτ) (by decide) (fun _ => rfl) (fun _ => trivial) k25 rfl (by omega) (by decide) dX1_remove_46 (fun H locs hW hS => ?_)
          obtain ⟨M_8, eM_8⟩ : ∃ M9, M9 = xu_p (zl_sh M_5 q j k25) (q + 1) k25 ((zl_sh M_5 q j k25) (q + 1) (k25 + 1)) := ⟨_, rfl⟩
          rw [← eM_8] at hW
          refine lv_iinc (v := (nI (k25 + 1))) (lv' := [(3, .int (nI (k25 + 1))), (2, .int (nI j)), (0, .ref q), (1, .int n)]) hx hb dX1_remove_47 hl (k := 0) rfl ((nI_1 k25)) (by decide) rfl (fun ls hl => ?_)
          refine lv_goto (tgt := 25) hx hb dX1_remove_50 (by decide) ?_
          rw [eM_8, zl_sh_1 hE25] at hW
          exact ih25 () _ _ _ ⟨hW, hS, lv_sub hl [0, 1, 2, 3] rfl, (by omega)⟩
    · exact absurd c_4 (zn_6 (by omega))
  · have hpr : zl_pr M q n L = -6 := by unfold zl_pr; rw [hj, if_neg (by omega)]
    rw [hpr]
    refine lv_istore_n (lv' := [(2, .int (-6)), (0, .ref q), (1, .int n)]) hx hb dX1_remove_5 rfl hl (by decide) rfl (fun ls hl => ?_)
    refine lv_iload_n hx hb dX1_remove_6 rfl (lv_at hl 0 rfl) ?_
    refine lv_bipush (v := (-6)) hx hb dX1_remove_7 (by decide) ?_
    refine lv_icmp_ne (tgt := 13) hx hb dX1_remove_9 (by decide) (fun c_9 => ?_) (fun c_9 => ?_)
    · exact absurd rfl c_9
    · exact W.vret hx hb hr (fun t ht hWm => ⟨⟨M, rfl, (zl_rv_no hM hL hj hjL).symm, xw_end ht hW⟩, hS.F ht⟩) hS.2.2 dX1_remove_12

set_option maxHeartbeats 4000000 in
set_option maxRecDepth 100000 in
/-- Person.addToErrand(v), where there is room -/
theorem c_X4_addToErrand (l : Launch) {G : va_G} {g : Nat → ClassId} {t0 τ : Nat → Nat} {A : Nat → Prop} (O : xk_O τ A) (M : xm_T) (a : Nat) (hτ : τ a = 8) (v : Int32) {mm : Nat} (hmm : M a 2 = nI mm) (hm8 : mm < 8) : Met l yX4_addToErrand wsX4_addToErrand ({ frames := 0, cells := 0, slots := 0, locals := 0 }) (va_Pc [.ref a, .int v] (xS_t G g t0 τ A M)) (va_Qv (fun M' => M' = xu_p (xu_p M (a + 1) mm v) a 2 (nI (mm + 1))) (fun M' t => xw_D G g τ M' t.heap) A) 0 0 A := by
  refine Met.ofW (cc := cX4_addToErrand) (maxL := 2) (ret := none) (by decide) rfl ?_
  intro p e s m args below meth c s₁ B hml hv
  obtain ⟨rfl, hW, hK, hst, hnw⟩ := hv
  have hx := B.exec
  have hb := B.bytes
  have hr := B.returns
  have hts := atoms_spec (ws := wsX4_addToErrand) B.pre
  have hown : s.vm.findClass RX4 = some m.cls := findClass_of_methodNamed B.named
  have hlocks := B.notSynchronized
  have hS : va_S A s.heap s.heap [] := va_S.rf
  have inX4 : ∀ w ∈ u_ws RX4 TX4 12, w ∈ wsX4_addToErrand := by decide +kernel
  have hl := lv_entry ([.ref a, .int v]) (n := 2) (Nat.le_of_ble_eq_true rfl)
  rw [lg_entry_eq]
  generalize (lg_sl ([.ref a, .int v]) ++ List.replicate (2 - (lg_sl ([.ref a, .int v])).length) Slot.unset).toArray = ls at hl ⊢
  have hl : lv_has ls 2 [(0, .ref a), (1, .int v)] := hl
  refine lv_aload_n hx hb dX4_addToErrand_0 rfl (lv_at hl 0 rfl) ?_
  refine xg_get (κ := 8) (ci := 4) (C := RX4) (T := TX4) (N := 12) hx hb hts inX4 hown hK hW hτ (by decide) rfl rfl 2 (by decide) (hts (.fieldLink RX4 31 "HalfTickets$Person" "errandLength" "I") (List.mem_of_getElem? (i := 1) (by decide +kernel))) (fun _ h9 => h9) rfl dX4_addToErrand_1 ?_
  refine lv_aload_n hx hb dX4_addToErrand_4 rfl (lv_at hl 0 rfl) ?_
  refine xg_get (κ := 8) (ci := 4) (C := RX4) (T := TX4) (N := 12) hx hb hts inX4 hown hK hW hτ (by decide) rfl rfl 1 (by decide) (hts (.fieldLink RX4 9 "HalfTickets$Person" "errand" "[I") (List.mem_of_getElem? (i := 2) (by decide +kernel))) (fun _ h9 => h9) rfl dX4_addToErrand_5 ?_
  refine xg_alen (κ := 108) (v := nI 8) hx hb hK hW (O.e hτ) (by decide) rfl 0 rfl rfl dX4_addToErrand_8 ?_
  refine lv_icmp_ge (tgt := 32) hx hb dX4_addToErrand_9 (by decide) (fun c_1 => ?_) (fun c_1 => ?_)
  · exact absurd c_1 (by rw [hmm]; exact nI_ge hm8 (by decide))
  · refine lv_aload_n hx hb dX4_addToErrand_12 rfl (lv_at hl 0 rfl) ?_
    refine xg_get (κ := 8) (ci := 4) (C := RX4) (T := TX4) (N := 12) hx hb hts inX4 hown hK hW hτ (by decide) rfl rfl 1 (by decide) (hts (.fieldLink RX4 9 "HalfTickets$Person" "errand" "[I") (List.mem_of_getElem? (i := 2) (by decide +kernel))) (fun _ h9 => h9) rfl dX4_addToErrand_13 ?_
    refine lv_aload_n hx hb dX4_addToErrand_16 rfl (lv_at hl 0 rfl) ?_
    refine xg_get (κ := 8) (ci := 4) (C := RX4) (T := TX4) (N := 12) hx hb hts inX4 hown hK hW hτ (by decide) rfl rfl 2 (by decide) (hts (.fieldLink RX4 31 "HalfTickets$Person" "errandLength" "I") (List.mem_of_getElem? (i := 1) (by decide +kernel))) (fun _ h9 => h9) rfl dX4_addToErrand_17 ?_
    refine lv_iload_n hx hb dX4_addToErrand_20 rfl (lv_at hl 1 rfl) ?_
    refine xg_iast (κ := 108) (n := 8) hx hb hK O hW hS (O.e hτ) (by decide) (fun _ => rfl) (fun _ => trivial) mm hmm hm8 (by decide) dX4_addToErrand_21 (fun H locs hW hS => ?_)
    obtain ⟨M_2, eM_2⟩ : ∃ M9, M9 = xu_p M (a + 1) mm v := ⟨_, rfl⟩
    rw [← eM_2] at hW
    refine lv_aload_n hx hb dX4_addToErrand_22 rfl (lv_at hl 0 rfl) ?_
    refine lv_dup hx hb dX4_addToErrand_23 rfl ?_
    refine xg_get (κ := 8) (ci := 4) (C := RX4) (T := TX4) (N := 12) hx hb hts inX4 hown hK hW hτ (by decide) rfl rfl 2 (by decide) (hts (.fieldLink RX4 31 "HalfTickets$Person" "errandLength" "I") (List.mem_of_getElem? (i := 1) (by decide +kernel))) (fun _ h9 => h9) rfl dX4_addToErrand_24 ?_
    refine lv_iconst (v := (nI 1)) hx hb dX4_addToErrand_27 (by decide) ?_
    refine lv_iadd hx hb dX4_addToErrand_28 ?_
    refine xg_put (κ := 8) (ci := 4) (C := RX4) (T := TX4) (N := 12) hx hb hts inX4 tyX4 tyX4_ok nmX4 hown hK O hW hS hτ (by decide) rfl rfl 2 (by decide) (v := ((M_2 a 2) + (nI 1))) rfl (xw_okp hW hτ (by decide)) (hts (.fieldLink RX4 31 "HalfTickets$Person" "errandLength" "I") (List.mem_of_getElem? (i := 1) (by decide +kernel))) (fun _ h9 => h9) rfl (ty := .int) (by decide +kernel) rfl rfl (Nat.le_of_ble_eq_true rfl) dX4_addToErrand_29 (fun H locs hW hS => ?_)
    obtain ⟨M_3, eM_3⟩ : ∃ M9, M9 = xu_p M_2 a 2 ((M_2 a 2) + (nI 1)) := ⟨_, rfl⟩
    rw [← eM_3] at hW
    exact W.vret hx hb hr (fun t ht hWm => ⟨⟨M_3, rfl, (by rw [eM_3, eM_2, xu_n _ (Or.inl (by omega)), hmm, show nI mm + nI 1 = nI (mm + 1) from nI_add mm 1]), xw_end ht hW⟩, hS.F ht⟩) hS.2.2 dX4_addToErrand_32

set_option maxHeartbeats 4000000 in
set_option maxRecDepth 100000 in
/-- Person.standsAt() -/
theorem c_X4_standsAt (l : Launch) {G : va_G} {g : Nat → ClassId} {t0 τ : Nat → Nat} {A : Nat → Prop} (O : xk_O τ A) (M : xm_T) (a : Nat) (hτ : τ a = 8) {tt mm : Nat} (htt : M a 4 = nI tt) (hmm : M a 2 = nI mm) (hm8 : mm ≤ 8) (ht8 : tt < 2 ^ 31) : Met l yX4_standsAt wsX4_standsAt ({ frames := 0, cells := 0, slots := 0, locals := 0 }) (va_Pc [.ref a] (xS_t G g t0 τ A M)) (va_Qi (fun r M' => r = zs_at M a ∧ M' = M) (fun M' t => xw_D G g τ M' t.heap) A) 0 0 A := by
  refine Met.ofW (cc := cX4_standsAt) (maxL := 2) (ret := (some .int)) (by decide) rfl ?_
  intro p e s m args below meth c s₁ B hml hv
  obtain ⟨rfl, hW, hK, hst, hnw⟩ := hv
  have hx := B.exec
  have hb := B.bytes
  have hr := B.returns
  have hts := atoms_spec (ws := wsX4_standsAt) B.pre
  have hown : s.vm.findClass RX4 = some m.cls := findClass_of_methodNamed B.named
  have hlocks := B.notSynchronized
  have hS : va_S A s.heap s.heap [] := va_S.rf
  have inX4 : ∀ w ∈ u_ws RX4 TX4 12, w ∈ wsX4_standsAt := by decide +kernel
  have hl := lv_entry ([.ref a]) (n := 2) (Nat.le_of_ble_eq_true rfl)
  rw [lg_entry_eq]
  generalize (lg_sl ([.ref a]) ++ List.replicate (2 - (lg_sl ([.ref a])).length) Slot.unset).toArray = ls at hl ⊢
  have hl : lv_has ls 2 [(0, .ref a)] := hl
  refine lv_aload_n hx hb dX4_standsAt_0 rfl (lv_at hl 0 rfl) ?_
  refine xg_get (κ := 8) (ci := 4) (C := RX4) (T := TX4) (N := 12) hx hb hts inX4 hown hK hW hτ (by decide) rfl rfl 3 (by decide) (hts (.fieldLink RX4 15 "HalfTickets$Person" "where" "I") (List.mem_of_getElem? (i := 1) (by decide +kernel))) (fun _ h9 => h9) rfl dX4_standsAt_1 ?_
  refine lv_if_eq (tgt := 15) hx hb dX4_standsAt_4 (by decide) (fun c_1 => ?_) (fun c_1 => ?_)
  · refine lv_iconst (v := (nI 1)) hx hb dX4_standsAt_15 (by decide) ?_
    refine lv_goto (tgt := 20) hx hb dX4_standsAt_16 (by decide) ?_
    refine lv_istore_n (lv' := [(1, .int (nI 1)), (0, .ref a)]) hx hb dX4_standsAt_20 rfl hl (by decide) rfl (fun ls hl => ?_)
    refine lv_iload_n hx hb dX4_standsAt_21 rfl (lv_at hl 0 rfl) ?_
    refine lv_if_eq (tgt := 48) hx hb dX4_standsAt_22 (by decide) (fun c_2 => ?_) (fun c_2 => ?_)
    · exact absurd c_2 (by decide)
    · refine lv_aload_n hx hb dX4_standsAt_25 rfl (lv_at hl 1 rfl) ?_
      refine xg_get (κ := 8) (ci := 4) (C := RX4) (T := TX4) (N := 12) hx hb hts inX4 hown hK hW hτ (by decide) rfl rfl 4 (by decide) (hts (.fieldLink RX4 34 "HalfTickets$Person" "through" "I") (List.mem_of_getElem? (i := 2) (by decide +kernel))) (fun _ h9 => h9) rfl dX4_standsAt_26 ?_
      refine lv_aload_n hx hb dX4_standsAt_29 rfl (lv_at hl 1 rfl) ?_
      refine xg_get (κ := 8) (ci := 4) (C := RX4) (T := TX4) (N := 12) hx hb hts inX4 hown hK hW hτ (by decide) rfl rfl 2 (by decide) (hts (.fieldLink RX4 31 "HalfTickets$Person" "errandLength" "I") (List.mem_of_getElem? (i := 3) (by decide +kernel))) (fun _ h9 => h9) rfl dX4_standsAt_30 ?_
      refine lv_icmp_ge (tgt := 48) hx hb dX4_standsAt_33 (by decide) (fun c_3 => ?_) (fun c_3 => ?_)
      · refine lv_bipush (v := (-6)) hx hb dX4_standsAt_48 (by decide) ?_
        exact W.iret (v := (-6)) hx hb hr (fun t ht hWm => ⟨⟨(-6), M, rfl, ⟨(by unfold zs_at; rw [if_neg (fun z => absurd z.2 (Int32.not_lt.mpr c_3))]), rfl⟩, xw_end ht hW⟩, hS.F ht⟩) hS.2.2 dX4_standsAt_50
      · refine lv_aload_n hx hb dX4_standsAt_36 rfl (lv_at hl 1 rfl) ?_
        refine xg_get (κ := 8) (ci := 4) (C := RX4) (T := TX4) (N := 12) hx hb hts inX4 hown hK hW hτ (by decide) rfl rfl 1 (by decide) (hts (.fieldLink RX4 9 "HalfTickets$Person" "errand" "[I") (List.mem_of_getElem? (i := 4) (by decide +kernel))) (fun _ h9 => h9) rfl dX4_standsAt_37 ?_
        refine lv_aload_n hx hb dX4_standsAt_40 rfl (lv_at hl 1 rfl) ?_
        refine xg_get (κ := 8) (ci := 4) (C := RX4) (T := TX4) (N := 12) hx hb hts inX4 hown hK hW hτ (by decide) rfl rfl 4 (by decide) (hts (.fieldLink RX4 34 "HalfTickets$Person" "through" "I") (List.mem_of_getElem? (i := 2) (by decide +kernel))) (fun _ h9 => h9) rfl dX4_standsAt_41 ?_
        refine xg_iald (κ := 108) (n := 8) hx hb hK hW (O.e hτ) (by decide) rfl tt htt (by have e := c_3; rw [htt, hmm] at e; have := (nI_ltI ht8 (by omega)).mp (Int32.not_le.mp e); omega) (by decide) dX4_standsAt_44 ?_
        refine lv_goto (tgt := 50) hx hb dX4_standsAt_45 (by decide) ?_
        exact W.iret (v := (M (a + 1) tt)) hx hb hr (fun t ht hWm => ⟨⟨(M (a + 1) tt), M, rfl, ⟨(by unfold zs_at; rw [if_pos ⟨Or.inl c_1, Int32.not_le.mp c_3⟩, htt, nI_clamp ht8]), rfl⟩, xw_end ht hW⟩, hS.F ht⟩) hS.2.2 dX4_standsAt_50
  · refine lv_aload_n hx hb dX4_standsAt_7 rfl (lv_at hl 0 rfl) ?_
    refine xg_get (κ := 8) (ci := 4) (C := RX4) (T := TX4) (N := 12) hx hb hts inX4 hown hK hW hτ (by decide) rfl rfl 3 (by decide) (hts (.fieldLink RX4 15 "HalfTickets$Person" "where" "I") (List.mem_of_getElem? (i := 1) (by decide +kernel))) (fun _ h9 => h9) rfl dX4_standsAt_8 ?_
    refine lv_iconst (v := (nI 1)) hx hb dX4_standsAt_11 (by decide) ?_
    refine lv_icmp_ne (tgt := 19) hx hb dX4_standsAt_12 (by decide) (fun c_4 => ?_) (fun c_4 => ?_)
    · refine lv_iconst (v := (nI 0)) hx hb dX4_standsAt_19 (by decide) ?_
      refine lv_istore_n (lv' := [(1, .int (nI 0)), (0, .ref a)]) hx hb dX4_standsAt_20 rfl hl (by decide) rfl (fun ls hl => ?_)
      refine lv_iload_n hx hb dX4_standsAt_21 rfl (lv_at hl 0 rfl) ?_
      refine lv_if_eq (tgt := 48) hx hb dX4_standsAt_22 (by decide) (fun c_5 => ?_) (fun c_5 => ?_)
      · refine lv_bipush (v := (-6)) hx hb dX4_standsAt_48 (by decide) ?_
        exact W.iret (v := (-6)) hx hb hr (fun t ht hWm => ⟨⟨(-6), M, rfl, ⟨(by unfold zs_at; rw [if_neg (fun z => z.1.elim c_1 c_4)]), rfl⟩, xw_end ht hW⟩, hS.F ht⟩) hS.2.2 dX4_standsAt_50
      · exact absurd rfl c_5
    · refine lv_iconst (v := (nI 1)) hx hb dX4_standsAt_15 (by decide) ?_
      refine lv_goto (tgt := 20) hx hb dX4_standsAt_16 (by decide) ?_
      refine lv_istore_n (lv' := [(1, .int (nI 1)), (0, .ref a)]) hx hb dX4_standsAt_20 rfl hl (by decide) rfl (fun ls hl => ?_)
      refine lv_iload_n hx hb dX4_standsAt_21 rfl (lv_at hl 0 rfl) ?_
      refine lv_if_eq (tgt := 48) hx hb dX4_standsAt_22 (by decide) (fun c_6 => ?_) (fun c_6 => ?_)
      · exact absurd c_6 (by decide)
      · refine lv_aload_n hx hb dX4_standsAt_25 rfl (lv_at hl 1 rfl) ?_
        refine xg_get (κ := 8) (ci := 4) (C := RX4) (T := TX4) (N := 12) hx hb hts inX4 hown hK hW hτ (by decide) rfl rfl 4 (by decide) (hts (.fieldLink RX4 34 "HalfTickets$Person" "through" "I") (List.mem_of_getElem? (i := 2) (by decide +kernel))) (fun _ h9 => h9) rfl dX4_standsAt_26 ?_
        refine lv_aload_n hx hb dX4_standsAt_29 rfl (lv_at hl 1 rfl) ?_
        refine xg_get (κ := 8) (ci := 4) (C := RX4) (T := TX4) (N := 12) hx hb hts inX4 hown hK hW hτ (by decide) rfl rfl 2 (by decide) (hts (.fieldLink RX4 31 "HalfTickets$Person" "errandLength" "I") (List.mem_of_getElem? (i := 3) (by decide +kernel))) (fun _ h9 => h9) rfl dX4_standsAt_30 ?_
        refine lv_icmp_ge (tgt := 48) hx hb dX4_standsAt_33 (by decide) (fun c_7 => ?_) (fun c_7 => ?_)
        · refine lv_bipush (v := (-6)) hx hb dX4_standsAt_48 (by decide) ?_
          exact W.iret (v := (-6)) hx hb hr (fun t ht hWm => ⟨⟨(-6), M, rfl, ⟨(by unfold zs_at; rw [if_neg (fun z => absurd z.2 (Int32.not_lt.mpr c_7))]), rfl⟩, xw_end ht hW⟩, hS.F ht⟩) hS.2.2 dX4_standsAt_50
        · refine lv_aload_n hx hb dX4_standsAt_36 rfl (lv_at hl 1 rfl) ?_
          refine xg_get (κ := 8) (ci := 4) (C := RX4) (T := TX4) (N := 12) hx hb hts inX4 hown hK hW hτ (by decide) rfl rfl 1 (by decide) (hts (.fieldLink RX4 9 "HalfTickets$Person" "errand" "[I") (List.mem_of_getElem? (i := 4) (by decide +kernel))) (fun _ h9 => h9) rfl dX4_standsAt_37 ?_
          refine lv_aload_n hx hb dX4_standsAt_40 rfl (lv_at hl 1 rfl) ?_
          refine xg_get (κ := 8) (ci := 4) (C := RX4) (T := TX4) (N := 12) hx hb hts inX4 hown hK hW hτ (by decide) rfl rfl 4 (by decide) (hts (.fieldLink RX4 34 "HalfTickets$Person" "through" "I") (List.mem_of_getElem? (i := 2) (by decide +kernel))) (fun _ h9 => h9) rfl dX4_standsAt_41 ?_
          refine xg_iald (κ := 108) (n := 8) hx hb hK hW (O.e hτ) (by decide) rfl tt htt (by have e := c_7; rw [htt, hmm] at e; have := (nI_ltI ht8 (by omega)).mp (Int32.not_le.mp e); omega) (by decide) dX4_standsAt_44 ?_
          refine lv_goto (tgt := 50) hx hb dX4_standsAt_45 (by decide) ?_
          exact W.iret (v := (M (a + 1) tt)) hx hb hr (fun t ht hWm => ⟨⟨(M (a + 1) tt), M, rfl, ⟨(by unfold zs_at; rw [if_pos ⟨Or.inr c_4, Int32.not_le.mp c_7⟩, htt, nI_clamp ht8]), rfl⟩, xw_end ht hW⟩, hS.F ht⟩) hS.2.2 dX4_standsAt_50
end
section
/-! AN OBJECT OF HALFTICKETS AT b; QUESTIONS AS FUNCTIONS -/
def zp_N (b : Nat) (M : xm_T) : Prop := ∀ k, k < 24 → M (b + 1 + 2 * k + 34) 0 = nI k ∧ M (b + 83 + 2 * k + 34) 0 = nI k ∧ (∀ i, i < 6 → M (b + 165 + 82 * i + 2 + 2 * k + 34) 0 = nI k) ∧ ∀ i, i < 2 → M (b + 82 * i + 660 + 2 * k + 34) 0 = nI k
def zp (b : Nat) (M : xm_T) : Prop := zp_N b M ∧ (∃ n, n ≤ 6 ∧ M (b + 165) 1 = nI n) ∧ ∃ L, L ≤ 60 ∧ M (b + 825) 1 = nI L
theorem zp_H {M : xm_T} {b : Nat} (h : zp_N b M) : xn_H M (b + 165) (b + 1) := fun i hi k hk => by rw [(h k hk).2.2.1 i hi, (h k hk).1]
theorem zp_T {M : xm_T} {b : Nat} (h : zp_N b M) : ∀ k, k < 24 → M (b + 83 + 2 * k + 34) 0 = M (b + 1 + 2 * k + 34) 0 := fun k hk => by rw [(h k hk).2.1, (h k hk).1]
/-- a change: what is now is N's, the history moves on, all else stays (but trials and the pad) -/
def zq (b : Nat) (M M' N : xm_T) : Prop := zp b M' ∧ (∀ x, x < b ∨ b + 827 ≤ x → M' x = M x) ∧ (∀ x, b + 1 ≤ x → x < b + 83 → M' x = N x) ∧ ∀ x, b + 659 ≤ x → x < b + 825 → M' x = M x
/-- the pad stays -/
def zq_d (b : Nat) (M M' : xm_T) : Prop := ∀ x, b + 825 ≤ x → x < b + 827 → M' x = M x
theorem zq_g {b : Nat} {M M1 : xm_T} (hr : xf_rem M M1 (b + 165)) : zz_g (b + 1) (b + 1) M M1 := fun c hc => (hr.2.1 _ (by omega)).symm
theorem zq_mk {b : Nat} {M M1 N M' : xm_T} (hp : zp b M) (hr : xf_rem M M1 (b + 165)) (hZ : zz_Z (b + 1) (b + 1) M M1 N M') (hN : ∀ k, k < 24 → N (b + 1 + 2 * k + 34) 0 = nI k) : zq b M M' N ∧ zq_d b M M' := by
  obtain ⟨hp1, hp2, L, hL, hL2⟩ := hp
  obtain ⟨z1, z2, z3⟩ := hZ
  obtain ⟨⟨n', hn', hn2⟩, r2, r3⟩ := hr
  have o : ∀ x, x < b + 1 ∨ b + 83 ≤ x → M' x = M1 x := fun x hx => z3 x (by omega)
  refine ⟨⟨⟨fun k hk => ⟨?_, ?_, fun i hi => ?_, fun i hi => ?_⟩, ⟨n', hn', by rw [o _ (by omega)]; exact hn2⟩, L, hL, by rw [o _ (by omega), r2 _ (by omega)]; exact hL2⟩, fun x hx => by rw [o _ (by omega), r2 _ (by omega)], fun x h1 h2 => ?_, fun x h1 h2 => by rw [o _ (by omega), r2 _ (by omega)]⟩, fun x h1 h2 => by rw [o _ (by omega), r2 _ (by omega)]⟩
  · have e := z1 (2 * k + 34) (by omega)
    rw [show b + 1 + 2 * k + 34 = b + 1 + (2 * k + 34) by omega, ← e, ← show b + 1 + 2 * k + 34 = b + 1 + (2 * k + 34) by omega]
    exact hN k hk
  · rw [o _ (by omega), r2 _ (by omega)]; exact (hp1 k hk).2.1
  · rw [o _ (by omega), r3 i hi k hk]; exact (hp1 k hk).2.2.1 i hi
  · rw [o _ (by omega), r2 _ (by omega)]; exact (hp1 k hk).2.2.2 i hi
  · have e := z1 (x - (b + 1)) (by omega)
    rw [show b + 1 + (x - (b + 1)) = x by omega] at e
    exact e.symm
/-- a trial: only the trial's cells change -/
def zy (b : Nat) (M M' : xm_T) : Prop := (∀ x, x < b + 83 ∨ b + 165 ≤ x → M' x = M x) ∧ ∀ k, k < 24 → M' (b + 83 + 2 * k + 34) 0 = nI k
theorem zy_rf {b : Nat} {M : xm_T} (h : zp_N b M) : zy b M M := ⟨fun _ _ => rfl, fun k hk => (h k hk).2.1⟩
theorem zy_tr {b : Nat} {M M1 M2 : xm_T} (h : zy b M M1) (h2 : zy b M1 M2) : zy b M M2 := ⟨fun x hx => (h2.1 x hx).trans (h.1 x hx), h2.2⟩
theorem zy.p {b : Nat} {M M' : xm_T} (h : zy b M M') (hp : zp b M) : zp b M' := by
  obtain ⟨p1, ⟨n, p2, p3⟩, L, p4, p5⟩ := hp
  exact ⟨fun k hk => ⟨by rw [h.1 _ (by omega)]; exact (p1 k hk).1, h.2 k hk, fun i hi => by rw [h.1 _ (by omega)]; exact (p1 k hk).2.2.1 i hi, fun i hi => by rw [h.1 _ (by omega)]; exact (p1 k hk).2.2.2 i hi⟩, ⟨n, p2, by rw [h.1 _ (by omega)]; exact p3⟩, L, p4, by rw [h.1 _ (by omega)]; exact p5⟩
theorem zy.g {b : Nat} {M M' : xm_T} (h : zy b M M') : zz_g (b + 1) (b + 1) M M' := fun c hc => (h.1 _ (by omega)).symm
/-- a copy of what is now, to try on -/
def zy_c (b : Nat) (M : xm_T) : xm_T := xf_cp M (b + 83) (b + 1) 82
theorem zy_cg {b : Nat} {M : xm_T} : zz_g (b + 1) (b + 83) M (zy_c b M) := fun c hc => by
  unfold zy_c
  rw [xf_in (by omega)]
  congr 1
  omega
theorem zy_co {b : Nat} {M : xm_T} : ∀ x, x < b + 83 ∨ b + 165 ≤ x → zy_c b M x = M x := fun x hx => by
  unfold zy_c
  exact xf_out (by omega)
/-- steps on the copy -/
theorem zy_st {b n T G B : Nat} {M M' : xm_T} (hz : zi (b + 83) M' n T G B) (ho : zz_o (b + 83) (zy_c b M) M') : zy b M M' := ⟨fun x hx => by rw [ho x (by omega), zy_co x hx], fun k hk => hz.2.1 k hk⟩
theorem zo_tn {a : Nat} {M : xm_T} (n : Nat) : zz_o a M (zm_it (zm_ti a) n M) := (zZ_tn (zZ_rf (fun _ _ => rfl : zz_g a a M M)) n).2.1
theorem zo_ti {a : Nat} {M : xm_T} : zz_o a M (zm_ti a M) := zo_tn 1
theorem zz_g.sym {a b : Nat} {M N : xm_T} (h : zz_g a b M N) : zz_g b a N M := fun c hc => (h c hc).symm
theorem zz_g.tr {a b c : Nat} {M N K : xm_T} (h : zz_g a b M N) (h2 : zz_g b c N K) : zz_g a c M K := fun i hi => (h i hi).trans (h2 i hi)
theorem zz_g.at {a b : Nat} {M N : xm_T} (h : zz_g a b M N) (c : Nat) (hc : c < 82) {x y : Nat} (hx : x = a + c) (hy : y = b + c) : M x = N y := by subst hx; subst hy; exact h c hc
/-! sums -/
def zc_pw (a : Nat) (v : Int32) (M : xm_T) : Int32 := xf_sum (fun k => if M (a + 2 * k + 34) 3 = v then nI 1 else nI 0) 24
def zc_hw (a : Nat) (M : xm_T) : Int32 := xf_sum (fun k => M (a + 5 * k + 4) 2) 6
def zc_hp (a : Nat) (M : xm_T) : Int32 := xf_sum (fun k => if M (a + 2 * k + 34) 5 = 0 then nI 0 else nI 1) 24
def zc_wt (a : Nat) (M : xm_T) : Int32 := xf_sum (fun k => M (a + 2 * k + 34) 7) 24
def zc_bk (a : Nat) (M : xm_T) : Int32 := xf_sum (fun k => M (a + 2 * k + 34) 9) 24
def zc_ow (a : Nat) (M : xm_T) : Int32 := xf_sum (fun k => if M (a + 5 * k + 4) 0 = 0 then nI 0 else nI 1) 6
theorem zc_P {a b k : Nat} {M N : xm_T} (h : zz_g a b M N) (hk : k < 24) : N (b + 2 * k + 34) = M (a + 2 * k + 34) := (h.at (2 * k + 34) (by omega) (by omega) (by omega)).symm
theorem zc_V {a b k : Nat} {M N : xm_T} (h : zz_g a b M N) (hk : k < 6) : N (b + 5 * k + 4) = M (a + 5 * k + 4) := (h.at (5 * k + 4) (by omega) (by omega) (by omega)).symm
theorem zg_pw {a b : Nat} {M N : xm_T} (h : zz_g a b M N) (v : Int32) : zc_pw b v N = zc_pw a v M := zs_c (fun k hk => by rw [zc_P h hk])
theorem zg_hw {a b : Nat} {M N : xm_T} (h : zz_g a b M N) : zc_hw b N = zc_hw a M := zs_c (fun k hk => by rw [zc_V h hk])
theorem zg_hp {a b : Nat} {M N : xm_T} (h : zz_g a b M N) : zc_hp b N = zc_hp a M := zs_c (fun k hk => by rw [zc_P h hk])
theorem zg_wt {a b : Nat} {M N : xm_T} (h : zz_g a b M N) : zc_wt b N = zc_wt a M := zs_c (fun k hk => by rw [zc_P h hk])
theorem zg_sb {a b : Nat} {M N : xm_T} (h : zz_g a b M N) : zc_bk b N = zc_bk a M := zs_c (fun k hk => by rw [zc_P h hk])
theorem zg_ow {a b : Nat} {M N : xm_T} (h : zz_g a b M N) : zc_ow b N = zc_ow a M := zs_c (fun k hk => by rw [zc_V h hk])
/-! the questions -/
def zf_pl (a : Nat) (M : xm_T) (k : Nat) : Int32 := if (M (a + 2 * k + 34) 3 = nI 0 ∨ M (a + 2 * k + 34) 3 = nI 1) ∧ zm_wz M (a + 2 * k + 34) < 6 then zl_pr M (a + 5 * zm_wz M (a + 2 * k + 34) + 5) (M (a + 2 * k + 34) 0) (M (a + 5 * zm_wz M (a + 2 * k + 34) + 5) 1).toNatClampNeg else -6
def zf_pe (a : Nat) (M : xm_T) (k j : Nat) : Int32 := match j with
  | 0 => M (a + 2 * k + 34) 3
  | 1 => zs_at M (a + 2 * k + 34)
  | 2 => zf_pl a M k
  | 3 => zm_h (M (a + 2 * k + 34) 5)
  | 4 => M (a + 2 * k + 34) 4
  | 5 => M (a + 2 * k + 34) 2
  | 6 => M (a + 2 * k + 34) 7
  | 7 => M (a + 2 * k + 34) 9
  | _ => M (a + 2 * k + 34) 10
def zf_wi (a : Nat) (M : xm_T) (w j : Nat) : Int32 := match j with
  | 0 => zm_h (M (a + 5 * w + 4) 0)
  | 1 => M (a + 5 * w + 4) 1
  | 2 => M (a + 5 * w + 4) 2
  | 3 => M (a + 5 * w + 5) 1
  | 4 => M (a + 5 * w + 7) 1
  | 5 => M (a + 5 * w + 4) 3
  | _ => M (a + 5 * w + 4) 4
def zf_co (a : Nat) (M : xm_T) (j : Nat) : Int32 := match j with
  | 0 => M (a + 1) 0
  | 1 => M (a + 1) 1
  | 2 => M (a + 1) 2
  | 3 => M a 4
  | 4 => M a 3
  | 5 => zc_pw a (nI 0) M
  | 6 => zc_pw a (nI 1) M
  | 7 => zc_pw a (nI 2) M
  | 8 => zc_pw a (nI 3) M
  | 9 => zc_hw a M
  | 10 => zc_hp a M
  | 11 => M a 5
  | 12 => M a 6
  | 13 => zc_wt a M
  | _ => zc_bk a M
theorem zg_pe {a b k : Nat} {M N : xm_T} (h : zz_g a b M N) (hk : k < 24) (j : Nat) : zf_pe b N k j = zf_pe a M k j := by
  have e1 := zc_P h hk
  have e2 : N (b + 2 * k + 34 + 1) = M (a + 2 * k + 34 + 1) := (h.at (2 * k + 35) (by omega) (by omega) (by omega)).symm
  have e3 : zm_wz N (b + 2 * k + 34) = zm_wz M (a + 2 * k + 34) := by unfold zm_wz; rw [e1, e2]
  have e4 : zs_at N (b + 2 * k + 34) = zs_at M (a + 2 * k + 34) := by unfold zs_at; rw [e1, e2]
  have e5 : zf_pl b N k = zf_pl a M k := by
    unfold zf_pl
    rw [e1, e3]
    by_cases q : (M (a + 2 * k + 34) 3 = nI 0 ∨ M (a + 2 * k + 34) 3 = nI 1) ∧ zm_wz M (a + 2 * k + 34) < 6
    · rw [if_pos q, if_pos q]
      have e6 : N (b + 5 * zm_wz M (a + 2 * k + 34) + 5) = M (a + 5 * zm_wz M (a + 2 * k + 34) + 5) := (h.at (5 * zm_wz M (a + 2 * k + 34) + 5) (by omega) (by omega) (by omega)).symm
      have e7 : N (b + 5 * zm_wz M (a + 2 * k + 34) + 5 + 1) = M (a + 5 * zm_wz M (a + 2 * k + 34) + 5 + 1) := (h.at (5 * zm_wz M (a + 2 * k + 34) + 6) (by omega) (by omega) (by omega)).symm
      unfold zl_pr
      rw [e6, e7]
    · rw [if_neg q, if_neg q]
  unfold zf_pe
  rw [e1, e4, e5]
theorem zg_wi {a b w : Nat} {M N : xm_T} (h : zz_g a b M N) (hw : w < 6) (j : Nat) : zf_wi b N w j = zf_wi a M w j := by
  have e1 := zc_V h hw
  have e2 : N (b + 5 * w + 5) = M (a + 5 * w + 5) := (h.at (5 * w + 5) (by omega) (by omega) (by omega)).symm
  have e3 : N (b + 5 * w + 7) = M (a + 5 * w + 7) := (h.at (5 * w + 7) (by omega) (by omega) (by omega)).symm
  unfold zf_wi
  rw [e1, e2, e3]
theorem zg_co {a b : Nat} {M N : xm_T} (h : zz_g a b M N) (j : Nat) : zf_co b N j = zf_co a M j := by
  have e0 : N b = M a := (h.at 0 (by omega) rfl rfl).symm
  have e1 : N (b + 1) = M (a + 1) := (h.at 1 (by omega) rfl rfl).symm
  unfold zf_co
  rw [e0, e1, zg_pw h, zg_pw h, zg_pw h, zg_pw h, zg_hw h, zg_hp h, zg_wt h, zg_sb h]
/-- how many are done behind 50 ticks, with one clerk more at the window w (none if w is 6 or more) -/
def zf_c1 (a w : Nat) (M : xm_T) : xm_T := if w < 6 then xu_p M (a + 5 * w + 4) 1 (M (a + 5 * w + 4) 1 + nI 1) else M
def zf_dn (a w : Nat) (M : xm_T) : Int32 := zc_pw a (nI 2) (zm_it (zm_ti a) 50 (zf_c1 a w M))
theorem zZ_c1 {a b : Nat} {M N M1 N1 : xm_T} (h : zz_Z a b M N M1 N1) (w : Nat) : zz_Z a b M N (zf_c1 a w M1) (zf_c1 b w N1) := by
  unfold zf_c1
  by_cases hw : w < 6
  · rw [if_pos hw, if_pos hw, h.rd (5 * w + 4) (by omega) (x := a + 5 * w + 4) (y := b + 5 * w + 4) (by omega) (by omega)]
    exact h.up (5 * w + 4) (by omega) (by omega) (by omega) 1 rfl
  · rw [if_neg hw, if_neg hw]; exact h
theorem zi_c1 {a n T G B w : Nat} {M : xm_T} (h : zi a M n T G B) : zi a (zf_c1 a w M) n T G B := by
  unfold zf_c1
  by_cases hw : w < 6
  · rw [if_pos hw]; exact zi_win h hw (by omega)
  · rw [if_neg hw]; exact h
theorem zg_dn {a b : Nat} {M N : xm_T} (h : zz_g a b M N) (w : Nat) : zf_dn b w N = zf_dn a w M := zg_pw (zZ_tn (zZ_c1 (zZ_rf h) w) 50).1 _
/-- the clerk that had best be moved: best, mostDone behind i windows -/
def zf_bc (a : Nat) (M : xm_T) : Nat → Int32 × Int32
  | 0 => (-6, zf_dn a 6 M)
  | i + 1 => if M (a + 5 * i + 4) 1 < nI 3 ∧ (zf_bc a M i).2 < zf_dn a i M then (nI i, zf_dn a i M) else zf_bc a M i
theorem zg_bc {a b : Nat} {M N : xm_T} (h : zz_g a b M N) : ∀ i, i ≤ 6 → zf_bc b N i = zf_bc a M i
  | 0, _ => by show ((-6 : Int32), zf_dn b 6 N) = (-6, zf_dn a 6 M); rw [zg_dn h]
  | i + 1, hi => by
    show (if N (b + 5 * i + 4) 1 < nI 3 ∧ (zf_bc b N i).2 < zf_dn b i N then (nI i, zf_dn b i N) else zf_bc b N i) = (if M (a + 5 * i + 4) 1 < nI 3 ∧ (zf_bc a M i).2 < zf_dn a i M then (nI i, zf_dn a i M) else zf_bc a M i)
    rw [zg_bc h i (by omega), zg_dn h, zc_V h (show i < 6 by omega)]
/-- the longest queue: window, length behind i windows -/
def zf_lo (a : Nat) (M : xm_T) : Nat → Int32 × Int32
  | 0 => (-6, nI 0)
  | i + 1 => if (zf_lo a M i).2 < M (a + 5 * i + 5) 1 then (nI i, M (a + 5 * i + 5) 1) else zf_lo a M i
theorem zg_lo {a b : Nat} {M N : xm_T} (h : zz_g a b M N) : ∀ i, i ≤ 6 → zf_lo b N i = zf_lo a M i
  | 0, _ => rfl
  | i + 1, hi => by
    show (if (zf_lo b N i).2 < N (b + 5 * i + 5) 1 then (nI i, N (b + 5 * i + 5) 1) else zf_lo b N i) = (if (zf_lo a M i).2 < M (a + 5 * i + 5) 1 then (nI i, M (a + 5 * i + 5) 1) else zf_lo a M i)
    rw [zg_lo h i (by omega), show N (b + 5 * i + 5) = M (a + 5 * i + 5) from (h.at (5 * i + 5) (by omega) (by omega) (by omega)).symm]
/-- what ticks would bring: Z behind them, M ahead of them -/
def zf_if (a : Nat) (Z : xm_T) (a' : Nat) (M : xm_T) (j : Nat) : Int32 := match j with
  | 0 => zc_pw a (nI 2) Z - zc_pw a' (nI 2) M
  | 1 => zc_pw a (nI 3) Z - zc_pw a' (nI 3) M
  | 2 => zc_wt a Z - zc_wt a' M
  | _ => zc_bk a Z - zc_bk a' M
theorem zg_if {a b a' b' : Nat} {M N M1 N1 : xm_T} (h : zz_g a b M N) (h' : zz_g a' b' M1 N1) (j : Nat) : zf_if b N b' N1 j = zf_if a M a' M1 j := by
  unfold zf_if
  rw [zg_pw h, zg_pw h, zg_wt h, zg_sb h, zg_pw h', zg_pw h', zg_wt h', zg_sb h']
/-- when a person is done: f ticks to look at, i looked at -/
def zf_ul (a k : Nat) : Nat → Nat → xm_T → Int32
  | 0, _, _ => -6
  | f + 1, i, M => if zm_ti a M (a + 2 * k + 34) 3 = nI 2 then nI (i + 1) else zf_ul a k f (i + 1) (zm_ti a M)
theorem zg_ul {a b k : Nat} (hk : k < 24) : ∀ (f i : Nat) {M N : xm_T}, zz_g a b M N → zf_ul b k f i N = zf_ul a k f i M
  | 0, _, _, _, _ => rfl
  | f + 1, i, M, N, h => by
    have g := (zZ_ti (zZ_rf h)).1
    show (if zm_ti b N (b + 2 * k + 34) 3 = nI 2 then nI (i + 1) else zf_ul b k f (i + 1) (zm_ti b N)) = (if zm_ti a M (a + 2 * k + 34) 3 = nI 2 then nI (i + 1) else zf_ul a k f (i + 1) (zm_ti a M))
    rw [zc_P g hk, zg_ul hk f (i + 1) g]
/-- all that untilDone answers of a person -/
def zf_ud (a a' : Nat) (M M' : xm_T) (k : Nat) : Int32 := if M (a + 2 * k + 34) 3 = nI 2 then nI 0 else zf_ul a' k 300 0 M'
end
