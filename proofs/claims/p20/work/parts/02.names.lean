def RX0 : String := "ZipCanopy$Layout"
def TX0 : u_T := fun k => match k with
  | 0 => ("ZipCanopy$Layout", "platforms", "[LZipCanopy$Platform;", true)
  | 1 => ("ZipCanopy$Layout", "lines", "[LZipCanopy$Line;", true)
  | 2 => ("ZipCanopy$Layout", "riders", "[LZipCanopy$Rider;", true)
  | 3 => ("ZipCanopy$Layout", "winds", "[I", true)
  | 4 => ("ZipCanopy$Layout", "platformCount", "I", false)
  | 5 => ("ZipCanopy$Layout", "lineCount", "I", false)
  | _ => ("ZipCanopy$Layout", "riderCount", "I", false)
def tyX0 : Nat → FieldType := fun k => match k with
  | 0 => .array (.object "ZipCanopy$Platform")
  | 1 => .array (.object "ZipCanopy$Line")
  | 2 => .array (.object "ZipCanopy$Rider")
  | 3 => .array .int
  | 4 => .int
  | 5 => .int
  | _ => .int
abbrev wsX00 : List Cond := u_ws RX0 TX0 7
theorem nmX0 : ∀ a, a < 7 → ∀ b, b < 7 → a ≠ b → (TX0 a).2.1 ≠ (TX0 b).2.1 := by decide +kernel
theorem tyX0_ok : ∀ k, k < 7 → parseFieldDescriptor (TX0 k).2.2.1 = some (tyX0 k) := by decide +kernel
abbrev cX0_init : ByteArray := prog_2_method_1_code
def yX0_init : MethodName := ⟨RX0, "<init>", "()V"⟩
abbrev cX0_hasPlatformAt : ByteArray := prog_2_method_2_code
def yX0_hasPlatformAt : MethodName := ⟨RX0, "hasPlatformAt", "(II)Z"⟩
abbrev cX0_isLower : ByteArray := prog_2_method_3_code
def yX0_isLower : MethodName := ⟨RX0, "isLower", "(II)Z"⟩
abbrev cX0_addPlatform : ByteArray := prog_2_method_4_code
def yX0_addPlatform : MethodName := ⟨RX0, "addPlatform", "(III)I"⟩
abbrev cX0_addLine : ByteArray := prog_2_method_5_code
def yX0_addLine : MethodName := ⟨RX0, "addLine", "(III)I"⟩
abbrev cX0_addRider : ByteArray := prog_2_method_6_code
def yX0_addRider : MethodName := ⟨RX0, "addRider", "(III)I"⟩
abbrev cX0_linesWithTop : ByteArray := prog_2_method_7_code
def yX0_linesWithTop : MethodName := ⟨RX0, "linesWithTop", "(I)I"⟩
abbrev cX0_linesWithBottom : ByteArray := prog_2_method_8_code
def yX0_linesWithBottom : MethodName := ⟨RX0, "linesWithBottom", "(I)I"⟩
abbrev cX0_isClosed : ByteArray := prog_2_method_9_code
def yX0_isClosed : MethodName := ⟨RX0, "isClosed", "(LZipCanopy$Line;I)Z"⟩
def RX1 : String := "ZipCanopy$Line"
def TX1 : u_T := fun k => match k with
  | 0 => ("ZipCanopy$Line", "top", "I", false)
  | 1 => ("ZipCanopy$Line", "bottom", "I", false)
  | 2 => ("ZipCanopy$Line", "most", "I", false)
  | 3 => ("ZipCanopy$Line", "length", "I", false)
  | _ => ("ZipCanopy$Line", "drop", "I", false)
def tyX1 : Nat → FieldType := fun k => match k with
  | 0 => .int
  | 1 => .int
  | 2 => .int
  | 3 => .int
  | _ => .int
abbrev wsX10 : List Cond := u_ws RX1 TX1 5
theorem nmX1 : ∀ a, a < 5 → ∀ b, b < 5 → a ≠ b → (TX1 a).2.1 ≠ (TX1 b).2.1 := by decide +kernel
theorem tyX1_ok : ∀ k, k < 5 → parseFieldDescriptor (TX1 k).2.2.1 = some (tyX1 k) := by decide +kernel
abbrev cX1_init : ByteArray := prog_3_method_1_code
def yX1_init : MethodName := ⟨RX1, "<init>", "()V"⟩
abbrev cX1_carries : ByteArray := prog_3_method_2_code
def yX1_carries : MethodName := ⟨RX1, "carries", "(I)Z"⟩
abbrev cX1_getsStuck : ByteArray := prog_3_method_3_code
def yX1_getsStuck : MethodName := ⟨RX1, "getsStuck", "(I)Z"⟩
abbrev cX1_rideMinutes : ByteArray := prog_3_method_4_code
def yX1_rideMinutes : MethodName := ⟨RX1, "rideMinutes", "(I)I"⟩
abbrev cX1_pullMinutes : ByteArray := prog_3_method_5_code
def yX1_pullMinutes : MethodName := ⟨RX1, "pullMinutes", "()I"⟩
def RX2 : String := "ZipCanopy$Platform"
def TX2 : u_T := fun k => match k with
  | 0 => ("ZipCanopy$Platform", "x", "I", false)
  | 1 => ("ZipCanopy$Platform", "y", "I", false)
  | _ => ("ZipCanopy$Platform", "height", "I", false)
def tyX2 : Nat → FieldType := fun k => match k with
  | 0 => .int
  | 1 => .int
  | _ => .int
abbrev wsX20 : List Cond := u_ws RX2 TX2 3
theorem nmX2 : ∀ a, a < 3 → ∀ b, b < 3 → a ≠ b → (TX2 a).2.1 ≠ (TX2 b).2.1 := by decide +kernel
theorem tyX2_ok : ∀ k, k < 3 → parseFieldDescriptor (TX2 k).2.2.1 = some (tyX2 k) := by decide +kernel
abbrev cX2_init : ByteArray := prog_4_method_1_code
def yX2_init : MethodName := ⟨RX2, "<init>", "()V"⟩
abbrev cX2_distanceTo : ByteArray := prog_4_method_2_code
def yX2_distanceTo : MethodName := ⟨RX2, "distanceTo", "(LZipCanopy$Platform;)I"⟩
def RX3 : String := "ZipCanopy$Rider"
def TX3 : u_T := fun k => match k with
  | 0 => ("ZipCanopy$Rider", "route", "LZipCanopy$Route;", true)
  | 1 => ("ZipCanopy$Rider", "goal", "I", false)
  | 2 => ("ZipCanopy$Rider", "weight", "I", false)
  | _ => ("ZipCanopy$Rider", "patience", "I", false)
def tyX3 : Nat → FieldType := fun k => match k with
  | 0 => .object "ZipCanopy$Route"
  | 1 => .int
  | 2 => .int
  | _ => .int
abbrev wsX30 : List Cond := u_ws RX3 TX3 4
theorem nmX3 : ∀ a, a < 4 → ∀ b, b < 4 → a ≠ b → (TX3 a).2.1 ≠ (TX3 b).2.1 := by decide +kernel
theorem tyX3_ok : ∀ k, k < 4 → parseFieldDescriptor (TX3 k).2.2.1 = some (tyX3 k) := by decide +kernel
abbrev cX3_init : ByteArray := prog_5_method_1_code
def yX3_init : MethodName := ⟨RX3, "<init>", "()V"⟩
abbrev cX3_planRoute : ByteArray := prog_5_method_2_code
def yX3_planRoute : MethodName := ⟨RX3, "planRoute", "(LZipCanopy$Layout;)V"⟩
def RX4 : String := "ZipCanopy$Route"
def TX4 : u_T := fun k => match k with
  | 0 => ("ZipCanopy$Route", "lines", "[I", true)
  | _ => ("ZipCanopy$Route", "first", "[I", true)
def tyX4 : Nat → FieldType := fun k => match k with
  | 0 => .array .int
  | _ => .array .int
abbrev wsX40 : List Cond := u_ws RX4 TX4 2
theorem nmX4 : ∀ a, a < 2 → ∀ b, b < 2 → a ≠ b → (TX4 a).2.1 ≠ (TX4 b).2.1 := by decide +kernel
theorem tyX4_ok : ∀ k, k < 2 → parseFieldDescriptor (TX4 k).2.2.1 = some (tyX4 k) := by decide +kernel
abbrev cX4_init : ByteArray := prog_6_method_1_code
def yX4_init : MethodName := ⟨RX4, "<init>", "()V"⟩
abbrev cX4_plan : ByteArray := prog_6_method_2_code
def yX4_plan : MethodName := ⟨RX4, "plan", "(LZipCanopy$Layout;II)V"⟩
abbrev cX4_extend : ByteArray := prog_6_method_3_code
def yX4_extend : MethodName := ⟨RX4, "extend", "(LZipCanopy$Line;III)V"⟩
abbrev cX4_linesFrom : ByteArray := prog_6_method_4_code
def yX4_linesFrom : MethodName := ⟨RX4, "linesFrom", "(I)I"⟩
abbrev cX4_firstFrom : ByteArray := prog_6_method_5_code
def yX4_firstFrom : MethodName := ⟨RX4, "firstFrom", "(I)I"⟩
def RX5 : String := "ZipCanopy$Traffic"
def TX5 : u_T := fun k => match k with
  | 0 => ("ZipCanopy$Traffic", "layout", "LZipCanopy$Layout;", true)
  | 1 => ("ZipCanopy$Traffic", "trips", "[LZipCanopy$Trip;", true)
  | 2 => ("ZipCanopy$Traffic", "trolleys", "[LZipCanopy$Trolleys;", true)
  | 3 => ("ZipCanopy$Traffic", "waiting", "[I", true)
  | 4 => ("ZipCanopy$Traffic", "waitingCount", "I", false)
  | _ => ("ZipCanopy$Traffic", "minute", "I", false)
def tyX5 : Nat → FieldType := fun k => match k with
  | 0 => .object "ZipCanopy$Layout"
  | 1 => .array (.object "ZipCanopy$Trip")
  | 2 => .array (.object "ZipCanopy$Trolleys")
  | 3 => .array .int
  | 4 => .int
  | _ => .int
abbrev wsX50 : List Cond := u_ws RX5 TX5 6
theorem nmX5 : ∀ a, a < 6 → ∀ b, b < 6 → a ≠ b → (TX5 a).2.1 ≠ (TX5 b).2.1 := by decide +kernel
theorem tyX5_ok : ∀ k, k < 6 → parseFieldDescriptor (TX5 k).2.2.1 = some (tyX5 k) := by decide +kernel
abbrev cX5_init : ByteArray := prog_7_method_1_code
def yX5_init : MethodName := ⟨RX5, "<init>", "(LZipCanopy$Layout;)V"⟩
abbrev cX5_copyFrom : ByteArray := prog_7_method_2_code
def yX5_copyFrom : MethodName := ⟨RX5, "copyFrom", "(LZipCanopy$Traffic;)V"⟩
abbrev cX5_addTrolleys : ByteArray := prog_7_method_3_code
def yX5_addTrolleys : MethodName := ⟨RX5, "addTrolleys", "(II)V"⟩
abbrev cX5_reach : ByteArray := prog_7_method_4_code
def yX5_reach : MethodName := ⟨RX5, "reach", "(II)V"⟩
abbrev cX5_goOn : ByteArray := prog_7_method_5_code
def yX5_goOn : MethodName := ⟨RX5, "goOn", "(I)I"⟩
abbrev cX5_passMinute : ByteArray := prog_7_method_6_code
def yX5_passMinute : MethodName := ⟨RX5, "passMinute", "()V"⟩
abbrev cX5_moveTrolleys : ByteArray := prog_7_method_7_code
def yX5_moveTrolleys : MethodName := ⟨RX5, "moveTrolleys", "(LZipCanopy$Line;LZipCanopy$Trolleys;)V"⟩
abbrev cX5_beginRide : ByteArray := prog_7_method_8_code
def yX5_beginRide : MethodName := ⟨RX5, "beginRide", "(LZipCanopy$Line;I)V"⟩
abbrev cX5_firstWaitingFor : ByteArray := prog_7_method_9_code
def yX5_firstWaitingFor : MethodName := ⟨RX5, "firstWaitingFor", "(I)I"⟩
abbrev cX5_leaveWaiting : ByteArray := prog_7_method_10_code
def yX5_leaveWaiting : MethodName := ⟨RX5, "leaveWaiting", "(I)V"⟩
abbrev cX5_tireWaiting : ByteArray := prog_7_method_11_code
def yX5_tireWaiting : MethodName := ⟨RX5, "tireWaiting", "()V"⟩
abbrev cX5_givesUp : ByteArray := prog_7_method_12_code
def yX5_givesUp : MethodName := ⟨RX5, "givesUp", "(LZipCanopy$Rider;LZipCanopy$Trip;)Z"⟩
abbrev cX5_queueLength : ByteArray := prog_7_method_13_code
def yX5_queueLength : MethodName := ⟨RX5, "queueLength", "(I)I"⟩
abbrev cX5_inQueue : ByteArray := prog_7_method_14_code
def yX5_inQueue : MethodName := ⟨RX5, "inQueue", "(II)I"⟩
abbrev cX5_arrivedAt : ByteArray := prog_7_method_15_code
def yX5_arrivedAt : MethodName := ⟨RX5, "arrivedAt", "(I)I"⟩
abbrev cX5_ridersIn : ByteArray := prog_7_method_16_code
def yX5_ridersIn : MethodName := ⟨RX5, "ridersIn", "(I)I"⟩
abbrev cX5_trolleysInAll : ByteArray := prog_7_method_17_code
def yX5_trolleysInAll : MethodName := ⟨RX5, "trolleysInAll", "()I"⟩
abbrev cX5_ridesInAll : ByteArray := prog_7_method_18_code
def yX5_ridesInAll : MethodName := ⟨RX5, "ridesInAll", "()I"⟩
def RX6 : String := "ZipCanopy$Trip"
def TX6 : u_T := fun k => match k with
  | 0 => ("ZipCanopy$Trip", "state", "I", false)
  | 1 => ("ZipCanopy$Trip", "platform", "I", false)
  | 2 => ("ZipCanopy$Trip", "line", "I", false)
  | 3 => ("ZipCanopy$Trip", "minutes", "I", false)
  | 4 => ("ZipCanopy$Trip", "taken", "I", false)
  | _ => ("ZipCanopy$Trip", "arrival", "I", false)
def tyX6 : Nat → FieldType := fun k => match k with
  | 0 => .int
  | 1 => .int
  | 2 => .int
  | 3 => .int
  | 4 => .int
  | _ => .int
abbrev wsX60 : List Cond := u_ws RX6 TX6 6
theorem nmX6 : ∀ a, a < 6 → ∀ b, b < 6 → a ≠ b → (TX6 a).2.1 ≠ (TX6 b).2.1 := by decide +kernel
theorem tyX6_ok : ∀ k, k < 6 → parseFieldDescriptor (TX6 k).2.2.1 = some (tyX6 k) := by decide +kernel
abbrev cX6_init : ByteArray := prog_8_method_1_code
def yX6_init : MethodName := ⟨RX6, "<init>", "()V"⟩
abbrev cX6_copyFrom : ByteArray := prog_8_method_2_code
def yX6_copyFrom : MethodName := ⟨RX6, "copyFrom", "(LZipCanopy$Trip;)V"⟩
abbrev cX6_isUnderWay : ByteArray := prog_8_method_3_code
def yX6_isUnderWay : MethodName := ⟨RX6, "isUnderWay", "()Z"⟩
abbrev cX6_beginWait : ByteArray := prog_8_method_4_code
def yX6_beginWait : MethodName := ⟨RX6, "beginWait", "(I)V"⟩
abbrev cX6_beginRide : ByteArray := prog_8_method_5_code
def yX6_beginRide : MethodName := ⟨RX6, "beginRide", "(II)V"⟩
abbrev cX6_arrive : ByteArray := prog_8_method_6_code
def yX6_arrive : MethodName := ⟨RX6, "arrive", "(II)V"⟩
abbrev cX6_giveUp : ByteArray := prog_8_method_7_code
def yX6_giveUp : MethodName := ⟨RX6, "giveUp", "()V"⟩
def RX7 : String := "ZipCanopy$Trolleys"
def TX7 : u_T := fun k => match k with
  | 0 => ("ZipCanopy$Trolleys", "atTop", "I", false)
  | 1 => ("ZipCanopy$Trolleys", "away", "I", false)
  | 2 => ("ZipCanopy$Trolleys", "riders", "[I", true)
  | 3 => ("ZipCanopy$Trolleys", "minutesLeft", "[I", true)
  | 4 => ("ZipCanopy$Trolleys", "rides", "I", false)
  | _ => ("ZipCanopy$Trolleys", "stuck", "I", false)
def tyX7 : Nat → FieldType := fun k => match k with
  | 0 => .int
  | 1 => .int
  | 2 => .array .int
  | 3 => .array .int
  | 4 => .int
  | _ => .int
abbrev wsX70 : List Cond := u_ws RX7 TX7 6
theorem nmX7 : ∀ a, a < 6 → ∀ b, b < 6 → a ≠ b → (TX7 a).2.1 ≠ (TX7 b).2.1 := by decide +kernel
theorem tyX7_ok : ∀ k, k < 6 → parseFieldDescriptor (TX7 k).2.2.1 = some (tyX7 k) := by decide +kernel
abbrev cX7_init : ByteArray := prog_9_method_1_code
def yX7_init : MethodName := ⟨RX7, "<init>", "()V"⟩
abbrev cX7_copyFrom : ByteArray := prog_9_method_2_code
def yX7_copyFrom : MethodName := ⟨RX7, "copyFrom", "(LZipCanopy$Trolleys;)V"⟩
abbrev cX7_inAll : ByteArray := prog_9_method_3_code
def yX7_inAll : MethodName := ⟨RX7, "inAll", "()I"⟩
abbrev cX7_ridden : ByteArray := prog_9_method_4_code
def yX7_ridden : MethodName := ⟨RX7, "ridden", "()I"⟩
abbrev cX7_canLeaveTop : ByteArray := prog_9_method_5_code
def yX7_canLeaveTop : MethodName := ⟨RX7, "canLeaveTop", "()Z"⟩
abbrev cX7_leaveTop : ByteArray := prog_9_method_6_code
def yX7_leaveTop : MethodName := ⟨RX7, "leaveTop", "(II)V"⟩
abbrev cX7_beginPull : ByteArray := prog_9_method_7_code
def yX7_beginPull : MethodName := ⟨RX7, "beginPull", "(II)V"⟩
abbrev cX7_dropPulled : ByteArray := prog_9_method_8_code
def yX7_dropPulled : MethodName := ⟨RX7, "dropPulled", "()V"⟩
def RX8 : String := "ZipCanopy"
def TX8 : u_T := fun k => match k with
  | 0 => ("ZipCanopy", "layout", "LZipCanopy$Layout;", true)
  | 1 => ("ZipCanopy", "now", "LZipCanopy$Traffic;", true)
  | 2 => ("ZipCanopy", "ahead", "LZipCanopy$Traffic;", true)
  | _ => ("ZipCanopy", "asked", "LZipCanopy$Route;", true)
def tyX8 : Nat → FieldType := fun k => match k with
  | 0 => .object "ZipCanopy$Layout"
  | 1 => .object "ZipCanopy$Traffic"
  | 2 => .object "ZipCanopy$Traffic"
  | _ => .object "ZipCanopy$Route"
abbrev wsX80 : List Cond := u_ws RX8 TX8 4
theorem nmX8 : ∀ a, a < 4 → ∀ b, b < 4 → a ≠ b → (TX8 a).2.1 ≠ (TX8 b).2.1 := by decide +kernel
theorem tyX8_ok : ∀ k, k < 4 → parseFieldDescriptor (TX8 k).2.2.1 = some (tyX8 k) := by decide +kernel
abbrev cX8_init : ByteArray := prog_1_method_1_code
def yX8_init : MethodName := ⟨RX8, "<init>", "()V"⟩
abbrev cX8_build : ByteArray := prog_1_method_2_code
def yX8_build : MethodName := ⟨RX8, "build", "(III)I"⟩
abbrev cX8_span : ByteArray := prog_1_method_3_code
def yX8_span : MethodName := ⟨RX8, "span", "(IIII)I"⟩
abbrev cX8_add : ByteArray := prog_1_method_4_code
def yX8_add : MethodName := ⟨RX8, "add", "(I)I"⟩
abbrev cX8_setWind : ByteArray := prog_1_method_5_code
def yX8_setWind : MethodName := ⟨RX8, "setWind", "(II)I"⟩
abbrev cX8_platform : ByteArray := prog_1_method_6_code
def yX8_platform : MethodName := ⟨RX8, "platform", "(II)I"⟩
abbrev cX8_line : ByteArray := prog_1_method_7_code
def yX8_line : MethodName := ⟨RX8, "line", "(II)I"⟩
abbrev cX8_come : ByteArray := prog_1_method_9_code
def yX8_come : MethodName := ⟨RX8, "come", "(IIII)I"⟩
abbrev cX8_rider : ByteArray := prog_1_method_10_code
def yX8_rider : MethodName := ⟨RX8, "rider", "(II)I"⟩
abbrev cX8_queue : ByteArray := prog_1_method_11_code
def yX8_queue : MethodName := ⟨RX8, "queue", "(II)I"⟩
abbrev cX8_pass : ByteArray := prog_1_method_12_code
def yX8_pass : MethodName := ⟨RX8, "pass", "(I)I"⟩
abbrev cX8_count : ByteArray := prog_1_method_13_code
def yX8_count : MethodName := ⟨RX8, "count", "(I)I"⟩
abbrev cX8_way : ByteArray := prog_1_method_14_code
def yX8_way : MethodName := ⟨RX8, "way", "(III)I"⟩
abbrev cX8_arrives : ByteArray := prog_1_method_15_code
def yX8_arrives : MethodName := ⟨RX8, "arrives", "(I)I"⟩
abbrev cX8_advise : ByteArray := prog_1_method_16_code
def yX8_advise : MethodName := ⟨RX8, "advise", "(I)I"⟩
abbrev cX8_digest : ByteArray := prog_1_method_18_code
def yX8_digest : MethodName := ⟨RX8, "digest", "()J"⟩
abbrev cX8_within : ByteArray := prog_1_method_19_code
def yX8_within : MethodName := ⟨RX8, "within", "(III)Z"⟩
abbrev cX8_isWeight : ByteArray := prog_1_method_20_code
def yX8_isWeight : MethodName := ⟨RX8, "isWeight", "(I)Z"⟩
abbrev cX8_isPlatform : ByteArray := prog_1_method_21_code
def yX8_isPlatform : MethodName := ⟨RX8, "isPlatform", "(I)Z"⟩
abbrev cX8_isLine : ByteArray := prog_1_method_22_code
def yX8_isLine : MethodName := ⟨RX8, "isLine", "(I)Z"⟩
abbrev cX8_isRider : ByteArray := prog_1_method_23_code
def yX8_isRider : MethodName := ⟨RX8, "isRider", "(I)Z"⟩
abbrev cX8_arrivalsWithOneMore : ByteArray := prog_1_method_24_code
def yX8_arrivalsWithOneMore : MethodName := ⟨RX8, "arrivalsWithOneMore", "(II)I"⟩
abbrev cX8_digestPlatform : ByteArray := prog_1_method_25_code
def yX8_digestPlatform : MethodName := ⟨RX8, "digestPlatform", "(JI)J"⟩
abbrev cX8_platformFact : ByteArray := prog_1_method_26_code
def yX8_platformFact : MethodName := ⟨RX8, "platformFact", "(II)I"⟩
abbrev cX8_lineFact : ByteArray := prog_1_method_27_code
def yX8_lineFact : MethodName := ⟨RX8, "lineFact", "(II)I"⟩
abbrev cX8_riderFact : ByteArray := prog_1_method_28_code
def yX8_riderFact : MethodName := ⟨RX8, "riderFact", "(II)I"⟩
abbrev cX8_countFact : ByteArray := prog_1_method_29_code
def yX8_countFact : MethodName := ⟨RX8, "countFact", "(I)I"⟩
def RX9 : String := "ZipCanopyModel$State"
def TX9 : u_T := fun k => match k with
  | _ => ("", "", "", false)
def tyX9 : Nat → FieldType := fun k => match k with
  | _ => .int
abbrev wsX90 : List Cond := u_ws RX9 TX9 0
theorem nmX9 : ∀ a, a < 0 → ∀ b, b < 0 → a ≠ b → (TX9 a).2.1 ≠ (TX9 b).2.1 := by decide +kernel
theorem tyX9_ok : ∀ k, k < 0 → parseFieldDescriptor (TX9 k).2.2.1 = some (tyX9 k) := by decide +kernel
def RX10 : String := "ZipCanopyModel"
def TX10 : u_T := fun k => match k with
  | _ => ("", "", "", false)
def tyX10 : Nat → FieldType := fun k => match k with
  | _ => .int
abbrev wsX100 : List Cond := u_ws RX10 TX10 0
theorem nmX10 : ∀ a, a < 0 → ∀ b, b < 0 → a ≠ b → (TX10 a).2.1 ≠ (TX10 b).2.1 := by decide +kernel
theorem tyX10_ok : ∀ k, k < 0 → parseFieldDescriptor (TX10 k).2.2.1 = some (tyX10 k) := by decide +kernel
def RJ9 : String := "java/lang/Math"
def TJ9 : u_T := fun k => match k with
  | _ => ("", "", "", false)
def tyJ9 : Nat → FieldType := fun k => match k with
  | _ => .int
abbrev wsJ90 : List Cond := u_ws RJ9 TJ9 0
theorem nmJ9 : ∀ a, a < 0 → ∀ b, b < 0 → a ≠ b → (TJ9 a).2.1 ≠ (TJ9 b).2.1 := by decide +kernel
theorem tyJ9_ok : ∀ k, k < 0 → parseFieldDescriptor (TJ9 k).2.2.1 = some (tyJ9 k) := by decide +kernel
abbrev cJ9_floorMod_7cf53 : ByteArray := prog_17_method_50_code
def yJ9_floorMod_7cf53 : MethodName := ⟨RJ9, "floorMod", "(II)I"⟩
abbrev cJ9_abs_0f7a4 : ByteArray := prog_17_method_59_code
def yJ9_abs_0f7a4 : MethodName := ⟨RJ9, "abs", "(I)I"⟩
abbrev cJ9_max_7cf53 : ByteArray := prog_17_method_65_code
def yJ9_max_7cf53 : MethodName := ⟨RJ9, "max", "(II)I"⟩
def RJ0 : String := "java/lang/String"
def TJ0 : u_T := fun k => match k with
  | _ => ("", "", "", false)
def tyJ0 : Nat → FieldType := fun k => match k with
  | _ => .int
abbrev wsJ00 : List Cond := u_ws RJ0 TJ0 0
theorem nmJ0 : ∀ a, a < 0 → ∀ b, b < 0 → a ≠ b → (TJ0 a).2.1 ≠ (TJ0 b).2.1 := by decide +kernel
theorem tyJ0_ok : ∀ k, k < 0 → parseFieldDescriptor (TJ0 k).2.2.1 = some (tyJ0 k) := by decide +kernel
def RL : String := "ZipCanopyLaw"
abbrev cL_below : ByteArray := method_2_code
def yL_below : MethodName := ⟨RL, "below", "(II)I"⟩
abbrev cL_cell : ByteArray := method_3_code
def yL_cell : MethodName := ⟨RL, "cell", "([II)I"⟩
abbrev cL_canopy : ByteArray := method_4_code
def yL_canopy : MethodName := ⟨RL, "canopy", "([IZ)LZipCanopy;"⟩
abbrev cL_law : ByteArray := code
def yL_law : MethodName := ⟨RL, "law", "([I)Z"⟩
abbrev vwCl : List vw_C := [(RX0, TX0, 7), (RX1, TX1, 5), (RX2, TX2, 3), (RX3, TX3, 4), (RX4, TX4, 2), (RX5, TX5, 6), (RX6, TX6, 6), (RX7, TX7, 6), (RX8, TX8, 4)]
