-- ===== PART A: goes FIRST, ahead of the names: the tables' words, and 'selects' of the private methods out of them =====
/-- a private method of a class that the tables say can be made, by its rows of tables_1 -/
def lw_okq (q : MethodName × Nat) : Prop := (q.1.cls ≠ "java/lang/invoke/MethodHandle" ∧ q.1.cls ≠ "java/lang/invoke/VarHandle") ∧ Cond.instantiable q.1.cls q.2 ∈ tables_1 ∧ Cond.privateMethod q.1 ∈ tables_1 ∧ Cond.instanceMethod q.1 ∈ tables_1
theorem lw_p0 : lw_okq (⟨"GrainBins$Rules", "clear", "()V"⟩, 8) := ⟨⟨by decide +kernel, by decide +kernel⟩, List.mem_of_getElem? (i := 54) (by decide +kernel), List.mem_of_getElem? (i := 316) (by decide +kernel), List.mem_of_getElem? (i := 317) (by decide +kernel)⟩
theorem lw_p1 : lw_okq (⟨"GrainBins$Rules", "readLine", "(LGrainBins$Text;)Z"⟩, 8) := ⟨⟨by decide +kernel, by decide +kernel⟩, List.mem_of_getElem? (i := 54) (by decide +kernel), List.mem_of_getElem? (i := 324) (by decide +kernel), List.mem_of_getElem? (i := 325) (by decide +kernel)⟩
theorem lw_p2 : lw_okq (⟨"GrainBins$Rules", "readGrade", "(LGrainBins$Text;)Z"⟩, 8) := ⟨⟨by decide +kernel, by decide +kernel⟩, List.mem_of_getElem? (i := 54) (by decide +kernel), List.mem_of_getElem? (i := 333) (by decide +kernel), List.mem_of_getElem? (i := 334) (by decide +kernel)⟩
theorem lw_p3 : lw_okq (⟨"GrainBins$Text", "digitFits", "(II)Z"⟩, 3) := ⟨⟨by decide +kernel, by decide +kernel⟩, List.mem_of_getElem? (i := 36) (by decide +kernel), List.mem_of_getElem? (i := 345) (by decide +kernel), List.mem_of_getElem? (i := 346) (by decide +kernel)⟩
theorem lw_p4 : lw_okq (⟨"GrainBins$Rules", "readBin", "(LGrainBins$Text;)Z"⟩, 8) := ⟨⟨by decide +kernel, by decide +kernel⟩, List.mem_of_getElem? (i := 54) (by decide +kernel), List.mem_of_getElem? (i := 349) (by decide +kernel), List.mem_of_getElem? (i := 350) (by decide +kernel)⟩
theorem lw_p5 : lw_okq (⟨"GrainBins$Rules", "readPair", "(LGrainBins$Text;Z)Z"⟩, 8) := ⟨⟨by decide +kernel, by decide +kernel⟩, List.mem_of_getElem? (i := 54) (by decide +kernel), List.mem_of_getElem? (i := 353) (by decide +kernel), List.mem_of_getElem? (i := 354) (by decide +kernel)⟩
theorem lw_p6 : lw_okq (⟨"GrainBins$Store", "onTop", "(III)Z"⟩, 11) := ⟨⟨by decide +kernel, by decide +kernel⟩, List.mem_of_getElem? (i := 91) (by decide +kernel), List.mem_of_getElem? (i := 418) (by decide +kernel), List.mem_of_getElem? (i := 419) (by decide +kernel)⟩
theorem lw_p7 : lw_okq (⟨"GrainBins$Store", "copyBin", "(LGrainBins$Store;I)V"⟩, 11) := ⟨⟨by decide +kernel, by decide +kernel⟩, List.mem_of_getElem? (i := 91) (by decide +kernel), List.mem_of_getElem? (i := 433) (by decide +kernel), List.mem_of_getElem? (i := 434) (by decide +kernel)⟩
theorem lw_p8 : lw_okq (⟨"GrainBins$Store", "partBelow", "(III)I"⟩, 11) := ⟨⟨by decide +kernel, by decide +kernel⟩, List.mem_of_getElem? (i := 91) (by decide +kernel), List.mem_of_getElem? (i := 457) (by decide +kernel), List.mem_of_getElem? (i := 458) (by decide +kernel)⟩
theorem lw_p9 : lw_okq (⟨"GrainBins$Store", "take", "(II)V"⟩, 11) := ⟨⟨by decide +kernel, by decide +kernel⟩, List.mem_of_getElem? (i := 91) (by decide +kernel), List.mem_of_getElem? (i := 479) (by decide +kernel), List.mem_of_getElem? (i := 480) (by decide +kernel)⟩
theorem lw_p10 : lw_okq (⟨"GrainBins$Store", "layersWith", "(III)I"⟩, 11) := ⟨⟨by decide +kernel, by decide +kernel⟩, List.mem_of_getElem? (i := 91) (by decide +kernel), List.mem_of_getElem? (i := 492) (by decide +kernel), List.mem_of_getElem? (i := 493) (by decide +kernel)⟩
theorem lw_p11 : lw_okq (⟨"GrainBins$Store", "join", "(I)V"⟩, 11) := ⟨⟨by decide +kernel, by decide +kernel⟩, List.mem_of_getElem? (i := 91) (by decide +kernel), List.mem_of_getElem? (i := 533) (by decide +kernel), List.mem_of_getElem? (i := 534) (by decide +kernel)⟩
theorem lw_p12 : lw_okq (⟨"GrainBins", "readOrders", "()I"⟩, 12) := ⟨⟨by decide +kernel, by decide +kernel⟩, List.mem_of_getElem? (i := 28) (by decide +kernel), List.mem_of_getElem? (i := 549) (by decide +kernel), List.mem_of_getElem? (i := 550) (by decide +kernel)⟩
theorem lw_p13 : lw_okq (⟨"GrainBins$Orders", "readOne", "(LGrainBins$Text;I)Z"⟩, 4) := ⟨⟨by decide +kernel, by decide +kernel⟩, List.mem_of_getElem? (i := 179) (by decide +kernel), List.mem_of_getElem? (i := 558) (by decide +kernel), List.mem_of_getElem? (i := 559) (by decide +kernel)⟩
theorem lw_p14 : lw_okq (⟨"GrainBins$Drawing", "takeWay", "(I)V"⟩, 6) := ⟨⟨by decide +kernel, by decide +kernel⟩, List.mem_of_getElem? (i := 229) (by decide +kernel), List.mem_of_getElem? (i := 573) (by decide +kernel), List.mem_of_getElem? (i := 574) (by decide +kernel)⟩
theorem lw_p15 : lw_okq (⟨"GrainBins$Drawing", "canDraw", "(II)Z"⟩, 6) := ⟨⟨by decide +kernel, by decide +kernel⟩, List.mem_of_getElem? (i := 229) (by decide +kernel), List.mem_of_getElem? (i := 577) (by decide +kernel), List.mem_of_getElem? (i := 578) (by decide +kernel)⟩
def lw_privs_1 : List (MethodName × Nat) := [(⟨"GrainBins$Rules", "clear", "()V"⟩, 8), (⟨"GrainBins$Rules", "readLine", "(LGrainBins$Text;)Z"⟩, 8), (⟨"GrainBins$Rules", "readGrade", "(LGrainBins$Text;)Z"⟩, 8), (⟨"GrainBins$Text", "digitFits", "(II)Z"⟩, 3), (⟨"GrainBins$Rules", "readBin", "(LGrainBins$Text;)Z"⟩, 8), (⟨"GrainBins$Rules", "readPair", "(LGrainBins$Text;Z)Z"⟩, 8), (⟨"GrainBins$Store", "onTop", "(III)Z"⟩, 11), (⟨"GrainBins$Store", "copyBin", "(LGrainBins$Store;I)V"⟩, 11), (⟨"GrainBins$Store", "partBelow", "(III)I"⟩, 11), (⟨"GrainBins$Store", "take", "(II)V"⟩, 11), (⟨"GrainBins$Store", "layersWith", "(III)I"⟩, 11), (⟨"GrainBins$Store", "join", "(I)V"⟩, 11), (⟨"GrainBins", "readOrders", "()I"⟩, 12), (⟨"GrainBins$Orders", "readOne", "(LGrainBins$Text;I)Z"⟩, 4), (⟨"GrainBins$Drawing", "takeWay", "(I)V"⟩, 6), (⟨"GrainBins$Drawing", "canDraw", "(II)Z"⟩, 6)]
theorem lw_r1 : ∀ q ∈ lw_privs_1, lw_okq q := List.forall_mem_cons.mpr ⟨lw_p0, List.forall_mem_cons.mpr ⟨lw_p1, List.forall_mem_cons.mpr ⟨lw_p2, List.forall_mem_cons.mpr ⟨lw_p3, List.forall_mem_cons.mpr ⟨lw_p4, List.forall_mem_cons.mpr ⟨lw_p5, List.forall_mem_cons.mpr ⟨lw_p6, List.forall_mem_cons.mpr ⟨lw_p7, List.forall_mem_cons.mpr ⟨lw_p8, List.forall_mem_cons.mpr ⟨lw_p9, List.forall_mem_cons.mpr ⟨lw_p10, List.forall_mem_cons.mpr ⟨lw_p11, List.forall_mem_cons.mpr ⟨lw_p12, List.forall_mem_cons.mpr ⟨lw_p13, List.forall_mem_cons.mpr ⟨lw_p14, List.forall_mem_cons.mpr ⟨lw_p15, fun _ h => absurd h List.not_mem_nil⟩⟩⟩⟩⟩⟩⟩⟩⟩⟩⟩⟩⟩⟩⟩⟩
theorem lw_p16 : lw_okq (⟨"GrainBins$Store", "spoilt", "(II)Z"⟩, 11) := ⟨⟨by decide +kernel, by decide +kernel⟩, List.mem_of_getElem? (i := 91) (by decide +kernel), List.mem_of_getElem? (i := 630) (by decide +kernel), List.mem_of_getElem? (i := 631) (by decide +kernel)⟩
theorem lw_p17 : lw_okq (⟨"java/lang/Throwable", "fillInStackTrace", "(I)Ljava/lang/Throwable;"⟩, 6) := ⟨⟨by decide +kernel, by decide +kernel⟩, List.mem_of_getElem? (i := 711) (by decide +kernel), List.mem_of_getElem? (i := 709) (by decide +kernel), List.mem_of_getElem? (i := 710) (by decide +kernel)⟩
def lw_privs_2 : List (MethodName × Nat) := [(⟨"GrainBins$Store", "spoilt", "(II)Z"⟩, 11), (⟨"java/lang/Throwable", "fillInStackTrace", "(I)Ljava/lang/Throwable;"⟩, 6)]
theorem lw_r2 : ∀ q ∈ lw_privs_2, lw_okq q := List.forall_mem_cons.mpr ⟨lw_p16, List.forall_mem_cons.mpr ⟨lw_p17, fun _ h => absurd h List.not_mem_nil⟩⟩
def lw_privs : List (MethodName × Nat) := lw_privs_1 ++ (lw_privs_2)
def lw_tbl : List Cond := k2_sels lw_privs ++ tables_1
theorem lw_privs_ok : ∀ q ∈ lw_privs, lw_okq q := by
  show ∀ q ∈ lw_privs_1 ++ (lw_privs_2), lw_okq q
  exact List.forall_mem_append.mpr ⟨lw_r1, lw_r2⟩

theorem goodIn_r {big : List Cond} (ws : List Cond) (ps : List Nat) (hp : ws = ps.filterMap (fun i => big[i]?)) (h : ws.all goodWord = true) : GoodIn big ws := by
  intro w hw
  have h1 := List.all_eq_true.mp h w hw
  rw [hp] at hw
  obtain ⟨i, -, hi⟩ := List.mem_filterMap.mp hw
  have hm : w ∈ big := by first | exact List.mem_of_getElem? hi | exact List.getElem?_mem hi
  exact ⟨hm, good_of_word h1⟩
theorem goodIn_app {big a b : List Cond} (ha : GoodIn big a) (hb : GoodIn big b) : GoodIn big (a ++ b) := fun w h => (List.mem_append.mp h).elim (ha w) (hb w)
theorem goodIn_ca {big a b : List Cond} {c : Cond} (ha : GoodIn big (c :: a)) (hb : GoodIn big b) : GoodIn big (c :: (a ++ b)) := fun w h => (List.mem_cons.mp h).elim (fun e => ha w (List.mem_cons.mpr (Or.inl e))) (fun h => (List.mem_append.mp h).elim (fun h => ha w (List.mem_cons.mpr (Or.inr h))) (hb w))
theorem goodIn_sub {big ws : List Cond} (hm : ∀ w ∈ ws, w ∈ big) (h : ws.all goodWord = true) : GoodIn big ws := fun w hw => ⟨hm w hw, good_of_word (List.all_eq_true.mp h w hw)⟩
def RX0 : String := "GrainBins$Drawing"
def TX0 : u_T := fun k => match k with
  | 0 => ("GrainBins$Drawing", "store", "LGrainBins$Store;", true)
  | 1 => ("GrainBins$Drawing", "orders", "LGrainBins$Orders;", true)
  | 2 => ("GrainBins$Drawing", "gone", "[I", true)
  | 3 => ("GrainBins$Drawing", "way", "[I", true)
  | 4 => ("GrainBins$Drawing", "bestWay", "[I", true)
  | _ => ("GrainBins$Drawing", "most", "I", false)
def tyX0 : Nat → FieldType := fun k => match k with
  | 0 => .object "GrainBins$Store"
  | 1 => .object "GrainBins$Orders"
  | 2 => .array .int
  | 3 => .array .int
  | 4 => .array .int
  | _ => .int
abbrev wsX00 : List Cond := u_ws RX0 TX0 6
theorem nmX0 : ∀ a, a < 6 → ∀ b, b < 6 → a ≠ b → (TX0 a).2.1 ≠ (TX0 b).2.1 := by decide +kernel
theorem tyX0_ok : ∀ k, k < 6 → parseFieldDescriptor (TX0 k).2.2.1 = some (tyX0 k) := by decide +kernel
abbrev cX0_init : ByteArray := prog_2_method_1_code
def yX0_init : MethodName := ⟨RX0, "<init>", "(LGrainBins$Store;LGrainBins$Orders;)V"⟩
abbrev cX0_serve : ByteArray := prog_2_method_2_code
def yX0_serve : MethodName := ⟨RX0, "serve", "()I"⟩
abbrev cX0_pick : ByteArray := prog_2_method_3_code
def yX0_pick : MethodName := ⟨RX0, "pick", "()I"⟩
abbrev cX0_canDraw : ByteArray := prog_2_method_4_code
def yX0_canDraw : MethodName := ⟨RX0, "canDraw", "(II)Z"⟩
abbrev cX0_takeWay : ByteArray := prog_2_method_5_code
def yX0_takeWay : MethodName := ⟨RX0, "takeWay", "(I)V"⟩
abbrev cX0_serveFrom : ByteArray := prog_2_method_6_code
def yX0_serveFrom : MethodName := ⟨RX0, "serveFrom", "(LGrainBins$Drawing;I)V"⟩
abbrev cX0_pickFrom : ByteArray := prog_2_method_7_code
def yX0_pickFrom : MethodName := ⟨RX0, "pickFrom", "(LGrainBins$Drawing;II)V"⟩
def RX1 : String := "GrainBins$Laying"
def TX1 : u_T := fun k => match k with
  | 0 => ("GrainBins$Laying", "thought", "LGrainBins$Store;", true)
  | 1 => ("GrainBins$Laying", "loads", "LGrainBins$Orders;", true)
  | 2 => ("GrainBins$Laying", "way", "[I", true)
  | 3 => ("GrainBins$Laying", "bestWay", "[I", true)
  | 4 => ("GrainBins$Laying", "skip", "I", false)
  | 5 => ("GrainBins$Laying", "least", "I", false)
  | _ => ("GrainBins$Laying", "bits", "I", false)
def tyX1 : Nat → FieldType := fun k => match k with
  | 0 => .object "GrainBins$Store"
  | 1 => .object "GrainBins$Orders"
  | 2 => .array .int
  | 3 => .array .int
  | 4 => .int
  | 5 => .int
  | _ => .int
theorem nmX1 : ∀ a, a < 7 → ∀ b, b < 7 → a ≠ b → (TX1 a).2.1 ≠ (TX1 b).2.1 := by decide +kernel
theorem tyX1_ok : ∀ k, k < 7 → parseFieldDescriptor (TX1 k).2.2.1 = some (tyX1 k) := by decide +kernel
abbrev cX1_init : ByteArray := prog_3_method_1_code
def yX1_init : MethodName := ⟨RX1, "<init>", "(LGrainBins$Rules;LGrainBins$Orders;)V"⟩
def RX2 : String := "GrainBins$Orders"
def TX2 : u_T := fun k => match k with
  | 0 => ("GrainBins$Orders", "grade", "[I", true)
  | 1 => ("GrainBins$Orders", "tons", "[I", true)
  | 2 => ("GrainBins$Orders", "since", "[I", true)
  | _ => ("GrainBins$Orders", "count", "I", false)
def tyX2 : Nat → FieldType := fun k => match k with
  | 0 => .array .int
  | 1 => .array .int
  | 2 => .array .int
  | _ => .int
abbrev wsX20 : List Cond := u_ws RX2 TX2 4
theorem nmX2 : ∀ a, a < 4 → ∀ b, b < 4 → a ≠ b → (TX2 a).2.1 ≠ (TX2 b).2.1 := by decide +kernel
theorem tyX2_ok : ∀ k, k < 4 → parseFieldDescriptor (TX2 k).2.2.1 = some (tyX2 k) := by decide +kernel
abbrev cX2_init : ByteArray := prog_4_method_1_code
def yX2_init : MethodName := ⟨RX2, "<init>", "()V"⟩
abbrev cX2_read : ByteArray := prog_4_method_2_code
def yX2_read : MethodName := ⟨RX2, "read", "(LGrainBins$Text;)I"⟩
abbrev cX2_readOne : ByteArray := prog_4_method_3_code
def yX2_readOne : MethodName := ⟨RX2, "readOne", "(LGrainBins$Text;I)Z"⟩
def RX3 : String := "GrainBins$Past"
def TX3 : u_T := fun k => match k with
  | 0 => ("GrainBins$Past", "ahead", "[LGrainBins$Store;", true)
  | 1 => ("GrainBins$Past", "next", "I", false)
  | _ => ("GrainBins$Past", "count", "I", false)
def tyX3 : Nat → FieldType := fun k => match k with
  | 0 => .array (.object "GrainBins$Store")
  | 1 => .int
  | _ => .int
abbrev wsX30 : List Cond := u_ws RX3 TX3 3
theorem nmX3 : ∀ a, a < 3 → ∀ b, b < 3 → a ≠ b → (TX3 a).2.1 ≠ (TX3 b).2.1 := by decide +kernel
theorem tyX3_ok : ∀ k, k < 3 → parseFieldDescriptor (TX3 k).2.2.1 = some (tyX3 k) := by decide +kernel
abbrev cX3_init : ByteArray := prog_5_method_1_code
def yX3_init : MethodName := ⟨RX3, "<init>", "(LGrainBins$Rules;)V"⟩
abbrev cX3_clear : ByteArray := prog_5_method_2_code
def yX3_clear : MethodName := ⟨RX3, "clear", "()V"⟩
abbrev cX3_add : ByteArray := prog_5_method_3_code
def yX3_add : MethodName := ⟨RX3, "add", "(LGrainBins$Store;)V"⟩
abbrev cX3_takeBack : ByteArray := prog_5_method_4_code
def yX3_takeBack : MethodName := ⟨RX3, "takeBack", "(LGrainBins$Store;)Z"⟩
def RX4 : String := "GrainBins$Row"
def TX4 : u_T := fun k => match k with
  | 0 => ("GrainBins$Row", "at", "[J", true)
  | _ => ("GrainBins$Row", "count", "I", false)
def tyX4 : Nat → FieldType := fun k => match k with
  | 0 => .array .long
  | _ => .int
abbrev wsX40 : List Cond := u_ws RX4 TX4 2
theorem nmX4 : ∀ a, a < 2 → ∀ b, b < 2 → a ≠ b → (TX4 a).2.1 ≠ (TX4 b).2.1 := by decide +kernel
theorem tyX4_ok : ∀ k, k < 2 → parseFieldDescriptor (TX4 k).2.2.1 = some (tyX4 k) := by decide +kernel
abbrev cX4_init : ByteArray := prog_6_method_1_code
def yX4_init : MethodName := ⟨RX4, "<init>", "()V"⟩
abbrev cX4_start : ByteArray := prog_6_method_2_code
def yX4_start : MethodName := ⟨RX4, "start", "()V"⟩
abbrev cX4_add : ByteArray := prog_6_method_3_code
def yX4_add : MethodName := ⟨RX4, "add", "(J)V"⟩
def RX5 : String := "GrainBins$Rules"
def TX5 : u_T := fun k => match k with
  | 0 => ("GrainBins$Rules", "firstWorth", "[I", true)
  | 1 => ("GrainBins$Rules", "keep", "[I", true)
  | 2 => ("GrainBins$Rules", "cap", "[I", true)
  | 3 => ("GrainBins$Rules", "loss", "[I", true)
  | 4 => ("GrainBins$Rules", "apart", "[I", true)
  | 5 => ("GrainBins$Rules", "toldWith", "[I", true)
  | 6 => ("GrainBins$Rules", "toldGrades", "I", false)
  | _ => ("GrainBins$Rules", "toldBins", "I", false)
def tyX5 : Nat → FieldType := fun k => match k with
  | 0 => .array .int
  | 1 => .array .int
  | 2 => .array .int
  | 3 => .array .int
  | 4 => .array .int
  | 5 => .array .int
  | 6 => .int
  | _ => .int
abbrev wsX50 : List Cond := u_ws RX5 TX5 8
theorem nmX5 : ∀ a, a < 8 → ∀ b, b < 8 → a ≠ b → (TX5 a).2.1 ≠ (TX5 b).2.1 := by decide +kernel
theorem tyX5_ok : ∀ k, k < 8 → parseFieldDescriptor (TX5 k).2.2.1 = some (tyX5 k) := by decide +kernel
abbrev cX5_init : ByteArray := prog_7_method_1_code
def yX5_init : MethodName := ⟨RX5, "<init>", "()V"⟩
abbrev cX5_copy : ByteArray := prog_7_method_2_code
def yX5_copy : MethodName := ⟨RX5, "copy", "(LGrainBins$Rules;)V"⟩
abbrev cX5_may : ByteArray := prog_7_method_3_code
def yX5_may : MethodName := ⟨RX5, "may", "(II)Z"⟩
abbrev cX5_lossOf : ByteArray := prog_7_method_4_code
def yX5_lossOf : MethodName := ⟨RX5, "lossOf", "(II)I"⟩
abbrev cX5_read : ByteArray := prog_7_method_5_code
def yX5_read : MethodName := ⟨RX5, "read", "(LGrainBins$Text;)I"⟩
abbrev cX5_clear : ByteArray := prog_7_method_6_code
def yX5_clear : MethodName := ⟨RX5, "clear", "()V"⟩
abbrev cX5_readLine : ByteArray := prog_7_method_7_code
def yX5_readLine : MethodName := ⟨RX5, "readLine", "(LGrainBins$Text;)Z"⟩
abbrev cX5_readGrade : ByteArray := prog_7_method_8_code
def yX5_readGrade : MethodName := ⟨RX5, "readGrade", "(LGrainBins$Text;)Z"⟩
abbrev cX5_readBin : ByteArray := prog_7_method_9_code
def yX5_readBin : MethodName := ⟨RX5, "readBin", "(LGrainBins$Text;)Z"⟩
abbrev cX5_readPair : ByteArray := prog_7_method_10_code
def yX5_readPair : MethodName := ⟨RX5, "readPair", "(LGrainBins$Text;Z)Z"⟩
def RX6 : String := "GrainBins$Script"
def TX6 : u_T := fun k => match k with
  | 0 => ("GrainBins$Script", "signs", "[I", true)
  | _ => ("GrainBins$Script", "length", "I", false)
def tyX6 : Nat → FieldType := fun k => match k with
  | 0 => .array .int
  | _ => .int
abbrev wsX60 : List Cond := u_ws RX6 TX6 2
theorem nmX6 : ∀ a, a < 2 → ∀ b, b < 2 → a ≠ b → (TX6 a).2.1 ≠ (TX6 b).2.1 := by decide +kernel
theorem tyX6_ok : ∀ k, k < 2 → parseFieldDescriptor (TX6 k).2.2.1 = some (tyX6 k) := by decide +kernel
abbrev cX6_init : ByteArray := prog_8_method_1_code
def yX6_init : MethodName := ⟨RX6, "<init>", "()V"⟩
def RX7 : String := "GrainBins$Store"
def TX7 : u_T := fun k => match k with
  | 0 => ("GrainBins$Store", "rules", "LGrainBins$Rules;", true)
  | 1 => ("GrainBins$Store", "worth", "[I", true)
  | 2 => ("GrainBins$Store", "open", "[I", true)
  | 3 => ("GrainBins$Store", "layers", "[I", true)
  | 4 => ("GrainBins$Store", "total", "[I", true)
  | 5 => ("GrainBins$Store", "grade", "[I", true)
  | 6 => ("GrainBins$Store", "tons", "[I", true)
  | 7 => ("GrainBins$Store", "since", "[I", true)
  | 8 => ("GrainBins$Store", "has", "[I", true)
  | 9 => ("GrainBins$Store", "day", "I", false)
  | _ => ("GrainBins$Store", "drawn", "I", false)
def tyX7 : Nat → FieldType := fun k => match k with
  | 0 => .object "GrainBins$Rules"
  | 1 => .array .int
  | 2 => .array .int
  | 3 => .array .int
  | 4 => .array .int
  | 5 => .array .int
  | 6 => .array .int
  | 7 => .array .int
  | 8 => .array .int
  | 9 => .int
  | _ => .int
abbrev wsX70 : List Cond := u_ws RX7 TX7 11
theorem nmX7 : ∀ a, a < 11 → ∀ b, b < 11 → a ≠ b → (TX7 a).2.1 ≠ (TX7 b).2.1 := by decide +kernel
theorem tyX7_ok : ∀ k, k < 11 → parseFieldDescriptor (TX7 k).2.2.1 = some (tyX7 k) := by decide +kernel
abbrev cX7_init : ByteArray := prog_9_method_1_code
def yX7_init : MethodName := ⟨RX7, "<init>", "(LGrainBins$Rules;)V"⟩
abbrev cX7_place : ByteArray := prog_9_method_2_code
def yX7_place : MethodName := ⟨RX7, "place", "(II)I"⟩
abbrev cX7_copy : ByteArray := prog_9_method_3_code
def yX7_copy : MethodName := ⟨RX7, "copy", "(LGrainBins$Store;)V"⟩
abbrev cX7_copyBin : ByteArray := prog_9_method_4_code
def yX7_copyBin : MethodName := ⟨RX7, "copyBin", "(LGrainBins$Store;I)V"⟩
abbrev cX7_clear : ByteArray := prog_9_method_5_code
def yX7_clear : MethodName := ⟨RX7, "clear", "()V"⟩
abbrev cX7_closed : ByteArray := prog_9_method_6_code
def yX7_closed : MethodName := ⟨RX7, "closed", "(I)Z"⟩
abbrev cX7_gradesIn : ByteArray := prog_9_method_7_code
def yX7_gradesIn : MethodName := ⟨RX7, "gradesIn", "(I)I"⟩
abbrev cX7_tonsOf : ByteArray := prog_9_method_8_code
def yX7_tonsOf : MethodName := ⟨RX7, "tonsOf", "(I)I"⟩
abbrev cX7_tonsInAll : ByteArray := prog_9_method_9_code
def yX7_tonsInAll : MethodName := ⟨RX7, "tonsInAll", "()I"⟩
abbrev cX7_layersInAll : ByteArray := prog_9_method_10_code
def yX7_layersInAll : MethodName := ⟨RX7, "layersInAll", "()I"⟩
abbrev cX7_closedBins : ByteArray := prog_9_method_11_code
def yX7_closedBins : MethodName := ⟨RX7, "closedBins", "()I"⟩
abbrev cX7_emptyBins : ByteArray := prog_9_method_12_code
def yX7_emptyBins : MethodName := ⟨RX7, "emptyBins", "()I"⟩
abbrev cX7_why : ByteArray := prog_9_method_13_code
def yX7_why : MethodName := ⟨RX7, "why", "(IIII)I"⟩
abbrev cX7_onTop : ByteArray := prog_9_method_14_code
def yX7_onTop : MethodName := ⟨RX7, "onTop", "(III)Z"⟩
abbrev cX7_lay : ByteArray := prog_9_method_15_code
def yX7_lay : MethodName := ⟨RX7, "lay", "(IIII)V"⟩
abbrev cX7_partBelow : ByteArray := prog_9_method_17_code
def yX7_partBelow : MethodName := ⟨RX7, "partBelow", "(III)I"⟩
abbrev cX7_tonsUnder : ByteArray := prog_9_method_18_code
def yX7_tonsUnder : MethodName := ⟨RX7, "tonsUnder", "(II)I"⟩
abbrev cX7_tonsBelow : ByteArray := prog_9_method_19_code
def yX7_tonsBelow : MethodName := ⟨RX7, "tonsBelow", "(III)I"⟩
abbrev cX7_drawOut : ByteArray := prog_9_method_20_code
def yX7_drawOut : MethodName := ⟨RX7, "drawOut", "(II)I"⟩
abbrev cX7_take : ByteArray := prog_9_method_21_code
def yX7_take : MethodName := ⟨RX7, "take", "(II)V"⟩
abbrev cX7_whyNotMove : ByteArray := prog_9_method_22_code
def yX7_whyNotMove : MethodName := ⟨RX7, "whyNotMove", "(III)I"⟩
abbrev cX7_layersWith : ByteArray := prog_9_method_23_code
def yX7_layersWith : MethodName := ⟨RX7, "layersWith", "(III)I"⟩
abbrev cX7_shift : ByteArray := prog_9_method_24_code
def yX7_shift : MethodName := ⟨RX7, "shift", "(III)V"⟩
abbrev cX7_fumigate : ByteArray := prog_9_method_27_code
def yX7_fumigate : MethodName := ⟨RX7, "fumigate", "(II)V"⟩
abbrev cX7_join : ByteArray := prog_9_method_28_code
def yX7_join : MethodName := ⟨RX7, "join", "(I)V"⟩
abbrev cX7_unit : ByteArray := prog_9_method_29_code
def yX7_unit : MethodName := ⟨RX7, "unit", "(II)I"⟩
abbrev cX7_raw : ByteArray := prog_9_method_30_code
def yX7_raw : MethodName := ⟨RX7, "raw", "(II)I"⟩
abbrev cX7_rawUnspoilt : ByteArray := prog_9_method_31_code
def yX7_rawUnspoilt : MethodName := ⟨RX7, "rawUnspoilt", "(I)I"⟩
abbrev cX7_mixedOf : ByteArray := prog_9_method_32_code
def yX7_mixedOf : MethodName := ⟨RX7, "mixedOf", "(III)I"⟩
abbrev cX7_mixedIn : ByteArray := prog_9_method_33_code
def yX7_mixedIn : MethodName := ⟨RX7, "mixedIn", "(I)I"⟩
abbrev cX7_valueOf : ByteArray := prog_9_method_34_code
def yX7_valueOf : MethodName := ⟨RX7, "valueOf", "(I)I"⟩
abbrev cX7_valueThen : ByteArray := prog_9_method_35_code
def yX7_valueThen : MethodName := ⟨RX7, "valueThen", "(II)I"⟩
abbrev cX7_valueOfAll : ByteArray := prog_9_method_36_code
def yX7_valueOfAll : MethodName := ⟨RX7, "valueOfAll", "(I)I"⟩
abbrev cX7_growth : ByteArray := prog_9_method_39_code
def yX7_growth : MethodName := ⟨RX7, "growth", "(III)I"⟩
abbrev cX7_gain : ByteArray := prog_9_method_40_code
def yX7_gain : MethodName := ⟨RX7, "gain", "(III)I"⟩
abbrev cX7_runEnd : ByteArray := prog_9_method_41_code
def yX7_runEnd : MethodName := ⟨RX7, "runEnd", "(II)I"⟩
abbrev cX7_spoilt : ByteArray := prog_9_method_43_code
def yX7_spoilt : MethodName := ⟨RX7, "spoilt", "(II)Z"⟩
abbrev cX7_spoiltGrades : ByteArray := prog_9_method_44_code
def yX7_spoiltGrades : MethodName := ⟨RX7, "spoiltGrades", "(I)I"⟩
def RX8 : String := "GrainBins$Text"
def TX8 : u_T := fun k => match k with
  | 0 => ("GrainBins$Text", "signs", "[I", true)
  | 1 => ("GrainBins$Text", "length", "I", false)
  | _ => ("GrainBins$Text", "at", "I", false)
def tyX8 : Nat → FieldType := fun k => match k with
  | 0 => .array .int
  | 1 => .int
  | _ => .int
abbrev wsX80 : List Cond := u_ws RX8 TX8 3
theorem nmX8 : ∀ a, a < 3 → ∀ b, b < 3 → a ≠ b → (TX8 a).2.1 ≠ (TX8 b).2.1 := by decide +kernel
theorem tyX8_ok : ∀ k, k < 3 → parseFieldDescriptor (TX8 k).2.2.1 = some (tyX8 k) := by decide +kernel
abbrev cX8_init : ByteArray := prog_10_method_1_code
def yX8_init : MethodName := ⟨RX8, "<init>", "()V"⟩
abbrev cX8_add : ByteArray := prog_10_method_2_code
def yX8_add : MethodName := ⟨RX8, "add", "(I)Z"⟩
abbrev cX8_cut : ByteArray := prog_10_method_3_code
def yX8_cut : MethodName := ⟨RX8, "cut", "(I)Z"⟩
abbrev cX8_clear : ByteArray := prog_10_method_4_code
def yX8_clear : MethodName := ⟨RX8, "clear", "()V"⟩
abbrev cX8_start : ByteArray := prog_10_method_5_code
def yX8_start : MethodName := ⟨RX8, "start", "()V"⟩
abbrev cX8_ended : ByteArray := prog_10_method_6_code
def yX8_ended : MethodName := ⟨RX8, "ended", "()Z"⟩
abbrev cX8_fault : ByteArray := prog_10_method_7_code
def yX8_fault : MethodName := ⟨RX8, "fault", "()I"⟩
abbrev cX8_takes : ByteArray := prog_10_method_8_code
def yX8_takes : MethodName := ⟨RX8, "takes", "(C)Z"⟩
abbrev cX8_newNumber : ByteArray := prog_10_method_9_code
def yX8_newNumber : MethodName := ⟨RX8, "newNumber", "(I)I"⟩
abbrev cX8_number : ByteArray := prog_10_method_10_code
def yX8_number : MethodName := ⟨RX8, "number", "(II)I"⟩
abbrev cX8_digitFits : ByteArray := prog_10_method_11_code
def yX8_digitFits : MethodName := ⟨RX8, "digitFits", "(II)Z"⟩
def RX9 : String := "GrainBins"
def TX9 : u_T := fun k => match k with
  | 0 => ("GrainBins", "text", "LGrainBins$Text;", true)
  | 1 => ("GrainBins", "rules", "LGrainBins$Rules;", true)
  | 2 => ("GrainBins", "told", "LGrainBins$Rules;", true)
  | 3 => ("GrainBins", "now", "LGrainBins$Store;", true)
  | 4 => ("GrainBins", "kept", "LGrainBins$Store;", true)
  | 5 => ("GrainBins", "somethingKept", "Z", false)
  | 6 => ("GrainBins", "past", "LGrainBins$Past;", true)
  | 7 => ("GrainBins", "numbers", "LGrainBins$Row;", true)
  | 8 => ("GrainBins", "orders", "LGrainBins$Orders;", true)
  | 9 => ("GrainBins", "laying", "LGrainBins$Laying;", true)
  | 10 => ("GrainBins", "drawing", "LGrainBins$Drawing;", true)
  | _ => ("GrainBins", "script", "LGrainBins$Script;", true)
def tyX9 : Nat → FieldType := fun k => match k with
  | 0 => .object "GrainBins$Text"
  | 1 => .object "GrainBins$Rules"
  | 2 => .object "GrainBins$Rules"
  | 3 => .object "GrainBins$Store"
  | 4 => .object "GrainBins$Store"
  | 5 => .boolean
  | 6 => .object "GrainBins$Past"
  | 7 => .object "GrainBins$Row"
  | 8 => .object "GrainBins$Orders"
  | 9 => .object "GrainBins$Laying"
  | 10 => .object "GrainBins$Drawing"
  | _ => .object "GrainBins$Script"
abbrev wsX90 : List Cond := u_ws RX9 TX9 12
theorem nmX9 : ∀ a, a < 12 → ∀ b, b < 12 → a ≠ b → (TX9 a).2.1 ≠ (TX9 b).2.1 := by decide +kernel
theorem tyX9_ok : ∀ k, k < 12 → parseFieldDescriptor (TX9 k).2.2.1 = some (tyX9 k) := by decide +kernel
abbrev cX9_init : ByteArray := prog_1_method_1_code
def yX9_init : MethodName := ⟨RX9, "<init>", "()V"⟩
abbrev cX9_sign : ByteArray := prog_1_method_2_code
def yX9_sign : MethodName := ⟨RX9, "sign", "(I)I"⟩
abbrev cX9_end : ByteArray := prog_1_method_3_code
def yX9_end : MethodName := ⟨RX9, "end", "(I)Z"⟩
abbrev cX9_land : ByteArray := prog_1_method_4_code
def yX9_land : MethodName := ⟨RX9, "land", "()I"⟩
abbrev cX9_grade : ByteArray := prog_1_method_5_code
def yX9_grade : MethodName := ⟨RX9, "grade", "(II)I"⟩
abbrev cX9_pair : ByteArray := prog_1_method_6_code
def yX9_pair : MethodName := ⟨RX9, "pair", "(II)I"⟩
abbrev cX9_bin : ByteArray := prog_1_method_7_code
def yX9_bin : MethodName := ⟨RX9, "bin", "(II)I"⟩
abbrev cX9_layer : ByteArray := prog_1_method_8_code
def yX9_layer : MethodName := ⟨RX9, "layer", "(III)I"⟩
abbrev cX9_load : ByteArray := prog_1_method_9_code
def yX9_load : MethodName := ⟨RX9, "load", "(III)I"⟩
abbrev cX9_draw : ByteArray := prog_1_method_10_code
def yX9_draw : MethodName := ⟨RX9, "draw", "(II)I"⟩
abbrev cX9_move : ByteArray := prog_1_method_11_code
def yX9_move : MethodName := ⟨RX9, "move", "(III)I"⟩
abbrev cX9_fumes : ByteArray := prog_1_method_13_code
def yX9_fumes : MethodName := ⟨RX9, "fumes", "(II)I"⟩
abbrev cX9_days : ByteArray := prog_1_method_14_code
def yX9_days : MethodName := ⟨RX9, "days", "(I)I"⟩
abbrev cX9_price : ByteArray := prog_1_method_15_code
def yX9_price : MethodName := ⟨RX9, "price", "(II)I"⟩
abbrev cX9_sells : ByteArray := prog_1_method_16_code
def yX9_sells : MethodName := ⟨RX9, "sells", "()I"⟩
abbrev cX9_value : ByteArray := prog_1_method_17_code
def yX9_value : MethodName := ⟨RX9, "value", "(I)I"⟩
abbrev cX9_all : ByteArray := prog_1_method_18_code
def yX9_all : MethodName := ⟨RX9, "all", "()I"⟩
abbrev cX9_mixed : ByteArray := prog_1_method_19_code
def yX9_mixed : MethodName := ⟨RX9, "mixed", "(I)I"⟩
abbrev cX9_would : ByteArray := prog_1_method_20_code
def yX9_would : MethodName := ⟨RX9, "would", "(III)I"⟩
abbrev cX9_worst : ByteArray := prog_1_method_21_code
def yX9_worst : MethodName := ⟨RX9, "worst", "()I"⟩
abbrev cX9_bottom : ByteArray := prog_1_method_28_code
def yX9_bottom : MethodName := ⟨RX9, "bottom", "(I)I"⟩
abbrev cX9_serves : ByteArray := prog_1_method_30_code
def yX9_serves : MethodName := ⟨RX9, "serves", "()I"⟩
abbrev cX9_picks : ByteArray := prog_1_method_31_code
def yX9_picks : MethodName := ⟨RX9, "picks", "()I"⟩
abbrev cX9_then : ByteArray := prog_1_method_33_code
def yX9_then : MethodName := ⟨RX9, "then", "(I)I"⟩
abbrev cX9_undo : ByteArray := prog_1_method_37_code
def yX9_undo : MethodName := ⟨RX9, "undo", "()I"⟩
abbrev cX9_keeps : ByteArray := prog_1_method_38_code
def yX9_keeps : MethodName := ⟨RX9, "keeps", "()I"⟩
abbrev cX9_back : ByteArray := prog_1_method_39_code
def yX9_back : MethodName := ⟨RX9, "back", "()I"⟩
abbrev cX9_count : ByteArray := prog_1_method_41_code
def yX9_count : MethodName := ⟨RX9, "count", "(I)I"⟩
abbrev cX9_row : ByteArray := prog_1_method_42_code
def yX9_row : MethodName := ⟨RX9, "row", "(I)J"⟩
abbrev cX9_isGrade : ByteArray := prog_1_method_43_code
def yX9_isGrade : MethodName := ⟨RX9, "isGrade", "(I)Z"⟩
abbrev cX9_isBin : ByteArray := prog_1_method_44_code
def yX9_isBin : MethodName := ⟨RX9, "isBin", "(I)Z"⟩
abbrev cX9_isTons : ByteArray := prog_1_method_45_code
def yX9_isTons : MethodName := ⟨RX9, "isTons", "(I)Z"⟩
abbrev cX9_readOrders : ByteArray := prog_1_method_46_code
def yX9_readOrders : MethodName := ⟨RX9, "readOrders", "()I"⟩
def RJx145de : String := "java/io/Serializable"
def RJ5 : String := "java/lang/AbstractStringBuilder"
abbrev cJ5_init_d00df : ByteArray := prog_14_method_2_code
def yJ5_init_d00df : MethodName := ⟨RJ5, "<init>", "(I)V"⟩
abbrev cJ5_length_8abf5 : ByteArray := prog_14_method_6_code
def yJ5_length_8abf5 : MethodName := ⟨RJ5, "length", "()I"⟩
abbrev cJ5_ensureCapacityInternal_d00df : ByteArray := prog_14_method_9_code
def yJ5_ensureCapacityInternal_d00df : MethodName := ⟨RJ5, "ensureCapacityInternal", "(I)V"⟩
abbrev cJ5_newCapacity_0f7a4 : ByteArray := prog_14_method_10_code
def yJ5_newCapacity_0f7a4 : MethodName := ⟨RJ5, "newCapacity", "(I)I"⟩
abbrev cJ5_inflate_da8c8 : ByteArray := prog_14_method_11_code
def yJ5_inflate_da8c8 : MethodName := ⟨RJ5, "inflate", "()V"⟩
abbrev cJ5_append_cf1ce : ByteArray := prog_14_method_22_code
def yJ5_append_cf1ce : MethodName := ⟨RJ5, "append", "(Ljava/lang/String;)Ljava/lang/AbstractStringBuilder;"⟩
abbrev cJ5_appendNull_278bc : ByteArray := prog_14_method_26_code
def yJ5_appendNull_278bc : MethodName := ⟨RJ5, "appendNull", "()Ljava/lang/AbstractStringBuilder;"⟩
abbrev cJ5_append_3fe6f : ByteArray := prog_14_method_31_code
def yJ5_append_3fe6f : MethodName := ⟨RJ5, "append", "(C)Ljava/lang/AbstractStringBuilder;"⟩
abbrev cJ5_append_c97b9 : ByteArray := prog_14_method_32_code
def yJ5_append_c97b9 : MethodName := ⟨RJ5, "append", "(I)Ljava/lang/AbstractStringBuilder;"⟩
abbrev cJ5_getValue_6d5f1 : ByteArray := prog_14_method_64_code
def yJ5_getValue_6d5f1 : MethodName := ⟨RJ5, "getValue", "()[B"⟩
abbrev cJ5_isLatin1_aae02 : ByteArray := prog_14_method_68_code
def yJ5_isLatin1_aae02 : MethodName := ⟨RJ5, "isLatin1", "()Z"⟩
abbrev cJ5_inflateIfNeededFor_a7421 : ByteArray := prog_14_method_71_code
def yJ5_inflateIfNeededFor_a7421 : MethodName := ⟨RJ5, "inflateIfNeededFor", "(Ljava/lang/String;)V"⟩
abbrev cJ5_putStringAt_47b60 : ByteArray := prog_14_method_73_code
def yJ5_putStringAt_47b60 : MethodName := ⟨RJ5, "putStringAt", "(ILjava/lang/String;)V"⟩
def RJx2cfe8 : String := "java/lang/Appendable"
def RJx9f9b0 : String := "java/lang/CharSequence"
def RJx8e188 : String := "java/lang/Cloneable"
def RJxb160c : String := "java/lang/Comparable"
def RJ6 : String := "java/lang/Integer"
abbrev cJ6_getChars_ba4f3 : ByteArray := prog_20_method_12_code
def yJ6_getChars_ba4f3 : MethodName := ⟨RJ6, "getChars", "(II[B)I"⟩
abbrev cJ6_stringSize_0f7a4 : ByteArray := prog_20_method_13_code
def yJ6_stringSize_0f7a4 : MethodName := ⟨RJ6, "stringSize", "(I)I"⟩
def RJ9 : String := "java/lang/Math"
abbrev cJ9_max_7cf53 : ByteArray := prog_21_method_65_code
def yJ9_max_7cf53 : MethodName := ⟨RJ9, "max", "(II)I"⟩
abbrev cJ9_min_7cf53 : ByteArray := prog_21_method_69_code
def yJ9_min_7cf53 : MethodName := ⟨RJ9, "min", "(II)I"⟩
def RJxd2413 : String := "java/lang/Number"
def RJ0 : String := "java/lang/String"
def TJ0 : u_T := fun k => match k with
  | 0 => ("java/lang/String", "value", "[B", true)
  | 1 => ("java/lang/String", "coder", "B", true)
  | 2 => ("java/lang/String", "hash", "I", false)
  | _ => ("java/lang/String", "hashIsZero", "Z", false)
def tyJ0 : Nat → FieldType := fun k => match k with
  | 0 => .array .byte
  | 1 => .byte
  | 2 => .int
  | _ => .boolean
abbrev wsJ00 : List Cond := u_ws RJ0 TJ0 4
theorem nmJ0 : ∀ a, a < 4 → ∀ b, b < 4 → a ≠ b → (TJ0 a).2.1 ≠ (TJ0 b).2.1 := by decide +kernel
theorem tyJ0_ok : ∀ k, k < 4 → parseFieldDescriptor (TJ0 k).2.2.1 = some (tyJ0 k) := by decide +kernel
abbrev cJ0_init_81219 : ByteArray := prog_24_method_53_code
def yJ0_init_81219 : MethodName := ⟨RJ0, "<init>", "(Ljava/lang/StringBuilder;)V"⟩
abbrev cJ0_length_8abf5 : ByteArray := prog_24_method_54_code
def yJ0_length_8abf5 : MethodName := ⟨RJ0, "length", "()I"⟩
abbrev cJ0_charAt_5068e : ByteArray := prog_24_method_56_code
def yJ0_charAt_5068e : MethodName := ⟨RJ0, "charAt", "(I)C"⟩
abbrev cJ0_getBytes_840e7 : ByteArray := prog_24_method_147_code
def yJ0_getBytes_840e7 : MethodName := ⟨RJ0, "getBytes", "([BIB)V"⟩
abbrev cJ0_init_db425 : ByteArray := prog_24_method_150_code
def yJ0_init_db425 : MethodName := ⟨RJ0, "<init>", "(Ljava/lang/AbstractStringBuilder;Ljava/lang/Void;)V"⟩
abbrev cJ0_coder_7d493 : ByteArray := prog_24_method_152_code
def yJ0_coder_7d493 : MethodName := ⟨RJ0, "coder", "()B"⟩
abbrev cJ0_isLatin1_aae02 : ByteArray := prog_24_method_154_code
def yJ0_isLatin1_aae02 : MethodName := ⟨RJ0, "isLatin1", "()Z"⟩
abbrev cJ0_checkIndex_df160 : ByteArray := prog_24_method_155_code
def yJ0_checkIndex_df160 : MethodName := ⟨RJ0, "checkIndex", "(II)V"⟩
abbrev cJ0_checkBoundsOffCount_cabcc : ByteArray := prog_24_method_157_code
def yJ0_checkBoundsOffCount_cabcc : MethodName := ⟨RJ0, "checkBoundsOffCount", "(III)I"⟩
abbrev cJ0_checkBoundsBeginEnd_23922 : ByteArray := prog_24_method_158_code
def yJ0_checkBoundsBeginEnd_23922 : MethodName := ⟨RJ0, "checkBoundsBeginEnd", "(III)V"⟩
def RJ4 : String := "java/lang/StringBuilder"
def TJ4 : u_T := fun k => match k with
  | 0 => ("java/lang/AbstractStringBuilder", "value", "[B", false)
  | 1 => ("java/lang/AbstractStringBuilder", "coder", "B", false)
  | 2 => ("java/lang/AbstractStringBuilder", "maybeLatin1", "Z", false)
  | _ => ("java/lang/AbstractStringBuilder", "count", "I", false)
def tyJ4 : Nat → FieldType := fun k => match k with
  | 0 => .array .byte
  | 1 => .byte
  | 2 => .boolean
  | _ => .int
abbrev wsJ40 : List Cond := u_ws RJ4 TJ4 4
theorem nmJ4 : ∀ a, a < 4 → ∀ b, b < 4 → a ≠ b → (TJ4 a).2.1 ≠ (TJ4 b).2.1 := by decide +kernel
theorem tyJ4_ok : ∀ k, k < 4 → parseFieldDescriptor (TJ4 k).2.2.1 = some (tyJ4 k) := by decide +kernel
abbrev cJ4_init_da8c8 : ByteArray := prog_25_method_1_code
def yJ4_init_da8c8 : MethodName := ⟨RJ4, "<init>", "()V"⟩
abbrev cJ4_append_15ec4 : ByteArray := prog_25_method_7_code
def yJ4_append_15ec4 : MethodName := ⟨RJ4, "append", "(Ljava/lang/String;)Ljava/lang/StringBuilder;"⟩
abbrev cJ4_append_cf468 : ByteArray := prog_25_method_14_code
def yJ4_append_cf468 : MethodName := ⟨RJ4, "append", "(C)Ljava/lang/StringBuilder;"⟩
abbrev cJ4_append_bf812 : ByteArray := prog_25_method_15_code
def yJ4_append_bf812 : MethodName := ⟨RJ4, "append", "(I)Ljava/lang/StringBuilder;"⟩
abbrev cJ4_toString_0e30d : ByteArray := prog_25_method_42_code
def yJ4_toString_0e30d : MethodName := ⟨RJ4, "toString", "()Ljava/lang/String;"⟩
abbrev cJ4_length_8abf5 : ByteArray := prog_25_method_93_code
def yJ4_length_8abf5 : MethodName := ⟨RJ4, "length", "()I"⟩
def RJ1 : String := "java/lang/StringLatin1"
abbrev cJ1_charAt_3b067 : ByteArray := prog_26_method_2_code
def yJ1_charAt_3b067 : MethodName := ⟨RJ1, "charAt", "([BI)C"⟩
abbrev cJ1_canEncode_fc78d : ByteArray := prog_26_method_3_code
def yJ1_canEncode_fc78d : MethodName := ⟨RJ1, "canEncode", "(C)Z"⟩
abbrev cJ1_inflate_0e8fd : ByteArray := prog_26_method_50_code
def yJ1_inflate_0e8fd : MethodName := ⟨RJ1, "inflate", "([BI[BII)V"⟩
def RJ2 : String := "java/lang/StringUTF16"
abbrev cJ2_newBytesFor_77867 : ByteArray := prog_27_method_2_code
def yJ2_newBytesFor_77867 : MethodName := ⟨RJ2, "newBytesFor", "(I)[B"⟩
abbrev cJ2_newBytesLength_0f7a4 : ByteArray := prog_27_method_3_code
def yJ2_newBytesLength_0f7a4 : MethodName := ⟨RJ2, "newBytesLength", "(I)I"⟩
abbrev cJ2_putChar_b72d1 : ByteArray := prog_27_method_4_code
def yJ2_putChar_b72d1 : MethodName := ⟨RJ2, "putChar", "([BII)V"⟩
abbrev cJ2_getChar_3b067 : ByteArray := prog_27_method_5_code
def yJ2_getChar_3b067 : MethodName := ⟨RJ2, "getChar", "([BI)C"⟩
abbrev cJ2_length_9d52b : ByteArray := prog_27_method_6_code
def yJ2_length_9d52b : MethodName := ⟨RJ2, "length", "([B)I"⟩
abbrev cJ2_coderFromArrayLen_85cad : ByteArray := prog_27_method_15_code
def yJ2_coderFromArrayLen_85cad : MethodName := ⟨RJ2, "coderFromArrayLen", "([BI)B"⟩
abbrev cJ2_compress_39247 : ByteArray := prog_27_method_17_code
def yJ2_compress_39247 : MethodName := ⟨RJ2, "compress", "([BII)[B"⟩
abbrev cJ2_compress_5af95 : ByteArray := prog_27_method_22_code
def yJ2_compress_5af95 : MethodName := ⟨RJ2, "compress", "([BI[BII)I"⟩
abbrev cJ2_putCharSB_b72d1 : ByteArray := prog_27_method_71_code
def yJ2_putCharSB_b72d1 : MethodName := ⟨RJ2, "putCharSB", "([BII)V"⟩
abbrev cJ2_getChars_46870 : ByteArray := prog_27_method_77_code
def yJ2_getChars_46870 : MethodName := ⟨RJ2, "getChars", "(III[B)I"⟩
abbrev cJ2_putCharsAt_cd4e5 : ByteArray := prog_27_method_81_code
def yJ2_putCharsAt_cd4e5 : MethodName := ⟨RJ2, "putCharsAt", "([BICCCC)I"⟩
abbrev cJ2_charAt_3b067 : ByteArray := prog_27_method_83_code
def yJ2_charAt_3b067 : MethodName := ⟨RJ2, "charAt", "([BI)C"⟩
abbrev cJ2_inflate_0e8fd : ByteArray := prog_27_method_86_code
def yJ2_inflate_0e8fd : MethodName := ⟨RJ2, "inflate", "([BI[BII)V"⟩
abbrev cJ2_getChars_ba4f3 : ByteArray := prog_27_method_89_code
def yJ2_getChars_ba4f3 : MethodName := ⟨RJ2, "getChars", "(II[B)I"⟩
abbrev cJ2_checkIndex_2214a : ByteArray := prog_27_method_91_code
def yJ2_checkIndex_2214a : MethodName := ⟨RJ2, "checkIndex", "(I[B)V"⟩
abbrev cJ2_checkBoundsBeginEnd_d044e : ByteArray := prog_27_method_93_code
def yJ2_checkBoundsBeginEnd_d044e : MethodName := ⟨RJ2, "checkBoundsBeginEnd", "(II[B)V"⟩
abbrev cJ2_checkBoundsOffCount_d044e : ByteArray := prog_27_method_94_code
def yJ2_checkBoundsOffCount_d044e : MethodName := ⟨RJ2, "checkBoundsOffCount", "(II[B)V"⟩
def RJ10 : String := "java/lang/System"
def RJxfd54e : String := "java/lang/constant/Constable"
def RJx3cf43 : String := "java/lang/constant/ConstantDesc"
def RJ7 : String := "java/util/Arrays"
abbrev cJ7_copyOf_9075b : ByteArray := prog_32_method_121_code
def yJ7_copyOf_9075b : MethodName := ⟨RJ7, "copyOf", "([BI)[B"⟩
abbrev cJ7_checkLength_df160 : ByteArray := prog_32_method_131_code
def yJ7_checkLength_df160 : MethodName := ⟨RJ7, "checkLength", "(II)V"⟩
abbrev cJ7_copyOfRange_39247 : ByteArray := prog_32_method_132_code
def yJ7_copyOfRange_39247 : MethodName := ⟨RJ7, "copyOfRange", "([BII)[B"⟩
abbrev cJ7_copyOfRangeByte_39247 : ByteArray := prog_32_method_133_code
def yJ7_copyOfRangeByte_39247 : MethodName := ⟨RJ7, "copyOfRangeByte", "([BII)[B"⟩
def RJ8 : String := "jdk/internal/util/ArraysSupport"
abbrev cJ8_newLength_cabcc : ByteArray := prog_34_method_27_code
def yJ8_newLength_cabcc : MethodName := ⟨RJ8, "newLength", "(III)I"⟩
abbrev cJ8_hugeLength_7cf53 : ByteArray := prog_34_method_28_code
def yJ8_hugeLength_7cf53 : MethodName := ⟨RJ8, "hugeLength", "(II)I"⟩
def RJ3 : String := "jdk/internal/util/Preconditions"
abbrev cJ3_checkIndex_8e157 : ByteArray := prog_35_method_11_code
def yJ3_checkIndex_8e157 : MethodName := ⟨RJ3, "checkIndex", "(IILjava/util/function/BiFunction;)I"⟩
abbrev cJ3_checkFromToIndex_8c36e : ByteArray := prog_35_method_12_code
def yJ3_checkFromToIndex_8c36e : MethodName := ⟨RJ3, "checkFromToIndex", "(IIILjava/util/function/BiFunction;)I"⟩
abbrev cJ3_checkFromIndexSize_8c36e : ByteArray := prog_35_method_13_code
def yJ3_checkFromIndexSize_8c36e : MethodName := ⟨RJ3, "checkFromIndexSize", "(IIILjava/util/function/BiFunction;)I"⟩
def RL : String := "GrainBinsLaw"
abbrev cL_cell : ByteArray := method_2_code
def yL_cell : MethodName := ⟨RL, "cell", "([II)I"⟩
abbrev cL_say : ByteArray := method_3_code
def yL_say : MethodName := ⟨RL, "say", "(LGrainBins;Ljava/lang/String;)V"⟩
abbrev cL_holds : ByteArray := method_4_code
def yL_holds : MethodName := ⟨RL, "holds", "(LGrainBins;)Z"⟩
abbrev cL_law : ByteArray := code
def yL_law : MethodName := ⟨RL, "law", "([I)Z"⟩
abbrev vwCl : List vw_C := [(RX0, TX0, 6), (RX1, TX1, 7), (RX2, TX2, 4), (RX3, TX3, 3), (RX4, TX4, 2), (RX5, TX5, 8), (RX6, TX6, 2), (RX7, TX7, 11), (RX8, TX8, 3), (RX9, TX9, 12), (RJ0, TJ0, 4), (RJ4, TJ4, 4)]
