section
-- ===== PART A: goes FIRST, ahead of the names: the tables' words, and 'selects' of the private methods out of them =====
/-- a private method of a class that the tables say can be made, by its rows of tables_1 -/
def lw_okq (q : MethodName × Nat) : Prop := (q.1.cls ≠ "java/lang/invoke/MethodHandle" ∧ q.1.cls ≠ "java/lang/invoke/VarHandle") ∧ Cond.instantiable q.1.cls q.2 ∈ tables_1 ∧ Cond.privateMethod q.1 ∈ tables_1 ∧ Cond.instanceMethod q.1 ∈ tables_1
theorem lw_p0 : lw_okq (⟨"TimedWays$Board", "isBehind", "(III)Z"⟩, 3) := ⟨⟨by decide +kernel, by decide +kernel⟩, List.mem_of_getElem? (i := 77) (by decide +kernel), List.mem_of_getElem? (i := 316) (by decide +kernel), List.mem_of_getElem? (i := 317) (by decide +kernel)⟩
theorem lw_p1 : lw_okq (⟨"TimedWays$Walks", "shorten", "(III)V"⟩, 5) := ⟨⟨by decide +kernel, by decide +kernel⟩, List.mem_of_getElem? (i := 99) (by decide +kernel), List.mem_of_getElem? (i := 328) (by decide +kernel), List.mem_of_getElem? (i := 329) (by decide +kernel)⟩
theorem lw_p2 : lw_okq (⟨"TimedWays$Arrivals", "arrive", "(LTimedWays$Network;II)V"⟩, 2) := ⟨⟨by decide +kernel, by decide +kernel⟩, List.mem_of_getElem? (i := 163) (by decide +kernel), List.mem_of_getElem? (i := 388) (by decide +kernel), List.mem_of_getElem? (i := 389) (by decide +kernel)⟩
theorem lw_p3 : lw_okq (⟨"TimedWays$Span", "endOf", "(LTimedWays$Network;II)I"⟩, 2) := ⟨⟨by decide +kernel, by decide +kernel⟩, List.mem_of_getElem? (i := 176) (by decide +kernel), List.mem_of_getElem? (i := 413) (by decide +kernel), List.mem_of_getElem? (i := 414) (by decide +kernel)⟩
theorem lw_p4 : lw_okq (⟨"TimedWays$Span", "spread", "(III)V"⟩, 2) := ⟨⟨by decide +kernel, by decide +kernel⟩, List.mem_of_getElem? (i := 176) (by decide +kernel), List.mem_of_getElem? (i := 460) (by decide +kernel), List.mem_of_getElem? (i := 461) (by decide +kernel)⟩
theorem lw_p5 : lw_okq (⟨"TimedWays$Acts", "addWalk", "(LTimedWays$Network;LTimedWays$Arrivals;I)I"⟩, 5) := ⟨⟨by decide +kernel, by decide +kernel⟩, List.mem_of_getElem? (i := 209) (by decide +kernel), List.mem_of_getElem? (i := 497) (by decide +kernel), List.mem_of_getElem? (i := 498) (by decide +kernel)⟩
theorem lw_p6 : lw_okq (⟨"TimedWays$Acts", "put", "(IIII)V"⟩, 5) := ⟨⟨by decide +kernel, by decide +kernel⟩, List.mem_of_getElem? (i := 209) (by decide +kernel), List.mem_of_getElem? (i := 506) (by decide +kernel), List.mem_of_getElem? (i := 507) (by decide +kernel)⟩
theorem lw_p7 : lw_okq (⟨"TimedWays$Acts", "addDeparture", "(LTimedWays$Network;LTimedWays$Arrivals;I)I"⟩, 5) := ⟨⟨by decide +kernel, by decide +kernel⟩, List.mem_of_getElem? (i := 209) (by decide +kernel), List.mem_of_getElem? (i := 510) (by decide +kernel), List.mem_of_getElem? (i := 511) (by decide +kernel)⟩
theorem lw_p8 : lw_okq (⟨"TimedWays$Arrivals", "endsByRide", "(LTimedWays$Network;II)Z"⟩, 2) := ⟨⟨by decide +kernel, by decide +kernel⟩, List.mem_of_getElem? (i := 163) (by decide +kernel), List.mem_of_getElem? (i := 518) (by decide +kernel), List.mem_of_getElem? (i := 519) (by decide +kernel)⟩
theorem lw_p9 : lw_okq (⟨"TimedWaysModel", "isStop", "(I)Z"⟩, 22) := ⟨⟨by decide +kernel, by decide +kernel⟩, List.mem_of_getElem? (i := 555) (by decide +kernel), List.mem_of_getElem? (i := 643) (by decide +kernel), List.mem_of_getElem? (i := 644) (by decide +kernel)⟩
theorem lw_p10 : lw_okq (⟨"TimedWaysModel", "areTwo", "(II)Z"⟩, 22) := ⟨⟨by decide +kernel, by decide +kernel⟩, List.mem_of_getElem? (i := 555) (by decide +kernel), List.mem_of_getElem? (i := 651) (by decide +kernel), List.mem_of_getElem? (i := 652) (by decide +kernel)⟩
theorem lw_p11 : lw_okq (⟨"TimedWaysModel", "isRide", "(I)Z"⟩, 22) := ⟨⟨by decide +kernel, by decide +kernel⟩, List.mem_of_getElem? (i := 555) (by decide +kernel), List.mem_of_getElem? (i := 663) (by decide +kernel), List.mem_of_getElem? (i := 664) (by decide +kernel)⟩
theorem lw_p12 : lw_okq (⟨"TimedWaysModel", "isOn", "(II)Z"⟩, 22) := ⟨⟨by decide +kernel, by decide +kernel⟩, List.mem_of_getElem? (i := 555) (by decide +kernel), List.mem_of_getElem? (i := 667) (by decide +kernel), List.mem_of_getElem? (i := 668) (by decide +kernel)⟩
theorem lw_p13 : lw_okq (⟨"TimedWaysModel", "isAsked", "(III)Z"⟩, 22) := ⟨⟨by decide +kernel, by decide +kernel⟩, List.mem_of_getElem? (i := 555) (by decide +kernel), List.mem_of_getElem? (i := 675) (by decide +kernel), List.mem_of_getElem? (i := 676) (by decide +kernel)⟩
theorem lw_p14 : lw_okq (⟨"TimedWaysModel", "found", "(III)I"⟩, 22) := ⟨⟨by decide +kernel, by decide +kernel⟩, List.mem_of_getElem? (i := 555) (by decide +kernel), List.mem_of_getElem? (i := 679) (by decide +kernel), List.mem_of_getElem? (i := 680) (by decide +kernel)⟩
theorem lw_p15 : lw_okq (⟨"TimedWaysModel", "find", "(II)V"⟩, 22) := ⟨⟨by decide +kernel, by decide +kernel⟩, List.mem_of_getElem? (i := 555) (by decide +kernel), List.mem_of_getElem? (i := 683) (by decide +kernel), List.mem_of_getElem? (i := 684) (by decide +kernel)⟩
def lw_privs_1 : List (MethodName × Nat) := [(⟨"TimedWays$Board", "isBehind", "(III)Z"⟩, 3), (⟨"TimedWays$Walks", "shorten", "(III)V"⟩, 5), (⟨"TimedWays$Arrivals", "arrive", "(LTimedWays$Network;II)V"⟩, 2), (⟨"TimedWays$Span", "endOf", "(LTimedWays$Network;II)I"⟩, 2), (⟨"TimedWays$Span", "spread", "(III)V"⟩, 2), (⟨"TimedWays$Acts", "addWalk", "(LTimedWays$Network;LTimedWays$Arrivals;I)I"⟩, 5), (⟨"TimedWays$Acts", "put", "(IIII)V"⟩, 5), (⟨"TimedWays$Acts", "addDeparture", "(LTimedWays$Network;LTimedWays$Arrivals;I)I"⟩, 5), (⟨"TimedWays$Arrivals", "endsByRide", "(LTimedWays$Network;II)Z"⟩, 2), (⟨"TimedWaysModel", "isStop", "(I)Z"⟩, 22), (⟨"TimedWaysModel", "areTwo", "(II)Z"⟩, 22), (⟨"TimedWaysModel", "isRide", "(I)Z"⟩, 22), (⟨"TimedWaysModel", "isOn", "(II)Z"⟩, 22), (⟨"TimedWaysModel", "isAsked", "(III)Z"⟩, 22), (⟨"TimedWaysModel", "found", "(III)I"⟩, 22), (⟨"TimedWaysModel", "find", "(II)V"⟩, 22)]
theorem lw_r1 : ∀ q ∈ lw_privs_1, lw_okq q := List.forall_mem_cons.mpr ⟨lw_p0, List.forall_mem_cons.mpr ⟨lw_p1, List.forall_mem_cons.mpr ⟨lw_p2, List.forall_mem_cons.mpr ⟨lw_p3, List.forall_mem_cons.mpr ⟨lw_p4, List.forall_mem_cons.mpr ⟨lw_p5, List.forall_mem_cons.mpr ⟨lw_p6, List.forall_mem_cons.mpr ⟨lw_p7, List.forall_mem_cons.mpr ⟨lw_p8, List.forall_mem_cons.mpr ⟨lw_p9, List.forall_mem_cons.mpr ⟨lw_p10, List.forall_mem_cons.mpr ⟨lw_p11, List.forall_mem_cons.mpr ⟨lw_p12, List.forall_mem_cons.mpr ⟨lw_p13, List.forall_mem_cons.mpr ⟨lw_p14, List.forall_mem_cons.mpr ⟨lw_p15, fun _ h => absurd h List.not_mem_nil⟩⟩⟩⟩⟩⟩⟩⟩⟩⟩⟩⟩⟩⟩⟩⟩
theorem lw_p16 : lw_okq (⟨"TimedWaysModel", "begin", "(II)V"⟩, 22) := ⟨⟨by decide +kernel, by decide +kernel⟩, List.mem_of_getElem? (i := 555) (by decide +kernel), List.mem_of_getElem? (i := 687) (by decide +kernel), List.mem_of_getElem? (i := 688) (by decide +kernel)⟩
theorem lw_p17 : lw_okq (⟨"TimedWaysModel", "goWalks", "()V"⟩, 22) := ⟨⟨by decide +kernel, by decide +kernel⟩, List.mem_of_getElem? (i := 555) (by decide +kernel), List.mem_of_getElem? (i := 692) (by decide +kernel), List.mem_of_getElem? (i := 693) (by decide +kernel)⟩
theorem lw_p18 : lw_okq (⟨"TimedWaysModel", "arrival", "(I)I"⟩, 22) := ⟨⟨by decide +kernel, by decide +kernel⟩, List.mem_of_getElem? (i := 555) (by decide +kernel), List.mem_of_getElem? (i := 696) (by decide +kernel), List.mem_of_getElem? (i := 697) (by decide +kernel)⟩
theorem lw_p19 : lw_okq (⟨"TimedWaysModel", "goRides", "()V"⟩, 22) := ⟨⟨by decide +kernel, by decide +kernel⟩, List.mem_of_getElem? (i := 555) (by decide +kernel), List.mem_of_getElem? (i := 700) (by decide +kernel), List.mem_of_getElem? (i := 701) (by decide +kernel)⟩
theorem lw_p20 : lw_okq (⟨"TimedWaysModel", "mayTake", "(II)Z"⟩, 22) := ⟨⟨by decide +kernel, by decide +kernel⟩, List.mem_of_getElem? (i := 555) (by decide +kernel), List.mem_of_getElem? (i := 704) (by decide +kernel), List.mem_of_getElem? (i := 705) (by decide +kernel)⟩
theorem lw_p21 : lw_okq (⟨"TimedWaysModel", "goes", "(II)Z"⟩, 22) := ⟨⟨by decide +kernel, by decide +kernel⟩, List.mem_of_getElem? (i := 555) (by decide +kernel), List.mem_of_getElem? (i := 708) (by decide +kernel), List.mem_of_getElem? (i := 709) (by decide +kernel)⟩
theorem lw_p22 : lw_okq (⟨"TimedWaysModel", "leaves", "(II)I"⟩, 22) := ⟨⟨by decide +kernel, by decide +kernel⟩, List.mem_of_getElem? (i := 555) (by decide +kernel), List.mem_of_getElem? (i := 712) (by decide +kernel), List.mem_of_getElem? (i := 713) (by decide +kernel)⟩
theorem lw_p23 : lw_okq (⟨"TimedWaysModel", "arrives", "(II)I"⟩, 22) := ⟨⟨by decide +kernel, by decide +kernel⟩, List.mem_of_getElem? (i := 555) (by decide +kernel), List.mem_of_getElem? (i := 716) (by decide +kernel), List.mem_of_getElem? (i := 717) (by decide +kernel)⟩
theorem lw_p24 : lw_okq (⟨"TimedWaysModel", "isBy", "(IIII)Z"⟩, 22) := ⟨⟨by decide +kernel, by decide +kernel⟩, List.mem_of_getElem? (i := 555) (by decide +kernel), List.mem_of_getElem? (i := 724) (by decide +kernel), List.mem_of_getElem? (i := 725) (by decide +kernel)⟩
theorem lw_p25 : lw_okq (⟨"TimedWaysModel", "isSpan", "(IIII)Z"⟩, 22) := ⟨⟨by decide +kernel, by decide +kernel⟩, List.mem_of_getElem? (i := 555) (by decide +kernel), List.mem_of_getElem? (i := 736) (by decide +kernel), List.mem_of_getElem? (i := 737) (by decide +kernel)⟩
theorem lw_p26 : lw_okq (⟨"TimedWaysModel", "walkBefore", "(I)I"⟩, 22) := ⟨⟨by decide +kernel, by decide +kernel⟩, List.mem_of_getElem? (i := 555) (by decide +kernel), List.mem_of_getElem? (i := 756) (by decide +kernel), List.mem_of_getElem? (i := 757) (by decide +kernel)⟩
theorem lw_p27 : lw_okq (⟨"TimedWaysModel", "put", "(IIIII)V"⟩, 22) := ⟨⟨by decide +kernel, by decide +kernel⟩, List.mem_of_getElem? (i := 555) (by decide +kernel), List.mem_of_getElem? (i := 760) (by decide +kernel), List.mem_of_getElem? (i := 761) (by decide +kernel)⟩
theorem lw_p28 : lw_okq (⟨"TimedWaysModel", "departureBefore", "(I)I"⟩, 22) := ⟨⟨by decide +kernel, by decide +kernel⟩, List.mem_of_getElem? (i := 555) (by decide +kernel), List.mem_of_getElem? (i := 764) (by decide +kernel), List.mem_of_getElem? (i := 765) (by decide +kernel)⟩
def lw_privs_2 : List (MethodName × Nat) := [(⟨"TimedWaysModel", "begin", "(II)V"⟩, 22), (⟨"TimedWaysModel", "goWalks", "()V"⟩, 22), (⟨"TimedWaysModel", "arrival", "(I)I"⟩, 22), (⟨"TimedWaysModel", "goRides", "()V"⟩, 22), (⟨"TimedWaysModel", "mayTake", "(II)Z"⟩, 22), (⟨"TimedWaysModel", "goes", "(II)Z"⟩, 22), (⟨"TimedWaysModel", "leaves", "(II)I"⟩, 22), (⟨"TimedWaysModel", "arrives", "(II)I"⟩, 22), (⟨"TimedWaysModel", "isBy", "(IIII)Z"⟩, 22), (⟨"TimedWaysModel", "isSpan", "(IIII)Z"⟩, 22), (⟨"TimedWaysModel", "walkBefore", "(I)I"⟩, 22), (⟨"TimedWaysModel", "put", "(IIIII)V"⟩, 22), (⟨"TimedWaysModel", "departureBefore", "(I)I"⟩, 22)]
theorem lw_r2 : ∀ q ∈ lw_privs_2, lw_okq q := List.forall_mem_cons.mpr ⟨lw_p16, List.forall_mem_cons.mpr ⟨lw_p17, List.forall_mem_cons.mpr ⟨lw_p18, List.forall_mem_cons.mpr ⟨lw_p19, List.forall_mem_cons.mpr ⟨lw_p20, List.forall_mem_cons.mpr ⟨lw_p21, List.forall_mem_cons.mpr ⟨lw_p22, List.forall_mem_cons.mpr ⟨lw_p23, List.forall_mem_cons.mpr ⟨lw_p24, List.forall_mem_cons.mpr ⟨lw_p25, List.forall_mem_cons.mpr ⟨lw_p26, List.forall_mem_cons.mpr ⟨lw_p27, List.forall_mem_cons.mpr ⟨lw_p28, fun _ h => absurd h List.not_mem_nil⟩⟩⟩⟩⟩⟩⟩⟩⟩⟩⟩⟩⟩
def lw_privs : List (MethodName × Nat) := lw_privs_1 ++ (lw_privs_2)
def lw_tbl : List Cond := k2_sels lw_privs ++ tables_1
theorem lw_privs_ok : ∀ q ∈ lw_privs, lw_okq q := by
  show ∀ q ∈ lw_privs_1 ++ (lw_privs_2), lw_okq q
  exact List.forall_mem_append.mpr ⟨lw_r1, lw_r2⟩
end
section
def R_T : String := "TimedWays"
def F_T : u_T := fun k => match k with
  | 0 => ("TimedWays", "net", "LTimedWays$Network;", true)
  | 1 => ("TimedWays", "arrivals", "LTimedWays$Arrivals;", true)
  | 2 => ("TimedWays", "before", "LTimedWays$Arrivals;", true)
  | 3 => ("TimedWays", "span", "LTimedWays$Span;", true)
  | 4 => ("TimedWays", "steps", "LTimedWays$Steps;", true)
  | _ => ("TimedWays", "acts", "LTimedWays$Acts;", true)
def ft_T : Nat → FieldType := fun k => match k with
  | 0 => .object "TimedWays$Network"
  | 1 => .object "TimedWays$Arrivals"
  | 2 => .object "TimedWays$Arrivals"
  | 3 => .object "TimedWays$Span"
  | 4 => .object "TimedWays$Steps"
  | _ => .object "TimedWays$Acts"
theorem fn_T : ∀ a, a < 6 → ∀ b, b < 6 → a ≠ b → (F_T a).2.1 ≠ (F_T b).2.1 := by decide +kernel
theorem ft_T_ok : ∀ k, k < 6 → parseFieldDescriptor (F_T k).2.2.1 = some (ft_T k) := by decide +kernel
abbrev b_T_init : ByteArray := prog_1_method_1_code
def y_T_init : MethodName := ⟨R_T, "<init>", "()V"⟩
abbrev b_T_clear : ByteArray := prog_1_method_2_code
def y_T_clear : MethodName := ⟨R_T, "clear", "()I"⟩
abbrev b_T_stop : ByteArray := prog_1_method_3_code
def y_T_stop : MethodName := ⟨R_T, "stop", "(I)I"⟩
abbrev b_T_change : ByteArray := prog_1_method_4_code
def y_T_change : MethodName := ⟨R_T, "change", "(II)I"⟩
abbrev b_T_ride : ByteArray := prog_1_method_5_code
def y_T_ride : MethodName := ⟨R_T, "ride", "(IIIII)I"⟩
abbrev b_T_walk : ByteArray := prog_1_method_6_code
def y_T_walk : MethodName := ⟨R_T, "walk", "(III)I"⟩
abbrev b_T_late : ByteArray := prog_1_method_7_code
def y_T_late : MethodName := ⟨R_T, "late", "(III)I"⟩
abbrev b_T_earliest : ByteArray := prog_1_method_8_code
def y_T_earliest : MethodName := ⟨R_T, "earliest", "(III)I"⟩
abbrev b_T_latest : ByteArray := prog_1_method_9_code
def y_T_latest : MethodName := ⟨R_T, "latest", "(III)I"⟩
abbrev b_T_fewest : ByteArray := prog_1_method_10_code
def y_T_fewest : MethodName := ⟨R_T, "fewest", "(IIII)I"⟩
abbrev b_T_fastest : ByteArray := prog_1_method_11_code
def y_T_fastest : MethodName := ⟨R_T, "fastest", "(IIII)I"⟩
abbrev b_T_profile : ByteArray := prog_1_method_12_code
def y_T_profile : MethodName := ⟨R_T, "profile", "(IIII)I"⟩
abbrev b_T_step : ByteArray := prog_1_method_13_code
def y_T_step : MethodName := ⟨R_T, "step", "(II)I"⟩
abbrev b_T_reach : ByteArray := prog_1_method_14_code
def y_T_reach : MethodName := ⟨R_T, "reach", "(III)I"⟩
abbrev b_T_way : ByteArray := prog_1_method_15_code
def y_T_way : MethodName := ⟨R_T, "way", "(III)I"⟩
abbrev b_T_act : ByteArray := prog_1_method_16_code
def y_T_act : MethodName := ⟨R_T, "act", "(II)I"⟩
abbrev b_T_next : ByteArray := prog_1_method_17_code
def y_T_next : MethodName := ⟨R_T, "next", "(II)I"⟩
abbrev b_T_told : ByteArray := prog_1_method_18_code
def y_T_told : MethodName := ⟨R_T, "told", "(II)I"⟩
abbrev b_T_of : ByteArray := prog_1_method_19_code
def y_T_of : MethodName := ⟨R_T, "of", "(I)I"⟩
abbrev b_T_within : ByteArray := prog_1_method_20_code
def y_T_within : MethodName := ⟨R_T, "within", "(III)Z"⟩
abbrev b_T_isTime : ByteArray := prog_1_method_21_code
def y_T_isTime : MethodName := ⟨R_T, "isTime", "(I)Z"⟩
abbrev b_T_isBy : ByteArray := prog_1_method_22_code
def y_T_isBy : MethodName := ⟨R_T, "isBy", "(I)Z"⟩
abbrev b_T_isSpan : ByteArray := prog_1_method_23_code
def y_T_isSpan : MethodName := ⟨R_T, "isSpan", "(II)Z"⟩
abbrev b_T_orNone : ByteArray := prog_1_method_24_code
def y_T_orNone : MethodName := ⟨R_T, "orNone", "(I)I"⟩
def R_Ne : String := "TimedWays$Network"
def F_Ne : u_T := fun k => match k with
  | 0 => ("TimedWays$Network", "stopCount", "I", false)
  | 1 => ("TimedWays$Network", "changes", "[I", true)
  | 2 => ("TimedWays$Network", "rides", "LTimedWays$Rides;", true)
  | 3 => ("TimedWays$Network", "board", "LTimedWays$Board;", true)
  | _ => ("TimedWays$Network", "walks", "LTimedWays$Walks;", true)
def ft_Ne : Nat → FieldType := fun k => match k with
  | 0 => .int
  | 1 => .array .int
  | 2 => .object "TimedWays$Rides"
  | 3 => .object "TimedWays$Board"
  | _ => .object "TimedWays$Walks"
theorem fn_Ne : ∀ a, a < 5 → ∀ b, b < 5 → a ≠ b → (F_Ne a).2.1 ≠ (F_Ne b).2.1 := by decide +kernel
theorem ft_Ne_ok : ∀ k, k < 5 → parseFieldDescriptor (F_Ne k).2.2.1 = some (ft_Ne k) := by decide +kernel
abbrev b_Ne_init : ByteArray := prog_5_method_1_code
def y_Ne_init : MethodName := ⟨R_Ne, "<init>", "()V"⟩
abbrev b_Ne_empty : ByteArray := prog_5_method_2_code
def y_Ne_empty : MethodName := ⟨R_Ne, "empty", "()V"⟩
abbrev b_Ne_hasStop : ByteArray := prog_5_method_3_code
def y_Ne_hasStop : MethodName := ⟨R_Ne, "hasStop", "(I)Z"⟩
abbrev b_Ne_hasStops : ByteArray := prog_5_method_4_code
def y_Ne_hasStops : MethodName := ⟨R_Ne, "hasStops", "(II)Z"⟩
abbrev b_Ne_gap : ByteArray := prog_5_method_5_code
def y_Ne_gap : MethodName := ⟨R_Ne, "gap", "(II)I"⟩
def R_Ri : String := "TimedWays$Rides"
def F_Ri : u_T := fun k => match k with
  | 0 => ("TimedWays$Rides", "count", "I", false)
  | 1 => ("TimedWays$Rides", "from", "[I", true)
  | 2 => ("TimedWays$Rides", "to", "[I", true)
  | 3 => ("TimedWays$Rides", "minute", "[I", true)
  | 4 => ("TimedWays$Rides", "takes", "[I", true)
  | 5 => ("TimedWays$Rides", "days", "[I", true)
  | _ => ("TimedWays$Rides", "lateness", "[I", true)
def ft_Ri : Nat → FieldType := fun k => match k with
  | 0 => .int
  | 1 => .array .int
  | 2 => .array .int
  | 3 => .array .int
  | 4 => .array .int
  | 5 => .array .int
  | _ => .array .int
theorem fn_Ri : ∀ a, a < 7 → ∀ b, b < 7 → a ≠ b → (F_Ri a).2.1 ≠ (F_Ri b).2.1 := by decide +kernel
theorem ft_Ri_ok : ∀ k, k < 7 → parseFieldDescriptor (F_Ri k).2.2.1 = some (ft_Ri k) := by decide +kernel
abbrev b_Ri_init : ByteArray := prog_6_method_1_code
def y_Ri_init : MethodName := ⟨R_Ri, "<init>", "()V"⟩
abbrev b_Ri_has : ByteArray := prog_6_method_2_code
def y_Ri_has : MethodName := ⟨R_Ri, "has", "(I)Z"⟩
abbrev b_Ri_isOnDay : ByteArray := prog_6_method_3_code
def y_Ri_isOnDay : MethodName := ⟨R_Ri, "isOnDay", "(II)Z"⟩
abbrev b_Ri_add : ByteArray := prog_6_method_4_code
def y_Ri_add : MethodName := ⟨R_Ri, "add", "(IIIII)I"⟩
abbrev b_Ri_goes : ByteArray := prog_6_method_5_code
def y_Ri_goes : MethodName := ⟨R_Ri, "goes", "(I)Z"⟩
abbrev b_Ri_leaves : ByteArray := prog_6_method_6_code
def y_Ri_leaves : MethodName := ⟨R_Ri, "leaves", "(I)I"⟩
abbrev b_Ri_goingDays : ByteArray := prog_6_method_7_code
def y_Ri_goingDays : MethodName := ⟨R_Ri, "goingDays", "(I)I"⟩
def R_Bo : String := "TimedWays$Board"
def F_Bo : u_T := fun k => match k with
  | 0 => ("TimedWays$Board", "count", "I", false)
  | 1 => ("TimedWays$Board", "departures", "[I", true)
  | _ => ("TimedWays$Board", "leaves", "[I", true)
def ft_Bo : Nat → FieldType := fun k => match k with
  | 0 => .int
  | 1 => .array .int
  | _ => .array .int
theorem fn_Bo : ∀ a, a < 3 → ∀ b, b < 3 → a ≠ b → (F_Bo a).2.1 ≠ (F_Bo b).2.1 := by decide +kernel
theorem ft_Bo_ok : ∀ k, k < 3 → parseFieldDescriptor (F_Bo k).2.2.1 = some (ft_Bo k) := by decide +kernel
abbrev b_Bo_init : ByteArray := prog_4_method_1_code
def y_Bo_init : MethodName := ⟨R_Bo, "<init>", "()V"⟩
abbrev b_Bo_rideAt : ByteArray := prog_4_method_2_code
def y_Bo_rideAt : MethodName := ⟨R_Bo, "rideAt", "(I)I"⟩
abbrev b_Bo_putRide : ByteArray := prog_4_method_3_code
def y_Bo_putRide : MethodName := ⟨R_Bo, "putRide", "(LTimedWays$Rides;I)V"⟩
abbrev b_Bo_putIn : ByteArray := prog_4_method_4_code
def y_Bo_putIn : MethodName := ⟨R_Bo, "putIn", "(LTimedWays$Rides;I)V"⟩
abbrev b_Bo_isBehind : ByteArray := prog_4_method_5_code
def y_Bo_isBehind : MethodName := ⟨R_Bo, "isBehind", "(III)Z"⟩
abbrev b_Bo_takeOut : ByteArray := prog_4_method_6_code
def y_Bo_takeOut : MethodName := ⟨R_Bo, "takeOut", "(I)V"⟩
abbrev b_Bo_firstFrom : ByteArray := prog_4_method_7_code
def y_Bo_firstFrom : MethodName := ⟨R_Bo, "firstFrom", "(LTimedWays$Rides;II)I"⟩
abbrev b_Bo_countLate : ByteArray := prog_4_method_8_code
def y_Bo_countLate : MethodName := ⟨R_Bo, "countLate", "(LTimedWays$Rides;)I"⟩
def R_Wa : String := "TimedWays$Walks"
def F_Wa : u_T := fun k => match k with
  | 0 => ("TimedWays$Walks", "count", "I", false)
  | 1 => ("TimedWays$Walks", "from", "[I", true)
  | 2 => ("TimedWays$Walks", "to", "[I", true)
  | 3 => ("TimedWays$Walks", "takes", "[I", true)
  | _ => ("TimedWays$Walks", "shortest", "[I", true)
def ft_Wa : Nat → FieldType := fun k => match k with
  | 0 => .int
  | 1 => .array .int
  | 2 => .array .int
  | 3 => .array .int
  | _ => .array .int
theorem fn_Wa : ∀ a, a < 5 → ∀ b, b < 5 → a ≠ b → (F_Wa a).2.1 ≠ (F_Wa b).2.1 := by decide +kernel
theorem ft_Wa_ok : ∀ k, k < 5 → parseFieldDescriptor (F_Wa k).2.2.1 = some (ft_Wa k) := by decide +kernel
abbrev b_Wa_init : ByteArray := prog_9_method_1_code
def y_Wa_init : MethodName := ⟨R_Wa, "<init>", "()V"⟩
abbrev b_Wa_empty : ByteArray := prog_9_method_2_code
def y_Wa_empty : MethodName := ⟨R_Wa, "empty", "()V"⟩
abbrev b_Wa_add : ByteArray := prog_9_method_3_code
def y_Wa_add : MethodName := ⟨R_Wa, "add", "(III)I"⟩
abbrev b_Wa_shorten : ByteArray := prog_9_method_4_code
def y_Wa_shorten : MethodName := ⟨R_Wa, "shorten", "(III)V"⟩
abbrev b_Wa_atLeastOne : ByteArray := prog_9_method_5_code
def y_Wa_atLeastOne : MethodName := ⟨R_Wa, "atLeastOne", "(II)I"⟩
abbrev b_Wa_anyNumber : ByteArray := prog_9_method_6_code
def y_Wa_anyNumber : MethodName := ⟨R_Wa, "anyNumber", "(II)I"⟩
def R_Ar : String := "TimedWays$Arrivals"
def F_Ar : u_T := fun k => match k with
  | 0 => ("TimedWays$Arrivals", "byRide", "[I", true)
  | _ => ("TimedWays$Arrivals", "byWalk", "[I", true)
def ft_Ar : Nat → FieldType := fun k => match k with
  | 0 => .array .int
  | _ => .array .int
theorem fn_Ar : ∀ a, a < 2 → ∀ b, b < 2 → a ≠ b → (F_Ar a).2.1 ≠ (F_Ar b).2.1 := by decide +kernel
theorem ft_Ar_ok : ∀ k, k < 2 → parseFieldDescriptor (F_Ar k).2.2.1 = some (ft_Ar k) := by decide +kernel
abbrev b_Ar_init : ByteArray := prog_3_method_1_code
def y_Ar_init : MethodName := ⟨R_Ar, "<init>", "()V"⟩
abbrev b_Ar_first : ByteArray := prog_3_method_2_code
def y_Ar_first : MethodName := ⟨R_Ar, "first", "(I)I"⟩
abbrev b_Ar_isByWalk : ByteArray := prog_3_method_3_code
def y_Ar_isByWalk : MethodName := ⟨R_Ar, "isByWalk", "(II)Z"⟩
abbrev b_Ar_copy : ByteArray := prog_3_method_4_code
def y_Ar_copy : MethodName := ⟨R_Ar, "copy", "(LTimedWays$Arrivals;)V"⟩
abbrev b_Ar_begin : ByteArray := prog_3_method_5_code
def y_Ar_begin : MethodName := ⟨R_Ar, "begin", "(LTimedWays$Network;II)V"⟩
abbrev b_Ar_find : ByteArray := prog_3_method_6_code
def y_Ar_find : MethodName := ⟨R_Ar, "find", "(LTimedWays$Network;II)V"⟩
abbrev b_Ar_addOneDeparture : ByteArray := prog_3_method_7_code
def y_Ar_addOneDeparture : MethodName := ⟨R_Ar, "addOneDeparture", "(LTimedWays$Network;LTimedWays$Arrivals;)V"⟩
abbrev b_Ar_mayTake : ByteArray := prog_3_method_8_code
def y_Ar_mayTake : MethodName := ⟨R_Ar, "mayTake", "(LTimedWays$Network;II)Z"⟩
abbrev b_Ar_arrive : ByteArray := prog_3_method_9_code
def y_Ar_arrive : MethodName := ⟨R_Ar, "arrive", "(LTimedWays$Network;II)V"⟩
abbrev b_Ar_lastWalk : ByteArray := prog_3_method_10_code
def y_Ar_lastWalk : MethodName := ⟨R_Ar, "lastWalk", "(LTimedWays$Network;I)I"⟩
abbrev b_Ar_lastDeparture : ByteArray := prog_3_method_11_code
def y_Ar_lastDeparture : MethodName := ⟨R_Ar, "lastDeparture", "(LTimedWays$Network;I)I"⟩
abbrev b_Ar_endsByRide : ByteArray := prog_3_method_12_code
def y_Ar_endsByRide : MethodName := ⟨R_Ar, "endsByRide", "(LTimedWays$Network;II)Z"⟩
def R_Sp : String := "TimedWays$Span"
def F_Sp : u_T := fun k => match k with
  | 0 => ("TimedWays$Span", "onward", "[I", true)
  | _ => ("TimedWays$Span", "ends", "[I", true)
def ft_Sp : Nat → FieldType := fun k => match k with
  | 0 => .array .int
  | _ => .array .int
theorem fn_Sp : ∀ a, a < 2 → ∀ b, b < 2 → a ≠ b → (F_Sp a).2.1 ≠ (F_Sp b).2.1 := by decide +kernel
theorem ft_Sp_ok : ∀ k, k < 2 → parseFieldDescriptor (F_Sp k).2.2.1 = some (ft_Sp k) := by decide +kernel
abbrev b_Sp_init : ByteArray := prog_7_method_1_code
def y_Sp_init : MethodName := ⟨R_Sp, "<init>", "()V"⟩
abbrev b_Sp_find : ByteArray := prog_7_method_2_code
def y_Sp_find : MethodName := ⟨R_Sp, "find", "(LTimedWays$Network;IIII)V"⟩
abbrev b_Sp_spread : ByteArray := prog_7_method_3_code
def y_Sp_spread : MethodName := ⟨R_Sp, "spread", "(III)V"⟩
abbrev b_Sp_latestBeginning : ByteArray := prog_7_method_4_code
def y_Sp_latestBeginning : MethodName := ⟨R_Sp, "latestBeginning", "(LTimedWays$Network;III)I"⟩
abbrev b_Sp_leastMinutes : ByteArray := prog_7_method_5_code
def y_Sp_leastMinutes : MethodName := ⟨R_Sp, "leastMinutes", "(II)I"⟩
abbrev b_Sp_latestFor : ByteArray := prog_7_method_6_code
def y_Sp_latestFor : MethodName := ⟨R_Sp, "latestFor", "(LTimedWays$Network;II)I"⟩
abbrev b_Sp_endOf : ByteArray := prog_7_method_7_code
def y_Sp_endOf : MethodName := ⟨R_Sp, "endOf", "(LTimedWays$Network;II)I"⟩
abbrev b_Sp_mayFollow : ByteArray := prog_7_method_8_code
def y_Sp_mayFollow : MethodName := ⟨R_Sp, "mayFollow", "(LTimedWays$Network;III)Z"⟩
def R_St : String := "TimedWays$Steps"
def F_St : u_T := fun k => match k with
  | 0 => ("TimedWays$Steps", "count", "I", false)
  | 1 => ("TimedWays$Steps", "times", "[I", true)
  | _ => ("TimedWays$Steps", "ends", "[I", true)
def ft_St : Nat → FieldType := fun k => match k with
  | 0 => .int
  | 1 => .array .int
  | _ => .array .int
theorem fn_St : ∀ a, a < 3 → ∀ b, b < 3 → a ≠ b → (F_St a).2.1 ≠ (F_St b).2.1 := by decide +kernel
theorem ft_St_ok : ∀ k, k < 3 → parseFieldDescriptor (F_St k).2.2.1 = some (ft_St k) := by decide +kernel
abbrev b_St_init : ByteArray := prog_8_method_1_code
def y_St_init : MethodName := ⟨R_St, "<init>", "()V"⟩
abbrev b_St_take : ByteArray := prog_8_method_2_code
def y_St_take : MethodName := ⟨R_St, "take", "(LTimedWays$Span;II)V"⟩
def R_Ac : String := "TimedWays$Acts"
def F_Ac : u_T := fun k => match k with
  | 0 => ("TimedWays$Acts", "count", "I", false)
  | 1 => ("TimedWays$Acts", "numbers", "[I", true)
  | 2 => ("TimedWays$Acts", "days", "[I", true)
  | 3 => ("TimedWays$Acts", "begins", "[I", true)
  | _ => ("TimedWays$Acts", "ends", "[I", true)
def ft_Ac : Nat → FieldType := fun k => match k with
  | 0 => .int
  | 1 => .array .int
  | 2 => .array .int
  | 3 => .array .int
  | _ => .array .int
theorem fn_Ac : ∀ a, a < 5 → ∀ b, b < 5 → a ≠ b → (F_Ac a).2.1 ≠ (F_Ac b).2.1 := by decide +kernel
theorem ft_Ac_ok : ∀ k, k < 5 → parseFieldDescriptor (F_Ac k).2.2.1 = some (ft_Ac k) := by decide +kernel
abbrev b_Ac_init : ByteArray := prog_2_method_1_code
def y_Ac_init : MethodName := ⟨R_Ac, "<init>", "()V"⟩
abbrev b_Ac_trace : ByteArray := prog_2_method_2_code
def y_Ac_trace : MethodName := ⟨R_Ac, "trace", "(LTimedWays$Network;LTimedWays$Arrivals;II)V"⟩
abbrev b_Ac_addWalk : ByteArray := prog_2_method_3_code
def y_Ac_addWalk : MethodName := ⟨R_Ac, "addWalk", "(LTimedWays$Network;LTimedWays$Arrivals;I)I"⟩
abbrev b_Ac_addDeparture : ByteArray := prog_2_method_4_code
def y_Ac_addDeparture : MethodName := ⟨R_Ac, "addDeparture", "(LTimedWays$Network;LTimedWays$Arrivals;I)I"⟩
abbrev b_Ac_put : ByteArray := prog_2_method_5_code
def y_Ac_put : MethodName := ⟨R_Ac, "put", "(IIII)V"⟩
def R_M : String := "TimedWaysModel"
def F_M : u_T := fun k => match k with
  | 0 => ("TimedWaysModel", "stops", "I", false)
  | 1 => ("TimedWaysModel", "change", "[I", true)
  | 2 => ("TimedWaysModel", "rides", "I", false)
  | 3 => ("TimedWaysModel", "rideFrom", "[I", true)
  | 4 => ("TimedWaysModel", "rideTo", "[I", true)
  | 5 => ("TimedWaysModel", "minute", "[I", true)
  | 6 => ("TimedWaysModel", "takes", "[I", true)
  | 7 => ("TimedWaysModel", "days", "[I", true)
  | 8 => ("TimedWaysModel", "late", "[I", true)
  | 9 => ("TimedWaysModel", "walks", "I", false)
  | 10 => ("TimedWaysModel", "walkFrom", "[I", true)
  | 11 => ("TimedWaysModel", "walkTo", "[I", true)
  | 12 => ("TimedWaysModel", "walkTakes", "[I", true)
  | 13 => ("TimedWaysModel", "steps", "I", false)
  | 14 => ("TimedWaysModel", "stepTime", "[I", true)
  | 15 => ("TimedWaysModel", "stepArrival", "[I", true)
  | 16 => ("TimedWaysModel", "acts", "I", false)
  | 17 => ("TimedWaysModel", "act", "[I", true)
  | 18 => ("TimedWaysModel", "byRide", "[I", true)
  | 19 => ("TimedWaysModel", "byWalk", "[I", true)
  | 20 => ("TimedWaysModel", "nextRide", "[I", true)
  | _ => ("TimedWaysModel", "isLess", "Z", false)
def ft_M : Nat → FieldType := fun k => match k with
  | 0 => .int
  | 1 => .array .int
  | 2 => .int
  | 3 => .array .int
  | 4 => .array .int
  | 5 => .array .int
  | 6 => .array .int
  | 7 => .array .int
  | 8 => .array .int
  | 9 => .int
  | 10 => .array .int
  | 11 => .array .int
  | 12 => .array .int
  | 13 => .int
  | 14 => .array .int
  | 15 => .array .int
  | 16 => .int
  | 17 => .array .int
  | 18 => .array .int
  | 19 => .array .int
  | 20 => .array .int
  | _ => .boolean
theorem fn_M : ∀ a, a < 22 → ∀ b, b < 22 → a ≠ b → (F_M a).2.1 ≠ (F_M b).2.1 := by decide +kernel
theorem ft_M_ok : ∀ k, k < 22 → parseFieldDescriptor (F_M k).2.2.1 = some (ft_M k) := by decide +kernel
abbrev b_M_init : ByteArray := prog_11_method_1_code
def y_M_init : MethodName := ⟨R_M, "<init>", "()V"⟩
abbrev b_M_clear : ByteArray := prog_11_method_2_code
def y_M_clear : MethodName := ⟨R_M, "clear", "()I"⟩
abbrev b_M_isIn : ByteArray := prog_11_method_3_code
def y_M_isIn : MethodName := ⟨R_M, "isIn", "(III)Z"⟩
abbrev b_M_isStop : ByteArray := prog_11_method_4_code
def y_M_isStop : MethodName := ⟨R_M, "isStop", "(I)Z"⟩
abbrev b_M_isRide : ByteArray := prog_11_method_5_code
def y_M_isRide : MethodName := ⟨R_M, "isRide", "(I)Z"⟩
abbrev b_M_stop : ByteArray := prog_11_method_6_code
def y_M_stop : MethodName := ⟨R_M, "stop", "(I)I"⟩
abbrev b_M_change : ByteArray := prog_11_method_7_code
def y_M_change : MethodName := ⟨R_M, "change", "(II)I"⟩
abbrev b_M_areTwo : ByteArray := prog_11_method_8_code
def y_M_areTwo : MethodName := ⟨R_M, "areTwo", "(II)Z"⟩
abbrev b_M_ride : ByteArray := prog_11_method_9_code
def y_M_ride : MethodName := ⟨R_M, "ride", "(IIIII)I"⟩
abbrev b_M_walk : ByteArray := prog_11_method_10_code
def y_M_walk : MethodName := ⟨R_M, "walk", "(III)I"⟩
abbrev b_M_isOn : ByteArray := prog_11_method_11_code
def y_M_isOn : MethodName := ⟨R_M, "isOn", "(II)Z"⟩
abbrev b_M_late : ByteArray := prog_11_method_12_code
def y_M_late : MethodName := ⟨R_M, "late", "(III)I"⟩
abbrev b_M_goes : ByteArray := prog_11_method_13_code
def y_M_goes : MethodName := ⟨R_M, "goes", "(II)Z"⟩
abbrev b_M_leaves : ByteArray := prog_11_method_14_code
def y_M_leaves : MethodName := ⟨R_M, "leaves", "(II)I"⟩
abbrev b_M_arrives : ByteArray := prog_11_method_15_code
def y_M_arrives : MethodName := ⟨R_M, "arrives", "(II)I"⟩
abbrev b_M_arrival : ByteArray := prog_11_method_16_code
def y_M_arrival : MethodName := ⟨R_M, "arrival", "(I)I"⟩
abbrev b_M_mayTake : ByteArray := prog_11_method_17_code
def y_M_mayTake : MethodName := ⟨R_M, "mayTake", "(II)Z"⟩
abbrev b_M_begin : ByteArray := prog_11_method_18_code
def y_M_begin : MethodName := ⟨R_M, "begin", "(II)V"⟩
abbrev b_M_goWalks : ByteArray := prog_11_method_19_code
def y_M_goWalks : MethodName := ⟨R_M, "goWalks", "()V"⟩
abbrev b_M_goRides : ByteArray := prog_11_method_20_code
def y_M_goRides : MethodName := ⟨R_M, "goRides", "()V"⟩
abbrev b_M_find : ByteArray := prog_11_method_21_code
def y_M_find : MethodName := ⟨R_M, "find", "(II)V"⟩
abbrev b_M_found : ByteArray := prog_11_method_22_code
def y_M_found : MethodName := ⟨R_M, "found", "(III)I"⟩
abbrev b_M_isAsked : ByteArray := prog_11_method_23_code
def y_M_isAsked : MethodName := ⟨R_M, "isAsked", "(III)Z"⟩
abbrev b_M_earliest : ByteArray := prog_11_method_24_code
def y_M_earliest : MethodName := ⟨R_M, "earliest", "(III)I"⟩
abbrev b_M_isBy : ByteArray := prog_11_method_25_code
def y_M_isBy : MethodName := ⟨R_M, "isBy", "(IIII)Z"⟩
abbrev b_M_latest : ByteArray := prog_11_method_26_code
def y_M_latest : MethodName := ⟨R_M, "latest", "(III)I"⟩
abbrev b_M_fewest : ByteArray := prog_11_method_27_code
def y_M_fewest : MethodName := ⟨R_M, "fewest", "(IIII)I"⟩
abbrev b_M_isSpan : ByteArray := prog_11_method_28_code
def y_M_isSpan : MethodName := ⟨R_M, "isSpan", "(IIII)Z"⟩
abbrev b_M_fastest : ByteArray := prog_11_method_29_code
def y_M_fastest : MethodName := ⟨R_M, "fastest", "(IIII)I"⟩
abbrev b_M_profile : ByteArray := prog_11_method_30_code
def y_M_profile : MethodName := ⟨R_M, "profile", "(IIII)I"⟩
abbrev b_M_step : ByteArray := prog_11_method_31_code
def y_M_step : MethodName := ⟨R_M, "step", "(II)I"⟩
abbrev b_M_reach : ByteArray := prog_11_method_32_code
def y_M_reach : MethodName := ⟨R_M, "reach", "(III)I"⟩
abbrev b_M_put : ByteArray := prog_11_method_33_code
def y_M_put : MethodName := ⟨R_M, "put", "(IIIII)V"⟩
abbrev b_M_walkBefore : ByteArray := prog_11_method_34_code
def y_M_walkBefore : MethodName := ⟨R_M, "walkBefore", "(I)I"⟩
abbrev b_M_departureBefore : ByteArray := prog_11_method_35_code
def y_M_departureBefore : MethodName := ⟨R_M, "departureBefore", "(I)I"⟩
abbrev b_M_way : ByteArray := prog_11_method_36_code
def y_M_way : MethodName := ⟨R_M, "way", "(III)I"⟩
abbrev b_M_act : ByteArray := prog_11_method_37_code
def y_M_act : MethodName := ⟨R_M, "act", "(II)I"⟩
abbrev b_M_next : ByteArray := prog_11_method_38_code
def y_M_next : MethodName := ⟨R_M, "next", "(II)I"⟩
abbrev b_M_told : ByteArray := prog_11_method_39_code
def y_M_told : MethodName := ⟨R_M, "told", "(II)I"⟩
abbrev b_M_of : ByteArray := prog_11_method_40_code
def y_M_of : MethodName := ⟨R_M, "of", "(I)I"⟩
def R_J : String := "java/util/Arrays"
abbrev b_J_fill : ByteArray := prog_14_method_103_code
def y_J_fill : MethodName := ⟨R_J, "fill", "([II)V"⟩
def R_L : String := "TimedWaysLaw"
abbrev twCl : List vw_C := [(R_T, F_T, 6), (R_Ne, F_Ne, 5), (R_Ri, F_Ri, 7), (R_Bo, F_Bo, 3), (R_Wa, F_Wa, 5), (R_Ar, F_Ar, 2), (R_Sp, F_Sp, 2), (R_St, F_St, 3), (R_Ac, F_Ac, 5), (R_M, F_M, 22)]
def wsA : List Cond := lw_tbl.filter goodWord
theorem wsA_tbl : ∀ w ∈ wsA, w ∈ lw_tbl := fun _ h => (List.mem_filter.mp h).1
theorem wsA_good {w : Cond} (h : w ∈ wsA) : GoodIn wsA (w :: wsA) := fun v hv => (List.mem_cons.mp hv).elim (fun e => by rw [e]; exact ⟨h, good_of_word (List.mem_filter.mp h).2⟩) (fun h => ⟨h, good_of_word (List.mem_filter.mp h).2⟩)
theorem wsA_goodV {own C : String} {i : Nat} {y : MethodName} {w : Cond} (h1 : (Cond.methodLink own i y) ∈ wsA) (h2 : (Cond.instanceMethod y) ∈ wsA) (h3 : (Cond.selects C y y) ∈ wsA) (h4 : (Cond.initialized C) ∈ wsA) (h : w ∈ wsA) : GoodIn wsA (wsV own i C y (w :: wsA)) := by
  intro v hv
  have g : ∀ {z : Cond}, z ∈ wsA → z ∈ wsA ∧ ((z.onTables && z.keeps) = true ∨ ∃ ty, z = .arrayClass ty) := fun hz => ⟨hz, good_of_word (List.mem_filter.mp hz).2⟩
  unfold wsV at hv
  rcases List.mem_append.mp hv with hv | hv
  · rcases List.mem_cons.mp hv with e | hv
    · rw [e]; exact g h1
    · rcases List.mem_cons.mp hv with e | hv
      · rw [e]; exact g h2
      · rcases List.mem_cons.mp hv with e | hv
        · rw [e]; exact g h3
        · rw [List.mem_singleton.mp hv]; exact g h4
  · exact wsA_good h v hv
set_option maxRecDepth 20000 in
theorem in_T : ∀ w ∈ u_ws R_T F_T 6, w ∈ wsA := by decide +kernel
set_option maxRecDepth 20000 in
theorem in_Ne : ∀ w ∈ u_ws R_Ne F_Ne 5, w ∈ wsA := by decide +kernel
set_option maxRecDepth 20000 in
theorem in_Ri : ∀ w ∈ u_ws R_Ri F_Ri 7, w ∈ wsA := by decide +kernel
set_option maxRecDepth 20000 in
theorem in_Bo : ∀ w ∈ u_ws R_Bo F_Bo 3, w ∈ wsA := by decide +kernel
set_option maxRecDepth 20000 in
theorem in_Wa : ∀ w ∈ u_ws R_Wa F_Wa 5, w ∈ wsA := by decide +kernel
set_option maxRecDepth 20000 in
theorem in_Ar : ∀ w ∈ u_ws R_Ar F_Ar 2, w ∈ wsA := by decide +kernel
set_option maxRecDepth 20000 in
theorem in_Sp : ∀ w ∈ u_ws R_Sp F_Sp 2, w ∈ wsA := by decide +kernel
set_option maxRecDepth 20000 in
theorem in_St : ∀ w ∈ u_ws R_St F_St 3, w ∈ wsA := by decide +kernel
set_option maxRecDepth 20000 in
theorem in_Ac : ∀ w ∈ u_ws R_Ac F_Ac 5, w ∈ wsA := by decide +kernel
set_option maxRecDepth 20000 in
theorem in_M : ∀ w ∈ u_ws R_M F_M 22, w ∈ wsA := by decide +kernel
def ws_T_init : List Cond := .code y_T_init b_T_init 1 none :: wsA
def ws_T_clear : List Cond := .code y_T_clear b_T_clear 2 (some .int) :: wsA
def ws_T_stop : List Cond := .code y_T_stop b_T_stop 2 (some .int) :: wsA
def ws_T_change : List Cond := .code y_T_change b_T_change 4 (some .int) :: wsA
def ws_T_ride : List Cond := .code y_T_ride b_T_ride 7 (some .int) :: wsA
def ws_T_walk : List Cond := .code y_T_walk b_T_walk 4 (some .int) :: wsA
def ws_T_late : List Cond := .code y_T_late b_T_late 6 (some .int) :: wsA
def ws_T_earliest : List Cond := .code y_T_earliest b_T_earliest 4 (some .int) :: wsA
def ws_T_latest : List Cond := .code y_T_latest b_T_latest 4 (some .int) :: wsA
def ws_T_fewest : List Cond := .code y_T_fewest b_T_fewest 6 (some .int) :: wsA
def ws_T_fastest : List Cond := .code y_T_fastest b_T_fastest 5 (some .int) :: wsA
def ws_T_profile : List Cond := .code y_T_profile b_T_profile 5 (some .int) :: wsA
def ws_T_step : List Cond := .code y_T_step b_T_step 3 (some .int) :: wsA
def ws_T_reach : List Cond := .code y_T_reach b_T_reach 6 (some .int) :: wsA
def ws_T_way : List Cond := .code y_T_way b_T_way 4 (some .int) :: wsA
def ws_T_act : List Cond := .code y_T_act b_T_act 4 (some .int) :: wsA
def ws_T_next : List Cond := .code y_T_next b_T_next 3 (some .int) :: wsA
def ws_T_told : List Cond := .code y_T_told b_T_told 3 (some .int) :: wsA
def ws_T_of : List Cond := .code y_T_of b_T_of 2 (some .int) :: wsA
def ws_T_within : List Cond := .code y_T_within b_T_within 3 (some .boolean) :: wsA
def ws_T_isTime : List Cond := .code y_T_isTime b_T_isTime 1 (some .boolean) :: wsA
def ws_T_isBy : List Cond := .code y_T_isBy b_T_isBy 1 (some .boolean) :: wsA
def ws_T_isSpan : List Cond := .code y_T_isSpan b_T_isSpan 2 (some .boolean) :: wsA
def ws_T_orNone : List Cond := .code y_T_orNone b_T_orNone 1 (some .int) :: wsA
def ws_Ne_init : List Cond := .code y_Ne_init b_Ne_init 1 none :: wsA
def ws_Ne_empty : List Cond := .code y_Ne_empty b_Ne_empty 1 none :: wsA
def ws_Ne_hasStop : List Cond := .code y_Ne_hasStop b_Ne_hasStop 2 (some .boolean) :: wsA
def ws_Ne_hasStops : List Cond := .code y_Ne_hasStops b_Ne_hasStops 3 (some .boolean) :: wsA
def ws_Ne_gap : List Cond := .code y_Ne_gap b_Ne_gap 4 (some .int) :: wsA
def ws_Ri_init : List Cond := .code y_Ri_init b_Ri_init 1 none :: wsA
def ws_Ri_has : List Cond := .code y_Ri_has b_Ri_has 2 (some .boolean) :: wsA
def ws_Ri_isOnDay : List Cond := .code y_Ri_isOnDay b_Ri_isOnDay 3 (some .boolean) :: wsA
def ws_Ri_add : List Cond := .code y_Ri_add b_Ri_add 8 (some .int) :: wsA
def ws_Ri_goes : List Cond := .code y_Ri_goes b_Ri_goes 2 (some .boolean) :: wsA
def ws_Ri_leaves : List Cond := .code y_Ri_leaves b_Ri_leaves 3 (some .int) :: wsA
def ws_Ri_goingDays : List Cond := .code y_Ri_goingDays b_Ri_goingDays 4 (some .int) :: wsA
def ws_Bo_init : List Cond := .code y_Bo_init b_Bo_init 1 none :: wsA
def ws_Bo_rideAt : List Cond := .code y_Bo_rideAt b_Bo_rideAt 2 (some .int) :: wsA
def ws_Bo_putRide : List Cond := .code y_Bo_putRide b_Bo_putRide 4 none :: wsA
def ws_Bo_putIn : List Cond := .code y_Bo_putIn b_Bo_putIn 5 none :: wsA
def ws_Bo_isBehind : List Cond := .code y_Bo_isBehind b_Bo_isBehind 4 (some .boolean) :: wsA
def ws_Bo_takeOut : List Cond := .code y_Bo_takeOut b_Bo_takeOut 4 none :: wsA
def ws_Bo_firstFrom : List Cond := .code y_Bo_firstFrom b_Bo_firstFrom 5 (some .int) :: wsA
def ws_Bo_countLate : List Cond := .code y_Bo_countLate b_Bo_countLate 4 (some .int) :: wsA
def ws_Wa_init : List Cond := .code y_Wa_init b_Wa_init 1 none :: wsA
def ws_Wa_empty : List Cond := .code y_Wa_empty b_Wa_empty 1 none :: wsA
def ws_Wa_add : List Cond := .code y_Wa_add b_Wa_add 4 (some .int) :: wsA
def ws_Wa_shorten : List Cond := .code y_Wa_shorten b_Wa_shorten 8 none :: wsA
def ws_Wa_atLeastOne : List Cond := .code y_Wa_atLeastOne b_Wa_atLeastOne 3 (some .int) :: wsA
def ws_Wa_anyNumber : List Cond := .code y_Wa_anyNumber b_Wa_anyNumber 3 (some .int) :: wsA
def ws_Ar_init : List Cond := .code y_Ar_init b_Ar_init 1 none :: wsA
def ws_Ar_first : List Cond := .code y_Ar_first b_Ar_first 2 (some .int) :: wsA
def ws_Ar_isByWalk : List Cond := .code y_Ar_isByWalk b_Ar_isByWalk 3 (some .boolean) :: wsA
def ws_Ar_copy : List Cond := .code y_Ar_copy b_Ar_copy 2 none :: wsA
def ws_Ar_begin : List Cond := .code y_Ar_begin b_Ar_begin 5 none :: wsA
def ws_Ar_find : List Cond := .code y_Ar_find b_Ar_find 4 none :: wsA
def ws_Ar_addOneDeparture : List Cond := .code y_Ar_addOneDeparture b_Ar_addOneDeparture 6 none :: wsA
def ws_Ar_mayTake : List Cond := .code y_Ar_mayTake b_Ar_mayTake 4 (some .boolean) :: wsA
def ws_Ar_arrive : List Cond := .code y_Ar_arrive b_Ar_arrive 5 none :: wsA
def ws_Ar_lastWalk : List Cond := .code y_Ar_lastWalk b_Ar_lastWalk 5 (some .int) :: wsA
def ws_Ar_lastDeparture : List Cond := .code y_Ar_lastDeparture b_Ar_lastDeparture 5 (some .int) :: wsA
def ws_Ar_endsByRide : List Cond := .code y_Ar_endsByRide b_Ar_endsByRide 6 (some .boolean) :: wsA
def ws_Sp_init : List Cond := .code y_Sp_init b_Sp_init 1 none :: wsA
def ws_Sp_find : List Cond := .code y_Sp_find b_Sp_find 8 none :: wsA
def ws_Sp_spread : List Cond := .code y_Sp_spread b_Sp_spread 6 none :: wsA
def ws_Sp_latestBeginning : List Cond := .code y_Sp_latestBeginning b_Sp_latestBeginning 7 (some .int) :: wsA
def ws_Sp_leastMinutes : List Cond := .code y_Sp_leastMinutes b_Sp_leastMinutes 6 (some .int) :: wsA
def ws_Sp_latestFor : List Cond := .code y_Sp_latestFor b_Sp_latestFor 4 (some .int) :: wsA
def ws_Sp_endOf : List Cond := .code y_Sp_endOf b_Sp_endOf 9 (some .int) :: wsA
def ws_Sp_mayFollow : List Cond := .code y_Sp_mayFollow b_Sp_mayFollow 5 (some .boolean) :: wsA
def ws_St_init : List Cond := .code y_St_init b_St_init 1 none :: wsA
def ws_St_take : List Cond := .code y_St_take b_St_take 5 none :: wsA
def ws_Ac_init : List Cond := .code y_Ac_init b_Ac_init 1 none :: wsA
def ws_Ac_trace : List Cond := .code y_Ac_trace b_Ac_trace 8 none :: wsA
def ws_Ac_addWalk : List Cond := .code y_Ac_addWalk b_Ac_addWalk 6 (some .int) :: wsA
def ws_Ac_addDeparture : List Cond := .code y_Ac_addDeparture b_Ac_addDeparture 6 (some .int) :: wsA
def ws_Ac_put : List Cond := .code y_Ac_put b_Ac_put 5 none :: wsA
def ws_M_init : List Cond := .code y_M_init b_M_init 1 none :: wsA
def ws_M_clear : List Cond := .code y_M_clear b_M_clear 2 (some .int) :: wsA
def ws_M_isIn : List Cond := .code y_M_isIn b_M_isIn 3 (some .boolean) :: wsA
def ws_M_isStop : List Cond := .code y_M_isStop b_M_isStop 2 (some .boolean) :: wsA
def ws_M_isRide : List Cond := .code y_M_isRide b_M_isRide 2 (some .boolean) :: wsA
def ws_M_stop : List Cond := .code y_M_stop b_M_stop 2 (some .int) :: wsA
def ws_M_change : List Cond := .code y_M_change b_M_change 4 (some .int) :: wsA
def ws_M_areTwo : List Cond := .code y_M_areTwo b_M_areTwo 3 (some .boolean) :: wsA
def ws_M_ride : List Cond := .code y_M_ride b_M_ride 7 (some .int) :: wsA
def ws_M_walk : List Cond := .code y_M_walk b_M_walk 4 (some .int) :: wsA
def ws_M_isOn : List Cond := .code y_M_isOn b_M_isOn 3 (some .boolean) :: wsA
def ws_M_late : List Cond := .code y_M_late b_M_late 5 (some .int) :: wsA
def ws_M_goes : List Cond := .code y_M_goes b_M_goes 3 (some .boolean) :: wsA
def ws_M_leaves : List Cond := .code y_M_leaves b_M_leaves 3 (some .int) :: wsA
def ws_M_arrives : List Cond := .code y_M_arrives b_M_arrives 3 (some .int) :: wsA
def ws_M_arrival : List Cond := .code y_M_arrival b_M_arrival 2 (some .int) :: wsA
def ws_M_mayTake : List Cond := .code y_M_mayTake b_M_mayTake 4 (some .boolean) :: wsA
def ws_M_begin : List Cond := .code y_M_begin b_M_begin 4 none :: wsA
def ws_M_goWalks : List Cond := .code y_M_goWalks b_M_goWalks 4 none :: wsA
def ws_M_goRides : List Cond := .code y_M_goRides b_M_goRides 3 none :: wsA
def ws_M_find : List Cond := .code y_M_find b_M_find 3 none :: wsA
def ws_M_found : List Cond := .code y_M_found b_M_found 4 (some .int) :: wsA
def ws_M_isAsked : List Cond := .code y_M_isAsked b_M_isAsked 4 (some .boolean) :: wsA
def ws_M_earliest : List Cond := .code y_M_earliest b_M_earliest 4 (some .int) :: wsA
def ws_M_isBy : List Cond := .code y_M_isBy b_M_isBy 5 (some .boolean) :: wsA
def ws_M_latest : List Cond := .code y_M_latest b_M_latest 7 (some .int) :: wsA
def ws_M_fewest : List Cond := .code y_M_fewest b_M_fewest 6 (some .int) :: wsA
def ws_M_isSpan : List Cond := .code y_M_isSpan b_M_isSpan 5 (some .boolean) :: wsA
def ws_M_fastest : List Cond := .code y_M_fastest b_M_fastest 8 (some .int) :: wsA
def ws_M_profile : List Cond := .code y_M_profile b_M_profile 7 (some .int) :: wsA
def ws_M_step : List Cond := .code y_M_step b_M_step 3 (some .int) :: wsA
def ws_M_reach : List Cond := .code y_M_reach b_M_reach 6 (some .int) :: wsA
def ws_M_put : List Cond := .code y_M_put b_M_put 6 none :: wsA
def ws_M_walkBefore : List Cond := .code y_M_walkBefore b_M_walkBefore 3 (some .int) :: wsA
def ws_M_departureBefore : List Cond := .code y_M_departureBefore b_M_departureBefore 3 (some .int) :: wsA
def ws_M_way : List Cond := .code y_M_way b_M_way 9 (some .int) :: wsA
def ws_M_act : List Cond := .code y_M_act b_M_act 3 (some .int) :: wsA
def ws_M_next : List Cond := .code y_M_next b_M_next 8 (some .int) :: wsA
def ws_M_told : List Cond := .code y_M_told b_M_told 5 (some .int) :: wsA
def ws_M_of : List Cond := .code y_M_of b_M_of 5 (some .int) :: wsA
def ws_J_fill : List Cond := .code y_J_fill b_J_fill 4 none :: wsA
end
section
theorem wA_0 : (Cond.selects R_Bo y_Bo_isBehind y_Bo_isBehind) ∈ wsA := List.mem_filter.mpr ⟨List.mem_of_getElem? (i := 0) (by decide +kernel), rfl⟩
theorem wA_1 : (Cond.selects R_Wa y_Wa_shorten y_Wa_shorten) ∈ wsA := List.mem_filter.mpr ⟨List.mem_of_getElem? (i := 1) (by decide +kernel), rfl⟩
theorem wA_2 : (Cond.selects R_Ar y_Ar_arrive y_Ar_arrive) ∈ wsA := List.mem_filter.mpr ⟨List.mem_of_getElem? (i := 2) (by decide +kernel), rfl⟩
theorem wA_3 : (Cond.selects R_Sp y_Sp_endOf y_Sp_endOf) ∈ wsA := List.mem_filter.mpr ⟨List.mem_of_getElem? (i := 3) (by decide +kernel), rfl⟩
theorem wA_4 : (Cond.selects R_Sp y_Sp_spread y_Sp_spread) ∈ wsA := List.mem_filter.mpr ⟨List.mem_of_getElem? (i := 4) (by decide +kernel), rfl⟩
theorem wA_5 : (Cond.selects R_Ac y_Ac_addWalk y_Ac_addWalk) ∈ wsA := List.mem_filter.mpr ⟨List.mem_of_getElem? (i := 5) (by decide +kernel), rfl⟩
theorem wA_6 : (Cond.selects R_Ac y_Ac_put y_Ac_put) ∈ wsA := List.mem_filter.mpr ⟨List.mem_of_getElem? (i := 6) (by decide +kernel), rfl⟩
theorem wA_7 : (Cond.selects R_Ac y_Ac_addDeparture y_Ac_addDeparture) ∈ wsA := List.mem_filter.mpr ⟨List.mem_of_getElem? (i := 7) (by decide +kernel), rfl⟩
theorem wA_8 : (Cond.selects R_Ar y_Ar_endsByRide y_Ar_endsByRide) ∈ wsA := List.mem_filter.mpr ⟨List.mem_of_getElem? (i := 8) (by decide +kernel), rfl⟩
theorem wA_30 : (Cond.initialized R_T) ∈ wsA := List.mem_filter.mpr ⟨List.mem_of_getElem? (i := 30) (by decide +kernel), rfl⟩
theorem wA_31 : (Cond.initialized R_Ne) ∈ wsA := List.mem_filter.mpr ⟨List.mem_of_getElem? (i := 31) (by decide +kernel), rfl⟩
theorem wA_32 : (Cond.initialized R_Ri) ∈ wsA := List.mem_filter.mpr ⟨List.mem_of_getElem? (i := 32) (by decide +kernel), rfl⟩
theorem wA_33 : (Cond.initialized R_Bo) ∈ wsA := List.mem_filter.mpr ⟨List.mem_of_getElem? (i := 33) (by decide +kernel), rfl⟩
theorem wA_34 : (Cond.initialized R_Wa) ∈ wsA := List.mem_filter.mpr ⟨List.mem_of_getElem? (i := 34) (by decide +kernel), rfl⟩
theorem wA_35 : (Cond.initialized R_J) ∈ wsA := List.mem_filter.mpr ⟨List.mem_of_getElem? (i := 35) (by decide +kernel), rfl⟩
theorem wA_36 : (Cond.initialized R_Ar) ∈ wsA := List.mem_filter.mpr ⟨List.mem_of_getElem? (i := 36) (by decide +kernel), rfl⟩
theorem wA_37 : (Cond.initialized R_Sp) ∈ wsA := List.mem_filter.mpr ⟨List.mem_of_getElem? (i := 37) (by decide +kernel), rfl⟩
theorem wA_38 : (Cond.initialized R_St) ∈ wsA := List.mem_filter.mpr ⟨List.mem_of_getElem? (i := 38) (by decide +kernel), rfl⟩
theorem wA_39 : (Cond.initialized R_Ac) ∈ wsA := List.mem_filter.mpr ⟨List.mem_of_getElem? (i := 39) (by decide +kernel), rfl⟩
theorem wA_41 : (Cond.initialized "java/lang/Math") ∈ wsA := List.mem_filter.mpr ⟨List.mem_of_getElem? (i := 41) (by decide +kernel), rfl⟩
theorem wA_42 : (Cond.initialized "java/lang/System") ∈ wsA := List.mem_filter.mpr ⟨List.mem_of_getElem? (i := 42) (by decide +kernel), rfl⟩
theorem wA_63 : (Cond.fieldLink R_Ri 9 "TimedWays$Rides" "count" "I") ∈ wsA := List.mem_filter.mpr ⟨List.mem_of_getElem? (i := 63) (by decide +kernel), rfl⟩
theorem wA_64 : (Cond.fieldLink R_T 51 "TimedWays$Rides" "count" "I") ∈ wsA := List.mem_filter.mpr ⟨List.mem_of_getElem? (i := 64) (by decide +kernel), rfl⟩
theorem wA_65 : (Cond.fieldLink R_Ne 40 "TimedWays$Rides" "count" "I") ∈ wsA := List.mem_filter.mpr ⟨List.mem_of_getElem? (i := 65) (by decide +kernel), rfl⟩
theorem wA_66 : (Cond.fieldLink R_Ar 105 "TimedWays$Rides" "count" "I") ∈ wsA := List.mem_filter.mpr ⟨List.mem_of_getElem? (i := 66) (by decide +kernel), rfl⟩
theorem wA_67 : (Cond.fieldLink R_Ri 15 "TimedWays$Rides" "from" "[I") ∈ wsA := List.mem_filter.mpr ⟨List.mem_of_getElem? (i := 67) (by decide +kernel), rfl⟩
theorem wA_68 : (Cond.fieldLink R_Ac 80 "TimedWays$Rides" "from" "[I") ∈ wsA := List.mem_filter.mpr ⟨List.mem_of_getElem? (i := 68) (by decide +kernel), rfl⟩
theorem wA_69 : (Cond.fieldLink R_Sp 73 "TimedWays$Rides" "from" "[I") ∈ wsA := List.mem_filter.mpr ⟨List.mem_of_getElem? (i := 69) (by decide +kernel), rfl⟩
theorem wA_70 : (Cond.fieldLink R_Bo 39 "TimedWays$Rides" "from" "[I") ∈ wsA := List.mem_filter.mpr ⟨List.mem_of_getElem? (i := 70) (by decide +kernel), rfl⟩
theorem wA_71 : (Cond.fieldLink R_Ar 71 "TimedWays$Rides" "from" "[I") ∈ wsA := List.mem_filter.mpr ⟨List.mem_of_getElem? (i := 71) (by decide +kernel), rfl⟩
theorem wA_72 : (Cond.fieldLink R_T 192 "TimedWays$Rides" "from" "[I") ∈ wsA := List.mem_filter.mpr ⟨List.mem_of_getElem? (i := 72) (by decide +kernel), rfl⟩
theorem wA_73 : (Cond.fieldLink R_Ri 19 "TimedWays$Rides" "to" "[I") ∈ wsA := List.mem_filter.mpr ⟨List.mem_of_getElem? (i := 73) (by decide +kernel), rfl⟩
theorem wA_74 : (Cond.fieldLink R_Sp 82 "TimedWays$Rides" "to" "[I") ∈ wsA := List.mem_filter.mpr ⟨List.mem_of_getElem? (i := 74) (by decide +kernel), rfl⟩
theorem wA_75 : (Cond.fieldLink R_Ar 80 "TimedWays$Rides" "to" "[I") ∈ wsA := List.mem_filter.mpr ⟨List.mem_of_getElem? (i := 75) (by decide +kernel), rfl⟩
theorem wA_76 : (Cond.fieldLink R_T 195 "TimedWays$Rides" "to" "[I") ∈ wsA := List.mem_filter.mpr ⟨List.mem_of_getElem? (i := 76) (by decide +kernel), rfl⟩
theorem wA_77 : (Cond.fieldLink R_Ri 22 "TimedWays$Rides" "minute" "[I") ∈ wsA := List.mem_filter.mpr ⟨List.mem_of_getElem? (i := 77) (by decide +kernel), rfl⟩
theorem wA_78 : (Cond.fieldLink R_T 198 "TimedWays$Rides" "minute" "[I") ∈ wsA := List.mem_filter.mpr ⟨List.mem_of_getElem? (i := 78) (by decide +kernel), rfl⟩
theorem wA_79 : (Cond.fieldLink R_Ri 25 "TimedWays$Rides" "takes" "[I") ∈ wsA := List.mem_filter.mpr ⟨List.mem_of_getElem? (i := 79) (by decide +kernel), rfl⟩
theorem wA_80 : (Cond.fieldLink R_Ac 79 "TimedWays$Rides" "takes" "[I") ∈ wsA := List.mem_filter.mpr ⟨List.mem_of_getElem? (i := 80) (by decide +kernel), rfl⟩
theorem wA_81 : (Cond.fieldLink R_Sp 85 "TimedWays$Rides" "takes" "[I") ∈ wsA := List.mem_filter.mpr ⟨List.mem_of_getElem? (i := 81) (by decide +kernel), rfl⟩
theorem wA_82 : (Cond.fieldLink R_Ar 83 "TimedWays$Rides" "takes" "[I") ∈ wsA := List.mem_filter.mpr ⟨List.mem_of_getElem? (i := 82) (by decide +kernel), rfl⟩
theorem wA_83 : (Cond.fieldLink R_T 201 "TimedWays$Rides" "takes" "[I") ∈ wsA := List.mem_filter.mpr ⟨List.mem_of_getElem? (i := 83) (by decide +kernel), rfl⟩
theorem wA_84 : (Cond.fieldLink R_Ri 28 "TimedWays$Rides" "days" "[I") ∈ wsA := List.mem_filter.mpr ⟨List.mem_of_getElem? (i := 84) (by decide +kernel), rfl⟩
theorem wA_85 : (Cond.fieldLink R_T 204 "TimedWays$Rides" "days" "[I") ∈ wsA := List.mem_filter.mpr ⟨List.mem_of_getElem? (i := 85) (by decide +kernel), rfl⟩
theorem wA_86 : (Cond.fieldLink R_Ri 31 "TimedWays$Rides" "lateness" "[I") ∈ wsA := List.mem_filter.mpr ⟨List.mem_of_getElem? (i := 86) (by decide +kernel), rfl⟩
theorem wA_87 : (Cond.fieldLink R_T 111 "TimedWays$Rides" "lateness" "[I") ∈ wsA := List.mem_filter.mpr ⟨List.mem_of_getElem? (i := 87) (by decide +kernel), rfl⟩
theorem wA_88 : (Cond.fieldLink R_Bo 45 "TimedWays$Rides" "lateness" "[I") ∈ wsA := List.mem_filter.mpr ⟨List.mem_of_getElem? (i := 88) (by decide +kernel), rfl⟩
theorem wA_111 : (Cond.fieldLink R_Bo 9 "TimedWays$Board" "count" "I") ∈ wsA := List.mem_filter.mpr ⟨List.mem_of_getElem? (i := 111) (by decide +kernel), rfl⟩
theorem wA_112 : (Cond.fieldLink R_Sp 31 "TimedWays$Board" "count" "I") ∈ wsA := List.mem_filter.mpr ⟨List.mem_of_getElem? (i := 112) (by decide +kernel), rfl⟩
theorem wA_113 : (Cond.fieldLink R_Ne 43 "TimedWays$Board" "count" "I") ∈ wsA := List.mem_filter.mpr ⟨List.mem_of_getElem? (i := 113) (by decide +kernel), rfl⟩
theorem wA_114 : (Cond.fieldLink R_Ar 54 "TimedWays$Board" "count" "I") ∈ wsA := List.mem_filter.mpr ⟨List.mem_of_getElem? (i := 114) (by decide +kernel), rfl⟩
theorem wA_115 : (Cond.fieldLink R_T 208 "TimedWays$Board" "count" "I") ∈ wsA := List.mem_filter.mpr ⟨List.mem_of_getElem? (i := 115) (by decide +kernel), rfl⟩
theorem wA_116 : (Cond.fieldLink R_Bo 15 "TimedWays$Board" "departures" "[I") ∈ wsA := List.mem_filter.mpr ⟨List.mem_of_getElem? (i := 116) (by decide +kernel), rfl⟩
theorem wA_117 : (Cond.fieldLink R_Bo 19 "TimedWays$Board" "leaves" "[I") ∈ wsA := List.mem_filter.mpr ⟨List.mem_of_getElem? (i := 117) (by decide +kernel), rfl⟩
theorem wA_118 : (Cond.fieldLink R_Sp 37 "TimedWays$Board" "leaves" "[I") ∈ wsA := List.mem_filter.mpr ⟨List.mem_of_getElem? (i := 118) (by decide +kernel), rfl⟩
theorem wA_119 : (Cond.fieldLink R_Ar 64 "TimedWays$Board" "leaves" "[I") ∈ wsA := List.mem_filter.mpr ⟨List.mem_of_getElem? (i := 119) (by decide +kernel), rfl⟩
theorem wA_133 : (Cond.constant R_Wa 28 1000000) ∈ wsA := List.mem_filter.mpr ⟨List.mem_of_getElem? (i := 133) (by decide +kernel), rfl⟩
theorem wA_134 : (Cond.methodLink R_Wa 29 y_J_fill) ∈ wsA := List.mem_filter.mpr ⟨List.mem_of_getElem? (i := 134) (by decide +kernel), rfl⟩
theorem wA_135 : (Cond.static y_J_fill) ∈ wsA := List.mem_filter.mpr ⟨List.mem_of_getElem? (i := 135) (by decide +kernel), rfl⟩
set_option maxRecDepth 20000 in
theorem wA_136 : (Cond.code y_J_fill b_J_fill 4 none) ∈ wsA := List.mem_filter.mpr ⟨List.mem_of_getElem? (i := 136) rfl, rfl⟩
theorem wA_137 : (Cond.fieldLink R_Wa 9 "TimedWays$Walks" "count" "I") ∈ wsA := List.mem_filter.mpr ⟨List.mem_of_getElem? (i := 137) (by decide +kernel), rfl⟩
theorem wA_138 : (Cond.fieldLink R_T 99 "TimedWays$Walks" "count" "I") ∈ wsA := List.mem_filter.mpr ⟨List.mem_of_getElem? (i := 138) (by decide +kernel), rfl⟩
theorem wA_139 : (Cond.fieldLink R_Ar 98 "TimedWays$Walks" "count" "I") ∈ wsA := List.mem_filter.mpr ⟨List.mem_of_getElem? (i := 139) (by decide +kernel), rfl⟩
theorem wA_140 : (Cond.fieldLink R_Wa 15 "TimedWays$Walks" "from" "[I") ∈ wsA := List.mem_filter.mpr ⟨List.mem_of_getElem? (i := 140) (by decide +kernel), rfl⟩
theorem wA_141 : (Cond.fieldLink R_Ac 55 "TimedWays$Walks" "from" "[I") ∈ wsA := List.mem_filter.mpr ⟨List.mem_of_getElem? (i := 141) (by decide +kernel), rfl⟩
theorem wA_142 : (Cond.fieldLink R_Ar 99 "TimedWays$Walks" "from" "[I") ∈ wsA := List.mem_filter.mpr ⟨List.mem_of_getElem? (i := 142) (by decide +kernel), rfl⟩
theorem wA_143 : (Cond.fieldLink R_Wa 19 "TimedWays$Walks" "to" "[I") ∈ wsA := List.mem_filter.mpr ⟨List.mem_of_getElem? (i := 143) (by decide +kernel), rfl⟩
theorem wA_144 : (Cond.fieldLink R_Ar 104 "TimedWays$Walks" "to" "[I") ∈ wsA := List.mem_filter.mpr ⟨List.mem_of_getElem? (i := 144) (by decide +kernel), rfl⟩
theorem wA_145 : (Cond.fieldLink R_Wa 22 "TimedWays$Walks" "takes" "[I") ∈ wsA := List.mem_filter.mpr ⟨List.mem_of_getElem? (i := 145) (by decide +kernel), rfl⟩
theorem wA_146 : (Cond.fieldLink R_Ac 60 "TimedWays$Walks" "takes" "[I") ∈ wsA := List.mem_filter.mpr ⟨List.mem_of_getElem? (i := 146) (by decide +kernel), rfl⟩
theorem wA_147 : (Cond.fieldLink R_Ar 103 "TimedWays$Walks" "takes" "[I") ∈ wsA := List.mem_filter.mpr ⟨List.mem_of_getElem? (i := 147) (by decide +kernel), rfl⟩
theorem wA_148 : (Cond.fieldLink R_Wa 25 "TimedWays$Walks" "shortest" "[I") ∈ wsA := List.mem_filter.mpr ⟨List.mem_of_getElem? (i := 148) (by decide +kernel), rfl⟩
theorem wA_160 : (Cond.fieldLink R_Ne 9 "TimedWays$Network" "stopCount" "I") ∈ wsA := List.mem_filter.mpr ⟨List.mem_of_getElem? (i := 160) (by decide +kernel), rfl⟩
theorem wA_161 : (Cond.fieldLink R_T 66 "TimedWays$Network" "stopCount" "I") ∈ wsA := List.mem_filter.mpr ⟨List.mem_of_getElem? (i := 161) (by decide +kernel), rfl⟩
theorem wA_162 : (Cond.fieldLink R_Ar 92 "TimedWays$Network" "stopCount" "I") ∈ wsA := List.mem_filter.mpr ⟨List.mem_of_getElem? (i := 162) (by decide +kernel), rfl⟩
theorem wA_163 : (Cond.fieldLink R_Ne 15 "TimedWays$Network" "changes" "[I") ∈ wsA := List.mem_filter.mpr ⟨List.mem_of_getElem? (i := 163) (by decide +kernel), rfl⟩
theorem wA_164 : (Cond.fieldLink R_T 69 "TimedWays$Network" "changes" "[I") ∈ wsA := List.mem_filter.mpr ⟨List.mem_of_getElem? (i := 164) (by decide +kernel), rfl⟩
theorem wA_165 : (Cond.fieldLink R_Ar 89 "TimedWays$Network" "changes" "[I") ∈ wsA := List.mem_filter.mpr ⟨List.mem_of_getElem? (i := 165) (by decide +kernel), rfl⟩
theorem wA_166 : (Cond.fieldLink R_Ne 22 "TimedWays$Network" "rides" "LTimedWays$Rides;") ∈ wsA := List.mem_filter.mpr ⟨List.mem_of_getElem? (i := 166) (by decide +kernel), rfl⟩
theorem wA_167 : (Cond.fieldLink R_T 47 "TimedWays$Network" "rides" "LTimedWays$Rides;") ∈ wsA := List.mem_filter.mpr ⟨List.mem_of_getElem? (i := 167) (by decide +kernel), rfl⟩
theorem wA_168 : (Cond.fieldLink R_Ac 70 "TimedWays$Network" "rides" "LTimedWays$Rides;") ∈ wsA := List.mem_filter.mpr ⟨List.mem_of_getElem? (i := 168) (by decide +kernel), rfl⟩
theorem wA_169 : (Cond.fieldLink R_Sp 69 "TimedWays$Network" "rides" "LTimedWays$Rides;") ∈ wsA := List.mem_filter.mpr ⟨List.mem_of_getElem? (i := 169) (by decide +kernel), rfl⟩
theorem wA_170 : (Cond.fieldLink R_Ar 67 "TimedWays$Network" "rides" "LTimedWays$Rides;") ∈ wsA := List.mem_filter.mpr ⟨List.mem_of_getElem? (i := 170) (by decide +kernel), rfl⟩
theorem wA_171 : (Cond.fieldLink R_Ne 29 "TimedWays$Network" "board" "LTimedWays$Board;") ∈ wsA := List.mem_filter.mpr ⟨List.mem_of_getElem? (i := 171) (by decide +kernel), rfl⟩
theorem wA_172 : (Cond.fieldLink R_Sp 25 "TimedWays$Network" "board" "LTimedWays$Board;") ∈ wsA := List.mem_filter.mpr ⟨List.mem_of_getElem? (i := 172) (by decide +kernel), rfl⟩
theorem wA_173 : (Cond.fieldLink R_T 85 "TimedWays$Network" "board" "LTimedWays$Board;") ∈ wsA := List.mem_filter.mpr ⟨List.mem_of_getElem? (i := 173) (by decide +kernel), rfl⟩
theorem wA_174 : (Cond.fieldLink R_Ar 50 "TimedWays$Network" "board" "LTimedWays$Board;") ∈ wsA := List.mem_filter.mpr ⟨List.mem_of_getElem? (i := 174) (by decide +kernel), rfl⟩
theorem wA_175 : (Cond.fieldLink R_Ne 36 "TimedWays$Network" "walks" "LTimedWays$Walks;") ∈ wsA := List.mem_filter.mpr ⟨List.mem_of_getElem? (i := 175) (by decide +kernel), rfl⟩
theorem wA_176 : (Cond.fieldLink R_Sp 53 "TimedWays$Network" "walks" "LTimedWays$Walks;") ∈ wsA := List.mem_filter.mpr ⟨List.mem_of_getElem? (i := 176) (by decide +kernel), rfl⟩
theorem wA_177 : (Cond.fieldLink R_Ac 49 "TimedWays$Network" "walks" "LTimedWays$Walks;") ∈ wsA := List.mem_filter.mpr ⟨List.mem_of_getElem? (i := 177) (by decide +kernel), rfl⟩
theorem wA_178 : (Cond.fieldLink R_Ar 31 "TimedWays$Network" "walks" "LTimedWays$Walks;") ∈ wsA := List.mem_filter.mpr ⟨List.mem_of_getElem? (i := 178) (by decide +kernel), rfl⟩
theorem wA_179 : (Cond.fieldLink R_T 95 "TimedWays$Network" "walks" "LTimedWays$Walks;") ∈ wsA := List.mem_filter.mpr ⟨List.mem_of_getElem? (i := 179) (by decide +kernel), rfl⟩
theorem wA_197 : (Cond.fieldLink R_Ar 9 "TimedWays$Arrivals" "byRide" "[I") ∈ wsA := List.mem_filter.mpr ⟨List.mem_of_getElem? (i := 197) (by decide +kernel), rfl⟩
theorem wA_198 : (Cond.fieldLink R_Ar 15 "TimedWays$Arrivals" "byWalk" "[I") ∈ wsA := List.mem_filter.mpr ⟨List.mem_of_getElem? (i := 198) (by decide +kernel), rfl⟩
theorem wA_210 : (Cond.fieldLink R_Sp 9 "TimedWays$Span" "onward" "[I") ∈ wsA := List.mem_filter.mpr ⟨List.mem_of_getElem? (i := 210) (by decide +kernel), rfl⟩
theorem wA_211 : (Cond.fieldLink R_Sp 15 "TimedWays$Span" "ends" "[I") ∈ wsA := List.mem_filter.mpr ⟨List.mem_of_getElem? (i := 211) (by decide +kernel), rfl⟩
theorem wA_212 : (Cond.fieldLink R_St 22 "TimedWays$Span" "ends" "[I") ∈ wsA := List.mem_filter.mpr ⟨List.mem_of_getElem? (i := 212) (by decide +kernel), rfl⟩
theorem wA_224 : (Cond.fieldLink R_St 9 "TimedWays$Steps" "count" "I") ∈ wsA := List.mem_filter.mpr ⟨List.mem_of_getElem? (i := 224) (by decide +kernel), rfl⟩
theorem wA_225 : (Cond.fieldLink R_T 60 "TimedWays$Steps" "count" "I") ∈ wsA := List.mem_filter.mpr ⟨List.mem_of_getElem? (i := 225) (by decide +kernel), rfl⟩
theorem wA_226 : (Cond.fieldLink R_St 15 "TimedWays$Steps" "times" "[I") ∈ wsA := List.mem_filter.mpr ⟨List.mem_of_getElem? (i := 226) (by decide +kernel), rfl⟩
theorem wA_227 : (Cond.fieldLink R_T 167 "TimedWays$Steps" "times" "[I") ∈ wsA := List.mem_filter.mpr ⟨List.mem_of_getElem? (i := 227) (by decide +kernel), rfl⟩
theorem wA_228 : (Cond.fieldLink R_St 19 "TimedWays$Steps" "ends" "[I") ∈ wsA := List.mem_filter.mpr ⟨List.mem_of_getElem? (i := 228) (by decide +kernel), rfl⟩
theorem wA_229 : (Cond.fieldLink R_T 170 "TimedWays$Steps" "ends" "[I") ∈ wsA := List.mem_filter.mpr ⟨List.mem_of_getElem? (i := 229) (by decide +kernel), rfl⟩
theorem wA_243 : (Cond.fieldLink R_Ac 9 "TimedWays$Acts" "count" "I") ∈ wsA := List.mem_filter.mpr ⟨List.mem_of_getElem? (i := 243) (by decide +kernel), rfl⟩
theorem wA_244 : (Cond.fieldLink R_T 61 "TimedWays$Acts" "count" "I") ∈ wsA := List.mem_filter.mpr ⟨List.mem_of_getElem? (i := 244) (by decide +kernel), rfl⟩
theorem wA_245 : (Cond.fieldLink R_Ac 15 "TimedWays$Acts" "numbers" "[I") ∈ wsA := List.mem_filter.mpr ⟨List.mem_of_getElem? (i := 245) (by decide +kernel), rfl⟩
theorem wA_246 : (Cond.fieldLink R_T 181 "TimedWays$Acts" "numbers" "[I") ∈ wsA := List.mem_filter.mpr ⟨List.mem_of_getElem? (i := 246) (by decide +kernel), rfl⟩
theorem wA_247 : (Cond.fieldLink R_Ac 19 "TimedWays$Acts" "days" "[I") ∈ wsA := List.mem_filter.mpr ⟨List.mem_of_getElem? (i := 247) (by decide +kernel), rfl⟩
theorem wA_248 : (Cond.fieldLink R_T 178 "TimedWays$Acts" "days" "[I") ∈ wsA := List.mem_filter.mpr ⟨List.mem_of_getElem? (i := 248) (by decide +kernel), rfl⟩
theorem wA_249 : (Cond.fieldLink R_Ac 22 "TimedWays$Acts" "begins" "[I") ∈ wsA := List.mem_filter.mpr ⟨List.mem_of_getElem? (i := 249) (by decide +kernel), rfl⟩
theorem wA_250 : (Cond.fieldLink R_T 184 "TimedWays$Acts" "begins" "[I") ∈ wsA := List.mem_filter.mpr ⟨List.mem_of_getElem? (i := 250) (by decide +kernel), rfl⟩
theorem wA_251 : (Cond.fieldLink R_Ac 25 "TimedWays$Acts" "ends" "[I") ∈ wsA := List.mem_filter.mpr ⟨List.mem_of_getElem? (i := 251) (by decide +kernel), rfl⟩
theorem wA_252 : (Cond.fieldLink R_T 187 "TimedWays$Acts" "ends" "[I") ∈ wsA := List.mem_filter.mpr ⟨List.mem_of_getElem? (i := 252) (by decide +kernel), rfl⟩
theorem wA_264 : (Cond.fieldLink R_T 12 "TimedWays" "net" "LTimedWays$Network;") ∈ wsA := List.mem_filter.mpr ⟨List.mem_of_getElem? (i := 264) (by decide +kernel), rfl⟩
theorem wA_265 : (Cond.fieldLink R_T 19 "TimedWays" "arrivals" "LTimedWays$Arrivals;") ∈ wsA := List.mem_filter.mpr ⟨List.mem_of_getElem? (i := 265) (by decide +kernel), rfl⟩
theorem wA_266 : (Cond.fieldLink R_T 23 "TimedWays" "before" "LTimedWays$Arrivals;") ∈ wsA := List.mem_filter.mpr ⟨List.mem_of_getElem? (i := 266) (by decide +kernel), rfl⟩
theorem wA_267 : (Cond.fieldLink R_T 29 "TimedWays" "span" "LTimedWays$Span;") ∈ wsA := List.mem_filter.mpr ⟨List.mem_of_getElem? (i := 267) (by decide +kernel), rfl⟩
theorem wA_268 : (Cond.fieldLink R_T 36 "TimedWays" "steps" "LTimedWays$Steps;") ∈ wsA := List.mem_filter.mpr ⟨List.mem_of_getElem? (i := 268) (by decide +kernel), rfl⟩
theorem wA_269 : (Cond.fieldLink R_T 43 "TimedWays" "acts" "LTimedWays$Acts;") ∈ wsA := List.mem_filter.mpr ⟨List.mem_of_getElem? (i := 269) (by decide +kernel), rfl⟩
theorem wA_287 : (Cond.methodLink R_T 57 y_Ne_empty) ∈ wsA := List.mem_filter.mpr ⟨List.mem_of_getElem? (i := 287) (by decide +kernel), rfl⟩
theorem wA_288 : (Cond.instanceMethod y_Ne_empty) ∈ wsA := List.mem_filter.mpr ⟨List.mem_of_getElem? (i := 288) (by decide +kernel), rfl⟩
theorem wA_289 : (Cond.selects R_Ne y_Ne_empty y_Ne_empty) ∈ wsA := List.mem_filter.mpr ⟨List.mem_of_getElem? (i := 289) (by decide +kernel), rfl⟩
set_option maxRecDepth 20000 in
theorem wA_290 : (Cond.code y_Ne_empty b_Ne_empty 1 none) ∈ wsA := List.mem_filter.mpr ⟨List.mem_of_getElem? (i := 290) rfl, rfl⟩
theorem wA_291 : (Cond.methodLink R_Ne 44 y_Wa_empty) ∈ wsA := List.mem_filter.mpr ⟨List.mem_of_getElem? (i := 291) (by decide +kernel), rfl⟩
theorem wA_292 : (Cond.instanceMethod y_Wa_empty) ∈ wsA := List.mem_filter.mpr ⟨List.mem_of_getElem? (i := 292) (by decide +kernel), rfl⟩
theorem wA_293 : (Cond.selects R_Wa y_Wa_empty y_Wa_empty) ∈ wsA := List.mem_filter.mpr ⟨List.mem_of_getElem? (i := 293) (by decide +kernel), rfl⟩
set_option maxRecDepth 20000 in
theorem wA_294 : (Cond.code y_Wa_empty b_Wa_empty 1 none) ∈ wsA := List.mem_filter.mpr ⟨List.mem_of_getElem? (i := 294) rfl, rfl⟩
theorem wA_299 : (Cond.methodLink R_T 62 y_T_within) ∈ wsA := List.mem_filter.mpr ⟨List.mem_of_getElem? (i := 299) (by decide +kernel), rfl⟩
theorem wA_300 : (Cond.static y_T_within) ∈ wsA := List.mem_filter.mpr ⟨List.mem_of_getElem? (i := 300) (by decide +kernel), rfl⟩
set_option maxRecDepth 20000 in
theorem wA_301 : (Cond.code y_T_within b_T_within 3 (some .boolean)) ∈ wsA := List.mem_filter.mpr ⟨List.mem_of_getElem? (i := 301) rfl, rfl⟩
theorem wA_306 : (Cond.methodLink R_T 73 y_Ne_hasStop) ∈ wsA := List.mem_filter.mpr ⟨List.mem_of_getElem? (i := 306) (by decide +kernel), rfl⟩
theorem wA_307 : (Cond.instanceMethod y_Ne_hasStop) ∈ wsA := List.mem_filter.mpr ⟨List.mem_of_getElem? (i := 307) (by decide +kernel), rfl⟩
theorem wA_308 : (Cond.selects R_Ne y_Ne_hasStop y_Ne_hasStop) ∈ wsA := List.mem_filter.mpr ⟨List.mem_of_getElem? (i := 308) (by decide +kernel), rfl⟩
set_option maxRecDepth 20000 in
theorem wA_309 : (Cond.code y_Ne_hasStop b_Ne_hasStop 2 (some .boolean)) ∈ wsA := List.mem_filter.mpr ⟨List.mem_of_getElem? (i := 309) rfl, rfl⟩
theorem wA_315 : (Cond.methodLink R_T 77 y_Ne_hasStops) ∈ wsA := List.mem_filter.mpr ⟨List.mem_of_getElem? (i := 315) (by decide +kernel), rfl⟩
theorem wA_316 : (Cond.instanceMethod y_Ne_hasStops) ∈ wsA := List.mem_filter.mpr ⟨List.mem_of_getElem? (i := 316) (by decide +kernel), rfl⟩
theorem wA_317 : (Cond.selects R_Ne y_Ne_hasStops y_Ne_hasStops) ∈ wsA := List.mem_filter.mpr ⟨List.mem_of_getElem? (i := 317) (by decide +kernel), rfl⟩
set_option maxRecDepth 20000 in
theorem wA_318 : (Cond.code y_Ne_hasStops b_Ne_hasStops 3 (some .boolean)) ∈ wsA := List.mem_filter.mpr ⟨List.mem_of_getElem? (i := 318) rfl, rfl⟩
theorem wA_319 : (Cond.methodLink R_Ne 51 y_Ne_hasStop) ∈ wsA := List.mem_filter.mpr ⟨List.mem_of_getElem? (i := 319) (by decide +kernel), rfl⟩
theorem wA_320 : (Cond.methodLink R_T 81 y_Ri_add) ∈ wsA := List.mem_filter.mpr ⟨List.mem_of_getElem? (i := 320) (by decide +kernel), rfl⟩
theorem wA_321 : (Cond.instanceMethod y_Ri_add) ∈ wsA := List.mem_filter.mpr ⟨List.mem_of_getElem? (i := 321) (by decide +kernel), rfl⟩
theorem wA_322 : (Cond.selects R_Ri y_Ri_add y_Ri_add) ∈ wsA := List.mem_filter.mpr ⟨List.mem_of_getElem? (i := 322) (by decide +kernel), rfl⟩
set_option maxRecDepth 20000 in
theorem wA_323 : (Cond.code y_Ri_add b_Ri_add 8 (some .int)) ∈ wsA := List.mem_filter.mpr ⟨List.mem_of_getElem? (i := 323) rfl, rfl⟩
theorem wA_324 : (Cond.methodLink R_Ri 38 y_Ri_isOnDay) ∈ wsA := List.mem_filter.mpr ⟨List.mem_of_getElem? (i := 324) (by decide +kernel), rfl⟩
theorem wA_325 : (Cond.instanceMethod y_Ri_isOnDay) ∈ wsA := List.mem_filter.mpr ⟨List.mem_of_getElem? (i := 325) (by decide +kernel), rfl⟩
theorem wA_326 : (Cond.selects R_Ri y_Ri_isOnDay y_Ri_isOnDay) ∈ wsA := List.mem_filter.mpr ⟨List.mem_of_getElem? (i := 326) (by decide +kernel), rfl⟩
set_option maxRecDepth 20000 in
theorem wA_327 : (Cond.code y_Ri_isOnDay b_Ri_isOnDay 3 (some .boolean)) ∈ wsA := List.mem_filter.mpr ⟨List.mem_of_getElem? (i := 327) rfl, rfl⟩
theorem wA_328 : (Cond.methodLink R_T 89 y_Bo_putRide) ∈ wsA := List.mem_filter.mpr ⟨List.mem_of_getElem? (i := 328) (by decide +kernel), rfl⟩
theorem wA_329 : (Cond.instanceMethod y_Bo_putRide) ∈ wsA := List.mem_filter.mpr ⟨List.mem_of_getElem? (i := 329) (by decide +kernel), rfl⟩
theorem wA_330 : (Cond.selects R_Bo y_Bo_putRide y_Bo_putRide) ∈ wsA := List.mem_filter.mpr ⟨List.mem_of_getElem? (i := 330) (by decide +kernel), rfl⟩
set_option maxRecDepth 20000 in
theorem wA_331 : (Cond.code y_Bo_putRide b_Bo_putRide 4 none) ∈ wsA := List.mem_filter.mpr ⟨List.mem_of_getElem? (i := 331) rfl, rfl⟩
theorem wA_332 : (Cond.methodLink R_Bo 22 y_Bo_putIn) ∈ wsA := List.mem_filter.mpr ⟨List.mem_of_getElem? (i := 332) (by decide +kernel), rfl⟩
theorem wA_333 : (Cond.instanceMethod y_Bo_putIn) ∈ wsA := List.mem_filter.mpr ⟨List.mem_of_getElem? (i := 333) (by decide +kernel), rfl⟩
theorem wA_334 : (Cond.selects R_Bo y_Bo_putIn y_Bo_putIn) ∈ wsA := List.mem_filter.mpr ⟨List.mem_of_getElem? (i := 334) (by decide +kernel), rfl⟩
set_option maxRecDepth 20000 in
theorem wA_335 : (Cond.code y_Bo_putIn b_Bo_putIn 5 none) ∈ wsA := List.mem_filter.mpr ⟨List.mem_of_getElem? (i := 335) rfl, rfl⟩
theorem wA_336 : (Cond.methodLink R_Bo 26 y_Ri_goes) ∈ wsA := List.mem_filter.mpr ⟨List.mem_of_getElem? (i := 336) (by decide +kernel), rfl⟩
theorem wA_337 : (Cond.instanceMethod y_Ri_goes) ∈ wsA := List.mem_filter.mpr ⟨List.mem_of_getElem? (i := 337) (by decide +kernel), rfl⟩
theorem wA_338 : (Cond.selects R_Ri y_Ri_goes y_Ri_goes) ∈ wsA := List.mem_filter.mpr ⟨List.mem_of_getElem? (i := 338) (by decide +kernel), rfl⟩
set_option maxRecDepth 20000 in
theorem wA_339 : (Cond.code y_Ri_goes b_Ri_goes 2 (some .boolean)) ∈ wsA := List.mem_filter.mpr ⟨List.mem_of_getElem? (i := 339) rfl, rfl⟩
theorem wA_340 : (Cond.methodLink R_Bo 32 y_Ri_leaves) ∈ wsA := List.mem_filter.mpr ⟨List.mem_of_getElem? (i := 340) (by decide +kernel), rfl⟩
theorem wA_341 : (Cond.instanceMethod y_Ri_leaves) ∈ wsA := List.mem_filter.mpr ⟨List.mem_of_getElem? (i := 341) (by decide +kernel), rfl⟩
theorem wA_342 : (Cond.selects R_Ri y_Ri_leaves y_Ri_leaves) ∈ wsA := List.mem_filter.mpr ⟨List.mem_of_getElem? (i := 342) (by decide +kernel), rfl⟩
set_option maxRecDepth 20000 in
theorem wA_343 : (Cond.code y_Ri_leaves b_Ri_leaves 3 (some .int)) ∈ wsA := List.mem_filter.mpr ⟨List.mem_of_getElem? (i := 343) rfl, rfl⟩
theorem wA_344 : (Cond.methodLink R_Bo 35 y_Bo_isBehind) ∈ wsA := List.mem_filter.mpr ⟨List.mem_of_getElem? (i := 344) (by decide +kernel), rfl⟩
theorem wA_346 : (Cond.instanceMethod y_Bo_isBehind) ∈ wsA := List.mem_filter.mpr ⟨List.mem_of_getElem? (i := 346) (by decide +kernel), rfl⟩
set_option maxRecDepth 20000 in
theorem wA_347 : (Cond.code y_Bo_isBehind b_Bo_isBehind 4 (some .boolean)) ∈ wsA := List.mem_filter.mpr ⟨List.mem_of_getElem? (i := 347) rfl, rfl⟩
theorem wA_352 : (Cond.methodLink R_T 102 y_Wa_add) ∈ wsA := List.mem_filter.mpr ⟨List.mem_of_getElem? (i := 352) (by decide +kernel), rfl⟩
theorem wA_353 : (Cond.instanceMethod y_Wa_add) ∈ wsA := List.mem_filter.mpr ⟨List.mem_of_getElem? (i := 353) (by decide +kernel), rfl⟩
theorem wA_354 : (Cond.selects R_Wa y_Wa_add y_Wa_add) ∈ wsA := List.mem_filter.mpr ⟨List.mem_of_getElem? (i := 354) (by decide +kernel), rfl⟩
set_option maxRecDepth 20000 in
theorem wA_355 : (Cond.code y_Wa_add b_Wa_add 4 (some .int)) ∈ wsA := List.mem_filter.mpr ⟨List.mem_of_getElem? (i := 355) rfl, rfl⟩
theorem wA_356 : (Cond.methodLink R_Wa 35 y_Wa_shorten) ∈ wsA := List.mem_filter.mpr ⟨List.mem_of_getElem? (i := 356) (by decide +kernel), rfl⟩
theorem wA_358 : (Cond.instanceMethod y_Wa_shorten) ∈ wsA := List.mem_filter.mpr ⟨List.mem_of_getElem? (i := 358) (by decide +kernel), rfl⟩
set_option maxRecDepth 20000 in
theorem wA_359 : (Cond.code y_Wa_shorten b_Wa_shorten 8 none) ∈ wsA := List.mem_filter.mpr ⟨List.mem_of_getElem? (i := 359) rfl, rfl⟩
theorem wA_360 : (Cond.methodLink R_Wa 39 y_Wa_anyNumber) ∈ wsA := List.mem_filter.mpr ⟨List.mem_of_getElem? (i := 360) (by decide +kernel), rfl⟩
theorem wA_361 : (Cond.instanceMethod y_Wa_anyNumber) ∈ wsA := List.mem_filter.mpr ⟨List.mem_of_getElem? (i := 361) (by decide +kernel), rfl⟩
theorem wA_362 : (Cond.selects R_Wa y_Wa_anyNumber y_Wa_anyNumber) ∈ wsA := List.mem_filter.mpr ⟨List.mem_of_getElem? (i := 362) (by decide +kernel), rfl⟩
set_option maxRecDepth 20000 in
theorem wA_363 : (Cond.code y_Wa_anyNumber b_Wa_anyNumber 3 (some .int)) ∈ wsA := List.mem_filter.mpr ⟨List.mem_of_getElem? (i := 363) rfl, rfl⟩
theorem wA_364 : (Cond.methodLink R_Wa 48 y_Wa_atLeastOne) ∈ wsA := List.mem_filter.mpr ⟨List.mem_of_getElem? (i := 364) (by decide +kernel), rfl⟩
theorem wA_365 : (Cond.instanceMethod y_Wa_atLeastOne) ∈ wsA := List.mem_filter.mpr ⟨List.mem_of_getElem? (i := 365) (by decide +kernel), rfl⟩
theorem wA_366 : (Cond.selects R_Wa y_Wa_atLeastOne y_Wa_atLeastOne) ∈ wsA := List.mem_filter.mpr ⟨List.mem_of_getElem? (i := 366) (by decide +kernel), rfl⟩
set_option maxRecDepth 20000 in
theorem wA_367 : (Cond.code y_Wa_atLeastOne b_Wa_atLeastOne 3 (some .int)) ∈ wsA := List.mem_filter.mpr ⟨List.mem_of_getElem? (i := 367) rfl, rfl⟩
theorem wA_368 : (Cond.methodLink R_Wa 43 Lib.Math.min.name) ∈ wsA := List.mem_filter.mpr ⟨List.mem_of_getElem? (i := 368) (by decide +kernel), rfl⟩
theorem wA_369 : (Cond.static Lib.Math.min.name) ∈ wsA := List.mem_filter.mpr ⟨List.mem_of_getElem? (i := 369) (by decide +kernel), rfl⟩
set_option maxRecDepth 20000 in
theorem wA_370 : (Cond.code Lib.Math.min.name Lib.Math.min.code 2 (some .int)) ∈ wsA := List.mem_filter.mpr ⟨List.mem_of_getElem? (i := 370) rfl, rfl⟩
theorem wA_375 : (Cond.methodLink R_T 105 y_Ri_has) ∈ wsA := List.mem_filter.mpr ⟨List.mem_of_getElem? (i := 375) (by decide +kernel), rfl⟩
theorem wA_376 : (Cond.instanceMethod y_Ri_has) ∈ wsA := List.mem_filter.mpr ⟨List.mem_of_getElem? (i := 376) (by decide +kernel), rfl⟩
theorem wA_377 : (Cond.selects R_Ri y_Ri_has y_Ri_has) ∈ wsA := List.mem_filter.mpr ⟨List.mem_of_getElem? (i := 377) (by decide +kernel), rfl⟩
set_option maxRecDepth 20000 in
theorem wA_378 : (Cond.code y_Ri_has b_Ri_has 2 (some .boolean)) ∈ wsA := List.mem_filter.mpr ⟨List.mem_of_getElem? (i := 378) rfl, rfl⟩
theorem wA_380 : (Cond.methodLink R_T 108 y_Ri_isOnDay) ∈ wsA := List.mem_filter.mpr ⟨List.mem_of_getElem? (i := 380) (by decide +kernel), rfl⟩
theorem wA_381 : (Cond.methodLink R_T 114 y_Bo_takeOut) ∈ wsA := List.mem_filter.mpr ⟨List.mem_of_getElem? (i := 381) (by decide +kernel), rfl⟩
theorem wA_382 : (Cond.instanceMethod y_Bo_takeOut) ∈ wsA := List.mem_filter.mpr ⟨List.mem_of_getElem? (i := 382) (by decide +kernel), rfl⟩
theorem wA_383 : (Cond.selects R_Bo y_Bo_takeOut y_Bo_takeOut) ∈ wsA := List.mem_filter.mpr ⟨List.mem_of_getElem? (i := 383) (by decide +kernel), rfl⟩
set_option maxRecDepth 20000 in
theorem wA_384 : (Cond.code y_Bo_takeOut b_Bo_takeOut 4 none) ∈ wsA := List.mem_filter.mpr ⟨List.mem_of_getElem? (i := 384) rfl, rfl⟩
theorem wA_385 : (Cond.methodLink R_T 118 y_Bo_putIn) ∈ wsA := List.mem_filter.mpr ⟨List.mem_of_getElem? (i := 385) (by decide +kernel), rfl⟩
theorem wA_390 : (Cond.methodLink R_T 121 y_T_isTime) ∈ wsA := List.mem_filter.mpr ⟨List.mem_of_getElem? (i := 390) (by decide +kernel), rfl⟩
theorem wA_391 : (Cond.static y_T_isTime) ∈ wsA := List.mem_filter.mpr ⟨List.mem_of_getElem? (i := 391) (by decide +kernel), rfl⟩
set_option maxRecDepth 20000 in
theorem wA_392 : (Cond.code y_T_isTime b_T_isTime 1 (some .boolean)) ∈ wsA := List.mem_filter.mpr ⟨List.mem_of_getElem? (i := 392) rfl, rfl⟩
theorem wA_393 : (Cond.methodLink R_T 124 y_Ar_find) ∈ wsA := List.mem_filter.mpr ⟨List.mem_of_getElem? (i := 393) (by decide +kernel), rfl⟩
theorem wA_394 : (Cond.instanceMethod y_Ar_find) ∈ wsA := List.mem_filter.mpr ⟨List.mem_of_getElem? (i := 394) (by decide +kernel), rfl⟩
theorem wA_395 : (Cond.selects R_Ar y_Ar_find y_Ar_find) ∈ wsA := List.mem_filter.mpr ⟨List.mem_of_getElem? (i := 395) (by decide +kernel), rfl⟩
set_option maxRecDepth 20000 in
theorem wA_396 : (Cond.code y_Ar_find b_Ar_find 4 none) ∈ wsA := List.mem_filter.mpr ⟨List.mem_of_getElem? (i := 396) rfl, rfl⟩
theorem wA_397 : (Cond.methodLink R_Ar 42 y_Ar_begin) ∈ wsA := List.mem_filter.mpr ⟨List.mem_of_getElem? (i := 397) (by decide +kernel), rfl⟩
theorem wA_398 : (Cond.instanceMethod y_Ar_begin) ∈ wsA := List.mem_filter.mpr ⟨List.mem_of_getElem? (i := 398) (by decide +kernel), rfl⟩
theorem wA_399 : (Cond.selects R_Ar y_Ar_begin y_Ar_begin) ∈ wsA := List.mem_filter.mpr ⟨List.mem_of_getElem? (i := 399) (by decide +kernel), rfl⟩
set_option maxRecDepth 20000 in
theorem wA_400 : (Cond.code y_Ar_begin b_Ar_begin 5 none) ∈ wsA := List.mem_filter.mpr ⟨List.mem_of_getElem? (i := 400) rfl, rfl⟩
theorem wA_401 : (Cond.constant R_Ar 30 1000000) ∈ wsA := List.mem_filter.mpr ⟨List.mem_of_getElem? (i := 401) (by decide +kernel), rfl⟩
theorem wA_402 : (Cond.methodLink R_Ar 37 y_Wa_anyNumber) ∈ wsA := List.mem_filter.mpr ⟨List.mem_of_getElem? (i := 402) (by decide +kernel), rfl⟩
theorem wA_403 : (Cond.methodLink R_Ar 18 Lib.Math.min.name) ∈ wsA := List.mem_filter.mpr ⟨List.mem_of_getElem? (i := 403) (by decide +kernel), rfl⟩
theorem wA_404 : (Cond.methodLink R_Ar 46 y_Ar_addOneDeparture) ∈ wsA := List.mem_filter.mpr ⟨List.mem_of_getElem? (i := 404) (by decide +kernel), rfl⟩
theorem wA_405 : (Cond.instanceMethod y_Ar_addOneDeparture) ∈ wsA := List.mem_filter.mpr ⟨List.mem_of_getElem? (i := 405) (by decide +kernel), rfl⟩
theorem wA_406 : (Cond.selects R_Ar y_Ar_addOneDeparture y_Ar_addOneDeparture) ∈ wsA := List.mem_filter.mpr ⟨List.mem_of_getElem? (i := 406) (by decide +kernel), rfl⟩
set_option maxRecDepth 20000 in
theorem wA_407 : (Cond.code y_Ar_addOneDeparture b_Ar_addOneDeparture 6 none) ∈ wsA := List.mem_filter.mpr ⟨List.mem_of_getElem? (i := 407) rfl, rfl⟩
theorem wA_408 : (Cond.methodLink R_Ar 60 y_Bo_rideAt) ∈ wsA := List.mem_filter.mpr ⟨List.mem_of_getElem? (i := 408) (by decide +kernel), rfl⟩
theorem wA_409 : (Cond.instanceMethod y_Bo_rideAt) ∈ wsA := List.mem_filter.mpr ⟨List.mem_of_getElem? (i := 409) (by decide +kernel), rfl⟩
theorem wA_410 : (Cond.selects R_Bo y_Bo_rideAt y_Bo_rideAt) ∈ wsA := List.mem_filter.mpr ⟨List.mem_of_getElem? (i := 410) (by decide +kernel), rfl⟩
set_option maxRecDepth 20000 in
theorem wA_411 : (Cond.code y_Bo_rideAt b_Bo_rideAt 2 (some .int)) ∈ wsA := List.mem_filter.mpr ⟨List.mem_of_getElem? (i := 411) rfl, rfl⟩
theorem wA_412 : (Cond.methodLink R_Ar 76 y_Ar_mayTake) ∈ wsA := List.mem_filter.mpr ⟨List.mem_of_getElem? (i := 412) (by decide +kernel), rfl⟩
theorem wA_413 : (Cond.instanceMethod y_Ar_mayTake) ∈ wsA := List.mem_filter.mpr ⟨List.mem_of_getElem? (i := 413) (by decide +kernel), rfl⟩
theorem wA_414 : (Cond.selects R_Ar y_Ar_mayTake y_Ar_mayTake) ∈ wsA := List.mem_filter.mpr ⟨List.mem_of_getElem? (i := 414) (by decide +kernel), rfl⟩
set_option maxRecDepth 20000 in
theorem wA_415 : (Cond.code y_Ar_mayTake b_Ar_mayTake 4 (some .boolean)) ∈ wsA := List.mem_filter.mpr ⟨List.mem_of_getElem? (i := 415) rfl, rfl⟩
theorem wA_416 : (Cond.methodLink R_Ar 86 y_Ar_arrive) ∈ wsA := List.mem_filter.mpr ⟨List.mem_of_getElem? (i := 416) (by decide +kernel), rfl⟩
theorem wA_418 : (Cond.instanceMethod y_Ar_arrive) ∈ wsA := List.mem_filter.mpr ⟨List.mem_of_getElem? (i := 418) (by decide +kernel), rfl⟩
set_option maxRecDepth 20000 in
theorem wA_419 : (Cond.code y_Ar_arrive b_Ar_arrive 5 none) ∈ wsA := List.mem_filter.mpr ⟨List.mem_of_getElem? (i := 419) rfl, rfl⟩
theorem wA_420 : (Cond.methodLink R_Ar 95 y_Wa_atLeastOne) ∈ wsA := List.mem_filter.mpr ⟨List.mem_of_getElem? (i := 420) (by decide +kernel), rfl⟩
theorem wA_421 : (Cond.methodLink R_T 128 y_Ar_first) ∈ wsA := List.mem_filter.mpr ⟨List.mem_of_getElem? (i := 421) (by decide +kernel), rfl⟩
theorem wA_422 : (Cond.instanceMethod y_Ar_first) ∈ wsA := List.mem_filter.mpr ⟨List.mem_of_getElem? (i := 422) (by decide +kernel), rfl⟩
theorem wA_423 : (Cond.selects R_Ar y_Ar_first y_Ar_first) ∈ wsA := List.mem_filter.mpr ⟨List.mem_of_getElem? (i := 423) (by decide +kernel), rfl⟩
set_option maxRecDepth 20000 in
theorem wA_424 : (Cond.code y_Ar_first b_Ar_first 2 (some .int)) ∈ wsA := List.mem_filter.mpr ⟨List.mem_of_getElem? (i := 424) rfl, rfl⟩
theorem wA_425 : (Cond.methodLink R_T 132 y_T_orNone) ∈ wsA := List.mem_filter.mpr ⟨List.mem_of_getElem? (i := 425) (by decide +kernel), rfl⟩
theorem wA_426 : (Cond.static y_T_orNone) ∈ wsA := List.mem_filter.mpr ⟨List.mem_of_getElem? (i := 426) (by decide +kernel), rfl⟩
set_option maxRecDepth 20000 in
theorem wA_427 : (Cond.code y_T_orNone b_T_orNone 1 (some .int)) ∈ wsA := List.mem_filter.mpr ⟨List.mem_of_getElem? (i := 427) rfl, rfl⟩
theorem wA_428 : (Cond.constant R_T 173 1000000) ∈ wsA := List.mem_filter.mpr ⟨List.mem_of_getElem? (i := 428) (by decide +kernel), rfl⟩
theorem wA_433 : (Cond.methodLink R_T 135 y_T_isBy) ∈ wsA := List.mem_filter.mpr ⟨List.mem_of_getElem? (i := 433) (by decide +kernel), rfl⟩
theorem wA_434 : (Cond.static y_T_isBy) ∈ wsA := List.mem_filter.mpr ⟨List.mem_of_getElem? (i := 434) (by decide +kernel), rfl⟩
set_option maxRecDepth 20000 in
theorem wA_435 : (Cond.code y_T_isBy b_T_isBy 1 (some .boolean)) ∈ wsA := List.mem_filter.mpr ⟨List.mem_of_getElem? (i := 435) rfl, rfl⟩
theorem wA_436 : (Cond.methodLink R_T 138 y_Sp_latestBeginning) ∈ wsA := List.mem_filter.mpr ⟨List.mem_of_getElem? (i := 436) (by decide +kernel), rfl⟩
theorem wA_437 : (Cond.instanceMethod y_Sp_latestBeginning) ∈ wsA := List.mem_filter.mpr ⟨List.mem_of_getElem? (i := 437) (by decide +kernel), rfl⟩
theorem wA_438 : (Cond.selects R_Sp y_Sp_latestBeginning y_Sp_latestBeginning) ∈ wsA := List.mem_filter.mpr ⟨List.mem_of_getElem? (i := 438) (by decide +kernel), rfl⟩
set_option maxRecDepth 20000 in
theorem wA_439 : (Cond.code y_Sp_latestBeginning b_Sp_latestBeginning 7 (some .int)) ∈ wsA := List.mem_filter.mpr ⟨List.mem_of_getElem? (i := 439) rfl, rfl⟩
theorem wA_440 : (Cond.methodLink R_Sp 57 y_Wa_anyNumber) ∈ wsA := List.mem_filter.mpr ⟨List.mem_of_getElem? (i := 440) (by decide +kernel), rfl⟩
theorem wA_441 : (Cond.methodLink R_Sp 40 y_Sp_endOf) ∈ wsA := List.mem_filter.mpr ⟨List.mem_of_getElem? (i := 441) (by decide +kernel), rfl⟩
theorem wA_443 : (Cond.instanceMethod y_Sp_endOf) ∈ wsA := List.mem_filter.mpr ⟨List.mem_of_getElem? (i := 443) (by decide +kernel), rfl⟩
set_option maxRecDepth 20000 in
theorem wA_444 : (Cond.code y_Sp_endOf b_Sp_endOf 9 (some .int)) ∈ wsA := List.mem_filter.mpr ⟨List.mem_of_getElem? (i := 444) rfl, rfl⟩
theorem wA_445 : (Cond.methodLink R_Sp 78 y_Bo_rideAt) ∈ wsA := List.mem_filter.mpr ⟨List.mem_of_getElem? (i := 445) (by decide +kernel), rfl⟩
theorem wA_446 : (Cond.constant R_Sp 18 1000000) ∈ wsA := List.mem_filter.mpr ⟨List.mem_of_getElem? (i := 446) (by decide +kernel), rfl⟩
theorem wA_447 : (Cond.methodLink R_Sp 47 Lib.Math.min.name) ∈ wsA := List.mem_filter.mpr ⟨List.mem_of_getElem? (i := 447) (by decide +kernel), rfl⟩
theorem wA_448 : (Cond.methodLink R_Sp 88 y_Sp_mayFollow) ∈ wsA := List.mem_filter.mpr ⟨List.mem_of_getElem? (i := 448) (by decide +kernel), rfl⟩
theorem wA_449 : (Cond.static y_Sp_mayFollow) ∈ wsA := List.mem_filter.mpr ⟨List.mem_of_getElem? (i := 449) (by decide +kernel), rfl⟩
set_option maxRecDepth 20000 in
theorem wA_450 : (Cond.code y_Sp_mayFollow b_Sp_mayFollow 5 (some .boolean)) ∈ wsA := List.mem_filter.mpr ⟨List.mem_of_getElem? (i := 450) rfl, rfl⟩
theorem wA_451 : (Cond.methodLink R_Sp 92 y_Ne_gap) ∈ wsA := List.mem_filter.mpr ⟨List.mem_of_getElem? (i := 451) (by decide +kernel), rfl⟩
theorem wA_452 : (Cond.instanceMethod y_Ne_gap) ∈ wsA := List.mem_filter.mpr ⟨List.mem_of_getElem? (i := 452) (by decide +kernel), rfl⟩
theorem wA_453 : (Cond.selects R_Ne y_Ne_gap y_Ne_gap) ∈ wsA := List.mem_filter.mpr ⟨List.mem_of_getElem? (i := 453) (by decide +kernel), rfl⟩
set_option maxRecDepth 20000 in
theorem wA_454 : (Cond.code y_Ne_gap b_Ne_gap 4 (some .int)) ∈ wsA := List.mem_filter.mpr ⟨List.mem_of_getElem? (i := 454) rfl, rfl⟩
theorem wA_455 : (Cond.methodLink R_Ne 55 y_Wa_atLeastOne) ∈ wsA := List.mem_filter.mpr ⟨List.mem_of_getElem? (i := 455) (by decide +kernel), rfl⟩
theorem wA_456 : (Cond.methodLink R_Ne 59 Lib.Math.min.name) ∈ wsA := List.mem_filter.mpr ⟨List.mem_of_getElem? (i := 456) (by decide +kernel), rfl⟩
theorem wA_457 : (Cond.methodLink R_Sp 44 y_Sp_latestFor) ∈ wsA := List.mem_filter.mpr ⟨List.mem_of_getElem? (i := 457) (by decide +kernel), rfl⟩
theorem wA_458 : (Cond.static y_Sp_latestFor) ∈ wsA := List.mem_filter.mpr ⟨List.mem_of_getElem? (i := 458) (by decide +kernel), rfl⟩
set_option maxRecDepth 20000 in
theorem wA_459 : (Cond.code y_Sp_latestFor b_Sp_latestFor 4 (some .int)) ∈ wsA := List.mem_filter.mpr ⟨List.mem_of_getElem? (i := 459) rfl, rfl⟩
theorem wA_460 : (Cond.methodLink R_Sp 66 Lib.Math.max.name) ∈ wsA := List.mem_filter.mpr ⟨List.mem_of_getElem? (i := 460) (by decide +kernel), rfl⟩
theorem wA_461 : (Cond.static Lib.Math.max.name) ∈ wsA := List.mem_filter.mpr ⟨List.mem_of_getElem? (i := 461) (by decide +kernel), rfl⟩
set_option maxRecDepth 20000 in
theorem wA_462 : (Cond.code Lib.Math.max.name Lib.Math.max.code 2 (some .int)) ∈ wsA := List.mem_filter.mpr ⟨List.mem_of_getElem? (i := 462) rfl, rfl⟩
theorem wA_467 : (Cond.methodLink R_T 142 y_Ar_begin) ∈ wsA := List.mem_filter.mpr ⟨List.mem_of_getElem? (i := 467) (by decide +kernel), rfl⟩
theorem wA_468 : (Cond.methodLink R_T 145 y_Ar_copy) ∈ wsA := List.mem_filter.mpr ⟨List.mem_of_getElem? (i := 468) (by decide +kernel), rfl⟩
theorem wA_469 : (Cond.instanceMethod y_Ar_copy) ∈ wsA := List.mem_filter.mpr ⟨List.mem_of_getElem? (i := 469) (by decide +kernel), rfl⟩
theorem wA_470 : (Cond.selects R_Ar y_Ar_copy y_Ar_copy) ∈ wsA := List.mem_filter.mpr ⟨List.mem_of_getElem? (i := 470) (by decide +kernel), rfl⟩
set_option maxRecDepth 20000 in
theorem wA_471 : (Cond.code y_Ar_copy b_Ar_copy 2 none) ∈ wsA := List.mem_filter.mpr ⟨List.mem_of_getElem? (i := 471) rfl, rfl⟩
theorem wA_472 : (Cond.methodLink R_Ar 24 arraycopyName) ∈ wsA := List.mem_filter.mpr ⟨List.mem_of_getElem? (i := 472) (by decide +kernel), rfl⟩
theorem wA_473 : (Cond.static arraycopyName) ∈ wsA := List.mem_filter.mpr ⟨List.mem_of_getElem? (i := 473) (by decide +kernel), rfl⟩
theorem wA_474 : (Cond.native arraycopyName) ∈ wsA := List.mem_filter.mpr ⟨List.mem_of_getElem? (i := 474) (by decide +kernel), rfl⟩
theorem wA_475 : (Cond.methodLink R_T 149 y_Ar_addOneDeparture) ∈ wsA := List.mem_filter.mpr ⟨List.mem_of_getElem? (i := 475) (by decide +kernel), rfl⟩
theorem wA_480 : (Cond.methodLink R_T 153 y_T_isSpan) ∈ wsA := List.mem_filter.mpr ⟨List.mem_of_getElem? (i := 480) (by decide +kernel), rfl⟩
theorem wA_481 : (Cond.static y_T_isSpan) ∈ wsA := List.mem_filter.mpr ⟨List.mem_of_getElem? (i := 481) (by decide +kernel), rfl⟩
set_option maxRecDepth 20000 in
theorem wA_482 : (Cond.code y_T_isSpan b_T_isSpan 2 (some .boolean)) ∈ wsA := List.mem_filter.mpr ⟨List.mem_of_getElem? (i := 482) rfl, rfl⟩
theorem wA_483 : (Cond.methodLink R_T 156 y_Sp_find) ∈ wsA := List.mem_filter.mpr ⟨List.mem_of_getElem? (i := 483) (by decide +kernel), rfl⟩
theorem wA_484 : (Cond.instanceMethod y_Sp_find) ∈ wsA := List.mem_filter.mpr ⟨List.mem_of_getElem? (i := 484) (by decide +kernel), rfl⟩
theorem wA_485 : (Cond.selects R_Sp y_Sp_find y_Sp_find) ∈ wsA := List.mem_filter.mpr ⟨List.mem_of_getElem? (i := 485) (by decide +kernel), rfl⟩
set_option maxRecDepth 20000 in
theorem wA_486 : (Cond.code y_Sp_find b_Sp_find 8 none) ∈ wsA := List.mem_filter.mpr ⟨List.mem_of_getElem? (i := 486) rfl, rfl⟩
theorem wA_487 : (Cond.methodLink R_Sp 19 y_J_fill) ∈ wsA := List.mem_filter.mpr ⟨List.mem_of_getElem? (i := 487) (by decide +kernel), rfl⟩
theorem wA_488 : (Cond.methodLink R_Sp 62 y_Sp_spread) ∈ wsA := List.mem_filter.mpr ⟨List.mem_of_getElem? (i := 488) (by decide +kernel), rfl⟩
theorem wA_490 : (Cond.instanceMethod y_Sp_spread) ∈ wsA := List.mem_filter.mpr ⟨List.mem_of_getElem? (i := 490) (by decide +kernel), rfl⟩
set_option maxRecDepth 20000 in
theorem wA_491 : (Cond.code y_Sp_spread b_Sp_spread 6 none) ∈ wsA := List.mem_filter.mpr ⟨List.mem_of_getElem? (i := 491) rfl, rfl⟩
theorem wA_492 : (Cond.methodLink R_T 159 y_Sp_leastMinutes) ∈ wsA := List.mem_filter.mpr ⟨List.mem_of_getElem? (i := 492) (by decide +kernel), rfl⟩
theorem wA_493 : (Cond.instanceMethod y_Sp_leastMinutes) ∈ wsA := List.mem_filter.mpr ⟨List.mem_of_getElem? (i := 493) (by decide +kernel), rfl⟩
theorem wA_494 : (Cond.selects R_Sp y_Sp_leastMinutes y_Sp_leastMinutes) ∈ wsA := List.mem_filter.mpr ⟨List.mem_of_getElem? (i := 494) (by decide +kernel), rfl⟩
set_option maxRecDepth 20000 in
theorem wA_495 : (Cond.code y_Sp_leastMinutes b_Sp_leastMinutes 6 (some .int)) ∈ wsA := List.mem_filter.mpr ⟨List.mem_of_getElem? (i := 495) rfl, rfl⟩
theorem wA_500 : (Cond.methodLink R_T 163 y_St_take) ∈ wsA := List.mem_filter.mpr ⟨List.mem_of_getElem? (i := 500) (by decide +kernel), rfl⟩
theorem wA_501 : (Cond.instanceMethod y_St_take) ∈ wsA := List.mem_filter.mpr ⟨List.mem_of_getElem? (i := 501) (by decide +kernel), rfl⟩
theorem wA_502 : (Cond.selects R_St y_St_take y_St_take) ∈ wsA := List.mem_filter.mpr ⟨List.mem_of_getElem? (i := 502) (by decide +kernel), rfl⟩
set_option maxRecDepth 20000 in
theorem wA_503 : (Cond.code y_St_take b_St_take 5 none) ∈ wsA := List.mem_filter.mpr ⟨List.mem_of_getElem? (i := 503) rfl, rfl⟩
theorem wA_516 : (Cond.methodLink R_T 174 y_Ac_trace) ∈ wsA := List.mem_filter.mpr ⟨List.mem_of_getElem? (i := 516) (by decide +kernel), rfl⟩
theorem wA_517 : (Cond.instanceMethod y_Ac_trace) ∈ wsA := List.mem_filter.mpr ⟨List.mem_of_getElem? (i := 517) (by decide +kernel), rfl⟩
theorem wA_518 : (Cond.selects R_Ac y_Ac_trace y_Ac_trace) ∈ wsA := List.mem_filter.mpr ⟨List.mem_of_getElem? (i := 518) (by decide +kernel), rfl⟩
set_option maxRecDepth 20000 in
theorem wA_519 : (Cond.code y_Ac_trace b_Ac_trace 8 none) ∈ wsA := List.mem_filter.mpr ⟨List.mem_of_getElem? (i := 519) rfl, rfl⟩
theorem wA_520 : (Cond.methodLink R_Ac 28 y_Ar_first) ∈ wsA := List.mem_filter.mpr ⟨List.mem_of_getElem? (i := 520) (by decide +kernel), rfl⟩
theorem wA_521 : (Cond.methodLink R_Ac 34 y_Ar_isByWalk) ∈ wsA := List.mem_filter.mpr ⟨List.mem_of_getElem? (i := 521) (by decide +kernel), rfl⟩
theorem wA_522 : (Cond.instanceMethod y_Ar_isByWalk) ∈ wsA := List.mem_filter.mpr ⟨List.mem_of_getElem? (i := 522) (by decide +kernel), rfl⟩
theorem wA_523 : (Cond.selects R_Ar y_Ar_isByWalk y_Ar_isByWalk) ∈ wsA := List.mem_filter.mpr ⟨List.mem_of_getElem? (i := 523) (by decide +kernel), rfl⟩
set_option maxRecDepth 20000 in
theorem wA_524 : (Cond.code y_Ar_isByWalk b_Ar_isByWalk 3 (some .boolean)) ∈ wsA := List.mem_filter.mpr ⟨List.mem_of_getElem? (i := 524) rfl, rfl⟩
theorem wA_525 : (Cond.methodLink R_Ac 38 y_Ac_addWalk) ∈ wsA := List.mem_filter.mpr ⟨List.mem_of_getElem? (i := 525) (by decide +kernel), rfl⟩
theorem wA_527 : (Cond.instanceMethod y_Ac_addWalk) ∈ wsA := List.mem_filter.mpr ⟨List.mem_of_getElem? (i := 527) (by decide +kernel), rfl⟩
set_option maxRecDepth 20000 in
theorem wA_528 : (Cond.code y_Ac_addWalk b_Ac_addWalk 6 (some .int)) ∈ wsA := List.mem_filter.mpr ⟨List.mem_of_getElem? (i := 528) rfl, rfl⟩
theorem wA_529 : (Cond.methodLink R_Ac 45 y_Ar_lastWalk) ∈ wsA := List.mem_filter.mpr ⟨List.mem_of_getElem? (i := 529) (by decide +kernel), rfl⟩
theorem wA_530 : (Cond.instanceMethod y_Ar_lastWalk) ∈ wsA := List.mem_filter.mpr ⟨List.mem_of_getElem? (i := 530) (by decide +kernel), rfl⟩
theorem wA_531 : (Cond.selects R_Ar y_Ar_lastWalk y_Ar_lastWalk) ∈ wsA := List.mem_filter.mpr ⟨List.mem_of_getElem? (i := 531) (by decide +kernel), rfl⟩
set_option maxRecDepth 20000 in
theorem wA_532 : (Cond.code y_Ar_lastWalk b_Ar_lastWalk 5 (some .int)) ∈ wsA := List.mem_filter.mpr ⟨List.mem_of_getElem? (i := 532) rfl, rfl⟩
theorem wA_533 : (Cond.methodLink R_Ar 100 y_Ar_first) ∈ wsA := List.mem_filter.mpr ⟨List.mem_of_getElem? (i := 533) (by decide +kernel), rfl⟩
theorem wA_534 : (Cond.methodLink R_Ac 63 y_Ac_put) ∈ wsA := List.mem_filter.mpr ⟨List.mem_of_getElem? (i := 534) (by decide +kernel), rfl⟩
theorem wA_536 : (Cond.instanceMethod y_Ac_put) ∈ wsA := List.mem_filter.mpr ⟨List.mem_of_getElem? (i := 536) (by decide +kernel), rfl⟩
set_option maxRecDepth 20000 in
theorem wA_537 : (Cond.code y_Ac_put b_Ac_put 5 none) ∈ wsA := List.mem_filter.mpr ⟨List.mem_of_getElem? (i := 537) rfl, rfl⟩
theorem wA_538 : (Cond.methodLink R_Ac 42 y_Ac_addDeparture) ∈ wsA := List.mem_filter.mpr ⟨List.mem_of_getElem? (i := 538) (by decide +kernel), rfl⟩
theorem wA_540 : (Cond.instanceMethod y_Ac_addDeparture) ∈ wsA := List.mem_filter.mpr ⟨List.mem_of_getElem? (i := 540) (by decide +kernel), rfl⟩
set_option maxRecDepth 20000 in
theorem wA_541 : (Cond.code y_Ac_addDeparture b_Ac_addDeparture 6 (some .int)) ∈ wsA := List.mem_filter.mpr ⟨List.mem_of_getElem? (i := 541) rfl, rfl⟩
theorem wA_542 : (Cond.methodLink R_Ac 67 y_Ar_lastDeparture) ∈ wsA := List.mem_filter.mpr ⟨List.mem_of_getElem? (i := 542) (by decide +kernel), rfl⟩
theorem wA_543 : (Cond.instanceMethod y_Ar_lastDeparture) ∈ wsA := List.mem_filter.mpr ⟨List.mem_of_getElem? (i := 543) (by decide +kernel), rfl⟩
theorem wA_544 : (Cond.selects R_Ar y_Ar_lastDeparture y_Ar_lastDeparture) ∈ wsA := List.mem_filter.mpr ⟨List.mem_of_getElem? (i := 544) (by decide +kernel), rfl⟩
set_option maxRecDepth 20000 in
theorem wA_545 : (Cond.code y_Ar_lastDeparture b_Ar_lastDeparture 5 (some .int)) ∈ wsA := List.mem_filter.mpr ⟨List.mem_of_getElem? (i := 545) rfl, rfl⟩
theorem wA_546 : (Cond.methodLink R_Ar 106 y_Ar_endsByRide) ∈ wsA := List.mem_filter.mpr ⟨List.mem_of_getElem? (i := 546) (by decide +kernel), rfl⟩
theorem wA_548 : (Cond.instanceMethod y_Ar_endsByRide) ∈ wsA := List.mem_filter.mpr ⟨List.mem_of_getElem? (i := 548) (by decide +kernel), rfl⟩
set_option maxRecDepth 20000 in
theorem wA_549 : (Cond.code y_Ar_endsByRide b_Ar_endsByRide 6 (some .boolean)) ∈ wsA := List.mem_filter.mpr ⟨List.mem_of_getElem? (i := 549) rfl, rfl⟩
theorem wA_550 : (Cond.methodLink R_Ar 109 y_Ri_goes) ∈ wsA := List.mem_filter.mpr ⟨List.mem_of_getElem? (i := 550) (by decide +kernel), rfl⟩
theorem wA_551 : (Cond.methodLink R_Ar 113 y_Ri_leaves) ∈ wsA := List.mem_filter.mpr ⟨List.mem_of_getElem? (i := 551) (by decide +kernel), rfl⟩
theorem wA_552 : (Cond.methodLink R_Ac 74 y_Ri_leaves) ∈ wsA := List.mem_filter.mpr ⟨List.mem_of_getElem? (i := 552) (by decide +kernel), rfl⟩
theorem wA_561 : (Cond.methodLink R_T 188 y_Bo_firstFrom) ∈ wsA := List.mem_filter.mpr ⟨List.mem_of_getElem? (i := 561) (by decide +kernel), rfl⟩
theorem wA_562 : (Cond.instanceMethod y_Bo_firstFrom) ∈ wsA := List.mem_filter.mpr ⟨List.mem_of_getElem? (i := 562) (by decide +kernel), rfl⟩
theorem wA_563 : (Cond.selects R_Bo y_Bo_firstFrom y_Bo_firstFrom) ∈ wsA := List.mem_filter.mpr ⟨List.mem_of_getElem? (i := 563) (by decide +kernel), rfl⟩
set_option maxRecDepth 20000 in
theorem wA_564 : (Cond.code y_Bo_firstFrom b_Bo_firstFrom 5 (some .int)) ∈ wsA := List.mem_filter.mpr ⟨List.mem_of_getElem? (i := 564) rfl, rfl⟩
theorem wA_565 : (Cond.methodLink R_Bo 42 y_Bo_rideAt) ∈ wsA := List.mem_filter.mpr ⟨List.mem_of_getElem? (i := 565) (by decide +kernel), rfl⟩
theorem wA_570 : (Cond.methodLink R_T 205 y_Ri_goingDays) ∈ wsA := List.mem_filter.mpr ⟨List.mem_of_getElem? (i := 570) (by decide +kernel), rfl⟩
theorem wA_571 : (Cond.instanceMethod y_Ri_goingDays) ∈ wsA := List.mem_filter.mpr ⟨List.mem_of_getElem? (i := 571) (by decide +kernel), rfl⟩
theorem wA_572 : (Cond.selects R_Ri y_Ri_goingDays y_Ri_goingDays) ∈ wsA := List.mem_filter.mpr ⟨List.mem_of_getElem? (i := 572) (by decide +kernel), rfl⟩
set_option maxRecDepth 20000 in
theorem wA_573 : (Cond.code y_Ri_goingDays b_Ri_goingDays 4 (some .int)) ∈ wsA := List.mem_filter.mpr ⟨List.mem_of_getElem? (i := 573) rfl, rfl⟩
theorem wA_574 : (Cond.methodLink R_Ri 42 y_Ri_goes) ∈ wsA := List.mem_filter.mpr ⟨List.mem_of_getElem? (i := 574) (by decide +kernel), rfl⟩
theorem wA_579 : (Cond.methodLink R_T 209 y_Bo_countLate) ∈ wsA := List.mem_filter.mpr ⟨List.mem_of_getElem? (i := 579) (by decide +kernel), rfl⟩
theorem wA_580 : (Cond.instanceMethod y_Bo_countLate) ∈ wsA := List.mem_filter.mpr ⟨List.mem_of_getElem? (i := 580) (by decide +kernel), rfl⟩
theorem wA_581 : (Cond.selects R_Bo y_Bo_countLate y_Bo_countLate) ∈ wsA := List.mem_filter.mpr ⟨List.mem_of_getElem? (i := 581) (by decide +kernel), rfl⟩
set_option maxRecDepth 20000 in
theorem wA_582 : (Cond.code y_Bo_countLate b_Bo_countLate 4 (some .int)) ∈ wsA := List.mem_filter.mpr ⟨List.mem_of_getElem? (i := 582) rfl, rfl⟩
end
section
theorem d_T_init_0 : decode b_T_init 0 = .ok (.aload_n 0, 1) := by decide +kernel
theorem d_T_init_1 : decode b_T_init 1 = .ok (.invokespecial 3, 3) := by decide +kernel
theorem d_T_init_4 : decode b_T_init 4 = .ok (.aload_n 0, 1) := by decide +kernel
theorem d_T_init_5 : decode b_T_init 5 = .ok (.new 9, 3) := by decide +kernel
theorem d_T_init_8 : decode b_T_init 8 = .ok (.dup, 1) := by decide +kernel
theorem d_T_init_9 : decode b_T_init 9 = .ok (.invokespecial 11, 3) := by decide +kernel
theorem d_T_init_12 : decode b_T_init 12 = .ok (.putfield 12, 3) := by decide +kernel
theorem d_T_init_15 : decode b_T_init 15 = .ok (.aload_n 0, 1) := by decide +kernel
theorem d_T_init_16 : decode b_T_init 16 = .ok (.new 16, 3) := by decide +kernel
theorem d_T_init_19 : decode b_T_init 19 = .ok (.dup, 1) := by decide +kernel
theorem d_T_init_20 : decode b_T_init 20 = .ok (.invokespecial 18, 3) := by decide +kernel
theorem d_T_init_23 : decode b_T_init 23 = .ok (.putfield 19, 3) := by decide +kernel
theorem d_T_init_26 : decode b_T_init 26 = .ok (.aload_n 0, 1) := by decide +kernel
theorem d_T_init_27 : decode b_T_init 27 = .ok (.new 16, 3) := by decide +kernel
theorem d_T_init_30 : decode b_T_init 30 = .ok (.dup, 1) := by decide +kernel
theorem d_T_init_31 : decode b_T_init 31 = .ok (.invokespecial 18, 3) := by decide +kernel
theorem d_T_init_34 : decode b_T_init 34 = .ok (.putfield 23, 3) := by decide +kernel
theorem d_T_init_37 : decode b_T_init 37 = .ok (.aload_n 0, 1) := by decide +kernel
theorem d_T_init_38 : decode b_T_init 38 = .ok (.new 26, 3) := by decide +kernel
theorem d_T_init_41 : decode b_T_init 41 = .ok (.dup, 1) := by decide +kernel
theorem d_T_init_42 : decode b_T_init 42 = .ok (.invokespecial 28, 3) := by decide +kernel
theorem d_T_init_45 : decode b_T_init 45 = .ok (.putfield 29, 3) := by decide +kernel
theorem d_T_init_48 : decode b_T_init 48 = .ok (.aload_n 0, 1) := by decide +kernel
theorem d_T_init_49 : decode b_T_init 49 = .ok (.new 33, 3) := by decide +kernel
theorem d_T_init_52 : decode b_T_init 52 = .ok (.dup, 1) := by decide +kernel
theorem d_T_init_53 : decode b_T_init 53 = .ok (.invokespecial 35, 3) := by decide +kernel
theorem d_T_init_56 : decode b_T_init 56 = .ok (.putfield 36, 3) := by decide +kernel
theorem d_T_init_59 : decode b_T_init 59 = .ok (.aload_n 0, 1) := by decide +kernel
theorem d_T_init_60 : decode b_T_init 60 = .ok (.new 40, 3) := by decide +kernel
theorem d_T_init_63 : decode b_T_init 63 = .ok (.dup, 1) := by decide +kernel
theorem d_T_init_64 : decode b_T_init 64 = .ok (.invokespecial 42, 3) := by decide +kernel
theorem d_T_init_67 : decode b_T_init 67 = .ok (.putfield 43, 3) := by decide +kernel
theorem d_T_init_70 : decode b_T_init 70 = .ok (.return_, 1) := by decide +kernel
theorem d_T_clear_0 : decode b_T_clear 0 = .ok (.aload_n 0, 1) := by decide +kernel
theorem d_T_clear_1 : decode b_T_clear 1 = .ok (.getfield 12, 3) := by decide +kernel
theorem d_T_clear_4 : decode b_T_clear 4 = .ok (.getfield 47, 3) := by decide +kernel
theorem d_T_clear_7 : decode b_T_clear 7 = .ok (.getfield 51, 3) := by decide +kernel
theorem d_T_clear_10 : decode b_T_clear 10 = .ok (.istore_n 1, 1) := by decide +kernel
theorem d_T_clear_11 : decode b_T_clear 11 = .ok (.aload_n 0, 1) := by decide +kernel
theorem d_T_clear_12 : decode b_T_clear 12 = .ok (.getfield 12, 3) := by decide +kernel
theorem d_T_clear_15 : decode b_T_clear 15 = .ok (.invokevirtual 57, 3) := by decide +kernel
theorem d_T_clear_18 : decode b_T_clear 18 = .ok (.aload_n 0, 1) := by decide +kernel
theorem d_T_clear_19 : decode b_T_clear 19 = .ok (.getfield 36, 3) := by decide +kernel
theorem d_T_clear_22 : decode b_T_clear 22 = .ok (.iconst 0, 1) := by decide +kernel
theorem d_T_clear_23 : decode b_T_clear 23 = .ok (.putfield 60, 3) := by decide +kernel
theorem d_T_clear_26 : decode b_T_clear 26 = .ok (.aload_n 0, 1) := by decide +kernel
theorem d_T_clear_27 : decode b_T_clear 27 = .ok (.getfield 43, 3) := by decide +kernel
theorem d_T_clear_30 : decode b_T_clear 30 = .ok (.iconst 0, 1) := by decide +kernel
theorem d_T_clear_31 : decode b_T_clear 31 = .ok (.putfield 61, 3) := by decide +kernel
theorem d_T_clear_34 : decode b_T_clear 34 = .ok (.iload_n 1, 1) := by decide +kernel
theorem d_T_clear_35 : decode b_T_clear 35 = .ok (.ireturn, 1) := by decide +kernel
theorem d_T_stop_0 : decode b_T_stop 0 = .ok (.iload_n 1, 1) := by decide +kernel
theorem d_T_stop_1 : decode b_T_stop 1 = .ok (.iconst 0, 1) := by decide +kernel
theorem d_T_stop_2 : decode b_T_stop 2 = .ok (.bipush 60, 2) := by decide +kernel
theorem d_T_stop_4 : decode b_T_stop 4 = .ok (.invokestatic 62, 3) := by decide +kernel
theorem d_T_stop_7 : decode b_T_stop 7 = .ok (.ifCond .ne 6, 3) := by decide +kernel
theorem d_T_stop_10 : decode b_T_stop 10 = .ok (.bipush (-2), 2) := by decide +kernel
theorem d_T_stop_12 : decode b_T_stop 12 = .ok (.ireturn, 1) := by decide +kernel
theorem d_T_stop_13 : decode b_T_stop 13 = .ok (.aload_n 0, 1) := by decide +kernel
theorem d_T_stop_14 : decode b_T_stop 14 = .ok (.getfield 12, 3) := by decide +kernel
theorem d_T_stop_17 : decode b_T_stop 17 = .ok (.getfield 66, 3) := by decide +kernel
theorem d_T_stop_20 : decode b_T_stop 20 = .ok (.bipush 12, 2) := by decide +kernel
theorem d_T_stop_22 : decode b_T_stop 22 = .ok (.if_icmp .lt 6, 3) := by decide +kernel
theorem d_T_stop_25 : decode b_T_stop 25 = .ok (.bipush (-3), 2) := by decide +kernel
theorem d_T_stop_27 : decode b_T_stop 27 = .ok (.ireturn, 1) := by decide +kernel
theorem d_T_stop_28 : decode b_T_stop 28 = .ok (.aload_n 0, 1) := by decide +kernel
theorem d_T_stop_29 : decode b_T_stop 29 = .ok (.getfield 12, 3) := by decide +kernel
theorem d_T_stop_32 : decode b_T_stop 32 = .ok (.getfield 69, 3) := by decide +kernel
theorem d_T_stop_35 : decode b_T_stop 35 = .ok (.aload_n 0, 1) := by decide +kernel
theorem d_T_stop_36 : decode b_T_stop 36 = .ok (.getfield 12, 3) := by decide +kernel
theorem d_T_stop_39 : decode b_T_stop 39 = .ok (.getfield 66, 3) := by decide +kernel
theorem d_T_stop_42 : decode b_T_stop 42 = .ok (.iload_n 1, 1) := by decide +kernel
theorem d_T_stop_43 : decode b_T_stop 43 = .ok (.iastore, 1) := by decide +kernel
theorem d_T_stop_44 : decode b_T_stop 44 = .ok (.aload_n 0, 1) := by decide +kernel
theorem d_T_stop_45 : decode b_T_stop 45 = .ok (.getfield 12, 3) := by decide +kernel
theorem d_T_stop_48 : decode b_T_stop 48 = .ok (.dup, 1) := by decide +kernel
theorem d_T_stop_49 : decode b_T_stop 49 = .ok (.getfield 66, 3) := by decide +kernel
theorem d_T_stop_52 : decode b_T_stop 52 = .ok (.iconst 1, 1) := by decide +kernel
theorem d_T_stop_53 : decode b_T_stop 53 = .ok (.iadd, 1) := by decide +kernel
theorem d_T_stop_54 : decode b_T_stop 54 = .ok (.putfield 66, 3) := by decide +kernel
theorem d_T_stop_57 : decode b_T_stop 57 = .ok (.aload_n 0, 1) := by decide +kernel
theorem d_T_stop_58 : decode b_T_stop 58 = .ok (.getfield 12, 3) := by decide +kernel
theorem d_T_stop_61 : decode b_T_stop 61 = .ok (.getfield 66, 3) := by decide +kernel
theorem d_T_stop_64 : decode b_T_stop 64 = .ok (.iconst 1, 1) := by decide +kernel
theorem d_T_stop_65 : decode b_T_stop 65 = .ok (.isub, 1) := by decide +kernel
theorem d_T_stop_66 : decode b_T_stop 66 = .ok (.ireturn, 1) := by decide +kernel
theorem d_T_change_0 : decode b_T_change 0 = .ok (.aload_n 0, 1) := by decide +kernel
theorem d_T_change_1 : decode b_T_change 1 = .ok (.getfield 12, 3) := by decide +kernel
theorem d_T_change_4 : decode b_T_change 4 = .ok (.iload_n 1, 1) := by decide +kernel
theorem d_T_change_5 : decode b_T_change 5 = .ok (.invokevirtual 73, 3) := by decide +kernel
theorem d_T_change_8 : decode b_T_change 8 = .ok (.ifCond .eq 13, 3) := by decide +kernel
theorem d_T_change_11 : decode b_T_change 11 = .ok (.iload_n 2, 1) := by decide +kernel
theorem d_T_change_12 : decode b_T_change 12 = .ok (.iconst 0, 1) := by decide +kernel
theorem d_T_change_13 : decode b_T_change 13 = .ok (.bipush 60, 2) := by decide +kernel
theorem d_T_change_15 : decode b_T_change 15 = .ok (.invokestatic 62, 3) := by decide +kernel
theorem d_T_change_18 : decode b_T_change 18 = .ok (.ifCond .ne 6, 3) := by decide +kernel
theorem d_T_change_21 : decode b_T_change 21 = .ok (.bipush (-2), 2) := by decide +kernel
theorem d_T_change_23 : decode b_T_change 23 = .ok (.ireturn, 1) := by decide +kernel
theorem d_T_change_24 : decode b_T_change 24 = .ok (.aload_n 0, 1) := by decide +kernel
theorem d_T_change_25 : decode b_T_change 25 = .ok (.getfield 12, 3) := by decide +kernel
theorem d_T_change_28 : decode b_T_change 28 = .ok (.getfield 69, 3) := by decide +kernel
theorem d_T_change_31 : decode b_T_change 31 = .ok (.iload_n 1, 1) := by decide +kernel
theorem d_T_change_32 : decode b_T_change 32 = .ok (.iaload, 1) := by decide +kernel
theorem d_T_change_33 : decode b_T_change 33 = .ok (.istore_n 3, 1) := by decide +kernel
theorem d_T_change_34 : decode b_T_change 34 = .ok (.aload_n 0, 1) := by decide +kernel
theorem d_T_change_35 : decode b_T_change 35 = .ok (.getfield 12, 3) := by decide +kernel
theorem d_T_change_38 : decode b_T_change 38 = .ok (.getfield 69, 3) := by decide +kernel
theorem d_T_change_41 : decode b_T_change 41 = .ok (.iload_n 1, 1) := by decide +kernel
theorem d_T_change_42 : decode b_T_change 42 = .ok (.iload_n 2, 1) := by decide +kernel
theorem d_T_change_43 : decode b_T_change 43 = .ok (.iastore, 1) := by decide +kernel
theorem d_T_change_44 : decode b_T_change 44 = .ok (.iload_n 3, 1) := by decide +kernel
theorem d_T_change_45 : decode b_T_change 45 = .ok (.ireturn, 1) := by decide +kernel
theorem d_T_ride_0 : decode b_T_ride 0 = .ok (.aload_n 0, 1) := by decide +kernel
theorem d_T_ride_1 : decode b_T_ride 1 = .ok (.getfield 12, 3) := by decide +kernel
theorem d_T_ride_4 : decode b_T_ride 4 = .ok (.iload_n 1, 1) := by decide +kernel
theorem d_T_ride_5 : decode b_T_ride 5 = .ok (.iload_n 2, 1) := by decide +kernel
theorem d_T_ride_6 : decode b_T_ride 6 = .ok (.invokevirtual 77, 3) := by decide +kernel
theorem d_T_ride_9 : decode b_T_ride 9 = .ok (.ifCond .eq 8, 3) := by decide +kernel
theorem d_T_ride_12 : decode b_T_ride 12 = .ok (.iload_n 1, 1) := by decide +kernel
theorem d_T_ride_13 : decode b_T_ride 13 = .ok (.iload_n 2, 1) := by decide +kernel
theorem d_T_ride_14 : decode b_T_ride 14 = .ok (.if_icmp .ne 6, 3) := by decide +kernel
theorem d_T_ride_17 : decode b_T_ride 17 = .ok (.bipush (-2), 2) := by decide +kernel
theorem d_T_ride_19 : decode b_T_ride 19 = .ok (.ireturn, 1) := by decide +kernel
theorem d_T_ride_20 : decode b_T_ride 20 = .ok (.iload_n 3, 1) := by decide +kernel
theorem d_T_ride_21 : decode b_T_ride 21 = .ok (.iconst 0, 1) := by decide +kernel
theorem d_T_ride_22 : decode b_T_ride 22 = .ok (.sipush 1439, 3) := by decide +kernel
theorem d_T_ride_25 : decode b_T_ride 25 = .ok (.invokestatic 62, 3) := by decide +kernel
theorem d_T_ride_28 : decode b_T_ride 28 = .ok (.ifCond .eq 26, 3) := by decide +kernel
theorem d_T_ride_31 : decode b_T_ride 31 = .ok (.iload 4, 2) := by decide +kernel
theorem d_T_ride_33 : decode b_T_ride 33 = .ok (.iconst 1, 1) := by decide +kernel
theorem d_T_ride_34 : decode b_T_ride 34 = .ok (.sipush 1440, 3) := by decide +kernel
theorem d_T_ride_37 : decode b_T_ride 37 = .ok (.invokestatic 62, 3) := by decide +kernel
theorem d_T_ride_40 : decode b_T_ride 40 = .ok (.ifCond .eq 14, 3) := by decide +kernel
theorem d_T_ride_43 : decode b_T_ride 43 = .ok (.iload 5, 2) := by decide +kernel
theorem d_T_ride_45 : decode b_T_ride 45 = .ok (.iconst 1, 1) := by decide +kernel
theorem d_T_ride_46 : decode b_T_ride 46 = .ok (.bipush 127, 2) := by decide +kernel
theorem d_T_ride_48 : decode b_T_ride 48 = .ok (.invokestatic 62, 3) := by decide +kernel
theorem d_T_ride_51 : decode b_T_ride 51 = .ok (.ifCond .ne 6, 3) := by decide +kernel
theorem d_T_ride_54 : decode b_T_ride 54 = .ok (.bipush (-2), 2) := by decide +kernel
theorem d_T_ride_56 : decode b_T_ride 56 = .ok (.ireturn, 1) := by decide +kernel
theorem d_T_ride_57 : decode b_T_ride 57 = .ok (.aload_n 0, 1) := by decide +kernel
theorem d_T_ride_58 : decode b_T_ride 58 = .ok (.getfield 12, 3) := by decide +kernel
theorem d_T_ride_61 : decode b_T_ride 61 = .ok (.getfield 47, 3) := by decide +kernel
theorem d_T_ride_64 : decode b_T_ride 64 = .ok (.getfield 51, 3) := by decide +kernel
theorem d_T_ride_67 : decode b_T_ride 67 = .ok (.bipush 40, 2) := by decide +kernel
theorem d_T_ride_69 : decode b_T_ride 69 = .ok (.if_icmp .lt 6, 3) := by decide +kernel
theorem d_T_ride_72 : decode b_T_ride 72 = .ok (.bipush (-3), 2) := by decide +kernel
theorem d_T_ride_74 : decode b_T_ride 74 = .ok (.ireturn, 1) := by decide +kernel
theorem d_T_ride_75 : decode b_T_ride 75 = .ok (.aload_n 0, 1) := by decide +kernel
theorem d_T_ride_76 : decode b_T_ride 76 = .ok (.getfield 12, 3) := by decide +kernel
theorem d_T_ride_79 : decode b_T_ride 79 = .ok (.getfield 47, 3) := by decide +kernel
theorem d_T_ride_82 : decode b_T_ride 82 = .ok (.iload_n 1, 1) := by decide +kernel
theorem d_T_ride_83 : decode b_T_ride 83 = .ok (.iload_n 2, 1) := by decide +kernel
theorem d_T_ride_84 : decode b_T_ride 84 = .ok (.iload_n 3, 1) := by decide +kernel
theorem d_T_ride_85 : decode b_T_ride 85 = .ok (.iload 4, 2) := by decide +kernel
theorem d_T_ride_87 : decode b_T_ride 87 = .ok (.iload 5, 2) := by decide +kernel
theorem d_T_ride_89 : decode b_T_ride 89 = .ok (.invokevirtual 81, 3) := by decide +kernel
theorem d_T_ride_92 : decode b_T_ride 92 = .ok (.istore 6, 2) := by decide +kernel
theorem d_T_ride_94 : decode b_T_ride 94 = .ok (.aload_n 0, 1) := by decide +kernel
theorem d_T_ride_95 : decode b_T_ride 95 = .ok (.getfield 12, 3) := by decide +kernel
theorem d_T_ride_98 : decode b_T_ride 98 = .ok (.getfield 85, 3) := by decide +kernel
theorem d_T_ride_101 : decode b_T_ride 101 = .ok (.aload_n 0, 1) := by decide +kernel
theorem d_T_ride_102 : decode b_T_ride 102 = .ok (.getfield 12, 3) := by decide +kernel
theorem d_T_ride_105 : decode b_T_ride 105 = .ok (.getfield 47, 3) := by decide +kernel
theorem d_T_ride_108 : decode b_T_ride 108 = .ok (.iload 6, 2) := by decide +kernel
theorem d_T_ride_110 : decode b_T_ride 110 = .ok (.invokevirtual 89, 3) := by decide +kernel
theorem d_T_ride_113 : decode b_T_ride 113 = .ok (.iload 6, 2) := by decide +kernel
theorem d_T_ride_115 : decode b_T_ride 115 = .ok (.ireturn, 1) := by decide +kernel
theorem d_T_walk_0 : decode b_T_walk 0 = .ok (.aload_n 0, 1) := by decide +kernel
theorem d_T_walk_1 : decode b_T_walk 1 = .ok (.getfield 12, 3) := by decide +kernel
theorem d_T_walk_4 : decode b_T_walk 4 = .ok (.iload_n 1, 1) := by decide +kernel
theorem d_T_walk_5 : decode b_T_walk 5 = .ok (.iload_n 2, 1) := by decide +kernel
theorem d_T_walk_6 : decode b_T_walk 6 = .ok (.invokevirtual 77, 3) := by decide +kernel
theorem d_T_walk_9 : decode b_T_walk 9 = .ok (.ifCond .eq 19, 3) := by decide +kernel
theorem d_T_walk_12 : decode b_T_walk 12 = .ok (.iload_n 1, 1) := by decide +kernel
theorem d_T_walk_13 : decode b_T_walk 13 = .ok (.iload_n 2, 1) := by decide +kernel
theorem d_T_walk_14 : decode b_T_walk 14 = .ok (.if_icmp .eq 14, 3) := by decide +kernel
theorem d_T_walk_17 : decode b_T_walk 17 = .ok (.iload_n 3, 1) := by decide +kernel
theorem d_T_walk_18 : decode b_T_walk 18 = .ok (.iconst 1, 1) := by decide +kernel
theorem d_T_walk_19 : decode b_T_walk 19 = .ok (.sipush 600, 3) := by decide +kernel
theorem d_T_walk_22 : decode b_T_walk 22 = .ok (.invokestatic 62, 3) := by decide +kernel
theorem d_T_walk_25 : decode b_T_walk 25 = .ok (.ifCond .ne 6, 3) := by decide +kernel
theorem d_T_walk_28 : decode b_T_walk 28 = .ok (.bipush (-2), 2) := by decide +kernel
theorem d_T_walk_30 : decode b_T_walk 30 = .ok (.ireturn, 1) := by decide +kernel
theorem d_T_walk_31 : decode b_T_walk 31 = .ok (.aload_n 0, 1) := by decide +kernel
theorem d_T_walk_32 : decode b_T_walk 32 = .ok (.getfield 12, 3) := by decide +kernel
theorem d_T_walk_35 : decode b_T_walk 35 = .ok (.getfield 95, 3) := by decide +kernel
theorem d_T_walk_38 : decode b_T_walk 38 = .ok (.getfield 99, 3) := by decide +kernel
theorem d_T_walk_41 : decode b_T_walk 41 = .ok (.bipush 30, 2) := by decide +kernel
theorem d_T_walk_43 : decode b_T_walk 43 = .ok (.if_icmp .lt 6, 3) := by decide +kernel
theorem d_T_walk_46 : decode b_T_walk 46 = .ok (.bipush (-3), 2) := by decide +kernel
theorem d_T_walk_48 : decode b_T_walk 48 = .ok (.ireturn, 1) := by decide +kernel
theorem d_T_walk_49 : decode b_T_walk 49 = .ok (.aload_n 0, 1) := by decide +kernel
theorem d_T_walk_50 : decode b_T_walk 50 = .ok (.getfield 12, 3) := by decide +kernel
theorem d_T_walk_53 : decode b_T_walk 53 = .ok (.getfield 95, 3) := by decide +kernel
theorem d_T_walk_56 : decode b_T_walk 56 = .ok (.iload_n 1, 1) := by decide +kernel
theorem d_T_walk_57 : decode b_T_walk 57 = .ok (.iload_n 2, 1) := by decide +kernel
theorem d_T_walk_58 : decode b_T_walk 58 = .ok (.iload_n 3, 1) := by decide +kernel
theorem d_T_walk_59 : decode b_T_walk 59 = .ok (.invokevirtual 102, 3) := by decide +kernel
theorem d_T_walk_62 : decode b_T_walk 62 = .ok (.ireturn, 1) := by decide +kernel
theorem d_T_late_0 : decode b_T_late 0 = .ok (.aload_n 0, 1) := by decide +kernel
theorem d_T_late_1 : decode b_T_late 1 = .ok (.getfield 12, 3) := by decide +kernel
theorem d_T_late_4 : decode b_T_late 4 = .ok (.getfield 47, 3) := by decide +kernel
theorem d_T_late_7 : decode b_T_late 7 = .ok (.iload_n 1, 1) := by decide +kernel
theorem d_T_late_8 : decode b_T_late 8 = .ok (.invokevirtual 105, 3) := by decide +kernel
theorem d_T_late_11 : decode b_T_late 11 = .ok (.ifCond .eq 24, 3) := by decide +kernel
theorem d_T_late_14 : decode b_T_late 14 = .ok (.iload_n 2, 1) := by decide +kernel
theorem d_T_late_15 : decode b_T_late 15 = .ok (.iconst 0, 1) := by decide +kernel
theorem d_T_late_16 : decode b_T_late 16 = .ok (.bipush 6, 2) := by decide +kernel
theorem d_T_late_18 : decode b_T_late 18 = .ok (.invokestatic 62, 3) := by decide +kernel
theorem d_T_late_21 : decode b_T_late 21 = .ok (.ifCond .eq 14, 3) := by decide +kernel
theorem d_T_late_24 : decode b_T_late 24 = .ok (.iload_n 3, 1) := by decide +kernel
theorem d_T_late_25 : decode b_T_late 25 = .ok (.iconst (-1), 1) := by decide +kernel
theorem d_T_late_26 : decode b_T_late 26 = .ok (.sipush 300, 3) := by decide +kernel
theorem d_T_late_29 : decode b_T_late 29 = .ok (.invokestatic 62, 3) := by decide +kernel
theorem d_T_late_32 : decode b_T_late 32 = .ok (.ifCond .ne 6, 3) := by decide +kernel
theorem d_T_late_35 : decode b_T_late 35 = .ok (.bipush (-2), 2) := by decide +kernel
theorem d_T_late_37 : decode b_T_late 37 = .ok (.ireturn, 1) := by decide +kernel
theorem d_T_late_38 : decode b_T_late 38 = .ok (.aload_n 0, 1) := by decide +kernel
theorem d_T_late_39 : decode b_T_late 39 = .ok (.getfield 12, 3) := by decide +kernel
theorem d_T_late_42 : decode b_T_late 42 = .ok (.getfield 47, 3) := by decide +kernel
theorem d_T_late_45 : decode b_T_late 45 = .ok (.iload_n 1, 1) := by decide +kernel
theorem d_T_late_46 : decode b_T_late 46 = .ok (.iload_n 2, 1) := by decide +kernel
theorem d_T_late_47 : decode b_T_late 47 = .ok (.invokevirtual 108, 3) := by decide +kernel
theorem d_T_late_50 : decode b_T_late 50 = .ok (.ifCond .ne 6, 3) := by decide +kernel
theorem d_T_late_53 : decode b_T_late 53 = .ok (.bipush (-2), 2) := by decide +kernel
theorem d_T_late_55 : decode b_T_late 55 = .ok (.ireturn, 1) := by decide +kernel
theorem d_T_late_56 : decode b_T_late 56 = .ok (.iload_n 1, 1) := by decide +kernel
theorem d_T_late_57 : decode b_T_late 57 = .ok (.bipush 7, 2) := by decide +kernel
theorem d_T_late_59 : decode b_T_late 59 = .ok (.imul, 1) := by decide +kernel
theorem d_T_late_60 : decode b_T_late 60 = .ok (.iload_n 2, 1) := by decide +kernel
theorem d_T_late_61 : decode b_T_late 61 = .ok (.iadd, 1) := by decide +kernel
theorem d_T_late_62 : decode b_T_late 62 = .ok (.istore 4, 2) := by decide +kernel
theorem d_T_late_64 : decode b_T_late 64 = .ok (.aload_n 0, 1) := by decide +kernel
theorem d_T_late_65 : decode b_T_late 65 = .ok (.getfield 12, 3) := by decide +kernel
theorem d_T_late_68 : decode b_T_late 68 = .ok (.getfield 47, 3) := by decide +kernel
theorem d_T_late_71 : decode b_T_late 71 = .ok (.getfield 111, 3) := by decide +kernel
theorem d_T_late_74 : decode b_T_late 74 = .ok (.iload 4, 2) := by decide +kernel
theorem d_T_late_76 : decode b_T_late 76 = .ok (.iaload, 1) := by decide +kernel
theorem d_T_late_77 : decode b_T_late 77 = .ok (.istore 5, 2) := by decide +kernel
theorem d_T_late_79 : decode b_T_late 79 = .ok (.aload_n 0, 1) := by decide +kernel
theorem d_T_late_80 : decode b_T_late 80 = .ok (.getfield 12, 3) := by decide +kernel
theorem d_T_late_83 : decode b_T_late 83 = .ok (.getfield 85, 3) := by decide +kernel
theorem d_T_late_86 : decode b_T_late 86 = .ok (.iload 4, 2) := by decide +kernel
theorem d_T_late_88 : decode b_T_late 88 = .ok (.invokevirtual 114, 3) := by decide +kernel
theorem d_T_late_91 : decode b_T_late 91 = .ok (.aload_n 0, 1) := by decide +kernel
theorem d_T_late_92 : decode b_T_late 92 = .ok (.getfield 12, 3) := by decide +kernel
theorem d_T_late_95 : decode b_T_late 95 = .ok (.getfield 47, 3) := by decide +kernel
theorem d_T_late_98 : decode b_T_late 98 = .ok (.getfield 111, 3) := by decide +kernel
theorem d_T_late_101 : decode b_T_late 101 = .ok (.iload 4, 2) := by decide +kernel
theorem d_T_late_103 : decode b_T_late 103 = .ok (.iload_n 3, 1) := by decide +kernel
theorem d_T_late_104 : decode b_T_late 104 = .ok (.iastore, 1) := by decide +kernel
theorem d_T_late_105 : decode b_T_late 105 = .ok (.aload_n 0, 1) := by decide +kernel
theorem d_T_late_106 : decode b_T_late 106 = .ok (.getfield 12, 3) := by decide +kernel
theorem d_T_late_109 : decode b_T_late 109 = .ok (.getfield 85, 3) := by decide +kernel
theorem d_T_late_112 : decode b_T_late 112 = .ok (.aload_n 0, 1) := by decide +kernel
theorem d_T_late_113 : decode b_T_late 113 = .ok (.getfield 12, 3) := by decide +kernel
theorem d_T_late_116 : decode b_T_late 116 = .ok (.getfield 47, 3) := by decide +kernel
theorem d_T_late_119 : decode b_T_late 119 = .ok (.iload 4, 2) := by decide +kernel
theorem d_T_late_121 : decode b_T_late 121 = .ok (.invokevirtual 118, 3) := by decide +kernel
theorem d_T_late_124 : decode b_T_late 124 = .ok (.iload 5, 2) := by decide +kernel
theorem d_T_late_126 : decode b_T_late 126 = .ok (.ireturn, 1) := by decide +kernel
theorem d_T_earliest_0 : decode b_T_earliest 0 = .ok (.aload_n 0, 1) := by decide +kernel
theorem d_T_earliest_1 : decode b_T_earliest 1 = .ok (.getfield 12, 3) := by decide +kernel
theorem d_T_earliest_4 : decode b_T_earliest 4 = .ok (.iload_n 1, 1) := by decide +kernel
theorem d_T_earliest_5 : decode b_T_earliest 5 = .ok (.iload_n 2, 1) := by decide +kernel
theorem d_T_earliest_6 : decode b_T_earliest 6 = .ok (.invokevirtual 77, 3) := by decide +kernel
theorem d_T_earliest_9 : decode b_T_earliest 9 = .ok (.ifCond .eq 10, 3) := by decide +kernel
theorem d_T_earliest_12 : decode b_T_earliest 12 = .ok (.iload_n 3, 1) := by decide +kernel
theorem d_T_earliest_13 : decode b_T_earliest 13 = .ok (.invokestatic 121, 3) := by decide +kernel
theorem d_T_earliest_16 : decode b_T_earliest 16 = .ok (.ifCond .ne 6, 3) := by decide +kernel
theorem d_T_earliest_19 : decode b_T_earliest 19 = .ok (.bipush (-2), 2) := by decide +kernel
theorem d_T_earliest_21 : decode b_T_earliest 21 = .ok (.ireturn, 1) := by decide +kernel
theorem d_T_earliest_22 : decode b_T_earliest 22 = .ok (.aload_n 0, 1) := by decide +kernel
theorem d_T_earliest_23 : decode b_T_earliest 23 = .ok (.getfield 19, 3) := by decide +kernel
theorem d_T_earliest_26 : decode b_T_earliest 26 = .ok (.aload_n 0, 1) := by decide +kernel
theorem d_T_earliest_27 : decode b_T_earliest 27 = .ok (.getfield 12, 3) := by decide +kernel
theorem d_T_earliest_30 : decode b_T_earliest 30 = .ok (.iload_n 1, 1) := by decide +kernel
theorem d_T_earliest_31 : decode b_T_earliest 31 = .ok (.iload_n 3, 1) := by decide +kernel
theorem d_T_earliest_32 : decode b_T_earliest 32 = .ok (.invokevirtual 124, 3) := by decide +kernel
theorem d_T_earliest_35 : decode b_T_earliest 35 = .ok (.aload_n 0, 1) := by decide +kernel
theorem d_T_earliest_36 : decode b_T_earliest 36 = .ok (.getfield 19, 3) := by decide +kernel
theorem d_T_earliest_39 : decode b_T_earliest 39 = .ok (.iload_n 2, 1) := by decide +kernel
theorem d_T_earliest_40 : decode b_T_earliest 40 = .ok (.invokevirtual 128, 3) := by decide +kernel
theorem d_T_earliest_43 : decode b_T_earliest 43 = .ok (.invokestatic 132, 3) := by decide +kernel
theorem d_T_earliest_46 : decode b_T_earliest 46 = .ok (.ireturn, 1) := by decide +kernel
theorem d_T_latest_0 : decode b_T_latest 0 = .ok (.aload_n 0, 1) := by decide +kernel
theorem d_T_latest_1 : decode b_T_latest 1 = .ok (.getfield 12, 3) := by decide +kernel
theorem d_T_latest_4 : decode b_T_latest 4 = .ok (.iload_n 1, 1) := by decide +kernel
theorem d_T_latest_5 : decode b_T_latest 5 = .ok (.iload_n 2, 1) := by decide +kernel
theorem d_T_latest_6 : decode b_T_latest 6 = .ok (.invokevirtual 77, 3) := by decide +kernel
theorem d_T_latest_9 : decode b_T_latest 9 = .ok (.ifCond .eq 10, 3) := by decide +kernel
theorem d_T_latest_12 : decode b_T_latest 12 = .ok (.iload_n 3, 1) := by decide +kernel
theorem d_T_latest_13 : decode b_T_latest 13 = .ok (.invokestatic 135, 3) := by decide +kernel
theorem d_T_latest_16 : decode b_T_latest 16 = .ok (.ifCond .ne 6, 3) := by decide +kernel
theorem d_T_latest_19 : decode b_T_latest 19 = .ok (.bipush (-2), 2) := by decide +kernel
theorem d_T_latest_21 : decode b_T_latest 21 = .ok (.ireturn, 1) := by decide +kernel
theorem d_T_latest_22 : decode b_T_latest 22 = .ok (.aload_n 0, 1) := by decide +kernel
theorem d_T_latest_23 : decode b_T_latest 23 = .ok (.getfield 29, 3) := by decide +kernel
theorem d_T_latest_26 : decode b_T_latest 26 = .ok (.aload_n 0, 1) := by decide +kernel
theorem d_T_latest_27 : decode b_T_latest 27 = .ok (.getfield 12, 3) := by decide +kernel
theorem d_T_latest_30 : decode b_T_latest 30 = .ok (.iload_n 1, 1) := by decide +kernel
theorem d_T_latest_31 : decode b_T_latest 31 = .ok (.iload_n 2, 1) := by decide +kernel
theorem d_T_latest_32 : decode b_T_latest 32 = .ok (.iload_n 3, 1) := by decide +kernel
theorem d_T_latest_33 : decode b_T_latest 33 = .ok (.invokevirtual 138, 3) := by decide +kernel
theorem d_T_latest_36 : decode b_T_latest 36 = .ok (.ireturn, 1) := by decide +kernel
theorem d_T_fewest_0 : decode b_T_fewest 0 = .ok (.aload_n 0, 1) := by decide +kernel
theorem d_T_fewest_1 : decode b_T_fewest 1 = .ok (.getfield 12, 3) := by decide +kernel
theorem d_T_fewest_4 : decode b_T_fewest 4 = .ok (.iload_n 1, 1) := by decide +kernel
theorem d_T_fewest_5 : decode b_T_fewest 5 = .ok (.iload_n 2, 1) := by decide +kernel
theorem d_T_fewest_6 : decode b_T_fewest 6 = .ok (.invokevirtual 77, 3) := by decide +kernel
theorem d_T_fewest_9 : decode b_T_fewest 9 = .ok (.ifCond .eq 18, 3) := by decide +kernel
theorem d_T_fewest_12 : decode b_T_fewest 12 = .ok (.iload_n 3, 1) := by decide +kernel
theorem d_T_fewest_13 : decode b_T_fewest 13 = .ok (.invokestatic 121, 3) := by decide +kernel
theorem d_T_fewest_16 : decode b_T_fewest 16 = .ok (.ifCond .eq 11, 3) := by decide +kernel
theorem d_T_fewest_19 : decode b_T_fewest 19 = .ok (.iload 4, 2) := by decide +kernel
theorem d_T_fewest_21 : decode b_T_fewest 21 = .ok (.invokestatic 135, 3) := by decide +kernel
theorem d_T_fewest_24 : decode b_T_fewest 24 = .ok (.ifCond .ne 6, 3) := by decide +kernel
theorem d_T_fewest_27 : decode b_T_fewest 27 = .ok (.bipush (-2), 2) := by decide +kernel
theorem d_T_fewest_29 : decode b_T_fewest 29 = .ok (.ireturn, 1) := by decide +kernel
theorem d_T_fewest_30 : decode b_T_fewest 30 = .ok (.aload_n 0, 1) := by decide +kernel
theorem d_T_fewest_31 : decode b_T_fewest 31 = .ok (.getfield 19, 3) := by decide +kernel
theorem d_T_fewest_34 : decode b_T_fewest 34 = .ok (.aload_n 0, 1) := by decide +kernel
theorem d_T_fewest_35 : decode b_T_fewest 35 = .ok (.getfield 12, 3) := by decide +kernel
theorem d_T_fewest_38 : decode b_T_fewest 38 = .ok (.iload_n 1, 1) := by decide +kernel
theorem d_T_fewest_39 : decode b_T_fewest 39 = .ok (.iload_n 3, 1) := by decide +kernel
theorem d_T_fewest_40 : decode b_T_fewest 40 = .ok (.invokevirtual 142, 3) := by decide +kernel
theorem d_T_fewest_43 : decode b_T_fewest 43 = .ok (.iconst 0, 1) := by decide +kernel
theorem d_T_fewest_44 : decode b_T_fewest 44 = .ok (.istore 5, 2) := by decide +kernel
theorem d_T_fewest_46 : decode b_T_fewest 46 = .ok (.iload 5, 2) := by decide +kernel
theorem d_T_fewest_48 : decode b_T_fewest 48 = .ok (.bipush 12, 2) := by decide +kernel
theorem d_T_fewest_50 : decode b_T_fewest 50 = .ok (.if_icmp .gt 51, 3) := by decide +kernel
theorem d_T_fewest_53 : decode b_T_fewest 53 = .ok (.aload_n 0, 1) := by decide +kernel
theorem d_T_fewest_54 : decode b_T_fewest 54 = .ok (.getfield 19, 3) := by decide +kernel
theorem d_T_fewest_57 : decode b_T_fewest 57 = .ok (.iload_n 2, 1) := by decide +kernel
theorem d_T_fewest_58 : decode b_T_fewest 58 = .ok (.invokevirtual 128, 3) := by decide +kernel
theorem d_T_fewest_61 : decode b_T_fewest 61 = .ok (.iload 4, 2) := by decide +kernel
theorem d_T_fewest_63 : decode b_T_fewest 63 = .ok (.if_icmp .gt 6, 3) := by decide +kernel
theorem d_T_fewest_66 : decode b_T_fewest 66 = .ok (.iload 5, 2) := by decide +kernel
theorem d_T_fewest_68 : decode b_T_fewest 68 = .ok (.ireturn, 1) := by decide +kernel
theorem d_T_fewest_69 : decode b_T_fewest 69 = .ok (.aload_n 0, 1) := by decide +kernel
theorem d_T_fewest_70 : decode b_T_fewest 70 = .ok (.getfield 23, 3) := by decide +kernel
theorem d_T_fewest_73 : decode b_T_fewest 73 = .ok (.aload_n 0, 1) := by decide +kernel
theorem d_T_fewest_74 : decode b_T_fewest 74 = .ok (.getfield 19, 3) := by decide +kernel
theorem d_T_fewest_77 : decode b_T_fewest 77 = .ok (.invokevirtual 145, 3) := by decide +kernel
theorem d_T_fewest_80 : decode b_T_fewest 80 = .ok (.aload_n 0, 1) := by decide +kernel
theorem d_T_fewest_81 : decode b_T_fewest 81 = .ok (.getfield 19, 3) := by decide +kernel
theorem d_T_fewest_84 : decode b_T_fewest 84 = .ok (.aload_n 0, 1) := by decide +kernel
theorem d_T_fewest_85 : decode b_T_fewest 85 = .ok (.getfield 12, 3) := by decide +kernel
theorem d_T_fewest_88 : decode b_T_fewest 88 = .ok (.aload_n 0, 1) := by decide +kernel
theorem d_T_fewest_89 : decode b_T_fewest 89 = .ok (.getfield 23, 3) := by decide +kernel
theorem d_T_fewest_92 : decode b_T_fewest 92 = .ok (.invokevirtual 149, 3) := by decide +kernel
theorem d_T_fewest_95 : decode b_T_fewest 95 = .ok (.iinc 5 1, 3) := by decide +kernel
theorem d_T_fewest_98 : decode b_T_fewest 98 = .ok (.goto (-52), 3) := by decide +kernel
theorem d_T_fewest_101 : decode b_T_fewest 101 = .ok (.iconst (-1), 1) := by decide +kernel
theorem d_T_fewest_102 : decode b_T_fewest 102 = .ok (.ireturn, 1) := by decide +kernel
theorem d_T_fastest_0 : decode b_T_fastest 0 = .ok (.aload_n 0, 1) := by decide +kernel
theorem d_T_fastest_1 : decode b_T_fastest 1 = .ok (.getfield 12, 3) := by decide +kernel
theorem d_T_fastest_4 : decode b_T_fastest 4 = .ok (.iload_n 1, 1) := by decide +kernel
theorem d_T_fastest_5 : decode b_T_fastest 5 = .ok (.iload_n 2, 1) := by decide +kernel
theorem d_T_fastest_6 : decode b_T_fastest 6 = .ok (.invokevirtual 77, 3) := by decide +kernel
theorem d_T_fastest_9 : decode b_T_fastest 9 = .ok (.ifCond .eq 12, 3) := by decide +kernel
theorem d_T_fastest_12 : decode b_T_fastest 12 = .ok (.iload_n 3, 1) := by decide +kernel
theorem d_T_fastest_13 : decode b_T_fastest 13 = .ok (.iload 4, 2) := by decide +kernel
theorem d_T_fastest_15 : decode b_T_fastest 15 = .ok (.invokestatic 153, 3) := by decide +kernel
theorem d_T_fastest_18 : decode b_T_fastest 18 = .ok (.ifCond .ne 6, 3) := by decide +kernel
theorem d_T_fastest_21 : decode b_T_fastest 21 = .ok (.bipush (-2), 2) := by decide +kernel
theorem d_T_fastest_23 : decode b_T_fastest 23 = .ok (.ireturn, 1) := by decide +kernel
theorem d_T_fastest_24 : decode b_T_fastest 24 = .ok (.aload_n 0, 1) := by decide +kernel
theorem d_T_fastest_25 : decode b_T_fastest 25 = .ok (.getfield 29, 3) := by decide +kernel
theorem d_T_fastest_28 : decode b_T_fastest 28 = .ok (.aload_n 0, 1) := by decide +kernel
theorem d_T_fastest_29 : decode b_T_fastest 29 = .ok (.getfield 12, 3) := by decide +kernel
theorem d_T_fastest_32 : decode b_T_fastest 32 = .ok (.iload_n 1, 1) := by decide +kernel
theorem d_T_fastest_33 : decode b_T_fastest 33 = .ok (.iload_n 2, 1) := by decide +kernel
theorem d_T_fastest_34 : decode b_T_fastest 34 = .ok (.iload_n 3, 1) := by decide +kernel
theorem d_T_fastest_35 : decode b_T_fastest 35 = .ok (.iload 4, 2) := by decide +kernel
theorem d_T_fastest_37 : decode b_T_fastest 37 = .ok (.invokevirtual 156, 3) := by decide +kernel
theorem d_T_fastest_40 : decode b_T_fastest 40 = .ok (.aload_n 0, 1) := by decide +kernel
theorem d_T_fastest_41 : decode b_T_fastest 41 = .ok (.getfield 29, 3) := by decide +kernel
theorem d_T_fastest_44 : decode b_T_fastest 44 = .ok (.iload_n 3, 1) := by decide +kernel
theorem d_T_fastest_45 : decode b_T_fastest 45 = .ok (.iload 4, 2) := by decide +kernel
theorem d_T_fastest_47 : decode b_T_fastest 47 = .ok (.invokevirtual 159, 3) := by decide +kernel
theorem d_T_fastest_50 : decode b_T_fastest 50 = .ok (.invokestatic 132, 3) := by decide +kernel
theorem d_T_fastest_53 : decode b_T_fastest 53 = .ok (.ireturn, 1) := by decide +kernel
theorem d_T_profile_0 : decode b_T_profile 0 = .ok (.aload_n 0, 1) := by decide +kernel
theorem d_T_profile_1 : decode b_T_profile 1 = .ok (.getfield 12, 3) := by decide +kernel
theorem d_T_profile_4 : decode b_T_profile 4 = .ok (.iload_n 1, 1) := by decide +kernel
theorem d_T_profile_5 : decode b_T_profile 5 = .ok (.iload_n 2, 1) := by decide +kernel
theorem d_T_profile_6 : decode b_T_profile 6 = .ok (.invokevirtual 77, 3) := by decide +kernel
theorem d_T_profile_9 : decode b_T_profile 9 = .ok (.ifCond .eq 12, 3) := by decide +kernel
theorem d_T_profile_12 : decode b_T_profile 12 = .ok (.iload_n 3, 1) := by decide +kernel
theorem d_T_profile_13 : decode b_T_profile 13 = .ok (.iload 4, 2) := by decide +kernel
theorem d_T_profile_15 : decode b_T_profile 15 = .ok (.invokestatic 153, 3) := by decide +kernel
theorem d_T_profile_18 : decode b_T_profile 18 = .ok (.ifCond .ne 6, 3) := by decide +kernel
theorem d_T_profile_21 : decode b_T_profile 21 = .ok (.bipush (-2), 2) := by decide +kernel
theorem d_T_profile_23 : decode b_T_profile 23 = .ok (.ireturn, 1) := by decide +kernel
theorem d_T_profile_24 : decode b_T_profile 24 = .ok (.aload_n 0, 1) := by decide +kernel
theorem d_T_profile_25 : decode b_T_profile 25 = .ok (.getfield 29, 3) := by decide +kernel
theorem d_T_profile_28 : decode b_T_profile 28 = .ok (.aload_n 0, 1) := by decide +kernel
theorem d_T_profile_29 : decode b_T_profile 29 = .ok (.getfield 12, 3) := by decide +kernel
theorem d_T_profile_32 : decode b_T_profile 32 = .ok (.iload_n 1, 1) := by decide +kernel
theorem d_T_profile_33 : decode b_T_profile 33 = .ok (.iload_n 2, 1) := by decide +kernel
theorem d_T_profile_34 : decode b_T_profile 34 = .ok (.iload_n 3, 1) := by decide +kernel
theorem d_T_profile_35 : decode b_T_profile 35 = .ok (.iload 4, 2) := by decide +kernel
theorem d_T_profile_37 : decode b_T_profile 37 = .ok (.invokevirtual 156, 3) := by decide +kernel
theorem d_T_profile_40 : decode b_T_profile 40 = .ok (.aload_n 0, 1) := by decide +kernel
theorem d_T_profile_41 : decode b_T_profile 41 = .ok (.getfield 36, 3) := by decide +kernel
theorem d_T_profile_44 : decode b_T_profile 44 = .ok (.aload_n 0, 1) := by decide +kernel
theorem d_T_profile_45 : decode b_T_profile 45 = .ok (.getfield 29, 3) := by decide +kernel
theorem d_T_profile_48 : decode b_T_profile 48 = .ok (.iload_n 3, 1) := by decide +kernel
theorem d_T_profile_49 : decode b_T_profile 49 = .ok (.iload 4, 2) := by decide +kernel
theorem d_T_profile_51 : decode b_T_profile 51 = .ok (.invokevirtual 163, 3) := by decide +kernel
theorem d_T_profile_54 : decode b_T_profile 54 = .ok (.aload_n 0, 1) := by decide +kernel
theorem d_T_profile_55 : decode b_T_profile 55 = .ok (.getfield 36, 3) := by decide +kernel
theorem d_T_profile_58 : decode b_T_profile 58 = .ok (.getfield 60, 3) := by decide +kernel
theorem d_T_profile_61 : decode b_T_profile 61 = .ok (.ireturn, 1) := by decide +kernel
theorem d_T_step_0 : decode b_T_step 0 = .ok (.iload_n 1, 1) := by decide +kernel
theorem d_T_step_1 : decode b_T_step 1 = .ok (.iconst 0, 1) := by decide +kernel
theorem d_T_step_2 : decode b_T_step 2 = .ok (.aload_n 0, 1) := by decide +kernel
theorem d_T_step_3 : decode b_T_step 3 = .ok (.getfield 36, 3) := by decide +kernel
theorem d_T_step_6 : decode b_T_step 6 = .ok (.getfield 60, 3) := by decide +kernel
theorem d_T_step_9 : decode b_T_step 9 = .ok (.iconst 1, 1) := by decide +kernel
theorem d_T_step_10 : decode b_T_step 10 = .ok (.isub, 1) := by decide +kernel
theorem d_T_step_11 : decode b_T_step 11 = .ok (.invokestatic 62, 3) := by decide +kernel
theorem d_T_step_14 : decode b_T_step 14 = .ok (.ifCond .ne 6, 3) := by decide +kernel
theorem d_T_step_17 : decode b_T_step 17 = .ok (.bipush (-2), 2) := by decide +kernel
theorem d_T_step_19 : decode b_T_step 19 = .ok (.ireturn, 1) := by decide +kernel
theorem d_T_step_20 : decode b_T_step 20 = .ok (.iload_n 2, 1) := by decide +kernel
theorem d_T_step_21 : decode b_T_step 21 = .ok (.lookupswitch 50 #[(0, 27), (1, 37)], 27) := by decide +kernel
theorem d_T_step_48 : decode b_T_step 48 = .ok (.aload_n 0, 1) := by decide +kernel
theorem d_T_step_49 : decode b_T_step 49 = .ok (.getfield 36, 3) := by decide +kernel
theorem d_T_step_52 : decode b_T_step 52 = .ok (.getfield 167, 3) := by decide +kernel
theorem d_T_step_55 : decode b_T_step 55 = .ok (.iload_n 1, 1) := by decide +kernel
theorem d_T_step_56 : decode b_T_step 56 = .ok (.iaload, 1) := by decide +kernel
theorem d_T_step_57 : decode b_T_step 57 = .ok (.ireturn, 1) := by decide +kernel
theorem d_T_step_58 : decode b_T_step 58 = .ok (.aload_n 0, 1) := by decide +kernel
theorem d_T_step_59 : decode b_T_step 59 = .ok (.getfield 36, 3) := by decide +kernel
theorem d_T_step_62 : decode b_T_step 62 = .ok (.getfield 170, 3) := by decide +kernel
theorem d_T_step_65 : decode b_T_step 65 = .ok (.iload_n 1, 1) := by decide +kernel
theorem d_T_step_66 : decode b_T_step 66 = .ok (.iaload, 1) := by decide +kernel
theorem d_T_step_67 : decode b_T_step 67 = .ok (.invokestatic 132, 3) := by decide +kernel
theorem d_T_step_70 : decode b_T_step 70 = .ok (.ireturn, 1) := by decide +kernel
theorem d_T_step_71 : decode b_T_step 71 = .ok (.bipush (-2), 2) := by decide +kernel
theorem d_T_step_73 : decode b_T_step 73 = .ok (.ireturn, 1) := by decide +kernel
theorem d_T_reach_0 : decode b_T_reach 0 = .ok (.aload_n 0, 1) := by decide +kernel
theorem d_T_reach_1 : decode b_T_reach 1 = .ok (.getfield 12, 3) := by decide +kernel
theorem d_T_reach_4 : decode b_T_reach 4 = .ok (.iload_n 1, 1) := by decide +kernel
theorem d_T_reach_5 : decode b_T_reach 5 = .ok (.invokevirtual 73, 3) := by decide +kernel
theorem d_T_reach_8 : decode b_T_reach 8 = .ok (.ifCond .eq 17, 3) := by decide +kernel
theorem d_T_reach_11 : decode b_T_reach 11 = .ok (.iload_n 2, 1) := by decide +kernel
theorem d_T_reach_12 : decode b_T_reach 12 = .ok (.invokestatic 121, 3) := by decide +kernel
theorem d_T_reach_15 : decode b_T_reach 15 = .ok (.ifCond .eq 10, 3) := by decide +kernel
theorem d_T_reach_18 : decode b_T_reach 18 = .ok (.iload_n 3, 1) := by decide +kernel
theorem d_T_reach_19 : decode b_T_reach 19 = .ok (.invokestatic 135, 3) := by decide +kernel
theorem d_T_reach_22 : decode b_T_reach 22 = .ok (.ifCond .ne 6, 3) := by decide +kernel
theorem d_T_reach_25 : decode b_T_reach 25 = .ok (.bipush (-2), 2) := by decide +kernel
theorem d_T_reach_27 : decode b_T_reach 27 = .ok (.ireturn, 1) := by decide +kernel
theorem d_T_reach_28 : decode b_T_reach 28 = .ok (.aload_n 0, 1) := by decide +kernel
theorem d_T_reach_29 : decode b_T_reach 29 = .ok (.getfield 19, 3) := by decide +kernel
theorem d_T_reach_32 : decode b_T_reach 32 = .ok (.aload_n 0, 1) := by decide +kernel
theorem d_T_reach_33 : decode b_T_reach 33 = .ok (.getfield 12, 3) := by decide +kernel
theorem d_T_reach_36 : decode b_T_reach 36 = .ok (.iload_n 1, 1) := by decide +kernel
theorem d_T_reach_37 : decode b_T_reach 37 = .ok (.iload_n 2, 1) := by decide +kernel
theorem d_T_reach_38 : decode b_T_reach 38 = .ok (.invokevirtual 124, 3) := by decide +kernel
theorem d_T_reach_41 : decode b_T_reach 41 = .ok (.iconst 0, 1) := by decide +kernel
theorem d_T_reach_42 : decode b_T_reach 42 = .ok (.istore 4, 2) := by decide +kernel
theorem d_T_reach_44 : decode b_T_reach 44 = .ok (.iconst 0, 1) := by decide +kernel
theorem d_T_reach_45 : decode b_T_reach 45 = .ok (.istore 5, 2) := by decide +kernel
theorem d_T_reach_47 : decode b_T_reach 47 = .ok (.iload 5, 2) := by decide +kernel
theorem d_T_reach_49 : decode b_T_reach 49 = .ok (.aload_n 0, 1) := by decide +kernel
theorem d_T_reach_50 : decode b_T_reach 50 = .ok (.getfield 12, 3) := by decide +kernel
theorem d_T_reach_53 : decode b_T_reach 53 = .ok (.getfield 66, 3) := by decide +kernel
theorem d_T_reach_56 : decode b_T_reach 56 = .ok (.if_icmp .ge 31, 3) := by decide +kernel
theorem d_T_reach_59 : decode b_T_reach 59 = .ok (.aload_n 0, 1) := by decide +kernel
theorem d_T_reach_60 : decode b_T_reach 60 = .ok (.getfield 19, 3) := by decide +kernel
theorem d_T_reach_63 : decode b_T_reach 63 = .ok (.iload 5, 2) := by decide +kernel
theorem d_T_reach_65 : decode b_T_reach 65 = .ok (.invokevirtual 128, 3) := by decide +kernel
theorem d_T_reach_68 : decode b_T_reach 68 = .ok (.iload_n 3, 1) := by decide +kernel
theorem d_T_reach_69 : decode b_T_reach 69 = .ok (.if_icmp .gt 12, 3) := by decide +kernel
theorem d_T_reach_72 : decode b_T_reach 72 = .ok (.iload 4, 2) := by decide +kernel
theorem d_T_reach_74 : decode b_T_reach 74 = .ok (.iconst 1, 1) := by decide +kernel
theorem d_T_reach_75 : decode b_T_reach 75 = .ok (.iload 5, 2) := by decide +kernel
theorem d_T_reach_77 : decode b_T_reach 77 = .ok (.ishl, 1) := by decide +kernel
theorem d_T_reach_78 : decode b_T_reach 78 = .ok (.ior, 1) := by decide +kernel
theorem d_T_reach_79 : decode b_T_reach 79 = .ok (.istore 4, 2) := by decide +kernel
theorem d_T_reach_81 : decode b_T_reach 81 = .ok (.iinc 5 1, 3) := by decide +kernel
theorem d_T_reach_84 : decode b_T_reach 84 = .ok (.goto (-37), 3) := by decide +kernel
theorem d_T_reach_87 : decode b_T_reach 87 = .ok (.iload 4, 2) := by decide +kernel
theorem d_T_reach_89 : decode b_T_reach 89 = .ok (.ireturn, 1) := by decide +kernel
theorem d_T_way_0 : decode b_T_way 0 = .ok (.aload_n 0, 1) := by decide +kernel
theorem d_T_way_1 : decode b_T_way 1 = .ok (.getfield 12, 3) := by decide +kernel
theorem d_T_way_4 : decode b_T_way 4 = .ok (.iload_n 1, 1) := by decide +kernel
theorem d_T_way_5 : decode b_T_way 5 = .ok (.iload_n 2, 1) := by decide +kernel
theorem d_T_way_6 : decode b_T_way 6 = .ok (.invokevirtual 77, 3) := by decide +kernel
theorem d_T_way_9 : decode b_T_way 9 = .ok (.ifCond .eq 10, 3) := by decide +kernel
theorem d_T_way_12 : decode b_T_way 12 = .ok (.iload_n 3, 1) := by decide +kernel
theorem d_T_way_13 : decode b_T_way 13 = .ok (.invokestatic 121, 3) := by decide +kernel
theorem d_T_way_16 : decode b_T_way 16 = .ok (.ifCond .ne 6, 3) := by decide +kernel
theorem d_T_way_19 : decode b_T_way 19 = .ok (.bipush (-2), 2) := by decide +kernel
theorem d_T_way_21 : decode b_T_way 21 = .ok (.ireturn, 1) := by decide +kernel
theorem d_T_way_22 : decode b_T_way 22 = .ok (.aload_n 0, 1) := by decide +kernel
theorem d_T_way_23 : decode b_T_way 23 = .ok (.getfield 19, 3) := by decide +kernel
theorem d_T_way_26 : decode b_T_way 26 = .ok (.aload_n 0, 1) := by decide +kernel
theorem d_T_way_27 : decode b_T_way 27 = .ok (.getfield 12, 3) := by decide +kernel
theorem d_T_way_30 : decode b_T_way 30 = .ok (.iload_n 1, 1) := by decide +kernel
theorem d_T_way_31 : decode b_T_way 31 = .ok (.iload_n 3, 1) := by decide +kernel
theorem d_T_way_32 : decode b_T_way 32 = .ok (.invokevirtual 124, 3) := by decide +kernel
theorem d_T_way_35 : decode b_T_way 35 = .ok (.aload_n 0, 1) := by decide +kernel
theorem d_T_way_36 : decode b_T_way 36 = .ok (.getfield 19, 3) := by decide +kernel
theorem d_T_way_39 : decode b_T_way 39 = .ok (.iload_n 2, 1) := by decide +kernel
theorem d_T_way_40 : decode b_T_way 40 = .ok (.invokevirtual 128, 3) := by decide +kernel
theorem d_T_way_43 : decode b_T_way 43 = .ok (.ldc 173, 2) := by decide +kernel
theorem d_T_way_45 : decode b_T_way 45 = .ok (.if_icmp .lt 5, 3) := by decide +kernel
theorem d_T_way_48 : decode b_T_way 48 = .ok (.iconst (-1), 1) := by decide +kernel
theorem d_T_way_49 : decode b_T_way 49 = .ok (.ireturn, 1) := by decide +kernel
theorem d_T_way_50 : decode b_T_way 50 = .ok (.aload_n 0, 1) := by decide +kernel
theorem d_T_way_51 : decode b_T_way 51 = .ok (.getfield 43, 3) := by decide +kernel
theorem d_T_way_54 : decode b_T_way 54 = .ok (.aload_n 0, 1) := by decide +kernel
theorem d_T_way_55 : decode b_T_way 55 = .ok (.getfield 12, 3) := by decide +kernel
theorem d_T_way_58 : decode b_T_way 58 = .ok (.aload_n 0, 1) := by decide +kernel
theorem d_T_way_59 : decode b_T_way 59 = .ok (.getfield 19, 3) := by decide +kernel
theorem d_T_way_62 : decode b_T_way 62 = .ok (.iload_n 1, 1) := by decide +kernel
theorem d_T_way_63 : decode b_T_way 63 = .ok (.iload_n 2, 1) := by decide +kernel
theorem d_T_way_64 : decode b_T_way 64 = .ok (.invokevirtual 174, 3) := by decide +kernel
theorem d_T_way_67 : decode b_T_way 67 = .ok (.aload_n 0, 1) := by decide +kernel
theorem d_T_way_68 : decode b_T_way 68 = .ok (.getfield 43, 3) := by decide +kernel
theorem d_T_way_71 : decode b_T_way 71 = .ok (.getfield 61, 3) := by decide +kernel
theorem d_T_way_74 : decode b_T_way 74 = .ok (.ireturn, 1) := by decide +kernel
theorem d_T_act_0 : decode b_T_act 0 = .ok (.iload_n 1, 1) := by decide +kernel
theorem d_T_act_1 : decode b_T_act 1 = .ok (.iconst 0, 1) := by decide +kernel
theorem d_T_act_2 : decode b_T_act 2 = .ok (.aload_n 0, 1) := by decide +kernel
theorem d_T_act_3 : decode b_T_act 3 = .ok (.getfield 43, 3) := by decide +kernel
theorem d_T_act_6 : decode b_T_act 6 = .ok (.getfield 61, 3) := by decide +kernel
theorem d_T_act_9 : decode b_T_act 9 = .ok (.iconst 1, 1) := by decide +kernel
theorem d_T_act_10 : decode b_T_act 10 = .ok (.isub, 1) := by decide +kernel
theorem d_T_act_11 : decode b_T_act 11 = .ok (.invokestatic 62, 3) := by decide +kernel
theorem d_T_act_14 : decode b_T_act 14 = .ok (.ifCond .ne 6, 3) := by decide +kernel
theorem d_T_act_17 : decode b_T_act 17 = .ok (.bipush (-2), 2) := by decide +kernel
theorem d_T_act_19 : decode b_T_act 19 = .ok (.ireturn, 1) := by decide +kernel
theorem d_T_act_20 : decode b_T_act 20 = .ok (.aload_n 0, 1) := by decide +kernel
theorem d_T_act_21 : decode b_T_act 21 = .ok (.getfield 43, 3) := by decide +kernel
theorem d_T_act_24 : decode b_T_act 24 = .ok (.getfield 61, 3) := by decide +kernel
theorem d_T_act_27 : decode b_T_act 27 = .ok (.iconst 1, 1) := by decide +kernel
theorem d_T_act_28 : decode b_T_act 28 = .ok (.isub, 1) := by decide +kernel
theorem d_T_act_29 : decode b_T_act 29 = .ok (.iload_n 1, 1) := by decide +kernel
theorem d_T_act_30 : decode b_T_act 30 = .ok (.isub, 1) := by decide +kernel
theorem d_T_act_31 : decode b_T_act 31 = .ok (.istore_n 3, 1) := by decide +kernel
theorem d_T_act_32 : decode b_T_act 32 = .ok (.iload_n 2, 1) := by decide +kernel
theorem d_T_act_33 : decode b_T_act 33 = .ok (.tableswitch 94 0 4 #[35, 54, 64, 74, 84], 35) := by decide +kernel
theorem d_T_act_68 : decode b_T_act 68 = .ok (.aload_n 0, 1) := by decide +kernel
theorem d_T_act_69 : decode b_T_act 69 = .ok (.getfield 43, 3) := by decide +kernel
theorem d_T_act_72 : decode b_T_act 72 = .ok (.getfield 178, 3) := by decide +kernel
theorem d_T_act_75 : decode b_T_act 75 = .ok (.iload_n 3, 1) := by decide +kernel
theorem d_T_act_76 : decode b_T_act 76 = .ok (.iaload, 1) := by decide +kernel
theorem d_T_act_77 : decode b_T_act 77 = .ok (.iconst (-1), 1) := by decide +kernel
theorem d_T_act_78 : decode b_T_act 78 = .ok (.if_icmp .ne 7, 3) := by decide +kernel
theorem d_T_act_81 : decode b_T_act 81 = .ok (.iconst 0, 1) := by decide +kernel
theorem d_T_act_82 : decode b_T_act 82 = .ok (.goto 4, 3) := by decide +kernel
theorem d_T_act_85 : decode b_T_act 85 = .ok (.iconst 1, 1) := by decide +kernel
theorem d_T_act_86 : decode b_T_act 86 = .ok (.ireturn, 1) := by decide +kernel
theorem d_T_act_87 : decode b_T_act 87 = .ok (.aload_n 0, 1) := by decide +kernel
theorem d_T_act_88 : decode b_T_act 88 = .ok (.getfield 43, 3) := by decide +kernel
theorem d_T_act_91 : decode b_T_act 91 = .ok (.getfield 181, 3) := by decide +kernel
theorem d_T_act_94 : decode b_T_act 94 = .ok (.iload_n 3, 1) := by decide +kernel
theorem d_T_act_95 : decode b_T_act 95 = .ok (.iaload, 1) := by decide +kernel
theorem d_T_act_96 : decode b_T_act 96 = .ok (.ireturn, 1) := by decide +kernel
theorem d_T_act_97 : decode b_T_act 97 = .ok (.aload_n 0, 1) := by decide +kernel
theorem d_T_act_98 : decode b_T_act 98 = .ok (.getfield 43, 3) := by decide +kernel
theorem d_T_act_101 : decode b_T_act 101 = .ok (.getfield 178, 3) := by decide +kernel
theorem d_T_act_104 : decode b_T_act 104 = .ok (.iload_n 3, 1) := by decide +kernel
theorem d_T_act_105 : decode b_T_act 105 = .ok (.iaload, 1) := by decide +kernel
theorem d_T_act_106 : decode b_T_act 106 = .ok (.ireturn, 1) := by decide +kernel
theorem d_T_act_107 : decode b_T_act 107 = .ok (.aload_n 0, 1) := by decide +kernel
theorem d_T_act_108 : decode b_T_act 108 = .ok (.getfield 43, 3) := by decide +kernel
theorem d_T_act_111 : decode b_T_act 111 = .ok (.getfield 184, 3) := by decide +kernel
theorem d_T_act_114 : decode b_T_act 114 = .ok (.iload_n 3, 1) := by decide +kernel
theorem d_T_act_115 : decode b_T_act 115 = .ok (.iaload, 1) := by decide +kernel
theorem d_T_act_116 : decode b_T_act 116 = .ok (.ireturn, 1) := by decide +kernel
theorem d_T_act_117 : decode b_T_act 117 = .ok (.aload_n 0, 1) := by decide +kernel
theorem d_T_act_118 : decode b_T_act 118 = .ok (.getfield 43, 3) := by decide +kernel
theorem d_T_act_121 : decode b_T_act 121 = .ok (.getfield 187, 3) := by decide +kernel
theorem d_T_act_124 : decode b_T_act 124 = .ok (.iload_n 3, 1) := by decide +kernel
theorem d_T_act_125 : decode b_T_act 125 = .ok (.iaload, 1) := by decide +kernel
theorem d_T_act_126 : decode b_T_act 126 = .ok (.ireturn, 1) := by decide +kernel
theorem d_T_act_127 : decode b_T_act 127 = .ok (.bipush (-2), 2) := by decide +kernel
theorem d_T_act_129 : decode b_T_act 129 = .ok (.ireturn, 1) := by decide +kernel
theorem d_T_next_0 : decode b_T_next 0 = .ok (.aload_n 0, 1) := by decide +kernel
theorem d_T_next_1 : decode b_T_next 1 = .ok (.getfield 12, 3) := by decide +kernel
theorem d_T_next_4 : decode b_T_next 4 = .ok (.iload_n 1, 1) := by decide +kernel
theorem d_T_next_5 : decode b_T_next 5 = .ok (.invokevirtual 73, 3) := by decide +kernel
theorem d_T_next_8 : decode b_T_next 8 = .ok (.ifCond .eq 10, 3) := by decide +kernel
theorem d_T_next_11 : decode b_T_next 11 = .ok (.iload_n 2, 1) := by decide +kernel
theorem d_T_next_12 : decode b_T_next 12 = .ok (.invokestatic 121, 3) := by decide +kernel
theorem d_T_next_15 : decode b_T_next 15 = .ok (.ifCond .ne 6, 3) := by decide +kernel
theorem d_T_next_18 : decode b_T_next 18 = .ok (.bipush (-2), 2) := by decide +kernel
theorem d_T_next_20 : decode b_T_next 20 = .ok (.ireturn, 1) := by decide +kernel
theorem d_T_next_21 : decode b_T_next 21 = .ok (.aload_n 0, 1) := by decide +kernel
theorem d_T_next_22 : decode b_T_next 22 = .ok (.getfield 12, 3) := by decide +kernel
theorem d_T_next_25 : decode b_T_next 25 = .ok (.getfield 85, 3) := by decide +kernel
theorem d_T_next_28 : decode b_T_next 28 = .ok (.aload_n 0, 1) := by decide +kernel
theorem d_T_next_29 : decode b_T_next 29 = .ok (.getfield 12, 3) := by decide +kernel
theorem d_T_next_32 : decode b_T_next 32 = .ok (.getfield 47, 3) := by decide +kernel
theorem d_T_next_35 : decode b_T_next 35 = .ok (.iload_n 1, 1) := by decide +kernel
theorem d_T_next_36 : decode b_T_next 36 = .ok (.iload_n 2, 1) := by decide +kernel
theorem d_T_next_37 : decode b_T_next 37 = .ok (.invokevirtual 188, 3) := by decide +kernel
theorem d_T_next_40 : decode b_T_next 40 = .ok (.ireturn, 1) := by decide +kernel
theorem d_T_told_0 : decode b_T_told 0 = .ok (.aload_n 0, 1) := by decide +kernel
theorem d_T_told_1 : decode b_T_told 1 = .ok (.getfield 12, 3) := by decide +kernel
theorem d_T_told_4 : decode b_T_told 4 = .ok (.getfield 47, 3) := by decide +kernel
theorem d_T_told_7 : decode b_T_told 7 = .ok (.iload_n 1, 1) := by decide +kernel
theorem d_T_told_8 : decode b_T_told 8 = .ok (.invokevirtual 105, 3) := by decide +kernel
theorem d_T_told_11 : decode b_T_told 11 = .ok (.ifCond .ne 6, 3) := by decide +kernel
theorem d_T_told_14 : decode b_T_told 14 = .ok (.bipush (-2), 2) := by decide +kernel
theorem d_T_told_16 : decode b_T_told 16 = .ok (.ireturn, 1) := by decide +kernel
theorem d_T_told_17 : decode b_T_told 17 = .ok (.iload_n 2, 1) := by decide +kernel
theorem d_T_told_18 : decode b_T_told 18 = .ok (.tableswitch 115 0 5 #[38, 51, 64, 77, 90, 103], 38) := by decide +kernel
theorem d_T_told_56 : decode b_T_told 56 = .ok (.aload_n 0, 1) := by decide +kernel
theorem d_T_told_57 : decode b_T_told 57 = .ok (.getfield 12, 3) := by decide +kernel
theorem d_T_told_60 : decode b_T_told 60 = .ok (.getfield 47, 3) := by decide +kernel
theorem d_T_told_63 : decode b_T_told 63 = .ok (.getfield 192, 3) := by decide +kernel
theorem d_T_told_66 : decode b_T_told 66 = .ok (.iload_n 1, 1) := by decide +kernel
theorem d_T_told_67 : decode b_T_told 67 = .ok (.iaload, 1) := by decide +kernel
theorem d_T_told_68 : decode b_T_told 68 = .ok (.ireturn, 1) := by decide +kernel
theorem d_T_told_69 : decode b_T_told 69 = .ok (.aload_n 0, 1) := by decide +kernel
theorem d_T_told_70 : decode b_T_told 70 = .ok (.getfield 12, 3) := by decide +kernel
theorem d_T_told_73 : decode b_T_told 73 = .ok (.getfield 47, 3) := by decide +kernel
theorem d_T_told_76 : decode b_T_told 76 = .ok (.getfield 195, 3) := by decide +kernel
theorem d_T_told_79 : decode b_T_told 79 = .ok (.iload_n 1, 1) := by decide +kernel
theorem d_T_told_80 : decode b_T_told 80 = .ok (.iaload, 1) := by decide +kernel
theorem d_T_told_81 : decode b_T_told 81 = .ok (.ireturn, 1) := by decide +kernel
theorem d_T_told_82 : decode b_T_told 82 = .ok (.aload_n 0, 1) := by decide +kernel
theorem d_T_told_83 : decode b_T_told 83 = .ok (.getfield 12, 3) := by decide +kernel
theorem d_T_told_86 : decode b_T_told 86 = .ok (.getfield 47, 3) := by decide +kernel
theorem d_T_told_89 : decode b_T_told 89 = .ok (.getfield 198, 3) := by decide +kernel
theorem d_T_told_92 : decode b_T_told 92 = .ok (.iload_n 1, 1) := by decide +kernel
theorem d_T_told_93 : decode b_T_told 93 = .ok (.iaload, 1) := by decide +kernel
theorem d_T_told_94 : decode b_T_told 94 = .ok (.ireturn, 1) := by decide +kernel
theorem d_T_told_95 : decode b_T_told 95 = .ok (.aload_n 0, 1) := by decide +kernel
theorem d_T_told_96 : decode b_T_told 96 = .ok (.getfield 12, 3) := by decide +kernel
theorem d_T_told_99 : decode b_T_told 99 = .ok (.getfield 47, 3) := by decide +kernel
theorem d_T_told_102 : decode b_T_told 102 = .ok (.getfield 201, 3) := by decide +kernel
theorem d_T_told_105 : decode b_T_told 105 = .ok (.iload_n 1, 1) := by decide +kernel
theorem d_T_told_106 : decode b_T_told 106 = .ok (.iaload, 1) := by decide +kernel
theorem d_T_told_107 : decode b_T_told 107 = .ok (.ireturn, 1) := by decide +kernel
theorem d_T_told_108 : decode b_T_told 108 = .ok (.aload_n 0, 1) := by decide +kernel
theorem d_T_told_109 : decode b_T_told 109 = .ok (.getfield 12, 3) := by decide +kernel
theorem d_T_told_112 : decode b_T_told 112 = .ok (.getfield 47, 3) := by decide +kernel
theorem d_T_told_115 : decode b_T_told 115 = .ok (.getfield 204, 3) := by decide +kernel
theorem d_T_told_118 : decode b_T_told 118 = .ok (.iload_n 1, 1) := by decide +kernel
theorem d_T_told_119 : decode b_T_told 119 = .ok (.iaload, 1) := by decide +kernel
theorem d_T_told_120 : decode b_T_told 120 = .ok (.ireturn, 1) := by decide +kernel
theorem d_T_told_121 : decode b_T_told 121 = .ok (.aload_n 0, 1) := by decide +kernel
theorem d_T_told_122 : decode b_T_told 122 = .ok (.getfield 12, 3) := by decide +kernel
theorem d_T_told_125 : decode b_T_told 125 = .ok (.getfield 47, 3) := by decide +kernel
theorem d_T_told_128 : decode b_T_told 128 = .ok (.iload_n 1, 1) := by decide +kernel
theorem d_T_told_129 : decode b_T_told 129 = .ok (.invokevirtual 205, 3) := by decide +kernel
theorem d_T_told_132 : decode b_T_told 132 = .ok (.ireturn, 1) := by decide +kernel
theorem d_T_told_133 : decode b_T_told 133 = .ok (.bipush (-2), 2) := by decide +kernel
theorem d_T_told_135 : decode b_T_told 135 = .ok (.ireturn, 1) := by decide +kernel
theorem d_T_of_0 : decode b_T_of 0 = .ok (.iload_n 1, 1) := by decide +kernel
theorem d_T_of_1 : decode b_T_of 1 = .ok (.tableswitch 94 0 4 #[35, 43, 54, 65, 76], 35) := by decide +kernel
theorem d_T_of_36 : decode b_T_of 36 = .ok (.aload_n 0, 1) := by decide +kernel
theorem d_T_of_37 : decode b_T_of 37 = .ok (.getfield 12, 3) := by decide +kernel
theorem d_T_of_40 : decode b_T_of 40 = .ok (.getfield 66, 3) := by decide +kernel
theorem d_T_of_43 : decode b_T_of 43 = .ok (.ireturn, 1) := by decide +kernel
theorem d_T_of_44 : decode b_T_of 44 = .ok (.aload_n 0, 1) := by decide +kernel
theorem d_T_of_45 : decode b_T_of 45 = .ok (.getfield 12, 3) := by decide +kernel
theorem d_T_of_48 : decode b_T_of 48 = .ok (.getfield 47, 3) := by decide +kernel
theorem d_T_of_51 : decode b_T_of 51 = .ok (.getfield 51, 3) := by decide +kernel
theorem d_T_of_54 : decode b_T_of 54 = .ok (.ireturn, 1) := by decide +kernel
theorem d_T_of_55 : decode b_T_of 55 = .ok (.aload_n 0, 1) := by decide +kernel
theorem d_T_of_56 : decode b_T_of 56 = .ok (.getfield 12, 3) := by decide +kernel
theorem d_T_of_59 : decode b_T_of 59 = .ok (.getfield 95, 3) := by decide +kernel
theorem d_T_of_62 : decode b_T_of 62 = .ok (.getfield 99, 3) := by decide +kernel
theorem d_T_of_65 : decode b_T_of 65 = .ok (.ireturn, 1) := by decide +kernel
theorem d_T_of_66 : decode b_T_of 66 = .ok (.aload_n 0, 1) := by decide +kernel
theorem d_T_of_67 : decode b_T_of 67 = .ok (.getfield 12, 3) := by decide +kernel
theorem d_T_of_70 : decode b_T_of 70 = .ok (.getfield 85, 3) := by decide +kernel
theorem d_T_of_73 : decode b_T_of 73 = .ok (.getfield 208, 3) := by decide +kernel
theorem d_T_of_76 : decode b_T_of 76 = .ok (.ireturn, 1) := by decide +kernel
theorem d_T_of_77 : decode b_T_of 77 = .ok (.aload_n 0, 1) := by decide +kernel
theorem d_T_of_78 : decode b_T_of 78 = .ok (.getfield 12, 3) := by decide +kernel
theorem d_T_of_81 : decode b_T_of 81 = .ok (.getfield 85, 3) := by decide +kernel
theorem d_T_of_84 : decode b_T_of 84 = .ok (.aload_n 0, 1) := by decide +kernel
theorem d_T_of_85 : decode b_T_of 85 = .ok (.getfield 12, 3) := by decide +kernel
theorem d_T_of_88 : decode b_T_of 88 = .ok (.getfield 47, 3) := by decide +kernel
theorem d_T_of_91 : decode b_T_of 91 = .ok (.invokevirtual 209, 3) := by decide +kernel
theorem d_T_of_94 : decode b_T_of 94 = .ok (.ireturn, 1) := by decide +kernel
theorem d_T_of_95 : decode b_T_of 95 = .ok (.bipush (-2), 2) := by decide +kernel
theorem d_T_of_97 : decode b_T_of 97 = .ok (.ireturn, 1) := by decide +kernel
theorem d_T_within_0 : decode b_T_within 0 = .ok (.iload_n 0, 1) := by decide +kernel
theorem d_T_within_1 : decode b_T_within 1 = .ok (.iload_n 1, 1) := by decide +kernel
theorem d_T_within_2 : decode b_T_within 2 = .ok (.if_icmp .lt 12, 3) := by decide +kernel
theorem d_T_within_5 : decode b_T_within 5 = .ok (.iload_n 0, 1) := by decide +kernel
theorem d_T_within_6 : decode b_T_within 6 = .ok (.iload_n 2, 1) := by decide +kernel
theorem d_T_within_7 : decode b_T_within 7 = .ok (.if_icmp .gt 7, 3) := by decide +kernel
theorem d_T_within_10 : decode b_T_within 10 = .ok (.iconst 1, 1) := by decide +kernel
theorem d_T_within_11 : decode b_T_within 11 = .ok (.goto 4, 3) := by decide +kernel
theorem d_T_within_14 : decode b_T_within 14 = .ok (.iconst 0, 1) := by decide +kernel
theorem d_T_within_15 : decode b_T_within 15 = .ok (.ireturn, 1) := by decide +kernel
theorem d_T_isTime_0 : decode b_T_isTime 0 = .ok (.iload_n 0, 1) := by decide +kernel
theorem d_T_isTime_1 : decode b_T_isTime 1 = .ok (.iconst 0, 1) := by decide +kernel
theorem d_T_isTime_2 : decode b_T_isTime 2 = .ok (.sipush 10079, 3) := by decide +kernel
theorem d_T_isTime_5 : decode b_T_isTime 5 = .ok (.invokestatic 62, 3) := by decide +kernel
theorem d_T_isTime_8 : decode b_T_isTime 8 = .ok (.ireturn, 1) := by decide +kernel
theorem d_T_isBy_0 : decode b_T_isBy 0 = .ok (.iload_n 0, 1) := by decide +kernel
theorem d_T_isBy_1 : decode b_T_isBy 1 = .ok (.iconst 0, 1) := by decide +kernel
theorem d_T_isBy_2 : decode b_T_isBy 2 = .ok (.sipush 20000, 3) := by decide +kernel
theorem d_T_isBy_5 : decode b_T_isBy 5 = .ok (.invokestatic 62, 3) := by decide +kernel
theorem d_T_isBy_8 : decode b_T_isBy 8 = .ok (.ireturn, 1) := by decide +kernel
theorem d_T_isSpan_0 : decode b_T_isSpan 0 = .ok (.iload_n 0, 1) := by decide +kernel
theorem d_T_isSpan_1 : decode b_T_isSpan 1 = .ok (.invokestatic 121, 3) := by decide +kernel
theorem d_T_isSpan_4 : decode b_T_isSpan 4 = .ok (.ifCond .eq 27, 3) := by decide +kernel
theorem d_T_isSpan_7 : decode b_T_isSpan 7 = .ok (.iload_n 1, 1) := by decide +kernel
theorem d_T_isSpan_8 : decode b_T_isSpan 8 = .ok (.invokestatic 121, 3) := by decide +kernel
theorem d_T_isSpan_11 : decode b_T_isSpan 11 = .ok (.ifCond .eq 20, 3) := by decide +kernel
theorem d_T_isSpan_14 : decode b_T_isSpan 14 = .ok (.iload_n 1, 1) := by decide +kernel
theorem d_T_isSpan_15 : decode b_T_isSpan 15 = .ok (.iload_n 0, 1) := by decide +kernel
theorem d_T_isSpan_16 : decode b_T_isSpan 16 = .ok (.isub, 1) := by decide +kernel
theorem d_T_isSpan_17 : decode b_T_isSpan 17 = .ok (.iconst 0, 1) := by decide +kernel
theorem d_T_isSpan_18 : decode b_T_isSpan 18 = .ok (.sipush 600, 3) := by decide +kernel
theorem d_T_isSpan_21 : decode b_T_isSpan 21 = .ok (.invokestatic 62, 3) := by decide +kernel
theorem d_T_isSpan_24 : decode b_T_isSpan 24 = .ok (.ifCond .eq 7, 3) := by decide +kernel
theorem d_T_isSpan_27 : decode b_T_isSpan 27 = .ok (.iconst 1, 1) := by decide +kernel
theorem d_T_isSpan_28 : decode b_T_isSpan 28 = .ok (.goto 4, 3) := by decide +kernel
theorem d_T_isSpan_31 : decode b_T_isSpan 31 = .ok (.iconst 0, 1) := by decide +kernel
theorem d_T_isSpan_32 : decode b_T_isSpan 32 = .ok (.ireturn, 1) := by decide +kernel
theorem d_T_orNone_0 : decode b_T_orNone 0 = .ok (.iload_n 0, 1) := by decide +kernel
theorem d_T_orNone_1 : decode b_T_orNone 1 = .ok (.ldc 173, 2) := by decide +kernel
theorem d_T_orNone_3 : decode b_T_orNone 3 = .ok (.if_icmp .lt 7, 3) := by decide +kernel
theorem d_T_orNone_6 : decode b_T_orNone 6 = .ok (.iconst (-1), 1) := by decide +kernel
theorem d_T_orNone_7 : decode b_T_orNone 7 = .ok (.goto 4, 3) := by decide +kernel
theorem d_T_orNone_10 : decode b_T_orNone 10 = .ok (.iload_n 0, 1) := by decide +kernel
theorem d_T_orNone_11 : decode b_T_orNone 11 = .ok (.ireturn, 1) := by decide +kernel
theorem d_Ne_init_0 : decode b_Ne_init 0 = .ok (.aload_n 0, 1) := by decide +kernel
theorem d_Ne_init_1 : decode b_Ne_init 1 = .ok (.invokespecial 3, 3) := by decide +kernel
theorem d_Ne_init_4 : decode b_Ne_init 4 = .ok (.aload_n 0, 1) := by decide +kernel
theorem d_Ne_init_5 : decode b_Ne_init 5 = .ok (.iconst 0, 1) := by decide +kernel
theorem d_Ne_init_6 : decode b_Ne_init 6 = .ok (.putfield 9, 3) := by decide +kernel
theorem d_Ne_init_9 : decode b_Ne_init 9 = .ok (.aload_n 0, 1) := by decide +kernel
theorem d_Ne_init_10 : decode b_Ne_init 10 = .ok (.bipush 12, 2) := by decide +kernel
theorem d_Ne_init_12 : decode b_Ne_init 12 = .ok (.newarray .int, 2) := by decide +kernel
theorem d_Ne_init_14 : decode b_Ne_init 14 = .ok (.putfield 15, 3) := by decide +kernel
theorem d_Ne_init_17 : decode b_Ne_init 17 = .ok (.aload_n 0, 1) := by decide +kernel
theorem d_Ne_init_18 : decode b_Ne_init 18 = .ok (.new 19, 3) := by decide +kernel
theorem d_Ne_init_21 : decode b_Ne_init 21 = .ok (.dup, 1) := by decide +kernel
theorem d_Ne_init_22 : decode b_Ne_init 22 = .ok (.invokespecial 21, 3) := by decide +kernel
theorem d_Ne_init_25 : decode b_Ne_init 25 = .ok (.putfield 22, 3) := by decide +kernel
theorem d_Ne_init_28 : decode b_Ne_init 28 = .ok (.aload_n 0, 1) := by decide +kernel
theorem d_Ne_init_29 : decode b_Ne_init 29 = .ok (.new 26, 3) := by decide +kernel
theorem d_Ne_init_32 : decode b_Ne_init 32 = .ok (.dup, 1) := by decide +kernel
theorem d_Ne_init_33 : decode b_Ne_init 33 = .ok (.invokespecial 28, 3) := by decide +kernel
theorem d_Ne_init_36 : decode b_Ne_init 36 = .ok (.putfield 29, 3) := by decide +kernel
theorem d_Ne_init_39 : decode b_Ne_init 39 = .ok (.aload_n 0, 1) := by decide +kernel
theorem d_Ne_init_40 : decode b_Ne_init 40 = .ok (.new 33, 3) := by decide +kernel
theorem d_Ne_init_43 : decode b_Ne_init 43 = .ok (.dup, 1) := by decide +kernel
theorem d_Ne_init_44 : decode b_Ne_init 44 = .ok (.invokespecial 35, 3) := by decide +kernel
theorem d_Ne_init_47 : decode b_Ne_init 47 = .ok (.putfield 36, 3) := by decide +kernel
theorem d_Ne_init_50 : decode b_Ne_init 50 = .ok (.return_, 1) := by decide +kernel
theorem d_Ne_empty_0 : decode b_Ne_empty 0 = .ok (.aload_n 0, 1) := by decide +kernel
theorem d_Ne_empty_1 : decode b_Ne_empty 1 = .ok (.iconst 0, 1) := by decide +kernel
theorem d_Ne_empty_2 : decode b_Ne_empty 2 = .ok (.putfield 9, 3) := by decide +kernel
theorem d_Ne_empty_5 : decode b_Ne_empty 5 = .ok (.aload_n 0, 1) := by decide +kernel
theorem d_Ne_empty_6 : decode b_Ne_empty 6 = .ok (.getfield 22, 3) := by decide +kernel
theorem d_Ne_empty_9 : decode b_Ne_empty 9 = .ok (.iconst 0, 1) := by decide +kernel
theorem d_Ne_empty_10 : decode b_Ne_empty 10 = .ok (.putfield 40, 3) := by decide +kernel
theorem d_Ne_empty_13 : decode b_Ne_empty 13 = .ok (.aload_n 0, 1) := by decide +kernel
theorem d_Ne_empty_14 : decode b_Ne_empty 14 = .ok (.getfield 29, 3) := by decide +kernel
theorem d_Ne_empty_17 : decode b_Ne_empty 17 = .ok (.iconst 0, 1) := by decide +kernel
theorem d_Ne_empty_18 : decode b_Ne_empty 18 = .ok (.putfield 43, 3) := by decide +kernel
theorem d_Ne_empty_21 : decode b_Ne_empty 21 = .ok (.aload_n 0, 1) := by decide +kernel
theorem d_Ne_empty_22 : decode b_Ne_empty 22 = .ok (.getfield 36, 3) := by decide +kernel
theorem d_Ne_empty_25 : decode b_Ne_empty 25 = .ok (.invokevirtual 44, 3) := by decide +kernel
theorem d_Ne_empty_28 : decode b_Ne_empty 28 = .ok (.return_, 1) := by decide +kernel
theorem d_Ne_hasStop_0 : decode b_Ne_hasStop 0 = .ok (.iload_n 1, 1) := by decide +kernel
theorem d_Ne_hasStop_1 : decode b_Ne_hasStop 1 = .ok (.iconst 0, 1) := by decide +kernel
theorem d_Ne_hasStop_2 : decode b_Ne_hasStop 2 = .ok (.aload_n 0, 1) := by decide +kernel
theorem d_Ne_hasStop_3 : decode b_Ne_hasStop 3 = .ok (.getfield 9, 3) := by decide +kernel
theorem d_Ne_hasStop_6 : decode b_Ne_hasStop 6 = .ok (.iconst 1, 1) := by decide +kernel
theorem d_Ne_hasStop_7 : decode b_Ne_hasStop 7 = .ok (.isub, 1) := by decide +kernel
theorem d_Ne_hasStop_8 : decode b_Ne_hasStop 8 = .ok (.invokestatic 47, 3) := by decide +kernel
theorem d_Ne_hasStop_11 : decode b_Ne_hasStop 11 = .ok (.ireturn, 1) := by decide +kernel
theorem d_Ne_hasStops_0 : decode b_Ne_hasStops 0 = .ok (.aload_n 0, 1) := by decide +kernel
theorem d_Ne_hasStops_1 : decode b_Ne_hasStops 1 = .ok (.iload_n 1, 1) := by decide +kernel
theorem d_Ne_hasStops_2 : decode b_Ne_hasStops 2 = .ok (.invokevirtual 51, 3) := by decide +kernel
theorem d_Ne_hasStops_5 : decode b_Ne_hasStops 5 = .ok (.ifCond .eq 15, 3) := by decide +kernel
theorem d_Ne_hasStops_8 : decode b_Ne_hasStops 8 = .ok (.aload_n 0, 1) := by decide +kernel
theorem d_Ne_hasStops_9 : decode b_Ne_hasStops 9 = .ok (.iload_n 2, 1) := by decide +kernel
theorem d_Ne_hasStops_10 : decode b_Ne_hasStops 10 = .ok (.invokevirtual 51, 3) := by decide +kernel
theorem d_Ne_hasStops_13 : decode b_Ne_hasStops 13 = .ok (.ifCond .eq 7, 3) := by decide +kernel
theorem d_Ne_hasStops_16 : decode b_Ne_hasStops 16 = .ok (.iconst 1, 1) := by decide +kernel
theorem d_Ne_hasStops_17 : decode b_Ne_hasStops 17 = .ok (.goto 4, 3) := by decide +kernel
theorem d_Ne_hasStops_20 : decode b_Ne_hasStops 20 = .ok (.iconst 0, 1) := by decide +kernel
theorem d_Ne_hasStops_21 : decode b_Ne_hasStops 21 = .ok (.ireturn, 1) := by decide +kernel
theorem d_Ne_gap_0 : decode b_Ne_gap 0 = .ok (.aload_n 0, 1) := by decide +kernel
theorem d_Ne_gap_1 : decode b_Ne_gap 1 = .ok (.getfield 36, 3) := by decide +kernel
theorem d_Ne_gap_4 : decode b_Ne_gap 4 = .ok (.iload_n 1, 1) := by decide +kernel
theorem d_Ne_gap_5 : decode b_Ne_gap 5 = .ok (.iload_n 2, 1) := by decide +kernel
theorem d_Ne_gap_6 : decode b_Ne_gap 6 = .ok (.invokevirtual 55, 3) := by decide +kernel
theorem d_Ne_gap_9 : decode b_Ne_gap 9 = .ok (.istore_n 3, 1) := by decide +kernel
theorem d_Ne_gap_10 : decode b_Ne_gap 10 = .ok (.iload_n 1, 1) := by decide +kernel
theorem d_Ne_gap_11 : decode b_Ne_gap 11 = .ok (.iload_n 2, 1) := by decide +kernel
theorem d_Ne_gap_12 : decode b_Ne_gap 12 = .ok (.if_icmp .ne 16, 3) := by decide +kernel
theorem d_Ne_gap_15 : decode b_Ne_gap 15 = .ok (.aload_n 0, 1) := by decide +kernel
theorem d_Ne_gap_16 : decode b_Ne_gap 16 = .ok (.getfield 15, 3) := by decide +kernel
theorem d_Ne_gap_19 : decode b_Ne_gap 19 = .ok (.iload_n 1, 1) := by decide +kernel
theorem d_Ne_gap_20 : decode b_Ne_gap 20 = .ok (.iaload, 1) := by decide +kernel
theorem d_Ne_gap_21 : decode b_Ne_gap 21 = .ok (.iload_n 3, 1) := by decide +kernel
theorem d_Ne_gap_22 : decode b_Ne_gap 22 = .ok (.invokestatic 59, 3) := by decide +kernel
theorem d_Ne_gap_25 : decode b_Ne_gap 25 = .ok (.goto 4, 3) := by decide +kernel
theorem d_Ne_gap_28 : decode b_Ne_gap 28 = .ok (.iload_n 3, 1) := by decide +kernel
theorem d_Ne_gap_29 : decode b_Ne_gap 29 = .ok (.ireturn, 1) := by decide +kernel
theorem d_Ri_init_0 : decode b_Ri_init 0 = .ok (.aload_n 0, 1) := by decide +kernel
theorem d_Ri_init_1 : decode b_Ri_init 1 = .ok (.invokespecial 3, 3) := by decide +kernel
theorem d_Ri_init_4 : decode b_Ri_init 4 = .ok (.aload_n 0, 1) := by decide +kernel
theorem d_Ri_init_5 : decode b_Ri_init 5 = .ok (.iconst 0, 1) := by decide +kernel
theorem d_Ri_init_6 : decode b_Ri_init 6 = .ok (.putfield 9, 3) := by decide +kernel
theorem d_Ri_init_9 : decode b_Ri_init 9 = .ok (.aload_n 0, 1) := by decide +kernel
theorem d_Ri_init_10 : decode b_Ri_init 10 = .ok (.bipush 40, 2) := by decide +kernel
theorem d_Ri_init_12 : decode b_Ri_init 12 = .ok (.newarray .int, 2) := by decide +kernel
theorem d_Ri_init_14 : decode b_Ri_init 14 = .ok (.putfield 15, 3) := by decide +kernel
theorem d_Ri_init_17 : decode b_Ri_init 17 = .ok (.aload_n 0, 1) := by decide +kernel
theorem d_Ri_init_18 : decode b_Ri_init 18 = .ok (.bipush 40, 2) := by decide +kernel
theorem d_Ri_init_20 : decode b_Ri_init 20 = .ok (.newarray .int, 2) := by decide +kernel
theorem d_Ri_init_22 : decode b_Ri_init 22 = .ok (.putfield 19, 3) := by decide +kernel
theorem d_Ri_init_25 : decode b_Ri_init 25 = .ok (.aload_n 0, 1) := by decide +kernel
theorem d_Ri_init_26 : decode b_Ri_init 26 = .ok (.bipush 40, 2) := by decide +kernel
theorem d_Ri_init_28 : decode b_Ri_init 28 = .ok (.newarray .int, 2) := by decide +kernel
theorem d_Ri_init_30 : decode b_Ri_init 30 = .ok (.putfield 22, 3) := by decide +kernel
theorem d_Ri_init_33 : decode b_Ri_init 33 = .ok (.aload_n 0, 1) := by decide +kernel
theorem d_Ri_init_34 : decode b_Ri_init 34 = .ok (.bipush 40, 2) := by decide +kernel
theorem d_Ri_init_36 : decode b_Ri_init 36 = .ok (.newarray .int, 2) := by decide +kernel
theorem d_Ri_init_38 : decode b_Ri_init 38 = .ok (.putfield 25, 3) := by decide +kernel
theorem d_Ri_init_41 : decode b_Ri_init 41 = .ok (.aload_n 0, 1) := by decide +kernel
theorem d_Ri_init_42 : decode b_Ri_init 42 = .ok (.bipush 40, 2) := by decide +kernel
theorem d_Ri_init_44 : decode b_Ri_init 44 = .ok (.newarray .int, 2) := by decide +kernel
theorem d_Ri_init_46 : decode b_Ri_init 46 = .ok (.putfield 28, 3) := by decide +kernel
theorem d_Ri_init_49 : decode b_Ri_init 49 = .ok (.aload_n 0, 1) := by decide +kernel
theorem d_Ri_init_50 : decode b_Ri_init 50 = .ok (.sipush 280, 3) := by decide +kernel
theorem d_Ri_init_53 : decode b_Ri_init 53 = .ok (.newarray .int, 2) := by decide +kernel
theorem d_Ri_init_55 : decode b_Ri_init 55 = .ok (.putfield 31, 3) := by decide +kernel
theorem d_Ri_init_58 : decode b_Ri_init 58 = .ok (.return_, 1) := by decide +kernel
theorem d_Ri_has_0 : decode b_Ri_has 0 = .ok (.iload_n 1, 1) := by decide +kernel
theorem d_Ri_has_1 : decode b_Ri_has 1 = .ok (.iconst 0, 1) := by decide +kernel
theorem d_Ri_has_2 : decode b_Ri_has 2 = .ok (.aload_n 0, 1) := by decide +kernel
theorem d_Ri_has_3 : decode b_Ri_has 3 = .ok (.getfield 9, 3) := by decide +kernel
theorem d_Ri_has_6 : decode b_Ri_has 6 = .ok (.iconst 1, 1) := by decide +kernel
theorem d_Ri_has_7 : decode b_Ri_has 7 = .ok (.isub, 1) := by decide +kernel
theorem d_Ri_has_8 : decode b_Ri_has 8 = .ok (.invokestatic 34, 3) := by decide +kernel
theorem d_Ri_has_11 : decode b_Ri_has 11 = .ok (.ireturn, 1) := by decide +kernel
theorem d_Ri_isOnDay_0 : decode b_Ri_isOnDay 0 = .ok (.aload_n 0, 1) := by decide +kernel
theorem d_Ri_isOnDay_1 : decode b_Ri_isOnDay 1 = .ok (.getfield 28, 3) := by decide +kernel
theorem d_Ri_isOnDay_4 : decode b_Ri_isOnDay 4 = .ok (.iload_n 1, 1) := by decide +kernel
theorem d_Ri_isOnDay_5 : decode b_Ri_isOnDay 5 = .ok (.iaload, 1) := by decide +kernel
theorem d_Ri_isOnDay_6 : decode b_Ri_isOnDay 6 = .ok (.iload_n 2, 1) := by decide +kernel
theorem d_Ri_isOnDay_7 : decode b_Ri_isOnDay 7 = .ok (.ishr, 1) := by decide +kernel
theorem d_Ri_isOnDay_8 : decode b_Ri_isOnDay 8 = .ok (.iconst 1, 1) := by decide +kernel
theorem d_Ri_isOnDay_9 : decode b_Ri_isOnDay 9 = .ok (.iand, 1) := by decide +kernel
theorem d_Ri_isOnDay_10 : decode b_Ri_isOnDay 10 = .ok (.iconst 1, 1) := by decide +kernel
theorem d_Ri_isOnDay_11 : decode b_Ri_isOnDay 11 = .ok (.if_icmp .ne 7, 3) := by decide +kernel
theorem d_Ri_isOnDay_14 : decode b_Ri_isOnDay 14 = .ok (.iconst 1, 1) := by decide +kernel
theorem d_Ri_isOnDay_15 : decode b_Ri_isOnDay 15 = .ok (.goto 4, 3) := by decide +kernel
theorem d_Ri_isOnDay_18 : decode b_Ri_isOnDay 18 = .ok (.iconst 0, 1) := by decide +kernel
theorem d_Ri_isOnDay_19 : decode b_Ri_isOnDay 19 = .ok (.ireturn, 1) := by decide +kernel
theorem d_Ri_add_0 : decode b_Ri_add 0 = .ok (.aload_n 0, 1) := by decide +kernel
theorem d_Ri_add_1 : decode b_Ri_add 1 = .ok (.getfield 9, 3) := by decide +kernel
theorem d_Ri_add_4 : decode b_Ri_add 4 = .ok (.istore 6, 2) := by decide +kernel
theorem d_Ri_add_6 : decode b_Ri_add 6 = .ok (.aload_n 0, 1) := by decide +kernel
theorem d_Ri_add_7 : decode b_Ri_add 7 = .ok (.getfield 15, 3) := by decide +kernel
theorem d_Ri_add_10 : decode b_Ri_add 10 = .ok (.iload 6, 2) := by decide +kernel
theorem d_Ri_add_12 : decode b_Ri_add 12 = .ok (.iload_n 1, 1) := by decide +kernel
theorem d_Ri_add_13 : decode b_Ri_add 13 = .ok (.iastore, 1) := by decide +kernel
theorem d_Ri_add_14 : decode b_Ri_add 14 = .ok (.aload_n 0, 1) := by decide +kernel
theorem d_Ri_add_15 : decode b_Ri_add 15 = .ok (.getfield 19, 3) := by decide +kernel
theorem d_Ri_add_18 : decode b_Ri_add 18 = .ok (.iload 6, 2) := by decide +kernel
theorem d_Ri_add_20 : decode b_Ri_add 20 = .ok (.iload_n 2, 1) := by decide +kernel
theorem d_Ri_add_21 : decode b_Ri_add 21 = .ok (.iastore, 1) := by decide +kernel
theorem d_Ri_add_22 : decode b_Ri_add 22 = .ok (.aload_n 0, 1) := by decide +kernel
theorem d_Ri_add_23 : decode b_Ri_add 23 = .ok (.getfield 22, 3) := by decide +kernel
theorem d_Ri_add_26 : decode b_Ri_add 26 = .ok (.iload 6, 2) := by decide +kernel
theorem d_Ri_add_28 : decode b_Ri_add 28 = .ok (.iload_n 3, 1) := by decide +kernel
theorem d_Ri_add_29 : decode b_Ri_add 29 = .ok (.iastore, 1) := by decide +kernel
theorem d_Ri_add_30 : decode b_Ri_add 30 = .ok (.aload_n 0, 1) := by decide +kernel
theorem d_Ri_add_31 : decode b_Ri_add 31 = .ok (.getfield 25, 3) := by decide +kernel
theorem d_Ri_add_34 : decode b_Ri_add 34 = .ok (.iload 6, 2) := by decide +kernel
theorem d_Ri_add_36 : decode b_Ri_add 36 = .ok (.iload 4, 2) := by decide +kernel
theorem d_Ri_add_38 : decode b_Ri_add 38 = .ok (.iastore, 1) := by decide +kernel
theorem d_Ri_add_39 : decode b_Ri_add 39 = .ok (.aload_n 0, 1) := by decide +kernel
theorem d_Ri_add_40 : decode b_Ri_add 40 = .ok (.getfield 28, 3) := by decide +kernel
theorem d_Ri_add_43 : decode b_Ri_add 43 = .ok (.iload 6, 2) := by decide +kernel
theorem d_Ri_add_45 : decode b_Ri_add 45 = .ok (.iload 5, 2) := by decide +kernel
theorem d_Ri_add_47 : decode b_Ri_add 47 = .ok (.iastore, 1) := by decide +kernel
theorem d_Ri_add_48 : decode b_Ri_add 48 = .ok (.iconst 0, 1) := by decide +kernel
theorem d_Ri_add_49 : decode b_Ri_add 49 = .ok (.istore 7, 2) := by decide +kernel
theorem d_Ri_add_51 : decode b_Ri_add 51 = .ok (.iload 7, 2) := by decide +kernel
theorem d_Ri_add_53 : decode b_Ri_add 53 = .ok (.bipush 7, 2) := by decide +kernel
theorem d_Ri_add_55 : decode b_Ri_add 55 = .ok (.if_icmp .ge 38, 3) := by decide +kernel
theorem d_Ri_add_58 : decode b_Ri_add 58 = .ok (.aload_n 0, 1) := by decide +kernel
theorem d_Ri_add_59 : decode b_Ri_add 59 = .ok (.getfield 31, 3) := by decide +kernel
theorem d_Ri_add_62 : decode b_Ri_add 62 = .ok (.iload 6, 2) := by decide +kernel
theorem d_Ri_add_64 : decode b_Ri_add 64 = .ok (.bipush 7, 2) := by decide +kernel
theorem d_Ri_add_66 : decode b_Ri_add 66 = .ok (.imul, 1) := by decide +kernel
theorem d_Ri_add_67 : decode b_Ri_add 67 = .ok (.iload 7, 2) := by decide +kernel
theorem d_Ri_add_69 : decode b_Ri_add 69 = .ok (.iadd, 1) := by decide +kernel
theorem d_Ri_add_70 : decode b_Ri_add 70 = .ok (.aload_n 0, 1) := by decide +kernel
theorem d_Ri_add_71 : decode b_Ri_add 71 = .ok (.iload 6, 2) := by decide +kernel
theorem d_Ri_add_73 : decode b_Ri_add 73 = .ok (.iload 7, 2) := by decide +kernel
theorem d_Ri_add_75 : decode b_Ri_add 75 = .ok (.invokevirtual 38, 3) := by decide +kernel
theorem d_Ri_add_78 : decode b_Ri_add 78 = .ok (.ifCond .eq 7, 3) := by decide +kernel
theorem d_Ri_add_81 : decode b_Ri_add 81 = .ok (.iconst 0, 1) := by decide +kernel
theorem d_Ri_add_82 : decode b_Ri_add 82 = .ok (.goto 4, 3) := by decide +kernel
theorem d_Ri_add_85 : decode b_Ri_add 85 = .ok (.iconst (-1), 1) := by decide +kernel
theorem d_Ri_add_86 : decode b_Ri_add 86 = .ok (.iastore, 1) := by decide +kernel
theorem d_Ri_add_87 : decode b_Ri_add 87 = .ok (.iinc 7 1, 3) := by decide +kernel
theorem d_Ri_add_90 : decode b_Ri_add 90 = .ok (.goto (-39), 3) := by decide +kernel
theorem d_Ri_add_93 : decode b_Ri_add 93 = .ok (.aload_n 0, 1) := by decide +kernel
theorem d_Ri_add_94 : decode b_Ri_add 94 = .ok (.dup, 1) := by decide +kernel
theorem d_Ri_add_95 : decode b_Ri_add 95 = .ok (.getfield 9, 3) := by decide +kernel
theorem d_Ri_add_98 : decode b_Ri_add 98 = .ok (.iconst 1, 1) := by decide +kernel
theorem d_Ri_add_99 : decode b_Ri_add 99 = .ok (.iadd, 1) := by decide +kernel
theorem d_Ri_add_100 : decode b_Ri_add 100 = .ok (.putfield 9, 3) := by decide +kernel
theorem d_Ri_add_103 : decode b_Ri_add 103 = .ok (.iload 6, 2) := by decide +kernel
theorem d_Ri_add_105 : decode b_Ri_add 105 = .ok (.ireturn, 1) := by decide +kernel
theorem d_Ri_goes_0 : decode b_Ri_goes 0 = .ok (.aload_n 0, 1) := by decide +kernel
theorem d_Ri_goes_1 : decode b_Ri_goes 1 = .ok (.getfield 31, 3) := by decide +kernel
theorem d_Ri_goes_4 : decode b_Ri_goes 4 = .ok (.iload_n 1, 1) := by decide +kernel
theorem d_Ri_goes_5 : decode b_Ri_goes 5 = .ok (.iaload, 1) := by decide +kernel
theorem d_Ri_goes_6 : decode b_Ri_goes 6 = .ok (.iconst (-1), 1) := by decide +kernel
theorem d_Ri_goes_7 : decode b_Ri_goes 7 = .ok (.if_icmp .eq 7, 3) := by decide +kernel
theorem d_Ri_goes_10 : decode b_Ri_goes 10 = .ok (.iconst 1, 1) := by decide +kernel
theorem d_Ri_goes_11 : decode b_Ri_goes 11 = .ok (.goto 4, 3) := by decide +kernel
theorem d_Ri_goes_14 : decode b_Ri_goes 14 = .ok (.iconst 0, 1) := by decide +kernel
theorem d_Ri_goes_15 : decode b_Ri_goes 15 = .ok (.ireturn, 1) := by decide +kernel
theorem d_Ri_leaves_0 : decode b_Ri_leaves 0 = .ok (.iload_n 1, 1) := by decide +kernel
theorem d_Ri_leaves_1 : decode b_Ri_leaves 1 = .ok (.bipush 7, 2) := by decide +kernel
theorem d_Ri_leaves_3 : decode b_Ri_leaves 3 = .ok (.irem, 1) := by decide +kernel
theorem d_Ri_leaves_4 : decode b_Ri_leaves 4 = .ok (.istore_n 2, 1) := by decide +kernel
theorem d_Ri_leaves_5 : decode b_Ri_leaves 5 = .ok (.iload_n 2, 1) := by decide +kernel
theorem d_Ri_leaves_6 : decode b_Ri_leaves 6 = .ok (.sipush 1440, 3) := by decide +kernel
theorem d_Ri_leaves_9 : decode b_Ri_leaves 9 = .ok (.imul, 1) := by decide +kernel
theorem d_Ri_leaves_10 : decode b_Ri_leaves 10 = .ok (.aload_n 0, 1) := by decide +kernel
theorem d_Ri_leaves_11 : decode b_Ri_leaves 11 = .ok (.getfield 22, 3) := by decide +kernel
theorem d_Ri_leaves_14 : decode b_Ri_leaves 14 = .ok (.iload_n 1, 1) := by decide +kernel
theorem d_Ri_leaves_15 : decode b_Ri_leaves 15 = .ok (.bipush 7, 2) := by decide +kernel
theorem d_Ri_leaves_17 : decode b_Ri_leaves 17 = .ok (.idiv, 1) := by decide +kernel
theorem d_Ri_leaves_18 : decode b_Ri_leaves 18 = .ok (.iaload, 1) := by decide +kernel
theorem d_Ri_leaves_19 : decode b_Ri_leaves 19 = .ok (.iadd, 1) := by decide +kernel
theorem d_Ri_leaves_20 : decode b_Ri_leaves 20 = .ok (.aload_n 0, 1) := by decide +kernel
theorem d_Ri_leaves_21 : decode b_Ri_leaves 21 = .ok (.getfield 31, 3) := by decide +kernel
theorem d_Ri_leaves_24 : decode b_Ri_leaves 24 = .ok (.iload_n 1, 1) := by decide +kernel
theorem d_Ri_leaves_25 : decode b_Ri_leaves 25 = .ok (.iaload, 1) := by decide +kernel
theorem d_Ri_leaves_26 : decode b_Ri_leaves 26 = .ok (.iadd, 1) := by decide +kernel
theorem d_Ri_leaves_27 : decode b_Ri_leaves 27 = .ok (.ireturn, 1) := by decide +kernel
theorem d_Ri_goingDays_0 : decode b_Ri_goingDays 0 = .ok (.iconst 0, 1) := by decide +kernel
theorem d_Ri_goingDays_1 : decode b_Ri_goingDays 1 = .ok (.istore_n 2, 1) := by decide +kernel
theorem d_Ri_goingDays_2 : decode b_Ri_goingDays 2 = .ok (.iconst 0, 1) := by decide +kernel
theorem d_Ri_goingDays_3 : decode b_Ri_goingDays 3 = .ok (.istore_n 3, 1) := by decide +kernel
theorem d_Ri_goingDays_4 : decode b_Ri_goingDays 4 = .ok (.iload_n 3, 1) := by decide +kernel
theorem d_Ri_goingDays_5 : decode b_Ri_goingDays 5 = .ok (.bipush 7, 2) := by decide +kernel
theorem d_Ri_goingDays_7 : decode b_Ri_goingDays 7 = .ok (.if_icmp .ge 28, 3) := by decide +kernel
theorem d_Ri_goingDays_10 : decode b_Ri_goingDays 10 = .ok (.aload_n 0, 1) := by decide +kernel
theorem d_Ri_goingDays_11 : decode b_Ri_goingDays 11 = .ok (.iload_n 1, 1) := by decide +kernel
theorem d_Ri_goingDays_12 : decode b_Ri_goingDays 12 = .ok (.bipush 7, 2) := by decide +kernel
theorem d_Ri_goingDays_14 : decode b_Ri_goingDays 14 = .ok (.imul, 1) := by decide +kernel
theorem d_Ri_goingDays_15 : decode b_Ri_goingDays 15 = .ok (.iload_n 3, 1) := by decide +kernel
theorem d_Ri_goingDays_16 : decode b_Ri_goingDays 16 = .ok (.iadd, 1) := by decide +kernel
theorem d_Ri_goingDays_17 : decode b_Ri_goingDays 17 = .ok (.invokevirtual 42, 3) := by decide +kernel
theorem d_Ri_goingDays_20 : decode b_Ri_goingDays 20 = .ok (.ifCond .eq 9, 3) := by decide +kernel
theorem d_Ri_goingDays_23 : decode b_Ri_goingDays 23 = .ok (.iload_n 2, 1) := by decide +kernel
theorem d_Ri_goingDays_24 : decode b_Ri_goingDays 24 = .ok (.iconst 1, 1) := by decide +kernel
theorem d_Ri_goingDays_25 : decode b_Ri_goingDays 25 = .ok (.iload_n 3, 1) := by decide +kernel
theorem d_Ri_goingDays_26 : decode b_Ri_goingDays 26 = .ok (.ishl, 1) := by decide +kernel
theorem d_Ri_goingDays_27 : decode b_Ri_goingDays 27 = .ok (.ior, 1) := by decide +kernel
theorem d_Ri_goingDays_28 : decode b_Ri_goingDays 28 = .ok (.istore_n 2, 1) := by decide +kernel
theorem d_Ri_goingDays_29 : decode b_Ri_goingDays 29 = .ok (.iinc 3 1, 3) := by decide +kernel
theorem d_Ri_goingDays_32 : decode b_Ri_goingDays 32 = .ok (.goto (-28), 3) := by decide +kernel
theorem d_Ri_goingDays_35 : decode b_Ri_goingDays 35 = .ok (.iload_n 2, 1) := by decide +kernel
theorem d_Ri_goingDays_36 : decode b_Ri_goingDays 36 = .ok (.ireturn, 1) := by decide +kernel
theorem d_Bo_init_0 : decode b_Bo_init 0 = .ok (.aload_n 0, 1) := by decide +kernel
theorem d_Bo_init_1 : decode b_Bo_init 1 = .ok (.invokespecial 3, 3) := by decide +kernel
theorem d_Bo_init_4 : decode b_Bo_init 4 = .ok (.aload_n 0, 1) := by decide +kernel
theorem d_Bo_init_5 : decode b_Bo_init 5 = .ok (.iconst 0, 1) := by decide +kernel
theorem d_Bo_init_6 : decode b_Bo_init 6 = .ok (.putfield 9, 3) := by decide +kernel
theorem d_Bo_init_9 : decode b_Bo_init 9 = .ok (.aload_n 0, 1) := by decide +kernel
theorem d_Bo_init_10 : decode b_Bo_init 10 = .ok (.sipush 280, 3) := by decide +kernel
theorem d_Bo_init_13 : decode b_Bo_init 13 = .ok (.newarray .int, 2) := by decide +kernel
theorem d_Bo_init_15 : decode b_Bo_init 15 = .ok (.putfield 15, 3) := by decide +kernel
theorem d_Bo_init_18 : decode b_Bo_init 18 = .ok (.aload_n 0, 1) := by decide +kernel
theorem d_Bo_init_19 : decode b_Bo_init 19 = .ok (.sipush 280, 3) := by decide +kernel
theorem d_Bo_init_22 : decode b_Bo_init 22 = .ok (.newarray .int, 2) := by decide +kernel
theorem d_Bo_init_24 : decode b_Bo_init 24 = .ok (.putfield 19, 3) := by decide +kernel
theorem d_Bo_init_27 : decode b_Bo_init 27 = .ok (.return_, 1) := by decide +kernel
theorem d_Bo_rideAt_0 : decode b_Bo_rideAt 0 = .ok (.aload_n 0, 1) := by decide +kernel
theorem d_Bo_rideAt_1 : decode b_Bo_rideAt 1 = .ok (.getfield 15, 3) := by decide +kernel
theorem d_Bo_rideAt_4 : decode b_Bo_rideAt 4 = .ok (.iload_n 1, 1) := by decide +kernel
theorem d_Bo_rideAt_5 : decode b_Bo_rideAt 5 = .ok (.iaload, 1) := by decide +kernel
theorem d_Bo_rideAt_6 : decode b_Bo_rideAt 6 = .ok (.bipush 7, 2) := by decide +kernel
theorem d_Bo_rideAt_8 : decode b_Bo_rideAt 8 = .ok (.idiv, 1) := by decide +kernel
theorem d_Bo_rideAt_9 : decode b_Bo_rideAt 9 = .ok (.ireturn, 1) := by decide +kernel
theorem d_Bo_putRide_0 : decode b_Bo_putRide 0 = .ok (.iconst 0, 1) := by decide +kernel
theorem d_Bo_putRide_1 : decode b_Bo_putRide 1 = .ok (.istore_n 3, 1) := by decide +kernel
theorem d_Bo_putRide_2 : decode b_Bo_putRide 2 = .ok (.iload_n 3, 1) := by decide +kernel
theorem d_Bo_putRide_3 : decode b_Bo_putRide 3 = .ok (.bipush 7, 2) := by decide +kernel
theorem d_Bo_putRide_5 : decode b_Bo_putRide 5 = .ok (.if_icmp .ge 20, 3) := by decide +kernel
theorem d_Bo_putRide_8 : decode b_Bo_putRide 8 = .ok (.aload_n 0, 1) := by decide +kernel
theorem d_Bo_putRide_9 : decode b_Bo_putRide 9 = .ok (.aload_n 1, 1) := by decide +kernel
theorem d_Bo_putRide_10 : decode b_Bo_putRide 10 = .ok (.iload_n 2, 1) := by decide +kernel
theorem d_Bo_putRide_11 : decode b_Bo_putRide 11 = .ok (.bipush 7, 2) := by decide +kernel
theorem d_Bo_putRide_13 : decode b_Bo_putRide 13 = .ok (.imul, 1) := by decide +kernel
theorem d_Bo_putRide_14 : decode b_Bo_putRide 14 = .ok (.iload_n 3, 1) := by decide +kernel
theorem d_Bo_putRide_15 : decode b_Bo_putRide 15 = .ok (.iadd, 1) := by decide +kernel
theorem d_Bo_putRide_16 : decode b_Bo_putRide 16 = .ok (.invokevirtual 22, 3) := by decide +kernel
theorem d_Bo_putRide_19 : decode b_Bo_putRide 19 = .ok (.iinc 3 1, 3) := by decide +kernel
theorem d_Bo_putRide_22 : decode b_Bo_putRide 22 = .ok (.goto (-20), 3) := by decide +kernel
theorem d_Bo_putRide_25 : decode b_Bo_putRide 25 = .ok (.return_, 1) := by decide +kernel
theorem d_Bo_putIn_0 : decode b_Bo_putIn 0 = .ok (.aload_n 1, 1) := by decide +kernel
theorem d_Bo_putIn_1 : decode b_Bo_putIn 1 = .ok (.iload_n 2, 1) := by decide +kernel
theorem d_Bo_putIn_2 : decode b_Bo_putIn 2 = .ok (.invokevirtual 26, 3) := by decide +kernel
theorem d_Bo_putIn_5 : decode b_Bo_putIn 5 = .ok (.ifCond .eq 13, 3) := by decide +kernel
theorem d_Bo_putIn_8 : decode b_Bo_putIn 8 = .ok (.aload_n 0, 1) := by decide +kernel
theorem d_Bo_putIn_9 : decode b_Bo_putIn 9 = .ok (.getfield 9, 3) := by decide +kernel
theorem d_Bo_putIn_12 : decode b_Bo_putIn 12 = .ok (.sipush 280, 3) := by decide +kernel
theorem d_Bo_putIn_15 : decode b_Bo_putIn 15 = .ok (.if_icmp .lt 4, 3) := by decide +kernel
theorem d_Bo_putIn_18 : decode b_Bo_putIn 18 = .ok (.return_, 1) := by decide +kernel
theorem d_Bo_putIn_19 : decode b_Bo_putIn 19 = .ok (.aload_n 1, 1) := by decide +kernel
theorem d_Bo_putIn_20 : decode b_Bo_putIn 20 = .ok (.iload_n 2, 1) := by decide +kernel
theorem d_Bo_putIn_21 : decode b_Bo_putIn 21 = .ok (.invokevirtual 32, 3) := by decide +kernel
theorem d_Bo_putIn_24 : decode b_Bo_putIn 24 = .ok (.istore_n 3, 1) := by decide +kernel
theorem d_Bo_putIn_25 : decode b_Bo_putIn 25 = .ok (.aload_n 0, 1) := by decide +kernel
theorem d_Bo_putIn_26 : decode b_Bo_putIn 26 = .ok (.getfield 9, 3) := by decide +kernel
theorem d_Bo_putIn_29 : decode b_Bo_putIn 29 = .ok (.istore 4, 2) := by decide +kernel
theorem d_Bo_putIn_31 : decode b_Bo_putIn 31 = .ok (.iload 4, 2) := by decide +kernel
theorem d_Bo_putIn_33 : decode b_Bo_putIn 33 = .ok (.ifCond .le 54, 3) := by decide +kernel
theorem d_Bo_putIn_36 : decode b_Bo_putIn 36 = .ok (.aload_n 0, 1) := by decide +kernel
theorem d_Bo_putIn_37 : decode b_Bo_putIn 37 = .ok (.iload 4, 2) := by decide +kernel
theorem d_Bo_putIn_39 : decode b_Bo_putIn 39 = .ok (.iconst 1, 1) := by decide +kernel
theorem d_Bo_putIn_40 : decode b_Bo_putIn 40 = .ok (.isub, 1) := by decide +kernel
theorem d_Bo_putIn_41 : decode b_Bo_putIn 41 = .ok (.iload_n 3, 1) := by decide +kernel
theorem d_Bo_putIn_42 : decode b_Bo_putIn 42 = .ok (.iload_n 2, 1) := by decide +kernel
theorem d_Bo_putIn_43 : decode b_Bo_putIn 43 = .ok (.invokevirtual 35, 3) := by decide +kernel
theorem d_Bo_putIn_46 : decode b_Bo_putIn 46 = .ok (.ifCond .eq 41, 3) := by decide +kernel
theorem d_Bo_putIn_49 : decode b_Bo_putIn 49 = .ok (.aload_n 0, 1) := by decide +kernel
theorem d_Bo_putIn_50 : decode b_Bo_putIn 50 = .ok (.getfield 15, 3) := by decide +kernel
theorem d_Bo_putIn_53 : decode b_Bo_putIn 53 = .ok (.iload 4, 2) := by decide +kernel
theorem d_Bo_putIn_55 : decode b_Bo_putIn 55 = .ok (.aload_n 0, 1) := by decide +kernel
theorem d_Bo_putIn_56 : decode b_Bo_putIn 56 = .ok (.getfield 15, 3) := by decide +kernel
theorem d_Bo_putIn_59 : decode b_Bo_putIn 59 = .ok (.iload 4, 2) := by decide +kernel
theorem d_Bo_putIn_61 : decode b_Bo_putIn 61 = .ok (.iconst 1, 1) := by decide +kernel
theorem d_Bo_putIn_62 : decode b_Bo_putIn 62 = .ok (.isub, 1) := by decide +kernel
theorem d_Bo_putIn_63 : decode b_Bo_putIn 63 = .ok (.iaload, 1) := by decide +kernel
theorem d_Bo_putIn_64 : decode b_Bo_putIn 64 = .ok (.iastore, 1) := by decide +kernel
theorem d_Bo_putIn_65 : decode b_Bo_putIn 65 = .ok (.aload_n 0, 1) := by decide +kernel
theorem d_Bo_putIn_66 : decode b_Bo_putIn 66 = .ok (.getfield 19, 3) := by decide +kernel
theorem d_Bo_putIn_69 : decode b_Bo_putIn 69 = .ok (.iload 4, 2) := by decide +kernel
theorem d_Bo_putIn_71 : decode b_Bo_putIn 71 = .ok (.aload_n 0, 1) := by decide +kernel
theorem d_Bo_putIn_72 : decode b_Bo_putIn 72 = .ok (.getfield 19, 3) := by decide +kernel
theorem d_Bo_putIn_75 : decode b_Bo_putIn 75 = .ok (.iload 4, 2) := by decide +kernel
theorem d_Bo_putIn_77 : decode b_Bo_putIn 77 = .ok (.iconst 1, 1) := by decide +kernel
theorem d_Bo_putIn_78 : decode b_Bo_putIn 78 = .ok (.isub, 1) := by decide +kernel
theorem d_Bo_putIn_79 : decode b_Bo_putIn 79 = .ok (.iaload, 1) := by decide +kernel
theorem d_Bo_putIn_80 : decode b_Bo_putIn 80 = .ok (.iastore, 1) := by decide +kernel
theorem d_Bo_putIn_81 : decode b_Bo_putIn 81 = .ok (.iinc 4 (-1), 3) := by decide +kernel
theorem d_Bo_putIn_84 : decode b_Bo_putIn 84 = .ok (.goto (-53), 3) := by decide +kernel
theorem d_Bo_putIn_87 : decode b_Bo_putIn 87 = .ok (.aload_n 0, 1) := by decide +kernel
theorem d_Bo_putIn_88 : decode b_Bo_putIn 88 = .ok (.getfield 15, 3) := by decide +kernel
theorem d_Bo_putIn_91 : decode b_Bo_putIn 91 = .ok (.iload 4, 2) := by decide +kernel
theorem d_Bo_putIn_93 : decode b_Bo_putIn 93 = .ok (.iload_n 2, 1) := by decide +kernel
theorem d_Bo_putIn_94 : decode b_Bo_putIn 94 = .ok (.iastore, 1) := by decide +kernel
theorem d_Bo_putIn_95 : decode b_Bo_putIn 95 = .ok (.aload_n 0, 1) := by decide +kernel
theorem d_Bo_putIn_96 : decode b_Bo_putIn 96 = .ok (.getfield 19, 3) := by decide +kernel
theorem d_Bo_putIn_99 : decode b_Bo_putIn 99 = .ok (.iload 4, 2) := by decide +kernel
theorem d_Bo_putIn_101 : decode b_Bo_putIn 101 = .ok (.iload_n 3, 1) := by decide +kernel
theorem d_Bo_putIn_102 : decode b_Bo_putIn 102 = .ok (.iastore, 1) := by decide +kernel
theorem d_Bo_putIn_103 : decode b_Bo_putIn 103 = .ok (.aload_n 0, 1) := by decide +kernel
theorem d_Bo_putIn_104 : decode b_Bo_putIn 104 = .ok (.dup, 1) := by decide +kernel
theorem d_Bo_putIn_105 : decode b_Bo_putIn 105 = .ok (.getfield 9, 3) := by decide +kernel
theorem d_Bo_putIn_108 : decode b_Bo_putIn 108 = .ok (.iconst 1, 1) := by decide +kernel
theorem d_Bo_putIn_109 : decode b_Bo_putIn 109 = .ok (.iadd, 1) := by decide +kernel
theorem d_Bo_putIn_110 : decode b_Bo_putIn 110 = .ok (.putfield 9, 3) := by decide +kernel
theorem d_Bo_putIn_113 : decode b_Bo_putIn 113 = .ok (.return_, 1) := by decide +kernel
theorem d_Bo_isBehind_0 : decode b_Bo_isBehind 0 = .ok (.aload_n 0, 1) := by decide +kernel
theorem d_Bo_isBehind_1 : decode b_Bo_isBehind 1 = .ok (.getfield 19, 3) := by decide +kernel
theorem d_Bo_isBehind_4 : decode b_Bo_isBehind 4 = .ok (.iload_n 1, 1) := by decide +kernel
theorem d_Bo_isBehind_5 : decode b_Bo_isBehind 5 = .ok (.iaload, 1) := by decide +kernel
theorem d_Bo_isBehind_6 : decode b_Bo_isBehind 6 = .ok (.iload_n 2, 1) := by decide +kernel
theorem d_Bo_isBehind_7 : decode b_Bo_isBehind 7 = .ok (.if_icmp .gt 23, 3) := by decide +kernel
theorem d_Bo_isBehind_10 : decode b_Bo_isBehind 10 = .ok (.aload_n 0, 1) := by decide +kernel
theorem d_Bo_isBehind_11 : decode b_Bo_isBehind 11 = .ok (.getfield 19, 3) := by decide +kernel
theorem d_Bo_isBehind_14 : decode b_Bo_isBehind 14 = .ok (.iload_n 1, 1) := by decide +kernel
theorem d_Bo_isBehind_15 : decode b_Bo_isBehind 15 = .ok (.iaload, 1) := by decide +kernel
theorem d_Bo_isBehind_16 : decode b_Bo_isBehind 16 = .ok (.iload_n 2, 1) := by decide +kernel
theorem d_Bo_isBehind_17 : decode b_Bo_isBehind 17 = .ok (.if_icmp .ne 17, 3) := by decide +kernel
theorem d_Bo_isBehind_20 : decode b_Bo_isBehind 20 = .ok (.aload_n 0, 1) := by decide +kernel
theorem d_Bo_isBehind_21 : decode b_Bo_isBehind 21 = .ok (.getfield 15, 3) := by decide +kernel
theorem d_Bo_isBehind_24 : decode b_Bo_isBehind 24 = .ok (.iload_n 1, 1) := by decide +kernel
theorem d_Bo_isBehind_25 : decode b_Bo_isBehind 25 = .ok (.iaload, 1) := by decide +kernel
theorem d_Bo_isBehind_26 : decode b_Bo_isBehind 26 = .ok (.iload_n 3, 1) := by decide +kernel
theorem d_Bo_isBehind_27 : decode b_Bo_isBehind 27 = .ok (.if_icmp .le 7, 3) := by decide +kernel
theorem d_Bo_isBehind_30 : decode b_Bo_isBehind 30 = .ok (.iconst 1, 1) := by decide +kernel
theorem d_Bo_isBehind_31 : decode b_Bo_isBehind 31 = .ok (.goto 4, 3) := by decide +kernel
theorem d_Bo_isBehind_34 : decode b_Bo_isBehind 34 = .ok (.iconst 0, 1) := by decide +kernel
theorem d_Bo_isBehind_35 : decode b_Bo_isBehind 35 = .ok (.ireturn, 1) := by decide +kernel
theorem d_Bo_takeOut_0 : decode b_Bo_takeOut 0 = .ok (.iconst 0, 1) := by decide +kernel
theorem d_Bo_takeOut_1 : decode b_Bo_takeOut 1 = .ok (.istore_n 2, 1) := by decide +kernel
theorem d_Bo_takeOut_2 : decode b_Bo_takeOut 2 = .ok (.iconst 0, 1) := by decide +kernel
theorem d_Bo_takeOut_3 : decode b_Bo_takeOut 3 = .ok (.istore_n 3, 1) := by decide +kernel
theorem d_Bo_takeOut_4 : decode b_Bo_takeOut 4 = .ok (.iload_n 3, 1) := by decide +kernel
theorem d_Bo_takeOut_5 : decode b_Bo_takeOut 5 = .ok (.aload_n 0, 1) := by decide +kernel
theorem d_Bo_takeOut_6 : decode b_Bo_takeOut 6 = .ok (.getfield 9, 3) := by decide +kernel
theorem d_Bo_takeOut_9 : decode b_Bo_takeOut 9 = .ok (.if_icmp .ge 46, 3) := by decide +kernel
theorem d_Bo_takeOut_12 : decode b_Bo_takeOut 12 = .ok (.aload_n 0, 1) := by decide +kernel
theorem d_Bo_takeOut_13 : decode b_Bo_takeOut 13 = .ok (.getfield 15, 3) := by decide +kernel
theorem d_Bo_takeOut_16 : decode b_Bo_takeOut 16 = .ok (.iload_n 3, 1) := by decide +kernel
theorem d_Bo_takeOut_17 : decode b_Bo_takeOut 17 = .ok (.iaload, 1) := by decide +kernel
theorem d_Bo_takeOut_18 : decode b_Bo_takeOut 18 = .ok (.iload_n 1, 1) := by decide +kernel
theorem d_Bo_takeOut_19 : decode b_Bo_takeOut 19 = .ok (.if_icmp .eq 30, 3) := by decide +kernel
theorem d_Bo_takeOut_22 : decode b_Bo_takeOut 22 = .ok (.aload_n 0, 1) := by decide +kernel
theorem d_Bo_takeOut_23 : decode b_Bo_takeOut 23 = .ok (.getfield 15, 3) := by decide +kernel
theorem d_Bo_takeOut_26 : decode b_Bo_takeOut 26 = .ok (.iload_n 2, 1) := by decide +kernel
theorem d_Bo_takeOut_27 : decode b_Bo_takeOut 27 = .ok (.aload_n 0, 1) := by decide +kernel
theorem d_Bo_takeOut_28 : decode b_Bo_takeOut 28 = .ok (.getfield 15, 3) := by decide +kernel
theorem d_Bo_takeOut_31 : decode b_Bo_takeOut 31 = .ok (.iload_n 3, 1) := by decide +kernel
theorem d_Bo_takeOut_32 : decode b_Bo_takeOut 32 = .ok (.iaload, 1) := by decide +kernel
theorem d_Bo_takeOut_33 : decode b_Bo_takeOut 33 = .ok (.iastore, 1) := by decide +kernel
theorem d_Bo_takeOut_34 : decode b_Bo_takeOut 34 = .ok (.aload_n 0, 1) := by decide +kernel
theorem d_Bo_takeOut_35 : decode b_Bo_takeOut 35 = .ok (.getfield 19, 3) := by decide +kernel
theorem d_Bo_takeOut_38 : decode b_Bo_takeOut 38 = .ok (.iload_n 2, 1) := by decide +kernel
theorem d_Bo_takeOut_39 : decode b_Bo_takeOut 39 = .ok (.aload_n 0, 1) := by decide +kernel
theorem d_Bo_takeOut_40 : decode b_Bo_takeOut 40 = .ok (.getfield 19, 3) := by decide +kernel
theorem d_Bo_takeOut_43 : decode b_Bo_takeOut 43 = .ok (.iload_n 3, 1) := by decide +kernel
theorem d_Bo_takeOut_44 : decode b_Bo_takeOut 44 = .ok (.iaload, 1) := by decide +kernel
theorem d_Bo_takeOut_45 : decode b_Bo_takeOut 45 = .ok (.iastore, 1) := by decide +kernel
theorem d_Bo_takeOut_46 : decode b_Bo_takeOut 46 = .ok (.iinc 2 1, 3) := by decide +kernel
theorem d_Bo_takeOut_49 : decode b_Bo_takeOut 49 = .ok (.iinc 3 1, 3) := by decide +kernel
theorem d_Bo_takeOut_52 : decode b_Bo_takeOut 52 = .ok (.goto (-48), 3) := by decide +kernel
theorem d_Bo_takeOut_55 : decode b_Bo_takeOut 55 = .ok (.aload_n 0, 1) := by decide +kernel
theorem d_Bo_takeOut_56 : decode b_Bo_takeOut 56 = .ok (.iload_n 2, 1) := by decide +kernel
theorem d_Bo_takeOut_57 : decode b_Bo_takeOut 57 = .ok (.putfield 9, 3) := by decide +kernel
theorem d_Bo_takeOut_60 : decode b_Bo_takeOut 60 = .ok (.return_, 1) := by decide +kernel
theorem d_Bo_firstFrom_0 : decode b_Bo_firstFrom 0 = .ok (.iconst 0, 1) := by decide +kernel
theorem d_Bo_firstFrom_1 : decode b_Bo_firstFrom 1 = .ok (.istore 4, 2) := by decide +kernel
theorem d_Bo_firstFrom_3 : decode b_Bo_firstFrom 3 = .ok (.iload 4, 2) := by decide +kernel
theorem d_Bo_firstFrom_5 : decode b_Bo_firstFrom 5 = .ok (.aload_n 0, 1) := by decide +kernel
theorem d_Bo_firstFrom_6 : decode b_Bo_firstFrom 6 = .ok (.getfield 9, 3) := by decide +kernel
theorem d_Bo_firstFrom_9 : decode b_Bo_firstFrom 9 = .ok (.if_icmp .ge 43, 3) := by decide +kernel
theorem d_Bo_firstFrom_12 : decode b_Bo_firstFrom 12 = .ok (.aload_n 0, 1) := by decide +kernel
theorem d_Bo_firstFrom_13 : decode b_Bo_firstFrom 13 = .ok (.getfield 19, 3) := by decide +kernel
theorem d_Bo_firstFrom_16 : decode b_Bo_firstFrom 16 = .ok (.iload 4, 2) := by decide +kernel
theorem d_Bo_firstFrom_18 : decode b_Bo_firstFrom 18 = .ok (.iaload, 1) := by decide +kernel
theorem d_Bo_firstFrom_19 : decode b_Bo_firstFrom 19 = .ok (.iload_n 3, 1) := by decide +kernel
theorem d_Bo_firstFrom_20 : decode b_Bo_firstFrom 20 = .ok (.if_icmp .lt 26, 3) := by decide +kernel
theorem d_Bo_firstFrom_23 : decode b_Bo_firstFrom 23 = .ok (.aload_n 1, 1) := by decide +kernel
theorem d_Bo_firstFrom_24 : decode b_Bo_firstFrom 24 = .ok (.getfield 39, 3) := by decide +kernel
theorem d_Bo_firstFrom_27 : decode b_Bo_firstFrom 27 = .ok (.aload_n 0, 1) := by decide +kernel
theorem d_Bo_firstFrom_28 : decode b_Bo_firstFrom 28 = .ok (.iload 4, 2) := by decide +kernel
theorem d_Bo_firstFrom_30 : decode b_Bo_firstFrom 30 = .ok (.invokevirtual 42, 3) := by decide +kernel
theorem d_Bo_firstFrom_33 : decode b_Bo_firstFrom 33 = .ok (.iaload, 1) := by decide +kernel
theorem d_Bo_firstFrom_34 : decode b_Bo_firstFrom 34 = .ok (.iload_n 2, 1) := by decide +kernel
theorem d_Bo_firstFrom_35 : decode b_Bo_firstFrom 35 = .ok (.if_icmp .ne 11, 3) := by decide +kernel
theorem d_Bo_firstFrom_38 : decode b_Bo_firstFrom 38 = .ok (.aload_n 0, 1) := by decide +kernel
theorem d_Bo_firstFrom_39 : decode b_Bo_firstFrom 39 = .ok (.getfield 15, 3) := by decide +kernel
theorem d_Bo_firstFrom_42 : decode b_Bo_firstFrom 42 = .ok (.iload 4, 2) := by decide +kernel
theorem d_Bo_firstFrom_44 : decode b_Bo_firstFrom 44 = .ok (.iaload, 1) := by decide +kernel
theorem d_Bo_firstFrom_45 : decode b_Bo_firstFrom 45 = .ok (.ireturn, 1) := by decide +kernel
theorem d_Bo_firstFrom_46 : decode b_Bo_firstFrom 46 = .ok (.iinc 4 1, 3) := by decide +kernel
theorem d_Bo_firstFrom_49 : decode b_Bo_firstFrom 49 = .ok (.goto (-46), 3) := by decide +kernel
theorem d_Bo_firstFrom_52 : decode b_Bo_firstFrom 52 = .ok (.iconst (-1), 1) := by decide +kernel
theorem d_Bo_firstFrom_53 : decode b_Bo_firstFrom 53 = .ok (.ireturn, 1) := by decide +kernel
theorem d_Bo_countLate_0 : decode b_Bo_countLate 0 = .ok (.iconst 0, 1) := by decide +kernel
theorem d_Bo_countLate_1 : decode b_Bo_countLate 1 = .ok (.istore_n 2, 1) := by decide +kernel
theorem d_Bo_countLate_2 : decode b_Bo_countLate 2 = .ok (.iconst 0, 1) := by decide +kernel
theorem d_Bo_countLate_3 : decode b_Bo_countLate 3 = .ok (.istore_n 3, 1) := by decide +kernel
theorem d_Bo_countLate_4 : decode b_Bo_countLate 4 = .ok (.iload_n 3, 1) := by decide +kernel
theorem d_Bo_countLate_5 : decode b_Bo_countLate 5 = .ok (.aload_n 0, 1) := by decide +kernel
theorem d_Bo_countLate_6 : decode b_Bo_countLate 6 = .ok (.getfield 9, 3) := by decide +kernel
theorem d_Bo_countLate_9 : decode b_Bo_countLate 9 = .ok (.if_icmp .ge 26, 3) := by decide +kernel
theorem d_Bo_countLate_12 : decode b_Bo_countLate 12 = .ok (.aload_n 1, 1) := by decide +kernel
theorem d_Bo_countLate_13 : decode b_Bo_countLate 13 = .ok (.getfield 45, 3) := by decide +kernel
theorem d_Bo_countLate_16 : decode b_Bo_countLate 16 = .ok (.aload_n 0, 1) := by decide +kernel
theorem d_Bo_countLate_17 : decode b_Bo_countLate 17 = .ok (.getfield 15, 3) := by decide +kernel
theorem d_Bo_countLate_20 : decode b_Bo_countLate 20 = .ok (.iload_n 3, 1) := by decide +kernel
theorem d_Bo_countLate_21 : decode b_Bo_countLate 21 = .ok (.iaload, 1) := by decide +kernel
theorem d_Bo_countLate_22 : decode b_Bo_countLate 22 = .ok (.iaload, 1) := by decide +kernel
theorem d_Bo_countLate_23 : decode b_Bo_countLate 23 = .ok (.ifCond .le 6, 3) := by decide +kernel
theorem d_Bo_countLate_26 : decode b_Bo_countLate 26 = .ok (.iinc 2 1, 3) := by decide +kernel
theorem d_Bo_countLate_29 : decode b_Bo_countLate 29 = .ok (.iinc 3 1, 3) := by decide +kernel
theorem d_Bo_countLate_32 : decode b_Bo_countLate 32 = .ok (.goto (-28), 3) := by decide +kernel
theorem d_Bo_countLate_35 : decode b_Bo_countLate 35 = .ok (.iload_n 2, 1) := by decide +kernel
theorem d_Bo_countLate_36 : decode b_Bo_countLate 36 = .ok (.ireturn, 1) := by decide +kernel
theorem d_Wa_init_0 : decode b_Wa_init 0 = .ok (.aload_n 0, 1) := by decide +kernel
theorem d_Wa_init_1 : decode b_Wa_init 1 = .ok (.invokespecial 3, 3) := by decide +kernel
theorem d_Wa_init_4 : decode b_Wa_init 4 = .ok (.aload_n 0, 1) := by decide +kernel
theorem d_Wa_init_5 : decode b_Wa_init 5 = .ok (.iconst 0, 1) := by decide +kernel
theorem d_Wa_init_6 : decode b_Wa_init 6 = .ok (.putfield 9, 3) := by decide +kernel
theorem d_Wa_init_9 : decode b_Wa_init 9 = .ok (.aload_n 0, 1) := by decide +kernel
theorem d_Wa_init_10 : decode b_Wa_init 10 = .ok (.bipush 30, 2) := by decide +kernel
theorem d_Wa_init_12 : decode b_Wa_init 12 = .ok (.newarray .int, 2) := by decide +kernel
theorem d_Wa_init_14 : decode b_Wa_init 14 = .ok (.putfield 15, 3) := by decide +kernel
theorem d_Wa_init_17 : decode b_Wa_init 17 = .ok (.aload_n 0, 1) := by decide +kernel
theorem d_Wa_init_18 : decode b_Wa_init 18 = .ok (.bipush 30, 2) := by decide +kernel
theorem d_Wa_init_20 : decode b_Wa_init 20 = .ok (.newarray .int, 2) := by decide +kernel
theorem d_Wa_init_22 : decode b_Wa_init 22 = .ok (.putfield 19, 3) := by decide +kernel
theorem d_Wa_init_25 : decode b_Wa_init 25 = .ok (.aload_n 0, 1) := by decide +kernel
theorem d_Wa_init_26 : decode b_Wa_init 26 = .ok (.bipush 30, 2) := by decide +kernel
theorem d_Wa_init_28 : decode b_Wa_init 28 = .ok (.newarray .int, 2) := by decide +kernel
theorem d_Wa_init_30 : decode b_Wa_init 30 = .ok (.putfield 22, 3) := by decide +kernel
theorem d_Wa_init_33 : decode b_Wa_init 33 = .ok (.aload_n 0, 1) := by decide +kernel
theorem d_Wa_init_34 : decode b_Wa_init 34 = .ok (.sipush 144, 3) := by decide +kernel
theorem d_Wa_init_37 : decode b_Wa_init 37 = .ok (.newarray .int, 2) := by decide +kernel
theorem d_Wa_init_39 : decode b_Wa_init 39 = .ok (.putfield 25, 3) := by decide +kernel
theorem d_Wa_init_42 : decode b_Wa_init 42 = .ok (.aload_n 0, 1) := by decide +kernel
theorem d_Wa_init_43 : decode b_Wa_init 43 = .ok (.getfield 25, 3) := by decide +kernel
theorem d_Wa_init_46 : decode b_Wa_init 46 = .ok (.ldc 28, 2) := by decide +kernel
theorem d_Wa_init_48 : decode b_Wa_init 48 = .ok (.invokestatic 29, 3) := by decide +kernel
theorem d_Wa_init_51 : decode b_Wa_init 51 = .ok (.return_, 1) := by decide +kernel
theorem d_Wa_empty_0 : decode b_Wa_empty 0 = .ok (.aload_n 0, 1) := by decide +kernel
theorem d_Wa_empty_1 : decode b_Wa_empty 1 = .ok (.iconst 0, 1) := by decide +kernel
theorem d_Wa_empty_2 : decode b_Wa_empty 2 = .ok (.putfield 9, 3) := by decide +kernel
theorem d_Wa_empty_5 : decode b_Wa_empty 5 = .ok (.aload_n 0, 1) := by decide +kernel
theorem d_Wa_empty_6 : decode b_Wa_empty 6 = .ok (.getfield 25, 3) := by decide +kernel
theorem d_Wa_empty_9 : decode b_Wa_empty 9 = .ok (.ldc 28, 2) := by decide +kernel
theorem d_Wa_empty_11 : decode b_Wa_empty 11 = .ok (.invokestatic 29, 3) := by decide +kernel
theorem d_Wa_empty_14 : decode b_Wa_empty 14 = .ok (.return_, 1) := by decide +kernel
theorem d_Wa_add_0 : decode b_Wa_add 0 = .ok (.aload_n 0, 1) := by decide +kernel
theorem d_Wa_add_1 : decode b_Wa_add 1 = .ok (.getfield 15, 3) := by decide +kernel
theorem d_Wa_add_4 : decode b_Wa_add 4 = .ok (.aload_n 0, 1) := by decide +kernel
theorem d_Wa_add_5 : decode b_Wa_add 5 = .ok (.getfield 9, 3) := by decide +kernel
theorem d_Wa_add_8 : decode b_Wa_add 8 = .ok (.iload_n 1, 1) := by decide +kernel
theorem d_Wa_add_9 : decode b_Wa_add 9 = .ok (.iastore, 1) := by decide +kernel
theorem d_Wa_add_10 : decode b_Wa_add 10 = .ok (.aload_n 0, 1) := by decide +kernel
theorem d_Wa_add_11 : decode b_Wa_add 11 = .ok (.getfield 19, 3) := by decide +kernel
theorem d_Wa_add_14 : decode b_Wa_add 14 = .ok (.aload_n 0, 1) := by decide +kernel
theorem d_Wa_add_15 : decode b_Wa_add 15 = .ok (.getfield 9, 3) := by decide +kernel
theorem d_Wa_add_18 : decode b_Wa_add 18 = .ok (.iload_n 2, 1) := by decide +kernel
theorem d_Wa_add_19 : decode b_Wa_add 19 = .ok (.iastore, 1) := by decide +kernel
theorem d_Wa_add_20 : decode b_Wa_add 20 = .ok (.aload_n 0, 1) := by decide +kernel
theorem d_Wa_add_21 : decode b_Wa_add 21 = .ok (.getfield 22, 3) := by decide +kernel
theorem d_Wa_add_24 : decode b_Wa_add 24 = .ok (.aload_n 0, 1) := by decide +kernel
theorem d_Wa_add_25 : decode b_Wa_add 25 = .ok (.getfield 9, 3) := by decide +kernel
theorem d_Wa_add_28 : decode b_Wa_add 28 = .ok (.iload_n 3, 1) := by decide +kernel
theorem d_Wa_add_29 : decode b_Wa_add 29 = .ok (.iastore, 1) := by decide +kernel
theorem d_Wa_add_30 : decode b_Wa_add 30 = .ok (.aload_n 0, 1) := by decide +kernel
theorem d_Wa_add_31 : decode b_Wa_add 31 = .ok (.dup, 1) := by decide +kernel
theorem d_Wa_add_32 : decode b_Wa_add 32 = .ok (.getfield 9, 3) := by decide +kernel
theorem d_Wa_add_35 : decode b_Wa_add 35 = .ok (.iconst 1, 1) := by decide +kernel
theorem d_Wa_add_36 : decode b_Wa_add 36 = .ok (.iadd, 1) := by decide +kernel
theorem d_Wa_add_37 : decode b_Wa_add 37 = .ok (.putfield 9, 3) := by decide +kernel
theorem d_Wa_add_40 : decode b_Wa_add 40 = .ok (.aload_n 0, 1) := by decide +kernel
theorem d_Wa_add_41 : decode b_Wa_add 41 = .ok (.iload_n 1, 1) := by decide +kernel
theorem d_Wa_add_42 : decode b_Wa_add 42 = .ok (.iload_n 2, 1) := by decide +kernel
theorem d_Wa_add_43 : decode b_Wa_add 43 = .ok (.iload_n 3, 1) := by decide +kernel
theorem d_Wa_add_44 : decode b_Wa_add 44 = .ok (.invokevirtual 35, 3) := by decide +kernel
theorem d_Wa_add_47 : decode b_Wa_add 47 = .ok (.aload_n 0, 1) := by decide +kernel
theorem d_Wa_add_48 : decode b_Wa_add 48 = .ok (.getfield 9, 3) := by decide +kernel
theorem d_Wa_add_51 : decode b_Wa_add 51 = .ok (.iconst 1, 1) := by decide +kernel
theorem d_Wa_add_52 : decode b_Wa_add 52 = .ok (.isub, 1) := by decide +kernel
theorem d_Wa_add_53 : decode b_Wa_add 53 = .ok (.ireturn, 1) := by decide +kernel
theorem d_Wa_shorten_0 : decode b_Wa_shorten 0 = .ok (.iconst 0, 1) := by decide +kernel
theorem d_Wa_shorten_1 : decode b_Wa_shorten 1 = .ok (.istore 4, 2) := by decide +kernel
theorem d_Wa_shorten_3 : decode b_Wa_shorten 3 = .ok (.iload 4, 2) := by decide +kernel
theorem d_Wa_shorten_5 : decode b_Wa_shorten 5 = .ok (.bipush 12, 2) := by decide +kernel
theorem d_Wa_shorten_7 : decode b_Wa_shorten 7 = .ok (.if_icmp .ge 79, 3) := by decide +kernel
theorem d_Wa_shorten_10 : decode b_Wa_shorten 10 = .ok (.aload_n 0, 1) := by decide +kernel
theorem d_Wa_shorten_11 : decode b_Wa_shorten 11 = .ok (.iload 4, 2) := by decide +kernel
theorem d_Wa_shorten_13 : decode b_Wa_shorten 13 = .ok (.iload_n 1, 1) := by decide +kernel
theorem d_Wa_shorten_14 : decode b_Wa_shorten 14 = .ok (.invokevirtual 39, 3) := by decide +kernel
theorem d_Wa_shorten_17 : decode b_Wa_shorten 17 = .ok (.iload_n 3, 1) := by decide +kernel
theorem d_Wa_shorten_18 : decode b_Wa_shorten 18 = .ok (.iadd, 1) := by decide +kernel
theorem d_Wa_shorten_19 : decode b_Wa_shorten 19 = .ok (.istore 5, 2) := by decide +kernel
theorem d_Wa_shorten_21 : decode b_Wa_shorten 21 = .ok (.iconst 0, 1) := by decide +kernel
theorem d_Wa_shorten_22 : decode b_Wa_shorten 22 = .ok (.istore 6, 2) := by decide +kernel
theorem d_Wa_shorten_24 : decode b_Wa_shorten 24 = .ok (.iload 6, 2) := by decide +kernel
theorem d_Wa_shorten_26 : decode b_Wa_shorten 26 = .ok (.bipush 12, 2) := by decide +kernel
theorem d_Wa_shorten_28 : decode b_Wa_shorten 28 = .ok (.if_icmp .ge 52, 3) := by decide +kernel
theorem d_Wa_shorten_31 : decode b_Wa_shorten 31 = .ok (.iload 5, 2) := by decide +kernel
theorem d_Wa_shorten_33 : decode b_Wa_shorten 33 = .ok (.aload_n 0, 1) := by decide +kernel
theorem d_Wa_shorten_34 : decode b_Wa_shorten 34 = .ok (.iload_n 2, 1) := by decide +kernel
theorem d_Wa_shorten_35 : decode b_Wa_shorten 35 = .ok (.iload 6, 2) := by decide +kernel
theorem d_Wa_shorten_37 : decode b_Wa_shorten 37 = .ok (.invokevirtual 39, 3) := by decide +kernel
theorem d_Wa_shorten_40 : decode b_Wa_shorten 40 = .ok (.iadd, 1) := by decide +kernel
theorem d_Wa_shorten_41 : decode b_Wa_shorten 41 = .ok (.istore 7, 2) := by decide +kernel
theorem d_Wa_shorten_43 : decode b_Wa_shorten 43 = .ok (.aload_n 0, 1) := by decide +kernel
theorem d_Wa_shorten_44 : decode b_Wa_shorten 44 = .ok (.getfield 25, 3) := by decide +kernel
theorem d_Wa_shorten_47 : decode b_Wa_shorten 47 = .ok (.iload 4, 2) := by decide +kernel
theorem d_Wa_shorten_49 : decode b_Wa_shorten 49 = .ok (.bipush 12, 2) := by decide +kernel
theorem d_Wa_shorten_51 : decode b_Wa_shorten 51 = .ok (.imul, 1) := by decide +kernel
theorem d_Wa_shorten_52 : decode b_Wa_shorten 52 = .ok (.iload 6, 2) := by decide +kernel
theorem d_Wa_shorten_54 : decode b_Wa_shorten 54 = .ok (.iadd, 1) := by decide +kernel
theorem d_Wa_shorten_55 : decode b_Wa_shorten 55 = .ok (.aload_n 0, 1) := by decide +kernel
theorem d_Wa_shorten_56 : decode b_Wa_shorten 56 = .ok (.getfield 25, 3) := by decide +kernel
theorem d_Wa_shorten_59 : decode b_Wa_shorten 59 = .ok (.iload 4, 2) := by decide +kernel
theorem d_Wa_shorten_61 : decode b_Wa_shorten 61 = .ok (.bipush 12, 2) := by decide +kernel
theorem d_Wa_shorten_63 : decode b_Wa_shorten 63 = .ok (.imul, 1) := by decide +kernel
theorem d_Wa_shorten_64 : decode b_Wa_shorten 64 = .ok (.iload 6, 2) := by decide +kernel
theorem d_Wa_shorten_66 : decode b_Wa_shorten 66 = .ok (.iadd, 1) := by decide +kernel
theorem d_Wa_shorten_67 : decode b_Wa_shorten 67 = .ok (.iaload, 1) := by decide +kernel
theorem d_Wa_shorten_68 : decode b_Wa_shorten 68 = .ok (.iload 7, 2) := by decide +kernel
theorem d_Wa_shorten_70 : decode b_Wa_shorten 70 = .ok (.invokestatic 43, 3) := by decide +kernel
theorem d_Wa_shorten_73 : decode b_Wa_shorten 73 = .ok (.iastore, 1) := by decide +kernel
theorem d_Wa_shorten_74 : decode b_Wa_shorten 74 = .ok (.iinc 6 1, 3) := by decide +kernel
theorem d_Wa_shorten_77 : decode b_Wa_shorten 77 = .ok (.goto (-53), 3) := by decide +kernel
theorem d_Wa_shorten_80 : decode b_Wa_shorten 80 = .ok (.iinc 4 1, 3) := by decide +kernel
theorem d_Wa_shorten_83 : decode b_Wa_shorten 83 = .ok (.goto (-80), 3) := by decide +kernel
theorem d_Wa_shorten_86 : decode b_Wa_shorten 86 = .ok (.return_, 1) := by decide +kernel
theorem d_Wa_atLeastOne_0 : decode b_Wa_atLeastOne 0 = .ok (.aload_n 0, 1) := by decide +kernel
theorem d_Wa_atLeastOne_1 : decode b_Wa_atLeastOne 1 = .ok (.getfield 25, 3) := by decide +kernel
theorem d_Wa_atLeastOne_4 : decode b_Wa_atLeastOne 4 = .ok (.iload_n 1, 1) := by decide +kernel
theorem d_Wa_atLeastOne_5 : decode b_Wa_atLeastOne 5 = .ok (.bipush 12, 2) := by decide +kernel
theorem d_Wa_atLeastOne_7 : decode b_Wa_atLeastOne 7 = .ok (.imul, 1) := by decide +kernel
theorem d_Wa_atLeastOne_8 : decode b_Wa_atLeastOne 8 = .ok (.iload_n 2, 1) := by decide +kernel
theorem d_Wa_atLeastOne_9 : decode b_Wa_atLeastOne 9 = .ok (.iadd, 1) := by decide +kernel
theorem d_Wa_atLeastOne_10 : decode b_Wa_atLeastOne 10 = .ok (.iaload, 1) := by decide +kernel
theorem d_Wa_atLeastOne_11 : decode b_Wa_atLeastOne 11 = .ok (.ireturn, 1) := by decide +kernel
theorem d_Wa_anyNumber_0 : decode b_Wa_anyNumber 0 = .ok (.iload_n 1, 1) := by decide +kernel
theorem d_Wa_anyNumber_1 : decode b_Wa_anyNumber 1 = .ok (.iload_n 2, 1) := by decide +kernel
theorem d_Wa_anyNumber_2 : decode b_Wa_anyNumber 2 = .ok (.if_icmp .ne 7, 3) := by decide +kernel
theorem d_Wa_anyNumber_5 : decode b_Wa_anyNumber 5 = .ok (.iconst 0, 1) := by decide +kernel
theorem d_Wa_anyNumber_6 : decode b_Wa_anyNumber 6 = .ok (.goto 9, 3) := by decide +kernel
theorem d_Wa_anyNumber_9 : decode b_Wa_anyNumber 9 = .ok (.aload_n 0, 1) := by decide +kernel
theorem d_Wa_anyNumber_10 : decode b_Wa_anyNumber 10 = .ok (.iload_n 1, 1) := by decide +kernel
theorem d_Wa_anyNumber_11 : decode b_Wa_anyNumber 11 = .ok (.iload_n 2, 1) := by decide +kernel
theorem d_Wa_anyNumber_12 : decode b_Wa_anyNumber 12 = .ok (.invokevirtual 48, 3) := by decide +kernel
theorem d_Wa_anyNumber_15 : decode b_Wa_anyNumber 15 = .ok (.ireturn, 1) := by decide +kernel
theorem d_Ar_init_0 : decode b_Ar_init 0 = .ok (.aload_n 0, 1) := by decide +kernel
theorem d_Ar_init_1 : decode b_Ar_init 1 = .ok (.invokespecial 3, 3) := by decide +kernel
theorem d_Ar_init_4 : decode b_Ar_init 4 = .ok (.aload_n 0, 1) := by decide +kernel
theorem d_Ar_init_5 : decode b_Ar_init 5 = .ok (.bipush 12, 2) := by decide +kernel
theorem d_Ar_init_7 : decode b_Ar_init 7 = .ok (.newarray .int, 2) := by decide +kernel
theorem d_Ar_init_9 : decode b_Ar_init 9 = .ok (.putfield 9, 3) := by decide +kernel
theorem d_Ar_init_12 : decode b_Ar_init 12 = .ok (.aload_n 0, 1) := by decide +kernel
theorem d_Ar_init_13 : decode b_Ar_init 13 = .ok (.bipush 12, 2) := by decide +kernel
theorem d_Ar_init_15 : decode b_Ar_init 15 = .ok (.newarray .int, 2) := by decide +kernel
theorem d_Ar_init_17 : decode b_Ar_init 17 = .ok (.putfield 15, 3) := by decide +kernel
theorem d_Ar_init_20 : decode b_Ar_init 20 = .ok (.return_, 1) := by decide +kernel
theorem d_Ar_first_0 : decode b_Ar_first 0 = .ok (.aload_n 0, 1) := by decide +kernel
theorem d_Ar_first_1 : decode b_Ar_first 1 = .ok (.getfield 9, 3) := by decide +kernel
theorem d_Ar_first_4 : decode b_Ar_first 4 = .ok (.iload_n 1, 1) := by decide +kernel
theorem d_Ar_first_5 : decode b_Ar_first 5 = .ok (.iaload, 1) := by decide +kernel
theorem d_Ar_first_6 : decode b_Ar_first 6 = .ok (.aload_n 0, 1) := by decide +kernel
theorem d_Ar_first_7 : decode b_Ar_first 7 = .ok (.getfield 15, 3) := by decide +kernel
theorem d_Ar_first_10 : decode b_Ar_first 10 = .ok (.iload_n 1, 1) := by decide +kernel
theorem d_Ar_first_11 : decode b_Ar_first 11 = .ok (.iaload, 1) := by decide +kernel
theorem d_Ar_first_12 : decode b_Ar_first 12 = .ok (.invokestatic 18, 3) := by decide +kernel
theorem d_Ar_first_15 : decode b_Ar_first 15 = .ok (.ireturn, 1) := by decide +kernel
theorem d_Ar_isByWalk_0 : decode b_Ar_isByWalk 0 = .ok (.iload_n 2, 1) := by decide +kernel
theorem d_Ar_isByWalk_1 : decode b_Ar_isByWalk 1 = .ok (.aload_n 0, 1) := by decide +kernel
theorem d_Ar_isByWalk_2 : decode b_Ar_isByWalk 2 = .ok (.getfield 15, 3) := by decide +kernel
theorem d_Ar_isByWalk_5 : decode b_Ar_isByWalk 5 = .ok (.iload_n 1, 1) := by decide +kernel
theorem d_Ar_isByWalk_6 : decode b_Ar_isByWalk 6 = .ok (.iaload, 1) := by decide +kernel
theorem d_Ar_isByWalk_7 : decode b_Ar_isByWalk 7 = .ok (.if_icmp .lt 7, 3) := by decide +kernel
theorem d_Ar_isByWalk_10 : decode b_Ar_isByWalk 10 = .ok (.iconst 1, 1) := by decide +kernel
theorem d_Ar_isByWalk_11 : decode b_Ar_isByWalk 11 = .ok (.goto 4, 3) := by decide +kernel
theorem d_Ar_isByWalk_14 : decode b_Ar_isByWalk 14 = .ok (.iconst 0, 1) := by decide +kernel
theorem d_Ar_isByWalk_15 : decode b_Ar_isByWalk 15 = .ok (.ireturn, 1) := by decide +kernel
theorem d_Ar_copy_0 : decode b_Ar_copy 0 = .ok (.aload_n 1, 1) := by decide +kernel
theorem d_Ar_copy_1 : decode b_Ar_copy 1 = .ok (.getfield 9, 3) := by decide +kernel
theorem d_Ar_copy_4 : decode b_Ar_copy 4 = .ok (.iconst 0, 1) := by decide +kernel
theorem d_Ar_copy_5 : decode b_Ar_copy 5 = .ok (.aload_n 0, 1) := by decide +kernel
theorem d_Ar_copy_6 : decode b_Ar_copy 6 = .ok (.getfield 9, 3) := by decide +kernel
theorem d_Ar_copy_9 : decode b_Ar_copy 9 = .ok (.iconst 0, 1) := by decide +kernel
theorem d_Ar_copy_10 : decode b_Ar_copy 10 = .ok (.bipush 12, 2) := by decide +kernel
theorem d_Ar_copy_12 : decode b_Ar_copy 12 = .ok (.invokestatic 24, 3) := by decide +kernel
theorem d_Ar_copy_15 : decode b_Ar_copy 15 = .ok (.aload_n 1, 1) := by decide +kernel
theorem d_Ar_copy_16 : decode b_Ar_copy 16 = .ok (.getfield 15, 3) := by decide +kernel
theorem d_Ar_copy_19 : decode b_Ar_copy 19 = .ok (.iconst 0, 1) := by decide +kernel
theorem d_Ar_copy_20 : decode b_Ar_copy 20 = .ok (.aload_n 0, 1) := by decide +kernel
theorem d_Ar_copy_21 : decode b_Ar_copy 21 = .ok (.getfield 15, 3) := by decide +kernel
theorem d_Ar_copy_24 : decode b_Ar_copy 24 = .ok (.iconst 0, 1) := by decide +kernel
theorem d_Ar_copy_25 : decode b_Ar_copy 25 = .ok (.bipush 12, 2) := by decide +kernel
theorem d_Ar_copy_27 : decode b_Ar_copy 27 = .ok (.invokestatic 24, 3) := by decide +kernel
theorem d_Ar_copy_30 : decode b_Ar_copy 30 = .ok (.return_, 1) := by decide +kernel
theorem d_Ar_begin_0 : decode b_Ar_begin 0 = .ok (.iconst 0, 1) := by decide +kernel
theorem d_Ar_begin_1 : decode b_Ar_begin 1 = .ok (.istore 4, 2) := by decide +kernel
theorem d_Ar_begin_3 : decode b_Ar_begin 3 = .ok (.iload 4, 2) := by decide +kernel
theorem d_Ar_begin_5 : decode b_Ar_begin 5 = .ok (.bipush 12, 2) := by decide +kernel
theorem d_Ar_begin_7 : decode b_Ar_begin 7 = .ok (.if_icmp .ge 42, 3) := by decide +kernel
theorem d_Ar_begin_10 : decode b_Ar_begin 10 = .ok (.aload_n 0, 1) := by decide +kernel
theorem d_Ar_begin_11 : decode b_Ar_begin 11 = .ok (.getfield 9, 3) := by decide +kernel
theorem d_Ar_begin_14 : decode b_Ar_begin 14 = .ok (.iload 4, 2) := by decide +kernel
theorem d_Ar_begin_16 : decode b_Ar_begin 16 = .ok (.ldc 30, 2) := by decide +kernel
theorem d_Ar_begin_18 : decode b_Ar_begin 18 = .ok (.iastore, 1) := by decide +kernel
theorem d_Ar_begin_19 : decode b_Ar_begin 19 = .ok (.aload_n 0, 1) := by decide +kernel
theorem d_Ar_begin_20 : decode b_Ar_begin 20 = .ok (.getfield 15, 3) := by decide +kernel
theorem d_Ar_begin_23 : decode b_Ar_begin 23 = .ok (.iload 4, 2) := by decide +kernel
theorem d_Ar_begin_25 : decode b_Ar_begin 25 = .ok (.ldc 30, 2) := by decide +kernel
theorem d_Ar_begin_27 : decode b_Ar_begin 27 = .ok (.iload_n 3, 1) := by decide +kernel
theorem d_Ar_begin_28 : decode b_Ar_begin 28 = .ok (.aload_n 1, 1) := by decide +kernel
theorem d_Ar_begin_29 : decode b_Ar_begin 29 = .ok (.getfield 31, 3) := by decide +kernel
theorem d_Ar_begin_32 : decode b_Ar_begin 32 = .ok (.iload_n 2, 1) := by decide +kernel
theorem d_Ar_begin_33 : decode b_Ar_begin 33 = .ok (.iload 4, 2) := by decide +kernel
theorem d_Ar_begin_35 : decode b_Ar_begin 35 = .ok (.invokevirtual 37, 3) := by decide +kernel
theorem d_Ar_begin_38 : decode b_Ar_begin 38 = .ok (.iadd, 1) := by decide +kernel
theorem d_Ar_begin_39 : decode b_Ar_begin 39 = .ok (.invokestatic 18, 3) := by decide +kernel
theorem d_Ar_begin_42 : decode b_Ar_begin 42 = .ok (.iastore, 1) := by decide +kernel
theorem d_Ar_begin_43 : decode b_Ar_begin 43 = .ok (.iinc 4 1, 3) := by decide +kernel
theorem d_Ar_begin_46 : decode b_Ar_begin 46 = .ok (.goto (-43), 3) := by decide +kernel
theorem d_Ar_begin_49 : decode b_Ar_begin 49 = .ok (.return_, 1) := by decide +kernel
theorem d_Ar_find_0 : decode b_Ar_find 0 = .ok (.aload_n 0, 1) := by decide +kernel
theorem d_Ar_find_1 : decode b_Ar_find 1 = .ok (.aload_n 1, 1) := by decide +kernel
theorem d_Ar_find_2 : decode b_Ar_find 2 = .ok (.iload_n 2, 1) := by decide +kernel
theorem d_Ar_find_3 : decode b_Ar_find 3 = .ok (.iload_n 3, 1) := by decide +kernel
theorem d_Ar_find_4 : decode b_Ar_find 4 = .ok (.invokevirtual 42, 3) := by decide +kernel
theorem d_Ar_find_7 : decode b_Ar_find 7 = .ok (.aload_n 0, 1) := by decide +kernel
theorem d_Ar_find_8 : decode b_Ar_find 8 = .ok (.aload_n 1, 1) := by decide +kernel
theorem d_Ar_find_9 : decode b_Ar_find 9 = .ok (.aload_n 0, 1) := by decide +kernel
theorem d_Ar_find_10 : decode b_Ar_find 10 = .ok (.invokevirtual 46, 3) := by decide +kernel
theorem d_Ar_find_13 : decode b_Ar_find 13 = .ok (.return_, 1) := by decide +kernel
theorem d_Ar_addOneDeparture_0 : decode b_Ar_addOneDeparture 0 = .ok (.iconst 0, 1) := by decide +kernel
theorem d_Ar_addOneDeparture_1 : decode b_Ar_addOneDeparture 1 = .ok (.istore_n 3, 1) := by decide +kernel
theorem d_Ar_addOneDeparture_2 : decode b_Ar_addOneDeparture 2 = .ok (.iload_n 3, 1) := by decide +kernel
theorem d_Ar_addOneDeparture_3 : decode b_Ar_addOneDeparture 3 = .ok (.aload_n 1, 1) := by decide +kernel
theorem d_Ar_addOneDeparture_4 : decode b_Ar_addOneDeparture 4 = .ok (.getfield 50, 3) := by decide +kernel
theorem d_Ar_addOneDeparture_7 : decode b_Ar_addOneDeparture 7 = .ok (.getfield 54, 3) := by decide +kernel
theorem d_Ar_addOneDeparture_10 : decode b_Ar_addOneDeparture 10 = .ok (.if_icmp .ge 78, 3) := by decide +kernel
theorem d_Ar_addOneDeparture_13 : decode b_Ar_addOneDeparture 13 = .ok (.aload_n 1, 1) := by decide +kernel
theorem d_Ar_addOneDeparture_14 : decode b_Ar_addOneDeparture 14 = .ok (.getfield 50, 3) := by decide +kernel
theorem d_Ar_addOneDeparture_17 : decode b_Ar_addOneDeparture 17 = .ok (.iload_n 3, 1) := by decide +kernel
theorem d_Ar_addOneDeparture_18 : decode b_Ar_addOneDeparture 18 = .ok (.invokevirtual 60, 3) := by decide +kernel
theorem d_Ar_addOneDeparture_21 : decode b_Ar_addOneDeparture 21 = .ok (.istore 4, 2) := by decide +kernel
theorem d_Ar_addOneDeparture_23 : decode b_Ar_addOneDeparture 23 = .ok (.aload_n 1, 1) := by decide +kernel
theorem d_Ar_addOneDeparture_24 : decode b_Ar_addOneDeparture 24 = .ok (.getfield 50, 3) := by decide +kernel
theorem d_Ar_addOneDeparture_27 : decode b_Ar_addOneDeparture 27 = .ok (.getfield 64, 3) := by decide +kernel
theorem d_Ar_addOneDeparture_30 : decode b_Ar_addOneDeparture 30 = .ok (.iload_n 3, 1) := by decide +kernel
theorem d_Ar_addOneDeparture_31 : decode b_Ar_addOneDeparture 31 = .ok (.iaload, 1) := by decide +kernel
theorem d_Ar_addOneDeparture_32 : decode b_Ar_addOneDeparture 32 = .ok (.istore 5, 2) := by decide +kernel
theorem d_Ar_addOneDeparture_34 : decode b_Ar_addOneDeparture 34 = .ok (.aload_n 2, 1) := by decide +kernel
theorem d_Ar_addOneDeparture_35 : decode b_Ar_addOneDeparture 35 = .ok (.aload_n 1, 1) := by decide +kernel
theorem d_Ar_addOneDeparture_36 : decode b_Ar_addOneDeparture 36 = .ok (.aload_n 1, 1) := by decide +kernel
theorem d_Ar_addOneDeparture_37 : decode b_Ar_addOneDeparture 37 = .ok (.getfield 67, 3) := by decide +kernel
theorem d_Ar_addOneDeparture_40 : decode b_Ar_addOneDeparture 40 = .ok (.getfield 71, 3) := by decide +kernel
theorem d_Ar_addOneDeparture_43 : decode b_Ar_addOneDeparture 43 = .ok (.iload 4, 2) := by decide +kernel
theorem d_Ar_addOneDeparture_45 : decode b_Ar_addOneDeparture 45 = .ok (.iaload, 1) := by decide +kernel
theorem d_Ar_addOneDeparture_46 : decode b_Ar_addOneDeparture 46 = .ok (.iload 5, 2) := by decide +kernel
theorem d_Ar_addOneDeparture_48 : decode b_Ar_addOneDeparture 48 = .ok (.invokevirtual 76, 3) := by decide +kernel
theorem d_Ar_addOneDeparture_51 : decode b_Ar_addOneDeparture 51 = .ok (.ifCond .eq 31, 3) := by decide +kernel
theorem d_Ar_addOneDeparture_54 : decode b_Ar_addOneDeparture 54 = .ok (.aload_n 0, 1) := by decide +kernel
theorem d_Ar_addOneDeparture_55 : decode b_Ar_addOneDeparture 55 = .ok (.aload_n 1, 1) := by decide +kernel
theorem d_Ar_addOneDeparture_56 : decode b_Ar_addOneDeparture 56 = .ok (.aload_n 1, 1) := by decide +kernel
theorem d_Ar_addOneDeparture_57 : decode b_Ar_addOneDeparture 57 = .ok (.getfield 67, 3) := by decide +kernel
theorem d_Ar_addOneDeparture_60 : decode b_Ar_addOneDeparture 60 = .ok (.getfield 80, 3) := by decide +kernel
theorem d_Ar_addOneDeparture_63 : decode b_Ar_addOneDeparture 63 = .ok (.iload 4, 2) := by decide +kernel
theorem d_Ar_addOneDeparture_65 : decode b_Ar_addOneDeparture 65 = .ok (.iaload, 1) := by decide +kernel
theorem d_Ar_addOneDeparture_66 : decode b_Ar_addOneDeparture 66 = .ok (.iload 5, 2) := by decide +kernel
theorem d_Ar_addOneDeparture_68 : decode b_Ar_addOneDeparture 68 = .ok (.aload_n 1, 1) := by decide +kernel
theorem d_Ar_addOneDeparture_69 : decode b_Ar_addOneDeparture 69 = .ok (.getfield 67, 3) := by decide +kernel
theorem d_Ar_addOneDeparture_72 : decode b_Ar_addOneDeparture 72 = .ok (.getfield 83, 3) := by decide +kernel
theorem d_Ar_addOneDeparture_75 : decode b_Ar_addOneDeparture 75 = .ok (.iload 4, 2) := by decide +kernel
theorem d_Ar_addOneDeparture_77 : decode b_Ar_addOneDeparture 77 = .ok (.iaload, 1) := by decide +kernel
theorem d_Ar_addOneDeparture_78 : decode b_Ar_addOneDeparture 78 = .ok (.iadd, 1) := by decide +kernel
theorem d_Ar_addOneDeparture_79 : decode b_Ar_addOneDeparture 79 = .ok (.invokevirtual 86, 3) := by decide +kernel
theorem d_Ar_addOneDeparture_82 : decode b_Ar_addOneDeparture 82 = .ok (.iinc 3 1, 3) := by decide +kernel
theorem d_Ar_addOneDeparture_85 : decode b_Ar_addOneDeparture 85 = .ok (.goto (-83), 3) := by decide +kernel
theorem d_Ar_addOneDeparture_88 : decode b_Ar_addOneDeparture 88 = .ok (.return_, 1) := by decide +kernel
theorem d_Ar_mayTake_0 : decode b_Ar_mayTake 0 = .ok (.iload_n 3, 1) := by decide +kernel
theorem d_Ar_mayTake_1 : decode b_Ar_mayTake 1 = .ok (.aload_n 0, 1) := by decide +kernel
theorem d_Ar_mayTake_2 : decode b_Ar_mayTake 2 = .ok (.getfield 15, 3) := by decide +kernel
theorem d_Ar_mayTake_5 : decode b_Ar_mayTake 5 = .ok (.iload_n 2, 1) := by decide +kernel
theorem d_Ar_mayTake_6 : decode b_Ar_mayTake 6 = .ok (.iaload, 1) := by decide +kernel
theorem d_Ar_mayTake_7 : decode b_Ar_mayTake 7 = .ok (.if_icmp .ge 20, 3) := by decide +kernel
theorem d_Ar_mayTake_10 : decode b_Ar_mayTake 10 = .ok (.iload_n 3, 1) := by decide +kernel
theorem d_Ar_mayTake_11 : decode b_Ar_mayTake 11 = .ok (.aload_n 0, 1) := by decide +kernel
theorem d_Ar_mayTake_12 : decode b_Ar_mayTake 12 = .ok (.getfield 9, 3) := by decide +kernel
theorem d_Ar_mayTake_15 : decode b_Ar_mayTake 15 = .ok (.iload_n 2, 1) := by decide +kernel
theorem d_Ar_mayTake_16 : decode b_Ar_mayTake 16 = .ok (.iaload, 1) := by decide +kernel
theorem d_Ar_mayTake_17 : decode b_Ar_mayTake 17 = .ok (.aload_n 1, 1) := by decide +kernel
theorem d_Ar_mayTake_18 : decode b_Ar_mayTake 18 = .ok (.getfield 89, 3) := by decide +kernel
theorem d_Ar_mayTake_21 : decode b_Ar_mayTake 21 = .ok (.iload_n 2, 1) := by decide +kernel
theorem d_Ar_mayTake_22 : decode b_Ar_mayTake 22 = .ok (.iaload, 1) := by decide +kernel
theorem d_Ar_mayTake_23 : decode b_Ar_mayTake 23 = .ok (.iadd, 1) := by decide +kernel
theorem d_Ar_mayTake_24 : decode b_Ar_mayTake 24 = .ok (.if_icmp .lt 7, 3) := by decide +kernel
theorem d_Ar_mayTake_27 : decode b_Ar_mayTake 27 = .ok (.iconst 1, 1) := by decide +kernel
theorem d_Ar_mayTake_28 : decode b_Ar_mayTake 28 = .ok (.goto 4, 3) := by decide +kernel
theorem d_Ar_mayTake_31 : decode b_Ar_mayTake 31 = .ok (.iconst 0, 1) := by decide +kernel
theorem d_Ar_mayTake_32 : decode b_Ar_mayTake 32 = .ok (.ireturn, 1) := by decide +kernel
theorem d_Ar_arrive_0 : decode b_Ar_arrive 0 = .ok (.iload_n 3, 1) := by decide +kernel
theorem d_Ar_arrive_1 : decode b_Ar_arrive 1 = .ok (.aload_n 0, 1) := by decide +kernel
theorem d_Ar_arrive_2 : decode b_Ar_arrive 2 = .ok (.getfield 9, 3) := by decide +kernel
theorem d_Ar_arrive_5 : decode b_Ar_arrive 5 = .ok (.iload_n 2, 1) := by decide +kernel
theorem d_Ar_arrive_6 : decode b_Ar_arrive 6 = .ok (.iaload, 1) := by decide +kernel
theorem d_Ar_arrive_7 : decode b_Ar_arrive 7 = .ok (.if_icmp .lt 4, 3) := by decide +kernel
theorem d_Ar_arrive_10 : decode b_Ar_arrive 10 = .ok (.return_, 1) := by decide +kernel
theorem d_Ar_arrive_11 : decode b_Ar_arrive 11 = .ok (.aload_n 0, 1) := by decide +kernel
theorem d_Ar_arrive_12 : decode b_Ar_arrive 12 = .ok (.getfield 9, 3) := by decide +kernel
theorem d_Ar_arrive_15 : decode b_Ar_arrive 15 = .ok (.iload_n 2, 1) := by decide +kernel
theorem d_Ar_arrive_16 : decode b_Ar_arrive 16 = .ok (.iload_n 3, 1) := by decide +kernel
theorem d_Ar_arrive_17 : decode b_Ar_arrive 17 = .ok (.iastore, 1) := by decide +kernel
theorem d_Ar_arrive_18 : decode b_Ar_arrive 18 = .ok (.iconst 0, 1) := by decide +kernel
theorem d_Ar_arrive_19 : decode b_Ar_arrive 19 = .ok (.istore 4, 2) := by decide +kernel
theorem d_Ar_arrive_21 : decode b_Ar_arrive 21 = .ok (.iload 4, 2) := by decide +kernel
theorem d_Ar_arrive_23 : decode b_Ar_arrive 23 = .ok (.aload_n 1, 1) := by decide +kernel
theorem d_Ar_arrive_24 : decode b_Ar_arrive 24 = .ok (.getfield 92, 3) := by decide +kernel
theorem d_Ar_arrive_27 : decode b_Ar_arrive 27 = .ok (.if_icmp .ge 38, 3) := by decide +kernel
theorem d_Ar_arrive_30 : decode b_Ar_arrive 30 = .ok (.aload_n 0, 1) := by decide +kernel
theorem d_Ar_arrive_31 : decode b_Ar_arrive 31 = .ok (.getfield 15, 3) := by decide +kernel
theorem d_Ar_arrive_34 : decode b_Ar_arrive 34 = .ok (.iload 4, 2) := by decide +kernel
theorem d_Ar_arrive_36 : decode b_Ar_arrive 36 = .ok (.aload_n 0, 1) := by decide +kernel
theorem d_Ar_arrive_37 : decode b_Ar_arrive 37 = .ok (.getfield 15, 3) := by decide +kernel
theorem d_Ar_arrive_40 : decode b_Ar_arrive 40 = .ok (.iload 4, 2) := by decide +kernel
theorem d_Ar_arrive_42 : decode b_Ar_arrive 42 = .ok (.iaload, 1) := by decide +kernel
theorem d_Ar_arrive_43 : decode b_Ar_arrive 43 = .ok (.iload_n 3, 1) := by decide +kernel
theorem d_Ar_arrive_44 : decode b_Ar_arrive 44 = .ok (.aload_n 1, 1) := by decide +kernel
theorem d_Ar_arrive_45 : decode b_Ar_arrive 45 = .ok (.getfield 31, 3) := by decide +kernel
theorem d_Ar_arrive_48 : decode b_Ar_arrive 48 = .ok (.iload_n 2, 1) := by decide +kernel
theorem d_Ar_arrive_49 : decode b_Ar_arrive 49 = .ok (.iload 4, 2) := by decide +kernel
theorem d_Ar_arrive_51 : decode b_Ar_arrive 51 = .ok (.invokevirtual 95, 3) := by decide +kernel
theorem d_Ar_arrive_54 : decode b_Ar_arrive 54 = .ok (.iadd, 1) := by decide +kernel
theorem d_Ar_arrive_55 : decode b_Ar_arrive 55 = .ok (.invokestatic 18, 3) := by decide +kernel
theorem d_Ar_arrive_58 : decode b_Ar_arrive 58 = .ok (.iastore, 1) := by decide +kernel
theorem d_Ar_arrive_59 : decode b_Ar_arrive 59 = .ok (.iinc 4 1, 3) := by decide +kernel
theorem d_Ar_arrive_62 : decode b_Ar_arrive 62 = .ok (.goto (-41), 3) := by decide +kernel
theorem d_Ar_arrive_65 : decode b_Ar_arrive 65 = .ok (.return_, 1) := by decide +kernel
theorem d_Ar_lastWalk_0 : decode b_Ar_lastWalk 0 = .ok (.iconst 0, 1) := by decide +kernel
theorem d_Ar_lastWalk_1 : decode b_Ar_lastWalk 1 = .ok (.istore_n 3, 1) := by decide +kernel
theorem d_Ar_lastWalk_2 : decode b_Ar_lastWalk 2 = .ok (.iload_n 3, 1) := by decide +kernel
theorem d_Ar_lastWalk_3 : decode b_Ar_lastWalk 3 = .ok (.aload_n 1, 1) := by decide +kernel
theorem d_Ar_lastWalk_4 : decode b_Ar_lastWalk 4 = .ok (.getfield 31, 3) := by decide +kernel
theorem d_Ar_lastWalk_7 : decode b_Ar_lastWalk 7 = .ok (.getfield 98, 3) := by decide +kernel
theorem d_Ar_lastWalk_10 : decode b_Ar_lastWalk 10 = .ok (.if_icmp .ge 60, 3) := by decide +kernel
theorem d_Ar_lastWalk_13 : decode b_Ar_lastWalk 13 = .ok (.aload_n 0, 1) := by decide +kernel
theorem d_Ar_lastWalk_14 : decode b_Ar_lastWalk 14 = .ok (.aload_n 1, 1) := by decide +kernel
theorem d_Ar_lastWalk_15 : decode b_Ar_lastWalk 15 = .ok (.getfield 31, 3) := by decide +kernel
theorem d_Ar_lastWalk_18 : decode b_Ar_lastWalk 18 = .ok (.getfield 99, 3) := by decide +kernel
theorem d_Ar_lastWalk_21 : decode b_Ar_lastWalk 21 = .ok (.iload_n 3, 1) := by decide +kernel
theorem d_Ar_lastWalk_22 : decode b_Ar_lastWalk 22 = .ok (.iaload, 1) := by decide +kernel
theorem d_Ar_lastWalk_23 : decode b_Ar_lastWalk 23 = .ok (.invokevirtual 100, 3) := by decide +kernel
theorem d_Ar_lastWalk_26 : decode b_Ar_lastWalk 26 = .ok (.aload_n 1, 1) := by decide +kernel
theorem d_Ar_lastWalk_27 : decode b_Ar_lastWalk 27 = .ok (.getfield 31, 3) := by decide +kernel
theorem d_Ar_lastWalk_30 : decode b_Ar_lastWalk 30 = .ok (.getfield 103, 3) := by decide +kernel
theorem d_Ar_lastWalk_33 : decode b_Ar_lastWalk 33 = .ok (.iload_n 3, 1) := by decide +kernel
theorem d_Ar_lastWalk_34 : decode b_Ar_lastWalk 34 = .ok (.iaload, 1) := by decide +kernel
theorem d_Ar_lastWalk_35 : decode b_Ar_lastWalk 35 = .ok (.iadd, 1) := by decide +kernel
theorem d_Ar_lastWalk_36 : decode b_Ar_lastWalk 36 = .ok (.istore 4, 2) := by decide +kernel
theorem d_Ar_lastWalk_38 : decode b_Ar_lastWalk 38 = .ok (.aload_n 1, 1) := by decide +kernel
theorem d_Ar_lastWalk_39 : decode b_Ar_lastWalk 39 = .ok (.getfield 31, 3) := by decide +kernel
theorem d_Ar_lastWalk_42 : decode b_Ar_lastWalk 42 = .ok (.getfield 104, 3) := by decide +kernel
theorem d_Ar_lastWalk_45 : decode b_Ar_lastWalk 45 = .ok (.iload_n 3, 1) := by decide +kernel
theorem d_Ar_lastWalk_46 : decode b_Ar_lastWalk 46 = .ok (.iaload, 1) := by decide +kernel
theorem d_Ar_lastWalk_47 : decode b_Ar_lastWalk 47 = .ok (.iload_n 2, 1) := by decide +kernel
theorem d_Ar_lastWalk_48 : decode b_Ar_lastWalk 48 = .ok (.if_icmp .ne 16, 3) := by decide +kernel
theorem d_Ar_lastWalk_51 : decode b_Ar_lastWalk 51 = .ok (.iload 4, 2) := by decide +kernel
theorem d_Ar_lastWalk_53 : decode b_Ar_lastWalk 53 = .ok (.aload_n 0, 1) := by decide +kernel
theorem d_Ar_lastWalk_54 : decode b_Ar_lastWalk 54 = .ok (.getfield 15, 3) := by decide +kernel
theorem d_Ar_lastWalk_57 : decode b_Ar_lastWalk 57 = .ok (.iload_n 2, 1) := by decide +kernel
theorem d_Ar_lastWalk_58 : decode b_Ar_lastWalk 58 = .ok (.iaload, 1) := by decide +kernel
theorem d_Ar_lastWalk_59 : decode b_Ar_lastWalk 59 = .ok (.if_icmp .ne 5, 3) := by decide +kernel
theorem d_Ar_lastWalk_62 : decode b_Ar_lastWalk 62 = .ok (.iload_n 3, 1) := by decide +kernel
theorem d_Ar_lastWalk_63 : decode b_Ar_lastWalk 63 = .ok (.ireturn, 1) := by decide +kernel
theorem d_Ar_lastWalk_64 : decode b_Ar_lastWalk 64 = .ok (.iinc 3 1, 3) := by decide +kernel
theorem d_Ar_lastWalk_67 : decode b_Ar_lastWalk 67 = .ok (.goto (-65), 3) := by decide +kernel
theorem d_Ar_lastWalk_70 : decode b_Ar_lastWalk 70 = .ok (.iconst (-1), 1) := by decide +kernel
theorem d_Ar_lastWalk_71 : decode b_Ar_lastWalk 71 = .ok (.ireturn, 1) := by decide +kernel
theorem d_Ar_lastDeparture_0 : decode b_Ar_lastDeparture 0 = .ok (.iconst 0, 1) := by decide +kernel
theorem d_Ar_lastDeparture_1 : decode b_Ar_lastDeparture 1 = .ok (.istore_n 3, 1) := by decide +kernel
theorem d_Ar_lastDeparture_2 : decode b_Ar_lastDeparture 2 = .ok (.iload_n 3, 1) := by decide +kernel
theorem d_Ar_lastDeparture_3 : decode b_Ar_lastDeparture 3 = .ok (.aload_n 1, 1) := by decide +kernel
theorem d_Ar_lastDeparture_4 : decode b_Ar_lastDeparture 4 = .ok (.getfield 67, 3) := by decide +kernel
theorem d_Ar_lastDeparture_7 : decode b_Ar_lastDeparture 7 = .ok (.getfield 105, 3) := by decide +kernel
theorem d_Ar_lastDeparture_10 : decode b_Ar_lastDeparture 10 = .ok (.if_icmp .ge 60, 3) := by decide +kernel
theorem d_Ar_lastDeparture_13 : decode b_Ar_lastDeparture 13 = .ok (.aload_n 1, 1) := by decide +kernel
theorem d_Ar_lastDeparture_14 : decode b_Ar_lastDeparture 14 = .ok (.getfield 67, 3) := by decide +kernel
theorem d_Ar_lastDeparture_17 : decode b_Ar_lastDeparture 17 = .ok (.getfield 80, 3) := by decide +kernel
theorem d_Ar_lastDeparture_20 : decode b_Ar_lastDeparture 20 = .ok (.iload_n 3, 1) := by decide +kernel
theorem d_Ar_lastDeparture_21 : decode b_Ar_lastDeparture 21 = .ok (.iaload, 1) := by decide +kernel
theorem d_Ar_lastDeparture_22 : decode b_Ar_lastDeparture 22 = .ok (.iload_n 2, 1) := by decide +kernel
theorem d_Ar_lastDeparture_23 : decode b_Ar_lastDeparture 23 = .ok (.if_icmp .eq 6, 3) := by decide +kernel
theorem d_Ar_lastDeparture_26 : decode b_Ar_lastDeparture 26 = .ok (.goto 38, 3) := by decide +kernel
theorem d_Ar_lastDeparture_29 : decode b_Ar_lastDeparture 29 = .ok (.iconst 0, 1) := by decide +kernel
theorem d_Ar_lastDeparture_30 : decode b_Ar_lastDeparture 30 = .ok (.istore 4, 2) := by decide +kernel
theorem d_Ar_lastDeparture_32 : decode b_Ar_lastDeparture 32 = .ok (.iload 4, 2) := by decide +kernel
theorem d_Ar_lastDeparture_34 : decode b_Ar_lastDeparture 34 = .ok (.bipush 7, 2) := by decide +kernel
theorem d_Ar_lastDeparture_36 : decode b_Ar_lastDeparture 36 = .ok (.if_icmp .ge 28, 3) := by decide +kernel
theorem d_Ar_lastDeparture_39 : decode b_Ar_lastDeparture 39 = .ok (.aload_n 0, 1) := by decide +kernel
theorem d_Ar_lastDeparture_40 : decode b_Ar_lastDeparture 40 = .ok (.aload_n 1, 1) := by decide +kernel
theorem d_Ar_lastDeparture_41 : decode b_Ar_lastDeparture 41 = .ok (.iload_n 3, 1) := by decide +kernel
theorem d_Ar_lastDeparture_42 : decode b_Ar_lastDeparture 42 = .ok (.iload 4, 2) := by decide +kernel
theorem d_Ar_lastDeparture_44 : decode b_Ar_lastDeparture 44 = .ok (.invokevirtual 106, 3) := by decide +kernel
theorem d_Ar_lastDeparture_47 : decode b_Ar_lastDeparture 47 = .ok (.ifCond .eq 11, 3) := by decide +kernel
theorem d_Ar_lastDeparture_50 : decode b_Ar_lastDeparture 50 = .ok (.iload_n 3, 1) := by decide +kernel
theorem d_Ar_lastDeparture_51 : decode b_Ar_lastDeparture 51 = .ok (.bipush 7, 2) := by decide +kernel
theorem d_Ar_lastDeparture_53 : decode b_Ar_lastDeparture 53 = .ok (.imul, 1) := by decide +kernel
theorem d_Ar_lastDeparture_54 : decode b_Ar_lastDeparture 54 = .ok (.iload 4, 2) := by decide +kernel
theorem d_Ar_lastDeparture_56 : decode b_Ar_lastDeparture 56 = .ok (.iadd, 1) := by decide +kernel
theorem d_Ar_lastDeparture_57 : decode b_Ar_lastDeparture 57 = .ok (.ireturn, 1) := by decide +kernel
theorem d_Ar_lastDeparture_58 : decode b_Ar_lastDeparture 58 = .ok (.iinc 4 1, 3) := by decide +kernel
theorem d_Ar_lastDeparture_61 : decode b_Ar_lastDeparture 61 = .ok (.goto (-29), 3) := by decide +kernel
theorem d_Ar_lastDeparture_64 : decode b_Ar_lastDeparture 64 = .ok (.iinc 3 1, 3) := by decide +kernel
theorem d_Ar_lastDeparture_67 : decode b_Ar_lastDeparture 67 = .ok (.goto (-65), 3) := by decide +kernel
theorem d_Ar_lastDeparture_70 : decode b_Ar_lastDeparture 70 = .ok (.iconst (-1), 1) := by decide +kernel
theorem d_Ar_lastDeparture_71 : decode b_Ar_lastDeparture 71 = .ok (.ireturn, 1) := by decide +kernel
theorem d_Ar_endsByRide_0 : decode b_Ar_endsByRide 0 = .ok (.iload_n 2, 1) := by decide +kernel
theorem d_Ar_endsByRide_1 : decode b_Ar_endsByRide 1 = .ok (.bipush 7, 2) := by decide +kernel
theorem d_Ar_endsByRide_3 : decode b_Ar_endsByRide 3 = .ok (.imul, 1) := by decide +kernel
theorem d_Ar_endsByRide_4 : decode b_Ar_endsByRide 4 = .ok (.iload_n 3, 1) := by decide +kernel
theorem d_Ar_endsByRide_5 : decode b_Ar_endsByRide 5 = .ok (.iadd, 1) := by decide +kernel
theorem d_Ar_endsByRide_6 : decode b_Ar_endsByRide 6 = .ok (.istore 4, 2) := by decide +kernel
theorem d_Ar_endsByRide_8 : decode b_Ar_endsByRide 8 = .ok (.aload_n 1, 1) := by decide +kernel
theorem d_Ar_endsByRide_9 : decode b_Ar_endsByRide 9 = .ok (.getfield 67, 3) := by decide +kernel
theorem d_Ar_endsByRide_12 : decode b_Ar_endsByRide 12 = .ok (.iload 4, 2) := by decide +kernel
theorem d_Ar_endsByRide_14 : decode b_Ar_endsByRide 14 = .ok (.invokevirtual 109, 3) := by decide +kernel
theorem d_Ar_endsByRide_17 : decode b_Ar_endsByRide 17 = .ok (.ifCond .ne 5, 3) := by decide +kernel
theorem d_Ar_endsByRide_20 : decode b_Ar_endsByRide 20 = .ok (.iconst 0, 1) := by decide +kernel
theorem d_Ar_endsByRide_21 : decode b_Ar_endsByRide 21 = .ok (.ireturn, 1) := by decide +kernel
theorem d_Ar_endsByRide_22 : decode b_Ar_endsByRide 22 = .ok (.aload_n 1, 1) := by decide +kernel
theorem d_Ar_endsByRide_23 : decode b_Ar_endsByRide 23 = .ok (.getfield 67, 3) := by decide +kernel
theorem d_Ar_endsByRide_26 : decode b_Ar_endsByRide 26 = .ok (.iload 4, 2) := by decide +kernel
theorem d_Ar_endsByRide_28 : decode b_Ar_endsByRide 28 = .ok (.invokevirtual 113, 3) := by decide +kernel
theorem d_Ar_endsByRide_31 : decode b_Ar_endsByRide 31 = .ok (.istore 5, 2) := by decide +kernel
theorem d_Ar_endsByRide_33 : decode b_Ar_endsByRide 33 = .ok (.iload 5, 2) := by decide +kernel
theorem d_Ar_endsByRide_35 : decode b_Ar_endsByRide 35 = .ok (.aload_n 1, 1) := by decide +kernel
theorem d_Ar_endsByRide_36 : decode b_Ar_endsByRide 36 = .ok (.getfield 67, 3) := by decide +kernel
theorem d_Ar_endsByRide_39 : decode b_Ar_endsByRide 39 = .ok (.getfield 83, 3) := by decide +kernel
theorem d_Ar_endsByRide_42 : decode b_Ar_endsByRide 42 = .ok (.iload_n 2, 1) := by decide +kernel
theorem d_Ar_endsByRide_43 : decode b_Ar_endsByRide 43 = .ok (.iaload, 1) := by decide +kernel
theorem d_Ar_endsByRide_44 : decode b_Ar_endsByRide 44 = .ok (.iadd, 1) := by decide +kernel
theorem d_Ar_endsByRide_45 : decode b_Ar_endsByRide 45 = .ok (.aload_n 0, 1) := by decide +kernel
theorem d_Ar_endsByRide_46 : decode b_Ar_endsByRide 46 = .ok (.getfield 9, 3) := by decide +kernel
theorem d_Ar_endsByRide_49 : decode b_Ar_endsByRide 49 = .ok (.aload_n 1, 1) := by decide +kernel
theorem d_Ar_endsByRide_50 : decode b_Ar_endsByRide 50 = .ok (.getfield 67, 3) := by decide +kernel
theorem d_Ar_endsByRide_53 : decode b_Ar_endsByRide 53 = .ok (.getfield 80, 3) := by decide +kernel
theorem d_Ar_endsByRide_56 : decode b_Ar_endsByRide 56 = .ok (.iload_n 2, 1) := by decide +kernel
theorem d_Ar_endsByRide_57 : decode b_Ar_endsByRide 57 = .ok (.iaload, 1) := by decide +kernel
theorem d_Ar_endsByRide_58 : decode b_Ar_endsByRide 58 = .ok (.iaload, 1) := by decide +kernel
theorem d_Ar_endsByRide_59 : decode b_Ar_endsByRide 59 = .ok (.if_icmp .ne 26, 3) := by decide +kernel
theorem d_Ar_endsByRide_62 : decode b_Ar_endsByRide 62 = .ok (.aload_n 0, 1) := by decide +kernel
theorem d_Ar_endsByRide_63 : decode b_Ar_endsByRide 63 = .ok (.aload_n 1, 1) := by decide +kernel
theorem d_Ar_endsByRide_64 : decode b_Ar_endsByRide 64 = .ok (.aload_n 1, 1) := by decide +kernel
theorem d_Ar_endsByRide_65 : decode b_Ar_endsByRide 65 = .ok (.getfield 67, 3) := by decide +kernel
theorem d_Ar_endsByRide_68 : decode b_Ar_endsByRide 68 = .ok (.getfield 71, 3) := by decide +kernel
theorem d_Ar_endsByRide_71 : decode b_Ar_endsByRide 71 = .ok (.iload_n 2, 1) := by decide +kernel
theorem d_Ar_endsByRide_72 : decode b_Ar_endsByRide 72 = .ok (.iaload, 1) := by decide +kernel
theorem d_Ar_endsByRide_73 : decode b_Ar_endsByRide 73 = .ok (.iload 5, 2) := by decide +kernel
theorem d_Ar_endsByRide_75 : decode b_Ar_endsByRide 75 = .ok (.invokevirtual 76, 3) := by decide +kernel
theorem d_Ar_endsByRide_78 : decode b_Ar_endsByRide 78 = .ok (.ifCond .eq 7, 3) := by decide +kernel
theorem d_Ar_endsByRide_81 : decode b_Ar_endsByRide 81 = .ok (.iconst 1, 1) := by decide +kernel
theorem d_Ar_endsByRide_82 : decode b_Ar_endsByRide 82 = .ok (.goto 4, 3) := by decide +kernel
theorem d_Ar_endsByRide_85 : decode b_Ar_endsByRide 85 = .ok (.iconst 0, 1) := by decide +kernel
theorem d_Ar_endsByRide_86 : decode b_Ar_endsByRide 86 = .ok (.ireturn, 1) := by decide +kernel
theorem d_Sp_init_0 : decode b_Sp_init 0 = .ok (.aload_n 0, 1) := by decide +kernel
theorem d_Sp_init_1 : decode b_Sp_init 1 = .ok (.invokespecial 3, 3) := by decide +kernel
theorem d_Sp_init_4 : decode b_Sp_init 4 = .ok (.aload_n 0, 1) := by decide +kernel
theorem d_Sp_init_5 : decode b_Sp_init 5 = .ok (.sipush 280, 3) := by decide +kernel
theorem d_Sp_init_8 : decode b_Sp_init 8 = .ok (.newarray .int, 2) := by decide +kernel
theorem d_Sp_init_10 : decode b_Sp_init 10 = .ok (.putfield 9, 3) := by decide +kernel
theorem d_Sp_init_13 : decode b_Sp_init 13 = .ok (.aload_n 0, 1) := by decide +kernel
theorem d_Sp_init_14 : decode b_Sp_init 14 = .ok (.sipush 601, 3) := by decide +kernel
theorem d_Sp_init_17 : decode b_Sp_init 17 = .ok (.newarray .int, 2) := by decide +kernel
theorem d_Sp_init_19 : decode b_Sp_init 19 = .ok (.putfield 15, 3) := by decide +kernel
theorem d_Sp_init_22 : decode b_Sp_init 22 = .ok (.return_, 1) := by decide +kernel
theorem d_Sp_find_0 : decode b_Sp_find 0 = .ok (.aload_n 0, 1) := by decide +kernel
theorem d_Sp_find_1 : decode b_Sp_find 1 = .ok (.getfield 15, 3) := by decide +kernel
theorem d_Sp_find_4 : decode b_Sp_find 4 = .ok (.ldc 18, 2) := by decide +kernel
theorem d_Sp_find_6 : decode b_Sp_find 6 = .ok (.invokestatic 19, 3) := by decide +kernel
theorem d_Sp_find_9 : decode b_Sp_find 9 = .ok (.aload_n 1, 1) := by decide +kernel
theorem d_Sp_find_10 : decode b_Sp_find 10 = .ok (.getfield 25, 3) := by decide +kernel
theorem d_Sp_find_13 : decode b_Sp_find 13 = .ok (.getfield 31, 3) := by decide +kernel
theorem d_Sp_find_16 : decode b_Sp_find 16 = .ok (.iconst 1, 1) := by decide +kernel
theorem d_Sp_find_17 : decode b_Sp_find 17 = .ok (.isub, 1) := by decide +kernel
theorem d_Sp_find_18 : decode b_Sp_find 18 = .ok (.istore 6, 2) := by decide +kernel
theorem d_Sp_find_20 : decode b_Sp_find 20 = .ok (.iload 6, 2) := by decide +kernel
theorem d_Sp_find_22 : decode b_Sp_find 22 = .ok (.ifCond .lt 90, 3) := by decide +kernel
theorem d_Sp_find_25 : decode b_Sp_find 25 = .ok (.aload_n 1, 1) := by decide +kernel
theorem d_Sp_find_26 : decode b_Sp_find 26 = .ok (.getfield 25, 3) := by decide +kernel
theorem d_Sp_find_29 : decode b_Sp_find 29 = .ok (.getfield 37, 3) := by decide +kernel
theorem d_Sp_find_32 : decode b_Sp_find 32 = .ok (.iload 6, 2) := by decide +kernel
theorem d_Sp_find_34 : decode b_Sp_find 34 = .ok (.iaload, 1) := by decide +kernel
theorem d_Sp_find_35 : decode b_Sp_find 35 = .ok (.iload 4, 2) := by decide +kernel
theorem d_Sp_find_37 : decode b_Sp_find 37 = .ok (.if_icmp .lt 75, 3) := by decide +kernel
theorem d_Sp_find_40 : decode b_Sp_find 40 = .ok (.aload_n 0, 1) := by decide +kernel
theorem d_Sp_find_41 : decode b_Sp_find 41 = .ok (.getfield 9, 3) := by decide +kernel
theorem d_Sp_find_44 : decode b_Sp_find 44 = .ok (.iload 6, 2) := by decide +kernel
theorem d_Sp_find_46 : decode b_Sp_find 46 = .ok (.aload_n 0, 1) := by decide +kernel
theorem d_Sp_find_47 : decode b_Sp_find 47 = .ok (.aload_n 1, 1) := by decide +kernel
theorem d_Sp_find_48 : decode b_Sp_find 48 = .ok (.iload 6, 2) := by decide +kernel
theorem d_Sp_find_50 : decode b_Sp_find 50 = .ok (.iload_n 3, 1) := by decide +kernel
theorem d_Sp_find_51 : decode b_Sp_find 51 = .ok (.invokevirtual 40, 3) := by decide +kernel
theorem d_Sp_find_54 : decode b_Sp_find 54 = .ok (.iastore, 1) := by decide +kernel
theorem d_Sp_find_55 : decode b_Sp_find 55 = .ok (.iload 5, 2) := by decide +kernel
theorem d_Sp_find_57 : decode b_Sp_find 57 = .ok (.aload_n 1, 1) := by decide +kernel
theorem d_Sp_find_58 : decode b_Sp_find 58 = .ok (.iload_n 2, 1) := by decide +kernel
theorem d_Sp_find_59 : decode b_Sp_find 59 = .ok (.iload 6, 2) := by decide +kernel
theorem d_Sp_find_61 : decode b_Sp_find 61 = .ok (.invokestatic 44, 3) := by decide +kernel
theorem d_Sp_find_64 : decode b_Sp_find 64 = .ok (.invokestatic 47, 3) := by decide +kernel
theorem d_Sp_find_67 : decode b_Sp_find 67 = .ok (.istore 7, 2) := by decide +kernel
theorem d_Sp_find_69 : decode b_Sp_find 69 = .ok (.iload 7, 2) := by decide +kernel
theorem d_Sp_find_71 : decode b_Sp_find 71 = .ok (.iload 4, 2) := by decide +kernel
theorem d_Sp_find_73 : decode b_Sp_find 73 = .ok (.if_icmp .lt 33, 3) := by decide +kernel
theorem d_Sp_find_76 : decode b_Sp_find 76 = .ok (.aload_n 0, 1) := by decide +kernel
theorem d_Sp_find_77 : decode b_Sp_find 77 = .ok (.getfield 15, 3) := by decide +kernel
theorem d_Sp_find_80 : decode b_Sp_find 80 = .ok (.iload 7, 2) := by decide +kernel
theorem d_Sp_find_82 : decode b_Sp_find 82 = .ok (.iload 4, 2) := by decide +kernel
theorem d_Sp_find_84 : decode b_Sp_find 84 = .ok (.isub, 1) := by decide +kernel
theorem d_Sp_find_85 : decode b_Sp_find 85 = .ok (.aload_n 0, 1) := by decide +kernel
theorem d_Sp_find_86 : decode b_Sp_find 86 = .ok (.getfield 15, 3) := by decide +kernel
theorem d_Sp_find_89 : decode b_Sp_find 89 = .ok (.iload 7, 2) := by decide +kernel
theorem d_Sp_find_91 : decode b_Sp_find 91 = .ok (.iload 4, 2) := by decide +kernel
theorem d_Sp_find_93 : decode b_Sp_find 93 = .ok (.isub, 1) := by decide +kernel
theorem d_Sp_find_94 : decode b_Sp_find 94 = .ok (.iaload, 1) := by decide +kernel
theorem d_Sp_find_95 : decode b_Sp_find 95 = .ok (.aload_n 0, 1) := by decide +kernel
theorem d_Sp_find_96 : decode b_Sp_find 96 = .ok (.getfield 9, 3) := by decide +kernel
theorem d_Sp_find_99 : decode b_Sp_find 99 = .ok (.iload 6, 2) := by decide +kernel
theorem d_Sp_find_101 : decode b_Sp_find 101 = .ok (.iaload, 1) := by decide +kernel
theorem d_Sp_find_102 : decode b_Sp_find 102 = .ok (.invokestatic 47, 3) := by decide +kernel
theorem d_Sp_find_105 : decode b_Sp_find 105 = .ok (.iastore, 1) := by decide +kernel
theorem d_Sp_find_106 : decode b_Sp_find 106 = .ok (.iinc 6 (-1), 3) := by decide +kernel
theorem d_Sp_find_109 : decode b_Sp_find 109 = .ok (.goto (-89), 3) := by decide +kernel
theorem d_Sp_find_112 : decode b_Sp_find 112 = .ok (.aload_n 0, 1) := by decide +kernel
theorem d_Sp_find_113 : decode b_Sp_find 113 = .ok (.iload 4, 2) := by decide +kernel
theorem d_Sp_find_115 : decode b_Sp_find 115 = .ok (.iload 5, 2) := by decide +kernel
theorem d_Sp_find_117 : decode b_Sp_find 117 = .ok (.aload_n 1, 1) := by decide +kernel
theorem d_Sp_find_118 : decode b_Sp_find 118 = .ok (.getfield 53, 3) := by decide +kernel
theorem d_Sp_find_121 : decode b_Sp_find 121 = .ok (.iload_n 2, 1) := by decide +kernel
theorem d_Sp_find_122 : decode b_Sp_find 122 = .ok (.iload_n 3, 1) := by decide +kernel
theorem d_Sp_find_123 : decode b_Sp_find 123 = .ok (.invokevirtual 57, 3) := by decide +kernel
theorem d_Sp_find_126 : decode b_Sp_find 126 = .ok (.invokevirtual 62, 3) := by decide +kernel
theorem d_Sp_find_129 : decode b_Sp_find 129 = .ok (.return_, 1) := by decide +kernel
theorem d_Sp_spread_0 : decode b_Sp_spread 0 = .ok (.ldc 18, 2) := by decide +kernel
theorem d_Sp_spread_2 : decode b_Sp_spread 2 = .ok (.istore 4, 2) := by decide +kernel
theorem d_Sp_spread_4 : decode b_Sp_spread 4 = .ok (.iload_n 2, 1) := by decide +kernel
theorem d_Sp_spread_5 : decode b_Sp_spread 5 = .ok (.istore 5, 2) := by decide +kernel
theorem d_Sp_spread_7 : decode b_Sp_spread 7 = .ok (.iload 5, 2) := by decide +kernel
theorem d_Sp_spread_9 : decode b_Sp_spread 9 = .ok (.iload_n 1, 1) := by decide +kernel
theorem d_Sp_spread_10 : decode b_Sp_spread 10 = .ok (.if_icmp .lt 43, 3) := by decide +kernel
theorem d_Sp_spread_13 : decode b_Sp_spread 13 = .ok (.iload 4, 2) := by decide +kernel
theorem d_Sp_spread_15 : decode b_Sp_spread 15 = .ok (.aload_n 0, 1) := by decide +kernel
theorem d_Sp_spread_16 : decode b_Sp_spread 16 = .ok (.getfield 15, 3) := by decide +kernel
theorem d_Sp_spread_19 : decode b_Sp_spread 19 = .ok (.iload 5, 2) := by decide +kernel
theorem d_Sp_spread_21 : decode b_Sp_spread 21 = .ok (.iload_n 1, 1) := by decide +kernel
theorem d_Sp_spread_22 : decode b_Sp_spread 22 = .ok (.isub, 1) := by decide +kernel
theorem d_Sp_spread_23 : decode b_Sp_spread 23 = .ok (.iaload, 1) := by decide +kernel
theorem d_Sp_spread_24 : decode b_Sp_spread 24 = .ok (.invokestatic 47, 3) := by decide +kernel
theorem d_Sp_spread_27 : decode b_Sp_spread 27 = .ok (.istore 4, 2) := by decide +kernel
theorem d_Sp_spread_29 : decode b_Sp_spread 29 = .ok (.aload_n 0, 1) := by decide +kernel
theorem d_Sp_spread_30 : decode b_Sp_spread 30 = .ok (.getfield 15, 3) := by decide +kernel
theorem d_Sp_spread_33 : decode b_Sp_spread 33 = .ok (.iload 5, 2) := by decide +kernel
theorem d_Sp_spread_35 : decode b_Sp_spread 35 = .ok (.iload_n 1, 1) := by decide +kernel
theorem d_Sp_spread_36 : decode b_Sp_spread 36 = .ok (.isub, 1) := by decide +kernel
theorem d_Sp_spread_37 : decode b_Sp_spread 37 = .ok (.iload 4, 2) := by decide +kernel
theorem d_Sp_spread_39 : decode b_Sp_spread 39 = .ok (.iload 5, 2) := by decide +kernel
theorem d_Sp_spread_41 : decode b_Sp_spread 41 = .ok (.iload_n 3, 1) := by decide +kernel
theorem d_Sp_spread_42 : decode b_Sp_spread 42 = .ok (.iadd, 1) := by decide +kernel
theorem d_Sp_spread_43 : decode b_Sp_spread 43 = .ok (.invokestatic 47, 3) := by decide +kernel
theorem d_Sp_spread_46 : decode b_Sp_spread 46 = .ok (.iastore, 1) := by decide +kernel
theorem d_Sp_spread_47 : decode b_Sp_spread 47 = .ok (.iinc 5 (-1), 3) := by decide +kernel
theorem d_Sp_spread_50 : decode b_Sp_spread 50 = .ok (.goto (-43), 3) := by decide +kernel
theorem d_Sp_spread_53 : decode b_Sp_spread 53 = .ok (.return_, 1) := by decide +kernel
theorem d_Sp_latestBeginning_0 : decode b_Sp_latestBeginning 0 = .ok (.iload 4, 2) := by decide +kernel
theorem d_Sp_latestBeginning_2 : decode b_Sp_latestBeginning 2 = .ok (.aload_n 1, 1) := by decide +kernel
theorem d_Sp_latestBeginning_3 : decode b_Sp_latestBeginning 3 = .ok (.getfield 53, 3) := by decide +kernel
theorem d_Sp_latestBeginning_6 : decode b_Sp_latestBeginning 6 = .ok (.iload_n 2, 1) := by decide +kernel
theorem d_Sp_latestBeginning_7 : decode b_Sp_latestBeginning 7 = .ok (.iload_n 3, 1) := by decide +kernel
theorem d_Sp_latestBeginning_8 : decode b_Sp_latestBeginning 8 = .ok (.invokevirtual 57, 3) := by decide +kernel
theorem d_Sp_latestBeginning_11 : decode b_Sp_latestBeginning 11 = .ok (.isub, 1) := by decide +kernel
theorem d_Sp_latestBeginning_12 : decode b_Sp_latestBeginning 12 = .ok (.istore 5, 2) := by decide +kernel
theorem d_Sp_latestBeginning_14 : decode b_Sp_latestBeginning 14 = .ok (.aload_n 1, 1) := by decide +kernel
theorem d_Sp_latestBeginning_15 : decode b_Sp_latestBeginning 15 = .ok (.getfield 25, 3) := by decide +kernel
theorem d_Sp_latestBeginning_18 : decode b_Sp_latestBeginning 18 = .ok (.getfield 31, 3) := by decide +kernel
theorem d_Sp_latestBeginning_21 : decode b_Sp_latestBeginning 21 = .ok (.iconst 1, 1) := by decide +kernel
theorem d_Sp_latestBeginning_22 : decode b_Sp_latestBeginning 22 = .ok (.isub, 1) := by decide +kernel
theorem d_Sp_latestBeginning_23 : decode b_Sp_latestBeginning 23 = .ok (.istore 6, 2) := by decide +kernel
theorem d_Sp_latestBeginning_25 : decode b_Sp_latestBeginning 25 = .ok (.iload 6, 2) := by decide +kernel
theorem d_Sp_latestBeginning_27 : decode b_Sp_latestBeginning 27 = .ok (.ifCond .lt 50, 3) := by decide +kernel
theorem d_Sp_latestBeginning_30 : decode b_Sp_latestBeginning 30 = .ok (.aload_n 0, 1) := by decide +kernel
theorem d_Sp_latestBeginning_31 : decode b_Sp_latestBeginning 31 = .ok (.getfield 9, 3) := by decide +kernel
theorem d_Sp_latestBeginning_34 : decode b_Sp_latestBeginning 34 = .ok (.iload 6, 2) := by decide +kernel
theorem d_Sp_latestBeginning_36 : decode b_Sp_latestBeginning 36 = .ok (.aload_n 0, 1) := by decide +kernel
theorem d_Sp_latestBeginning_37 : decode b_Sp_latestBeginning 37 = .ok (.aload_n 1, 1) := by decide +kernel
theorem d_Sp_latestBeginning_38 : decode b_Sp_latestBeginning 38 = .ok (.iload 6, 2) := by decide +kernel
theorem d_Sp_latestBeginning_40 : decode b_Sp_latestBeginning 40 = .ok (.iload_n 3, 1) := by decide +kernel
theorem d_Sp_latestBeginning_41 : decode b_Sp_latestBeginning 41 = .ok (.invokevirtual 40, 3) := by decide +kernel
theorem d_Sp_latestBeginning_44 : decode b_Sp_latestBeginning 44 = .ok (.iastore, 1) := by decide +kernel
theorem d_Sp_latestBeginning_45 : decode b_Sp_latestBeginning 45 = .ok (.aload_n 0, 1) := by decide +kernel
theorem d_Sp_latestBeginning_46 : decode b_Sp_latestBeginning 46 = .ok (.getfield 9, 3) := by decide +kernel
theorem d_Sp_latestBeginning_49 : decode b_Sp_latestBeginning 49 = .ok (.iload 6, 2) := by decide +kernel
theorem d_Sp_latestBeginning_51 : decode b_Sp_latestBeginning 51 = .ok (.iaload, 1) := by decide +kernel
theorem d_Sp_latestBeginning_52 : decode b_Sp_latestBeginning 52 = .ok (.iload 4, 2) := by decide +kernel
theorem d_Sp_latestBeginning_54 : decode b_Sp_latestBeginning 54 = .ok (.if_icmp .gt 17, 3) := by decide +kernel
theorem d_Sp_latestBeginning_57 : decode b_Sp_latestBeginning 57 = .ok (.iload 5, 2) := by decide +kernel
theorem d_Sp_latestBeginning_59 : decode b_Sp_latestBeginning 59 = .ok (.aload_n 1, 1) := by decide +kernel
theorem d_Sp_latestBeginning_60 : decode b_Sp_latestBeginning 60 = .ok (.iload_n 2, 1) := by decide +kernel
theorem d_Sp_latestBeginning_61 : decode b_Sp_latestBeginning 61 = .ok (.iload 6, 2) := by decide +kernel
theorem d_Sp_latestBeginning_63 : decode b_Sp_latestBeginning 63 = .ok (.invokestatic 44, 3) := by decide +kernel
theorem d_Sp_latestBeginning_66 : decode b_Sp_latestBeginning 66 = .ok (.invokestatic 66, 3) := by decide +kernel
theorem d_Sp_latestBeginning_69 : decode b_Sp_latestBeginning 69 = .ok (.istore 5, 2) := by decide +kernel
theorem d_Sp_latestBeginning_71 : decode b_Sp_latestBeginning 71 = .ok (.iinc 6 (-1), 3) := by decide +kernel
theorem d_Sp_latestBeginning_74 : decode b_Sp_latestBeginning 74 = .ok (.goto (-49), 3) := by decide +kernel
theorem d_Sp_latestBeginning_77 : decode b_Sp_latestBeginning 77 = .ok (.iload 5, 2) := by decide +kernel
theorem d_Sp_latestBeginning_79 : decode b_Sp_latestBeginning 79 = .ok (.ifCond .ge 7, 3) := by decide +kernel
theorem d_Sp_latestBeginning_82 : decode b_Sp_latestBeginning 82 = .ok (.iconst (-1), 1) := by decide +kernel
theorem d_Sp_latestBeginning_83 : decode b_Sp_latestBeginning 83 = .ok (.goto 11, 3) := by decide +kernel
theorem d_Sp_latestBeginning_86 : decode b_Sp_latestBeginning 86 = .ok (.iload 5, 2) := by decide +kernel
theorem d_Sp_latestBeginning_88 : decode b_Sp_latestBeginning 88 = .ok (.sipush 10079, 3) := by decide +kernel
theorem d_Sp_latestBeginning_91 : decode b_Sp_latestBeginning 91 = .ok (.invokestatic 47, 3) := by decide +kernel
theorem d_Sp_latestBeginning_94 : decode b_Sp_latestBeginning 94 = .ok (.ireturn, 1) := by decide +kernel
theorem d_Sp_leastMinutes_0 : decode b_Sp_leastMinutes 0 = .ok (.ldc 18, 2) := by decide +kernel
theorem d_Sp_leastMinutes_2 : decode b_Sp_leastMinutes 2 = .ok (.istore_n 3, 1) := by decide +kernel
theorem d_Sp_leastMinutes_3 : decode b_Sp_leastMinutes 3 = .ok (.iload_n 1, 1) := by decide +kernel
theorem d_Sp_leastMinutes_4 : decode b_Sp_leastMinutes 4 = .ok (.istore 4, 2) := by decide +kernel
theorem d_Sp_leastMinutes_6 : decode b_Sp_leastMinutes 6 = .ok (.iload 4, 2) := by decide +kernel
theorem d_Sp_leastMinutes_8 : decode b_Sp_leastMinutes 8 = .ok (.iload_n 2, 1) := by decide +kernel
theorem d_Sp_leastMinutes_9 : decode b_Sp_leastMinutes 9 = .ok (.if_icmp .gt 37, 3) := by decide +kernel
theorem d_Sp_leastMinutes_12 : decode b_Sp_leastMinutes 12 = .ok (.aload_n 0, 1) := by decide +kernel
theorem d_Sp_leastMinutes_13 : decode b_Sp_leastMinutes 13 = .ok (.getfield 15, 3) := by decide +kernel
theorem d_Sp_leastMinutes_16 : decode b_Sp_leastMinutes 16 = .ok (.iload 4, 2) := by decide +kernel
theorem d_Sp_leastMinutes_18 : decode b_Sp_leastMinutes 18 = .ok (.iload_n 1, 1) := by decide +kernel
theorem d_Sp_leastMinutes_19 : decode b_Sp_leastMinutes 19 = .ok (.isub, 1) := by decide +kernel
theorem d_Sp_leastMinutes_20 : decode b_Sp_leastMinutes 20 = .ok (.iaload, 1) := by decide +kernel
theorem d_Sp_leastMinutes_21 : decode b_Sp_leastMinutes 21 = .ok (.istore 5, 2) := by decide +kernel
theorem d_Sp_leastMinutes_23 : decode b_Sp_leastMinutes 23 = .ok (.iload 5, 2) := by decide +kernel
theorem d_Sp_leastMinutes_25 : decode b_Sp_leastMinutes 25 = .ok (.ldc 18, 2) := by decide +kernel
theorem d_Sp_leastMinutes_27 : decode b_Sp_leastMinutes 27 = .ok (.if_icmp .ge 13, 3) := by decide +kernel
theorem d_Sp_leastMinutes_30 : decode b_Sp_leastMinutes 30 = .ok (.iload_n 3, 1) := by decide +kernel
theorem d_Sp_leastMinutes_31 : decode b_Sp_leastMinutes 31 = .ok (.iload 5, 2) := by decide +kernel
theorem d_Sp_leastMinutes_33 : decode b_Sp_leastMinutes 33 = .ok (.iload 4, 2) := by decide +kernel
theorem d_Sp_leastMinutes_35 : decode b_Sp_leastMinutes 35 = .ok (.isub, 1) := by decide +kernel
theorem d_Sp_leastMinutes_36 : decode b_Sp_leastMinutes 36 = .ok (.invokestatic 47, 3) := by decide +kernel
theorem d_Sp_leastMinutes_39 : decode b_Sp_leastMinutes 39 = .ok (.istore_n 3, 1) := by decide +kernel
theorem d_Sp_leastMinutes_40 : decode b_Sp_leastMinutes 40 = .ok (.iinc 4 1, 3) := by decide +kernel
theorem d_Sp_leastMinutes_43 : decode b_Sp_leastMinutes 43 = .ok (.goto (-37), 3) := by decide +kernel
theorem d_Sp_leastMinutes_46 : decode b_Sp_leastMinutes 46 = .ok (.iload_n 3, 1) := by decide +kernel
theorem d_Sp_leastMinutes_47 : decode b_Sp_leastMinutes 47 = .ok (.ireturn, 1) := by decide +kernel
theorem d_Sp_latestFor_0 : decode b_Sp_latestFor 0 = .ok (.aload_n 0, 1) := by decide +kernel
theorem d_Sp_latestFor_1 : decode b_Sp_latestFor 1 = .ok (.getfield 69, 3) := by decide +kernel
theorem d_Sp_latestFor_4 : decode b_Sp_latestFor 4 = .ok (.getfield 73, 3) := by decide +kernel
theorem d_Sp_latestFor_7 : decode b_Sp_latestFor 7 = .ok (.aload_n 0, 1) := by decide +kernel
theorem d_Sp_latestFor_8 : decode b_Sp_latestFor 8 = .ok (.getfield 25, 3) := by decide +kernel
theorem d_Sp_latestFor_11 : decode b_Sp_latestFor 11 = .ok (.iload_n 2, 1) := by decide +kernel
theorem d_Sp_latestFor_12 : decode b_Sp_latestFor 12 = .ok (.invokevirtual 78, 3) := by decide +kernel
theorem d_Sp_latestFor_15 : decode b_Sp_latestFor 15 = .ok (.iaload, 1) := by decide +kernel
theorem d_Sp_latestFor_16 : decode b_Sp_latestFor 16 = .ok (.istore_n 3, 1) := by decide +kernel
theorem d_Sp_latestFor_17 : decode b_Sp_latestFor 17 = .ok (.aload_n 0, 1) := by decide +kernel
theorem d_Sp_latestFor_18 : decode b_Sp_latestFor 18 = .ok (.getfield 25, 3) := by decide +kernel
theorem d_Sp_latestFor_21 : decode b_Sp_latestFor 21 = .ok (.getfield 37, 3) := by decide +kernel
theorem d_Sp_latestFor_24 : decode b_Sp_latestFor 24 = .ok (.iload_n 2, 1) := by decide +kernel
theorem d_Sp_latestFor_25 : decode b_Sp_latestFor 25 = .ok (.iaload, 1) := by decide +kernel
theorem d_Sp_latestFor_26 : decode b_Sp_latestFor 26 = .ok (.aload_n 0, 1) := by decide +kernel
theorem d_Sp_latestFor_27 : decode b_Sp_latestFor 27 = .ok (.getfield 53, 3) := by decide +kernel
theorem d_Sp_latestFor_30 : decode b_Sp_latestFor 30 = .ok (.iload_n 1, 1) := by decide +kernel
theorem d_Sp_latestFor_31 : decode b_Sp_latestFor 31 = .ok (.iload_n 3, 1) := by decide +kernel
theorem d_Sp_latestFor_32 : decode b_Sp_latestFor 32 = .ok (.invokevirtual 57, 3) := by decide +kernel
theorem d_Sp_latestFor_35 : decode b_Sp_latestFor 35 = .ok (.isub, 1) := by decide +kernel
theorem d_Sp_latestFor_36 : decode b_Sp_latestFor 36 = .ok (.ireturn, 1) := by decide +kernel
theorem d_Sp_endOf_0 : decode b_Sp_endOf 0 = .ok (.aload_n 1, 1) := by decide +kernel
theorem d_Sp_endOf_1 : decode b_Sp_endOf 1 = .ok (.getfield 25, 3) := by decide +kernel
theorem d_Sp_endOf_4 : decode b_Sp_endOf 4 = .ok (.iload_n 2, 1) := by decide +kernel
theorem d_Sp_endOf_5 : decode b_Sp_endOf 5 = .ok (.invokevirtual 78, 3) := by decide +kernel
theorem d_Sp_endOf_8 : decode b_Sp_endOf 8 = .ok (.istore 4, 2) := by decide +kernel
theorem d_Sp_endOf_10 : decode b_Sp_endOf 10 = .ok (.aload_n 1, 1) := by decide +kernel
theorem d_Sp_endOf_11 : decode b_Sp_endOf 11 = .ok (.getfield 69, 3) := by decide +kernel
theorem d_Sp_endOf_14 : decode b_Sp_endOf 14 = .ok (.getfield 82, 3) := by decide +kernel
theorem d_Sp_endOf_17 : decode b_Sp_endOf 17 = .ok (.iload 4, 2) := by decide +kernel
theorem d_Sp_endOf_19 : decode b_Sp_endOf 19 = .ok (.iaload, 1) := by decide +kernel
theorem d_Sp_endOf_20 : decode b_Sp_endOf 20 = .ok (.istore 5, 2) := by decide +kernel
theorem d_Sp_endOf_22 : decode b_Sp_endOf 22 = .ok (.aload_n 1, 1) := by decide +kernel
theorem d_Sp_endOf_23 : decode b_Sp_endOf 23 = .ok (.getfield 25, 3) := by decide +kernel
theorem d_Sp_endOf_26 : decode b_Sp_endOf 26 = .ok (.getfield 37, 3) := by decide +kernel
theorem d_Sp_endOf_29 : decode b_Sp_endOf 29 = .ok (.iload_n 2, 1) := by decide +kernel
theorem d_Sp_endOf_30 : decode b_Sp_endOf 30 = .ok (.iaload, 1) := by decide +kernel
theorem d_Sp_endOf_31 : decode b_Sp_endOf 31 = .ok (.aload_n 1, 1) := by decide +kernel
theorem d_Sp_endOf_32 : decode b_Sp_endOf 32 = .ok (.getfield 69, 3) := by decide +kernel
theorem d_Sp_endOf_35 : decode b_Sp_endOf 35 = .ok (.getfield 85, 3) := by decide +kernel
theorem d_Sp_endOf_38 : decode b_Sp_endOf 38 = .ok (.iload 4, 2) := by decide +kernel
theorem d_Sp_endOf_40 : decode b_Sp_endOf 40 = .ok (.iaload, 1) := by decide +kernel
theorem d_Sp_endOf_41 : decode b_Sp_endOf 41 = .ok (.iadd, 1) := by decide +kernel
theorem d_Sp_endOf_42 : decode b_Sp_endOf 42 = .ok (.istore 6, 2) := by decide +kernel
theorem d_Sp_endOf_44 : decode b_Sp_endOf 44 = .ok (.ldc 18, 2) := by decide +kernel
theorem d_Sp_endOf_46 : decode b_Sp_endOf 46 = .ok (.iload 6, 2) := by decide +kernel
theorem d_Sp_endOf_48 : decode b_Sp_endOf 48 = .ok (.aload_n 1, 1) := by decide +kernel
theorem d_Sp_endOf_49 : decode b_Sp_endOf 49 = .ok (.getfield 53, 3) := by decide +kernel
theorem d_Sp_endOf_52 : decode b_Sp_endOf 52 = .ok (.iload 5, 2) := by decide +kernel
theorem d_Sp_endOf_54 : decode b_Sp_endOf 54 = .ok (.iload_n 3, 1) := by decide +kernel
theorem d_Sp_endOf_55 : decode b_Sp_endOf 55 = .ok (.invokevirtual 57, 3) := by decide +kernel
theorem d_Sp_endOf_58 : decode b_Sp_endOf 58 = .ok (.iadd, 1) := by decide +kernel
theorem d_Sp_endOf_59 : decode b_Sp_endOf 59 = .ok (.invokestatic 47, 3) := by decide +kernel
theorem d_Sp_endOf_62 : decode b_Sp_endOf 62 = .ok (.istore 7, 2) := by decide +kernel
theorem d_Sp_endOf_64 : decode b_Sp_endOf 64 = .ok (.iload_n 2, 1) := by decide +kernel
theorem d_Sp_endOf_65 : decode b_Sp_endOf 65 = .ok (.iconst 1, 1) := by decide +kernel
theorem d_Sp_endOf_66 : decode b_Sp_endOf 66 = .ok (.iadd, 1) := by decide +kernel
theorem d_Sp_endOf_67 : decode b_Sp_endOf 67 = .ok (.istore 8, 2) := by decide +kernel
theorem d_Sp_endOf_69 : decode b_Sp_endOf 69 = .ok (.iload 8, 2) := by decide +kernel
theorem d_Sp_endOf_71 : decode b_Sp_endOf 71 = .ok (.aload_n 1, 1) := by decide +kernel
theorem d_Sp_endOf_72 : decode b_Sp_endOf 72 = .ok (.getfield 25, 3) := by decide +kernel
theorem d_Sp_endOf_75 : decode b_Sp_endOf 75 = .ok (.getfield 31, 3) := by decide +kernel
theorem d_Sp_endOf_78 : decode b_Sp_endOf 78 = .ok (.if_icmp .ge 58, 3) := by decide +kernel
theorem d_Sp_endOf_81 : decode b_Sp_endOf 81 = .ok (.aload_n 1, 1) := by decide +kernel
theorem d_Sp_endOf_82 : decode b_Sp_endOf 82 = .ok (.getfield 25, 3) := by decide +kernel
theorem d_Sp_endOf_85 : decode b_Sp_endOf 85 = .ok (.getfield 37, 3) := by decide +kernel
theorem d_Sp_endOf_88 : decode b_Sp_endOf 88 = .ok (.iload 8, 2) := by decide +kernel
theorem d_Sp_endOf_90 : decode b_Sp_endOf 90 = .ok (.iaload, 1) := by decide +kernel
theorem d_Sp_endOf_91 : decode b_Sp_endOf 91 = .ok (.iload 7, 2) := by decide +kernel
theorem d_Sp_endOf_93 : decode b_Sp_endOf 93 = .ok (.if_icmp .ge 43, 3) := by decide +kernel
theorem d_Sp_endOf_96 : decode b_Sp_endOf 96 = .ok (.aload_n 0, 1) := by decide +kernel
theorem d_Sp_endOf_97 : decode b_Sp_endOf 97 = .ok (.getfield 9, 3) := by decide +kernel
theorem d_Sp_endOf_100 : decode b_Sp_endOf 100 = .ok (.iload 8, 2) := by decide +kernel
theorem d_Sp_endOf_102 : decode b_Sp_endOf 102 = .ok (.iaload, 1) := by decide +kernel
theorem d_Sp_endOf_103 : decode b_Sp_endOf 103 = .ok (.iload 7, 2) := by decide +kernel
theorem d_Sp_endOf_105 : decode b_Sp_endOf 105 = .ok (.if_icmp .ge 25, 3) := by decide +kernel
theorem d_Sp_endOf_108 : decode b_Sp_endOf 108 = .ok (.aload_n 1, 1) := by decide +kernel
theorem d_Sp_endOf_109 : decode b_Sp_endOf 109 = .ok (.iload 8, 2) := by decide +kernel
theorem d_Sp_endOf_111 : decode b_Sp_endOf 111 = .ok (.iload 5, 2) := by decide +kernel
theorem d_Sp_endOf_113 : decode b_Sp_endOf 113 = .ok (.iload 6, 2) := by decide +kernel
theorem d_Sp_endOf_115 : decode b_Sp_endOf 115 = .ok (.invokestatic 88, 3) := by decide +kernel
theorem d_Sp_endOf_118 : decode b_Sp_endOf 118 = .ok (.ifCond .eq 12, 3) := by decide +kernel
theorem d_Sp_endOf_121 : decode b_Sp_endOf 121 = .ok (.aload_n 0, 1) := by decide +kernel
theorem d_Sp_endOf_122 : decode b_Sp_endOf 122 = .ok (.getfield 9, 3) := by decide +kernel
theorem d_Sp_endOf_125 : decode b_Sp_endOf 125 = .ok (.iload 8, 2) := by decide +kernel
theorem d_Sp_endOf_127 : decode b_Sp_endOf 127 = .ok (.iaload, 1) := by decide +kernel
theorem d_Sp_endOf_128 : decode b_Sp_endOf 128 = .ok (.istore 7, 2) := by decide +kernel
theorem d_Sp_endOf_130 : decode b_Sp_endOf 130 = .ok (.iinc 8 1, 3) := by decide +kernel
theorem d_Sp_endOf_133 : decode b_Sp_endOf 133 = .ok (.goto (-64), 3) := by decide +kernel
theorem d_Sp_endOf_136 : decode b_Sp_endOf 136 = .ok (.iload 7, 2) := by decide +kernel
theorem d_Sp_endOf_138 : decode b_Sp_endOf 138 = .ok (.ireturn, 1) := by decide +kernel
theorem d_Sp_mayFollow_0 : decode b_Sp_mayFollow 0 = .ok (.aload_n 0, 1) := by decide +kernel
theorem d_Sp_mayFollow_1 : decode b_Sp_mayFollow 1 = .ok (.getfield 69, 3) := by decide +kernel
theorem d_Sp_mayFollow_4 : decode b_Sp_mayFollow 4 = .ok (.getfield 73, 3) := by decide +kernel
theorem d_Sp_mayFollow_7 : decode b_Sp_mayFollow 7 = .ok (.aload_n 0, 1) := by decide +kernel
theorem d_Sp_mayFollow_8 : decode b_Sp_mayFollow 8 = .ok (.getfield 25, 3) := by decide +kernel
theorem d_Sp_mayFollow_11 : decode b_Sp_mayFollow 11 = .ok (.iload_n 1, 1) := by decide +kernel
theorem d_Sp_mayFollow_12 : decode b_Sp_mayFollow 12 = .ok (.invokevirtual 78, 3) := by decide +kernel
theorem d_Sp_mayFollow_15 : decode b_Sp_mayFollow 15 = .ok (.iaload, 1) := by decide +kernel
theorem d_Sp_mayFollow_16 : decode b_Sp_mayFollow 16 = .ok (.istore 4, 2) := by decide +kernel
theorem d_Sp_mayFollow_18 : decode b_Sp_mayFollow 18 = .ok (.aload_n 0, 1) := by decide +kernel
theorem d_Sp_mayFollow_19 : decode b_Sp_mayFollow 19 = .ok (.getfield 25, 3) := by decide +kernel
theorem d_Sp_mayFollow_22 : decode b_Sp_mayFollow 22 = .ok (.getfield 37, 3) := by decide +kernel
theorem d_Sp_mayFollow_25 : decode b_Sp_mayFollow 25 = .ok (.iload_n 1, 1) := by decide +kernel
theorem d_Sp_mayFollow_26 : decode b_Sp_mayFollow 26 = .ok (.iaload, 1) := by decide +kernel
theorem d_Sp_mayFollow_27 : decode b_Sp_mayFollow 27 = .ok (.iload_n 3, 1) := by decide +kernel
theorem d_Sp_mayFollow_28 : decode b_Sp_mayFollow 28 = .ok (.aload_n 0, 1) := by decide +kernel
theorem d_Sp_mayFollow_29 : decode b_Sp_mayFollow 29 = .ok (.iload_n 2, 1) := by decide +kernel
theorem d_Sp_mayFollow_30 : decode b_Sp_mayFollow 30 = .ok (.iload 4, 2) := by decide +kernel
theorem d_Sp_mayFollow_32 : decode b_Sp_mayFollow 32 = .ok (.invokevirtual 92, 3) := by decide +kernel
theorem d_Sp_mayFollow_35 : decode b_Sp_mayFollow 35 = .ok (.iadd, 1) := by decide +kernel
theorem d_Sp_mayFollow_36 : decode b_Sp_mayFollow 36 = .ok (.if_icmp .lt 7, 3) := by decide +kernel
theorem d_Sp_mayFollow_39 : decode b_Sp_mayFollow 39 = .ok (.iconst 1, 1) := by decide +kernel
theorem d_Sp_mayFollow_40 : decode b_Sp_mayFollow 40 = .ok (.goto 4, 3) := by decide +kernel
theorem d_Sp_mayFollow_43 : decode b_Sp_mayFollow 43 = .ok (.iconst 0, 1) := by decide +kernel
theorem d_Sp_mayFollow_44 : decode b_Sp_mayFollow 44 = .ok (.ireturn, 1) := by decide +kernel
theorem d_St_init_0 : decode b_St_init 0 = .ok (.aload_n 0, 1) := by decide +kernel
theorem d_St_init_1 : decode b_St_init 1 = .ok (.invokespecial 3, 3) := by decide +kernel
theorem d_St_init_4 : decode b_St_init 4 = .ok (.aload_n 0, 1) := by decide +kernel
theorem d_St_init_5 : decode b_St_init 5 = .ok (.iconst 0, 1) := by decide +kernel
theorem d_St_init_6 : decode b_St_init 6 = .ok (.putfield 9, 3) := by decide +kernel
theorem d_St_init_9 : decode b_St_init 9 = .ok (.aload_n 0, 1) := by decide +kernel
theorem d_St_init_10 : decode b_St_init 10 = .ok (.sipush 601, 3) := by decide +kernel
theorem d_St_init_13 : decode b_St_init 13 = .ok (.newarray .int, 2) := by decide +kernel
theorem d_St_init_15 : decode b_St_init 15 = .ok (.putfield 15, 3) := by decide +kernel
theorem d_St_init_18 : decode b_St_init 18 = .ok (.aload_n 0, 1) := by decide +kernel
theorem d_St_init_19 : decode b_St_init 19 = .ok (.sipush 601, 3) := by decide +kernel
theorem d_St_init_22 : decode b_St_init 22 = .ok (.newarray .int, 2) := by decide +kernel
theorem d_St_init_24 : decode b_St_init 24 = .ok (.putfield 19, 3) := by decide +kernel
theorem d_St_init_27 : decode b_St_init 27 = .ok (.return_, 1) := by decide +kernel
theorem d_St_take_0 : decode b_St_take 0 = .ok (.aload_n 0, 1) := by decide +kernel
theorem d_St_take_1 : decode b_St_take 1 = .ok (.iconst 0, 1) := by decide +kernel
theorem d_St_take_2 : decode b_St_take 2 = .ok (.putfield 9, 3) := by decide +kernel
theorem d_St_take_5 : decode b_St_take 5 = .ok (.iconst 0, 1) := by decide +kernel
theorem d_St_take_6 : decode b_St_take 6 = .ok (.istore 4, 2) := by decide +kernel
theorem d_St_take_8 : decode b_St_take 8 = .ok (.iload 4, 2) := by decide +kernel
theorem d_St_take_10 : decode b_St_take 10 = .ok (.iload_n 3, 1) := by decide +kernel
theorem d_St_take_11 : decode b_St_take 11 = .ok (.iload_n 2, 1) := by decide +kernel
theorem d_St_take_12 : decode b_St_take 12 = .ok (.isub, 1) := by decide +kernel
theorem d_St_take_13 : decode b_St_take 13 = .ok (.if_icmp .gt 72, 3) := by decide +kernel
theorem d_St_take_16 : decode b_St_take 16 = .ok (.iload 4, 2) := by decide +kernel
theorem d_St_take_18 : decode b_St_take 18 = .ok (.ifCond .eq 22, 3) := by decide +kernel
theorem d_St_take_21 : decode b_St_take 21 = .ok (.aload_n 1, 1) := by decide +kernel
theorem d_St_take_22 : decode b_St_take 22 = .ok (.getfield 22, 3) := by decide +kernel
theorem d_St_take_25 : decode b_St_take 25 = .ok (.iload 4, 2) := by decide +kernel
theorem d_St_take_27 : decode b_St_take 27 = .ok (.iaload, 1) := by decide +kernel
theorem d_St_take_28 : decode b_St_take 28 = .ok (.aload_n 1, 1) := by decide +kernel
theorem d_St_take_29 : decode b_St_take 29 = .ok (.getfield 22, 3) := by decide +kernel
theorem d_St_take_32 : decode b_St_take 32 = .ok (.iload 4, 2) := by decide +kernel
theorem d_St_take_34 : decode b_St_take 34 = .ok (.iconst 1, 1) := by decide +kernel
theorem d_St_take_35 : decode b_St_take 35 = .ok (.isub, 1) := by decide +kernel
theorem d_St_take_36 : decode b_St_take 36 = .ok (.iaload, 1) := by decide +kernel
theorem d_St_take_37 : decode b_St_take 37 = .ok (.if_icmp .eq 42, 3) := by decide +kernel
theorem d_St_take_40 : decode b_St_take 40 = .ok (.aload_n 0, 1) := by decide +kernel
theorem d_St_take_41 : decode b_St_take 41 = .ok (.getfield 15, 3) := by decide +kernel
theorem d_St_take_44 : decode b_St_take 44 = .ok (.aload_n 0, 1) := by decide +kernel
theorem d_St_take_45 : decode b_St_take 45 = .ok (.getfield 9, 3) := by decide +kernel
theorem d_St_take_48 : decode b_St_take 48 = .ok (.iload_n 2, 1) := by decide +kernel
theorem d_St_take_49 : decode b_St_take 49 = .ok (.iload 4, 2) := by decide +kernel
theorem d_St_take_51 : decode b_St_take 51 = .ok (.iadd, 1) := by decide +kernel
theorem d_St_take_52 : decode b_St_take 52 = .ok (.iastore, 1) := by decide +kernel
theorem d_St_take_53 : decode b_St_take 53 = .ok (.aload_n 0, 1) := by decide +kernel
theorem d_St_take_54 : decode b_St_take 54 = .ok (.getfield 19, 3) := by decide +kernel
theorem d_St_take_57 : decode b_St_take 57 = .ok (.aload_n 0, 1) := by decide +kernel
theorem d_St_take_58 : decode b_St_take 58 = .ok (.getfield 9, 3) := by decide +kernel
theorem d_St_take_61 : decode b_St_take 61 = .ok (.aload_n 1, 1) := by decide +kernel
theorem d_St_take_62 : decode b_St_take 62 = .ok (.getfield 22, 3) := by decide +kernel
theorem d_St_take_65 : decode b_St_take 65 = .ok (.iload 4, 2) := by decide +kernel
theorem d_St_take_67 : decode b_St_take 67 = .ok (.iaload, 1) := by decide +kernel
theorem d_St_take_68 : decode b_St_take 68 = .ok (.iastore, 1) := by decide +kernel
theorem d_St_take_69 : decode b_St_take 69 = .ok (.aload_n 0, 1) := by decide +kernel
theorem d_St_take_70 : decode b_St_take 70 = .ok (.dup, 1) := by decide +kernel
theorem d_St_take_71 : decode b_St_take 71 = .ok (.getfield 9, 3) := by decide +kernel
theorem d_St_take_74 : decode b_St_take 74 = .ok (.iconst 1, 1) := by decide +kernel
theorem d_St_take_75 : decode b_St_take 75 = .ok (.iadd, 1) := by decide +kernel
theorem d_St_take_76 : decode b_St_take 76 = .ok (.putfield 9, 3) := by decide +kernel
theorem d_St_take_79 : decode b_St_take 79 = .ok (.iinc 4 1, 3) := by decide +kernel
theorem d_St_take_82 : decode b_St_take 82 = .ok (.goto (-74), 3) := by decide +kernel
theorem d_St_take_85 : decode b_St_take 85 = .ok (.return_, 1) := by decide +kernel
theorem d_Ac_init_0 : decode b_Ac_init 0 = .ok (.aload_n 0, 1) := by decide +kernel
theorem d_Ac_init_1 : decode b_Ac_init 1 = .ok (.invokespecial 3, 3) := by decide +kernel
theorem d_Ac_init_4 : decode b_Ac_init 4 = .ok (.aload_n 0, 1) := by decide +kernel
theorem d_Ac_init_5 : decode b_Ac_init 5 = .ok (.iconst 0, 1) := by decide +kernel
theorem d_Ac_init_6 : decode b_Ac_init 6 = .ok (.putfield 9, 3) := by decide +kernel
theorem d_Ac_init_9 : decode b_Ac_init 9 = .ok (.aload_n 0, 1) := by decide +kernel
theorem d_Ac_init_10 : decode b_Ac_init 10 = .ok (.bipush 24, 2) := by decide +kernel
theorem d_Ac_init_12 : decode b_Ac_init 12 = .ok (.newarray .int, 2) := by decide +kernel
theorem d_Ac_init_14 : decode b_Ac_init 14 = .ok (.putfield 15, 3) := by decide +kernel
theorem d_Ac_init_17 : decode b_Ac_init 17 = .ok (.aload_n 0, 1) := by decide +kernel
theorem d_Ac_init_18 : decode b_Ac_init 18 = .ok (.bipush 24, 2) := by decide +kernel
theorem d_Ac_init_20 : decode b_Ac_init 20 = .ok (.newarray .int, 2) := by decide +kernel
theorem d_Ac_init_22 : decode b_Ac_init 22 = .ok (.putfield 19, 3) := by decide +kernel
theorem d_Ac_init_25 : decode b_Ac_init 25 = .ok (.aload_n 0, 1) := by decide +kernel
theorem d_Ac_init_26 : decode b_Ac_init 26 = .ok (.bipush 24, 2) := by decide +kernel
theorem d_Ac_init_28 : decode b_Ac_init 28 = .ok (.newarray .int, 2) := by decide +kernel
theorem d_Ac_init_30 : decode b_Ac_init 30 = .ok (.putfield 22, 3) := by decide +kernel
theorem d_Ac_init_33 : decode b_Ac_init 33 = .ok (.aload_n 0, 1) := by decide +kernel
theorem d_Ac_init_34 : decode b_Ac_init 34 = .ok (.bipush 24, 2) := by decide +kernel
theorem d_Ac_init_36 : decode b_Ac_init 36 = .ok (.newarray .int, 2) := by decide +kernel
theorem d_Ac_init_38 : decode b_Ac_init 38 = .ok (.putfield 25, 3) := by decide +kernel
theorem d_Ac_init_41 : decode b_Ac_init 41 = .ok (.return_, 1) := by decide +kernel
theorem d_Ac_trace_0 : decode b_Ac_trace 0 = .ok (.aload_n 0, 1) := by decide +kernel
theorem d_Ac_trace_1 : decode b_Ac_trace 1 = .ok (.iconst 0, 1) := by decide +kernel
theorem d_Ac_trace_2 : decode b_Ac_trace 2 = .ok (.putfield 9, 3) := by decide +kernel
theorem d_Ac_trace_5 : decode b_Ac_trace 5 = .ok (.iload 4, 2) := by decide +kernel
theorem d_Ac_trace_7 : decode b_Ac_trace 7 = .ok (.istore 5, 2) := by decide +kernel
theorem d_Ac_trace_9 : decode b_Ac_trace 9 = .ok (.aload_n 2, 1) := by decide +kernel
theorem d_Ac_trace_10 : decode b_Ac_trace 10 = .ok (.iload 4, 2) := by decide +kernel
theorem d_Ac_trace_12 : decode b_Ac_trace 12 = .ok (.aload_n 2, 1) := by decide +kernel
theorem d_Ac_trace_13 : decode b_Ac_trace 13 = .ok (.iload 4, 2) := by decide +kernel
theorem d_Ac_trace_15 : decode b_Ac_trace 15 = .ok (.invokevirtual 28, 3) := by decide +kernel
theorem d_Ac_trace_18 : decode b_Ac_trace 18 = .ok (.invokevirtual 34, 3) := by decide +kernel
theorem d_Ac_trace_21 : decode b_Ac_trace 21 = .ok (.istore 6, 2) := by decide +kernel
theorem d_Ac_trace_23 : decode b_Ac_trace 23 = .ok (.iconst 0, 1) := by decide +kernel
theorem d_Ac_trace_24 : decode b_Ac_trace 24 = .ok (.istore 7, 2) := by decide +kernel
theorem d_Ac_trace_26 : decode b_Ac_trace 26 = .ok (.iload 7, 2) := by decide +kernel
theorem d_Ac_trace_28 : decode b_Ac_trace 28 = .ok (.bipush 24, 2) := by decide +kernel
theorem d_Ac_trace_30 : decode b_Ac_trace 30 = .ok (.if_icmp .ge 72, 3) := by decide +kernel
theorem d_Ac_trace_33 : decode b_Ac_trace 33 = .ok (.iload 6, 2) := by decide +kernel
theorem d_Ac_trace_35 : decode b_Ac_trace 35 = .ok (.ifCond .eq 9, 3) := by decide +kernel
theorem d_Ac_trace_38 : decode b_Ac_trace 38 = .ok (.iload 5, 2) := by decide +kernel
theorem d_Ac_trace_40 : decode b_Ac_trace 40 = .ok (.iload_n 3, 1) := by decide +kernel
theorem d_Ac_trace_41 : decode b_Ac_trace 41 = .ok (.if_icmp .eq 61, 3) := by decide +kernel
theorem d_Ac_trace_44 : decode b_Ac_trace 44 = .ok (.iload 6, 2) := by decide +kernel
theorem d_Ac_trace_46 : decode b_Ac_trace 46 = .ok (.ifCond .eq 14, 3) := by decide +kernel
theorem d_Ac_trace_49 : decode b_Ac_trace 49 = .ok (.aload_n 0, 1) := by decide +kernel
theorem d_Ac_trace_50 : decode b_Ac_trace 50 = .ok (.aload_n 1, 1) := by decide +kernel
theorem d_Ac_trace_51 : decode b_Ac_trace 51 = .ok (.aload_n 2, 1) := by decide +kernel
theorem d_Ac_trace_52 : decode b_Ac_trace 52 = .ok (.iload 5, 2) := by decide +kernel
theorem d_Ac_trace_54 : decode b_Ac_trace 54 = .ok (.invokevirtual 38, 3) := by decide +kernel
theorem d_Ac_trace_57 : decode b_Ac_trace 57 = .ok (.goto 11, 3) := by decide +kernel
theorem d_Ac_trace_60 : decode b_Ac_trace 60 = .ok (.aload_n 0, 1) := by decide +kernel
theorem d_Ac_trace_61 : decode b_Ac_trace 61 = .ok (.aload_n 1, 1) := by decide +kernel
theorem d_Ac_trace_62 : decode b_Ac_trace 62 = .ok (.aload_n 2, 1) := by decide +kernel
theorem d_Ac_trace_63 : decode b_Ac_trace 63 = .ok (.iload 5, 2) := by decide +kernel
theorem d_Ac_trace_65 : decode b_Ac_trace 65 = .ok (.invokevirtual 42, 3) := by decide +kernel
theorem d_Ac_trace_68 : decode b_Ac_trace 68 = .ok (.istore 5, 2) := by decide +kernel
theorem d_Ac_trace_70 : decode b_Ac_trace 70 = .ok (.iload 5, 2) := by decide +kernel
theorem d_Ac_trace_72 : decode b_Ac_trace 72 = .ok (.iconst (-1), 1) := by decide +kernel
theorem d_Ac_trace_73 : decode b_Ac_trace 73 = .ok (.if_icmp .ne 4, 3) := by decide +kernel
theorem d_Ac_trace_76 : decode b_Ac_trace 76 = .ok (.return_, 1) := by decide +kernel
theorem d_Ac_trace_77 : decode b_Ac_trace 77 = .ok (.aload_n 2, 1) := by decide +kernel
theorem d_Ac_trace_78 : decode b_Ac_trace 78 = .ok (.iload 5, 2) := by decide +kernel
theorem d_Ac_trace_80 : decode b_Ac_trace 80 = .ok (.aload_n 0, 1) := by decide +kernel
theorem d_Ac_trace_81 : decode b_Ac_trace 81 = .ok (.getfield 22, 3) := by decide +kernel
theorem d_Ac_trace_84 : decode b_Ac_trace 84 = .ok (.aload_n 0, 1) := by decide +kernel
theorem d_Ac_trace_85 : decode b_Ac_trace 85 = .ok (.getfield 9, 3) := by decide +kernel
theorem d_Ac_trace_88 : decode b_Ac_trace 88 = .ok (.iconst 1, 1) := by decide +kernel
theorem d_Ac_trace_89 : decode b_Ac_trace 89 = .ok (.isub, 1) := by decide +kernel
theorem d_Ac_trace_90 : decode b_Ac_trace 90 = .ok (.iaload, 1) := by decide +kernel
theorem d_Ac_trace_91 : decode b_Ac_trace 91 = .ok (.invokevirtual 34, 3) := by decide +kernel
theorem d_Ac_trace_94 : decode b_Ac_trace 94 = .ok (.istore 6, 2) := by decide +kernel
theorem d_Ac_trace_96 : decode b_Ac_trace 96 = .ok (.iinc 7 1, 3) := by decide +kernel
theorem d_Ac_trace_99 : decode b_Ac_trace 99 = .ok (.goto (-73), 3) := by decide +kernel
theorem d_Ac_trace_102 : decode b_Ac_trace 102 = .ok (.return_, 1) := by decide +kernel
theorem d_Ac_addWalk_0 : decode b_Ac_addWalk 0 = .ok (.aload_n 2, 1) := by decide +kernel
theorem d_Ac_addWalk_1 : decode b_Ac_addWalk 1 = .ok (.aload_n 1, 1) := by decide +kernel
theorem d_Ac_addWalk_2 : decode b_Ac_addWalk 2 = .ok (.iload_n 3, 1) := by decide +kernel
theorem d_Ac_addWalk_3 : decode b_Ac_addWalk 3 = .ok (.invokevirtual 45, 3) := by decide +kernel
theorem d_Ac_addWalk_6 : decode b_Ac_addWalk 6 = .ok (.istore 4, 2) := by decide +kernel
theorem d_Ac_addWalk_8 : decode b_Ac_addWalk 8 = .ok (.iload 4, 2) := by decide +kernel
theorem d_Ac_addWalk_10 : decode b_Ac_addWalk 10 = .ok (.iconst (-1), 1) := by decide +kernel
theorem d_Ac_addWalk_11 : decode b_Ac_addWalk 11 = .ok (.if_icmp .ne 5, 3) := by decide +kernel
theorem d_Ac_addWalk_14 : decode b_Ac_addWalk 14 = .ok (.iconst (-1), 1) := by decide +kernel
theorem d_Ac_addWalk_15 : decode b_Ac_addWalk 15 = .ok (.ireturn, 1) := by decide +kernel
theorem d_Ac_addWalk_16 : decode b_Ac_addWalk 16 = .ok (.aload_n 1, 1) := by decide +kernel
theorem d_Ac_addWalk_17 : decode b_Ac_addWalk 17 = .ok (.getfield 49, 3) := by decide +kernel
theorem d_Ac_addWalk_20 : decode b_Ac_addWalk 20 = .ok (.getfield 55, 3) := by decide +kernel
theorem d_Ac_addWalk_23 : decode b_Ac_addWalk 23 = .ok (.iload 4, 2) := by decide +kernel
theorem d_Ac_addWalk_25 : decode b_Ac_addWalk 25 = .ok (.iaload, 1) := by decide +kernel
theorem d_Ac_addWalk_26 : decode b_Ac_addWalk 26 = .ok (.istore 5, 2) := by decide +kernel
theorem d_Ac_addWalk_28 : decode b_Ac_addWalk 28 = .ok (.aload_n 0, 1) := by decide +kernel
theorem d_Ac_addWalk_29 : decode b_Ac_addWalk 29 = .ok (.iload 4, 2) := by decide +kernel
theorem d_Ac_addWalk_31 : decode b_Ac_addWalk 31 = .ok (.iconst (-1), 1) := by decide +kernel
theorem d_Ac_addWalk_32 : decode b_Ac_addWalk 32 = .ok (.aload_n 2, 1) := by decide +kernel
theorem d_Ac_addWalk_33 : decode b_Ac_addWalk 33 = .ok (.iload 5, 2) := by decide +kernel
theorem d_Ac_addWalk_35 : decode b_Ac_addWalk 35 = .ok (.invokevirtual 28, 3) := by decide +kernel
theorem d_Ac_addWalk_38 : decode b_Ac_addWalk 38 = .ok (.aload_n 1, 1) := by decide +kernel
theorem d_Ac_addWalk_39 : decode b_Ac_addWalk 39 = .ok (.getfield 49, 3) := by decide +kernel
theorem d_Ac_addWalk_42 : decode b_Ac_addWalk 42 = .ok (.getfield 60, 3) := by decide +kernel
theorem d_Ac_addWalk_45 : decode b_Ac_addWalk 45 = .ok (.iload 4, 2) := by decide +kernel
theorem d_Ac_addWalk_47 : decode b_Ac_addWalk 47 = .ok (.iaload, 1) := by decide +kernel
theorem d_Ac_addWalk_48 : decode b_Ac_addWalk 48 = .ok (.invokevirtual 63, 3) := by decide +kernel
theorem d_Ac_addWalk_51 : decode b_Ac_addWalk 51 = .ok (.iload 5, 2) := by decide +kernel
theorem d_Ac_addWalk_53 : decode b_Ac_addWalk 53 = .ok (.ireturn, 1) := by decide +kernel
theorem d_Ac_addDeparture_0 : decode b_Ac_addDeparture 0 = .ok (.aload_n 2, 1) := by decide +kernel
theorem d_Ac_addDeparture_1 : decode b_Ac_addDeparture 1 = .ok (.aload_n 1, 1) := by decide +kernel
theorem d_Ac_addDeparture_2 : decode b_Ac_addDeparture 2 = .ok (.iload_n 3, 1) := by decide +kernel
theorem d_Ac_addDeparture_3 : decode b_Ac_addDeparture 3 = .ok (.invokevirtual 67, 3) := by decide +kernel
theorem d_Ac_addDeparture_6 : decode b_Ac_addDeparture 6 = .ok (.istore 4, 2) := by decide +kernel
theorem d_Ac_addDeparture_8 : decode b_Ac_addDeparture 8 = .ok (.iload 4, 2) := by decide +kernel
theorem d_Ac_addDeparture_10 : decode b_Ac_addDeparture 10 = .ok (.iconst (-1), 1) := by decide +kernel
theorem d_Ac_addDeparture_11 : decode b_Ac_addDeparture 11 = .ok (.if_icmp .ne 5, 3) := by decide +kernel
theorem d_Ac_addDeparture_14 : decode b_Ac_addDeparture 14 = .ok (.iconst (-1), 1) := by decide +kernel
theorem d_Ac_addDeparture_15 : decode b_Ac_addDeparture 15 = .ok (.ireturn, 1) := by decide +kernel
theorem d_Ac_addDeparture_16 : decode b_Ac_addDeparture 16 = .ok (.iload 4, 2) := by decide +kernel
theorem d_Ac_addDeparture_18 : decode b_Ac_addDeparture 18 = .ok (.bipush 7, 2) := by decide +kernel
theorem d_Ac_addDeparture_20 : decode b_Ac_addDeparture 20 = .ok (.idiv, 1) := by decide +kernel
theorem d_Ac_addDeparture_21 : decode b_Ac_addDeparture 21 = .ok (.istore 5, 2) := by decide +kernel
theorem d_Ac_addDeparture_23 : decode b_Ac_addDeparture 23 = .ok (.aload_n 0, 1) := by decide +kernel
theorem d_Ac_addDeparture_24 : decode b_Ac_addDeparture 24 = .ok (.iload 5, 2) := by decide +kernel
theorem d_Ac_addDeparture_26 : decode b_Ac_addDeparture 26 = .ok (.iload 4, 2) := by decide +kernel
theorem d_Ac_addDeparture_28 : decode b_Ac_addDeparture 28 = .ok (.bipush 7, 2) := by decide +kernel
theorem d_Ac_addDeparture_30 : decode b_Ac_addDeparture 30 = .ok (.irem, 1) := by decide +kernel
theorem d_Ac_addDeparture_31 : decode b_Ac_addDeparture 31 = .ok (.aload_n 1, 1) := by decide +kernel
theorem d_Ac_addDeparture_32 : decode b_Ac_addDeparture 32 = .ok (.getfield 70, 3) := by decide +kernel
theorem d_Ac_addDeparture_35 : decode b_Ac_addDeparture 35 = .ok (.iload 4, 2) := by decide +kernel
theorem d_Ac_addDeparture_37 : decode b_Ac_addDeparture 37 = .ok (.invokevirtual 74, 3) := by decide +kernel
theorem d_Ac_addDeparture_40 : decode b_Ac_addDeparture 40 = .ok (.aload_n 1, 1) := by decide +kernel
theorem d_Ac_addDeparture_41 : decode b_Ac_addDeparture 41 = .ok (.getfield 70, 3) := by decide +kernel
theorem d_Ac_addDeparture_44 : decode b_Ac_addDeparture 44 = .ok (.getfield 79, 3) := by decide +kernel
theorem d_Ac_addDeparture_47 : decode b_Ac_addDeparture 47 = .ok (.iload 5, 2) := by decide +kernel
theorem d_Ac_addDeparture_49 : decode b_Ac_addDeparture 49 = .ok (.iaload, 1) := by decide +kernel
theorem d_Ac_addDeparture_50 : decode b_Ac_addDeparture 50 = .ok (.invokevirtual 63, 3) := by decide +kernel
theorem d_Ac_addDeparture_53 : decode b_Ac_addDeparture 53 = .ok (.aload_n 1, 1) := by decide +kernel
theorem d_Ac_addDeparture_54 : decode b_Ac_addDeparture 54 = .ok (.getfield 70, 3) := by decide +kernel
theorem d_Ac_addDeparture_57 : decode b_Ac_addDeparture 57 = .ok (.getfield 80, 3) := by decide +kernel
theorem d_Ac_addDeparture_60 : decode b_Ac_addDeparture 60 = .ok (.iload 5, 2) := by decide +kernel
theorem d_Ac_addDeparture_62 : decode b_Ac_addDeparture 62 = .ok (.iaload, 1) := by decide +kernel
theorem d_Ac_addDeparture_63 : decode b_Ac_addDeparture 63 = .ok (.ireturn, 1) := by decide +kernel
theorem d_Ac_put_0 : decode b_Ac_put 0 = .ok (.aload_n 0, 1) := by decide +kernel
theorem d_Ac_put_1 : decode b_Ac_put 1 = .ok (.getfield 15, 3) := by decide +kernel
theorem d_Ac_put_4 : decode b_Ac_put 4 = .ok (.aload_n 0, 1) := by decide +kernel
theorem d_Ac_put_5 : decode b_Ac_put 5 = .ok (.getfield 9, 3) := by decide +kernel
theorem d_Ac_put_8 : decode b_Ac_put 8 = .ok (.iload_n 1, 1) := by decide +kernel
theorem d_Ac_put_9 : decode b_Ac_put 9 = .ok (.iastore, 1) := by decide +kernel
theorem d_Ac_put_10 : decode b_Ac_put 10 = .ok (.aload_n 0, 1) := by decide +kernel
theorem d_Ac_put_11 : decode b_Ac_put 11 = .ok (.getfield 19, 3) := by decide +kernel
theorem d_Ac_put_14 : decode b_Ac_put 14 = .ok (.aload_n 0, 1) := by decide +kernel
theorem d_Ac_put_15 : decode b_Ac_put 15 = .ok (.getfield 9, 3) := by decide +kernel
theorem d_Ac_put_18 : decode b_Ac_put 18 = .ok (.iload_n 2, 1) := by decide +kernel
theorem d_Ac_put_19 : decode b_Ac_put 19 = .ok (.iastore, 1) := by decide +kernel
theorem d_Ac_put_20 : decode b_Ac_put 20 = .ok (.aload_n 0, 1) := by decide +kernel
theorem d_Ac_put_21 : decode b_Ac_put 21 = .ok (.getfield 22, 3) := by decide +kernel
theorem d_Ac_put_24 : decode b_Ac_put 24 = .ok (.aload_n 0, 1) := by decide +kernel
theorem d_Ac_put_25 : decode b_Ac_put 25 = .ok (.getfield 9, 3) := by decide +kernel
theorem d_Ac_put_28 : decode b_Ac_put 28 = .ok (.iload_n 3, 1) := by decide +kernel
theorem d_Ac_put_29 : decode b_Ac_put 29 = .ok (.iastore, 1) := by decide +kernel
theorem d_Ac_put_30 : decode b_Ac_put 30 = .ok (.aload_n 0, 1) := by decide +kernel
theorem d_Ac_put_31 : decode b_Ac_put 31 = .ok (.getfield 25, 3) := by decide +kernel
theorem d_Ac_put_34 : decode b_Ac_put 34 = .ok (.aload_n 0, 1) := by decide +kernel
theorem d_Ac_put_35 : decode b_Ac_put 35 = .ok (.getfield 9, 3) := by decide +kernel
theorem d_Ac_put_38 : decode b_Ac_put 38 = .ok (.iload_n 3, 1) := by decide +kernel
theorem d_Ac_put_39 : decode b_Ac_put 39 = .ok (.iload 4, 2) := by decide +kernel
theorem d_Ac_put_41 : decode b_Ac_put 41 = .ok (.iadd, 1) := by decide +kernel
theorem d_Ac_put_42 : decode b_Ac_put 42 = .ok (.iastore, 1) := by decide +kernel
theorem d_Ac_put_43 : decode b_Ac_put 43 = .ok (.aload_n 0, 1) := by decide +kernel
theorem d_Ac_put_44 : decode b_Ac_put 44 = .ok (.dup, 1) := by decide +kernel
theorem d_Ac_put_45 : decode b_Ac_put 45 = .ok (.getfield 9, 3) := by decide +kernel
theorem d_Ac_put_48 : decode b_Ac_put 48 = .ok (.iconst 1, 1) := by decide +kernel
theorem d_Ac_put_49 : decode b_Ac_put 49 = .ok (.iadd, 1) := by decide +kernel
theorem d_Ac_put_50 : decode b_Ac_put 50 = .ok (.putfield 9, 3) := by decide +kernel
theorem d_Ac_put_53 : decode b_Ac_put 53 = .ok (.return_, 1) := by decide +kernel
theorem d_J_fill_0 : decode b_J_fill 0 = .ok (.iconst 0, 1) := by decide +kernel
theorem d_J_fill_1 : decode b_J_fill 1 = .ok (.istore_n 2, 1) := by decide +kernel
theorem d_J_fill_2 : decode b_J_fill 2 = .ok (.aload_n 0, 1) := by decide +kernel
theorem d_J_fill_3 : decode b_J_fill 3 = .ok (.arraylength, 1) := by decide +kernel
theorem d_J_fill_4 : decode b_J_fill 4 = .ok (.istore_n 3, 1) := by decide +kernel
theorem d_J_fill_5 : decode b_J_fill 5 = .ok (.iload_n 2, 1) := by decide +kernel
theorem d_J_fill_6 : decode b_J_fill 6 = .ok (.iload_n 3, 1) := by decide +kernel
theorem d_J_fill_7 : decode b_J_fill 7 = .ok (.if_icmp .ge 13, 3) := by decide +kernel
theorem d_J_fill_10 : decode b_J_fill 10 = .ok (.aload_n 0, 1) := by decide +kernel
theorem d_J_fill_11 : decode b_J_fill 11 = .ok (.iload_n 2, 1) := by decide +kernel
theorem d_J_fill_12 : decode b_J_fill 12 = .ok (.iload_n 1, 1) := by decide +kernel
theorem d_J_fill_13 : decode b_J_fill 13 = .ok (.iastore, 1) := by decide +kernel
theorem d_J_fill_14 : decode b_J_fill 14 = .ok (.iinc 2 1, 3) := by decide +kernel
theorem d_J_fill_17 : decode b_J_fill 17 = .ok (.goto (-12), 3) := by decide +kernel
theorem d_J_fill_20 : decode b_J_fill 20 = .ok (.return_, 1) := by decide +kernel
end
section
/-- the nest's words: within() is called from two classes beside its own -/
def tN (U : State) : Prop := va_Nw (.methodLinkNest R_Ne 47 y_T_within "TimedWays") U ∧ va_Nw (.methodLinkNest R_Ri 34 y_T_within "TimedWays") U
theorem tN_warm {s U : State} (hW : s.WarmedH U.vm) (h : tN s) : tN U := ⟨va_Nw.warmM hW h.1, va_Nw.warmM hW h.2⟩
/-! STATES AND WORLDS. A state: the int fields by number, the int arrays by number. A world: a function from states to cells. -/
abbrev tS : Type := (Nat → Int32) × (Nat → Nat → Int32)
def tI (u : tS) (k : Nat) (v : Int32) : tS := (upd u.1 k v, u.2)
def tA (u : tS) (j : Nat) (i v : Int32) : tS := (u.1, va_up u.2 j (upd (u.2 j) i.toNatClampNeg v))
/-- the first n of array j0 into array j1 -/
def tY (u : tS) (j0 j1 n : Nat) : tS := (u.1, va_up u.2 j1 (va_cpy (u.2 j0) (u.2 j1) 0 0 n))
def tX (D : va_G) (cl : List vw_C) (tys : List (ClassId × FieldType)) (A : Nat → Prop) (s : State) (H : Heap) (locs : List Loc) (ws : va_W) : Prop := va_K D cl tys s ∧ va_P D cl ws H ∧ va_D A ws ∧ va_S A s.heap H locs
def tC (p : Program) (s : State) (m : MethodId) (meth : Method) (c : Code) (args : Array Value) (cc : ByteArray) (nL : Nat) (ret : Option FieldType) (Ts : List Cond) (own : String) (A : Nat → Prop) : Prop :=
  p.tables.exec = Jvm.exec ∧ c.code = cc ∧ meth.sig.returnType = ret ∧ c.maxLocals = nL ∧ s.vm.findClass own = some m.cls ∧ (∀ w ∈ Ts, w.before args s = true) ∧ meth.locks = false ∧ (∀ q : Nat, s.heap.size ≤ q → A q) ∧ tN s
def tB (D : va_G) (cl : List vw_C) (tys : List (ClassId × FieldType)) (A : Nat → Prop) (w : tS → va_W) (u : tS) (t : State) : Prop := va_P D cl (w u) t.heap ∧ va_K D cl tys t ∧ va_D A (w u)
def tP (D : va_G) (cl : List vw_C) (tys : List (ClassId × FieldType)) (w : tS → va_W) (u : tS) (sz : Nat) (wp : Prop) (U : State) : Prop := U.heap.size = sz ∧ va_P D cl (w u) U.heap ∧ va_K D cl tys U ∧ va_D (fun _ => True) (w u) ∧ tN U ∧ wp
theorem tP_blind {D : va_G} {cl : List vw_C} {tys : List (ClassId × FieldType)} {w : tS → va_W} {u : tS} {sz : Nat} {wp : Prop} (av : List Value) : FrameBlind (va_Pc av (tP D cl tys w u sz wp)) := fun a U g mk q => by
  obtain ⟨q0, q1, qP, qK, qD, qN, qw⟩ := q
  exact ⟨q0, q1, qP, va_K.moved (u := U) (U := U.calling g mk a) (Vm.Alike.refl U.vm) qK, qD, ⟨va_Nw.same rfl (U := U.calling g mk a) rfl qN.1, va_Nw.same rfl (U := U.calling g mk a) rfl qN.2⟩, qw⟩
section TR
variable {p : Program} {l : Launch} {e : Env} {R : Room} {s : State} {m : MethodId} {args : Array Value} {below : List Frame} {meth : Method} {c : Code} {H : Heap} {locs : List Loc} {cells slots : Nat} {Q : State → Prop} {pc : Nat} {ls : Array Slot} {rest : List Value} {cc : ByteArray}
variable {D : va_G} {cl : List vw_C} {tys : List (ClassId × FieldType)} {A : Nat → Prop} {w : tS → va_W} {u : tS}
theorem tr_iast (hx : p.tables.exec = Jvm.exec) (hb : c.code = cc) (hI : tX D cl tys A s H locs (w u)) (q0 t0 j : Nat) {b n : Nat} {cA : ClassId} {i x : Int32} (hq : (w u)[q0]? = some (b, .inl (cA, n, .inl (u.2 j)))) (ht : tys[t0]? = some (cA, .int)) (hset : (w u).set q0 (b, .inl (cA, n, .inl (upd (u.2 j) i.toNatClampNeg x))) = w (tA u j i x)) (hin : vp_in i n) (hdg : decode cc pc = .ok (.iastore, 1))
    (kk : ∀ (H1 : Heap) (locs1 : List Loc), tX D cl tys A s H1 locs1 (w (tA u j i x)) → W p l e R s m args below meth c H1 locs1 cells slots Q (F0 m (pc + 1) ls rest)) : W p l e R s m args below meth c H locs cells slots Q (F0 m pc ls (.int x :: .int i :: .ref b :: rest)) := by
  obtain ⟨hK, hP, hD, hS⟩ := hI
  refine va_iast hx hb hK hP hD hS q0 t0 hq ht hin hdg (fun H1 locs1 hP1 hD1 hS1 => kk H1 locs1 ⟨hK, ?_, ?_, hS1⟩)
  · rw [← hset]; exact hP1
  · rw [← hset]; exact hD1
theorem tr_put (hx : p.tables.exec = Jvm.exec) (hb : c.code = cc) {own C : String} {T : u_T} {N ci index : Nat} {Ts : List Cond} (hts : ∀ w ∈ Ts, w.before args s = true) (hin : ∀ w ∈ u_ws C T N, w ∈ Ts) (ty0 : Nat → FieldType) (hty : ∀ k, k < N → parseFieldDescriptor (T k).2.2.1 = some (ty0 k)) (hnm : ∀ a, a < N → ∀ b, b < N → a ≠ b → (T a).2.1 ≠ (T b).2.1) (hown : s.vm.findClass own = some m.cls) (hI : tX D cl tys A s H locs (w u)) (q0 j : Nat) {b : Nat} {fs : List Value} {v : Int32} (hq : (w u)[q0]? = some (b, .inr (ci, fs))) (hc : cl[ci]? = some (C, T, N)) (k : Nat) (hk : k < N) (hlink : (Cond.fieldLink own index (T k).1 (T k).2.1 (T k).2.2.1).before args s = true) (hfin : (T k).2.2.2 = false) (hd : parseFieldDescriptor (T k).2.2.1 = some .int) (hl : k < fs.length) (hset : (w u).set q0 (b, .inr (ci, fs.set k (.int v))) = w (tI u j v)) (hdg : decode cc pc = .ok (.putfield index, 3))
    (kk : ∀ (H1 : Heap) (locs1 : List Loc), tX D cl tys A s H1 locs1 (w (tI u j v)) → W p l e R s m args below meth c H1 locs1 cells slots Q (F0 m (pc + 3) ls rest)) : W p l e R s m args below meth c H locs cells slots Q (F0 m pc ls (.int v :: .ref b :: rest)) := by
  obtain ⟨hK, hP, hD, hS⟩ := hI
  refine va_put (ty := .int) (v := .int v) hx hb hts hin ty0 hty hnm hown hK hP hD hS q0 hq hc k hk hlink (fun _ h9 => h9) hfin hd rfl rfl hl hdg (fun H1 locs1 hP1 hD1 hS1 => kk H1 locs1 ⟨hK, ?_, ?_, hS1⟩)
  · rw [← hset]; exact hP1
  · rw [← hset]; exact hD1
theorem tr_copy {own : String} {index : Nat} (hx : p.tables.exec = Jvm.exec) (hb : c.code = cc) (hml : c.maxLocals = ls.size) (hown : s.vm.findClass own = some m.cls) (hlink : (Cond.methodLink own index arraycopyName).before args s = true) (hnat : (Cond.native arraycopyName).before args s = true) (hstat : (Cond.static arraycopyName).before args s = true) (hini : (Cond.initialized "java/lang/System").before args s = true)
    (hI : tX D cl tys A s H locs (w u)) (q0 q1 j0 j1 t0 : Nat) {b0 b n0 n1 k : Nat} {cA : ClassId} {n : Int32} (hq0 : (w u)[q0]? = some (b0, .inl (cA, n0, .inl (u.2 j0)))) (hq1 : (w u)[q1]? = some (b, .inl (cA, n1, .inl (u.2 j1)))) (ht : tys[t0]? = some (cA, .int)) (hset : (w u).set q1 (b, .inl (cA, n1, .inl (va_cpy (u.2 j0) (u.2 j1) 0 0 k))) = w (tY u j0 j1 k)) (hn : n.toNatClampNeg = k) (h3 : ¬ n < 0) (h4 : k ≤ n0) (h5 : k ≤ n1)
    (hframes : 1 ≤ R.frames) (hlocals : (rest.map fun v => v.category).sum + (nativeFrameWords "java/lang/System" "arraycopy" 5 + 11) ≤ R.locals) (hdg : decode cc pc = .ok (.invokestatic index, 3))
    (kk : ∀ (H1 : Heap) (locs1 : List Loc), tX D cl tys A s H1 locs1 (w (tY u j0 j1 k)) → W p l e R s m args below meth c H1 locs1 cells slots Q (F0 m (pc + 3) ls rest)) : W p l e R s m args below meth c H locs cells slots Q (F0 m pc ls (.int n :: .int 0 :: .ref b :: .int 0 :: .ref b0 :: rest)) := by
  obtain ⟨hK, hP, hD, hS⟩ := hI
  have e0 : (0 : Int32).toNatClampNeg = 0 := by decide
  refine va_copyi hx hb hml hown hlink hnat hstat hini hK hP hD hS q0 q1 t0 t0 hq0 hq1 ht ht rfl (by decide) (by decide) h3 (by rw [e0, hn]; omega) (by rw [e0, hn]; omega) (fun i _ => rfl) hframes hlocals hdg (fun H1 locs1 hP1 hD1 hS1 => kk H1 locs1 ⟨hK, ?_, ?_, hS1⟩)
  · rw [e0, hn, hset] at hP1; exact hP1
  · rw [e0, hn, hset] at hD1; exact hD1
theorem tr_putz (hx : p.tables.exec = Jvm.exec) (hb : c.code = cc) {own C : String} {T : u_T} {N ci index : Nat} {Ts : List Cond} (hts : ∀ w ∈ Ts, w.before args s = true) (hin : ∀ w ∈ u_ws C T N, w ∈ Ts) (ty0 : Nat → FieldType) (hty : ∀ k, k < N → parseFieldDescriptor (T k).2.2.1 = some (ty0 k)) (hnm : ∀ a, a < N → ∀ b, b < N → a ≠ b → (T a).2.1 ≠ (T b).2.1) (hown : s.vm.findClass own = some m.cls) (hI : tX D cl tys A s H locs (w u)) (q0 j : Nat) {b : Nat} {fs : List Value} {v : Int32} (hq : (w u)[q0]? = some (b, .inr (ci, fs))) (hc : cl[ci]? = some (C, T, N)) (k : Nat) (hk : k < N) (hlink : (Cond.fieldLink own index (T k).1 (T k).2.1 (T k).2.2.1).before args s = true) (hfin : (T k).2.2.2 = false) (hd : parseFieldDescriptor (T k).2.2.1 = some .boolean) (hn : narrow .boolean (.int v) = .int v) (hfit : fits .boolean (.int v) = true) (hl : k < fs.length) (hset : (w u).set q0 (b, .inr (ci, fs.set k (.int v))) = w (tI u j v)) (hdg : decode cc pc = .ok (.putfield index, 3))
    (kk : ∀ (H1 : Heap) (locs1 : List Loc), tX D cl tys A s H1 locs1 (w (tI u j v)) → W p l e R s m args below meth c H1 locs1 cells slots Q (F0 m (pc + 3) ls rest)) : W p l e R s m args below meth c H locs cells slots Q (F0 m pc ls (.int v :: .ref b :: rest)) := by
  obtain ⟨hK, hP, hD, hS⟩ := hI
  refine va_put (ty := .boolean) (v := .int v) hx hb hts hin ty0 hty hnm hown hK hP hD hS q0 hq hc k hk hlink (fun _ h9 => h9) hfin hd hn hfit hl hdg (fun H1 locs1 hP1 hD1 hS1 => kk H1 locs1 ⟨hK, ?_, ?_, hS1⟩)
  · rw [← hset]; exact hP1
  · rw [← hset]; exact hD1
theorem tr_iret {post : Int32 → tS → Prop} {v : Int32} (hx : p.tables.exec = Jvm.exec) (hb : c.code = cc) (hr : meth.sig.returnType = some .int) (hlocks : meth.locks = false) (hI : tX D cl tys A s H locs (w u)) (hw : post v u) (hdg : decode cc pc = .ok (.ireturn, 1)) : W p l e R s m args below meth c H locs 0 0 (MQ below (va_Qi post (tB D cl tys A w) A) args s 0 0 A) (F0 m pc ls [.int v]) := by
  obtain ⟨hK, hP, hD, hS⟩ := hI
  exact W.iret (v := v) hx hb hr (fun t ht hW => ⟨⟨v, u, rfl, hw, by rw [ht]; exact hP, va_K.moved hW.alike hK, hD⟩, hS.F ht⟩) hS.2.2 hdg
theorem tr_zret {post : Int32 → tS → Prop} {v : Int32} (hx : p.tables.exec = Jvm.exec) (hb : c.code = cc) (hr : meth.sig.returnType = some .boolean) (hlocks : meth.locks = false) (hI : tX D cl tys A s H locs (w u)) (hn : narrow .boolean (.int v) = .int v) (hw : post v u) (hdg : decode cc pc = .ok (.ireturn, 1)) : W p l e R s m args below meth c H locs 0 0 (MQ below (va_Qi post (tB D cl tys A w) A) args s 0 0 A) (F0 m pc ls [.int v]) := by
  obtain ⟨hK, hP, hD, hS⟩ := hI
  exact W.zret (v := v) hx hb hr hn (fun t ht hW => ⟨⟨v, u, rfl, hw, by rw [ht]; exact hP, va_K.moved hW.alike hK, hD⟩, hS.F ht⟩) hS.2.2 hdg
theorem tr_vret {post : tS → Prop} (hx : p.tables.exec = Jvm.exec) (hb : c.code = cc) (hr : meth.sig.returnType = none) (hlocks : meth.locks = false) (hI : tX D cl tys A s H locs (w u)) (hw : post u) (hdg : decode cc pc = .ok (.return_, 1)) : W p l e R s m args below meth c H locs 0 0 (MQ below (va_Qv post (tB D cl tys A w) A) args s 0 0 A) (F0 m pc ls []) := by
  obtain ⟨hK, hP, hD, hS⟩ := hI
  exact W.vret hx hb hr (fun t ht hW => ⟨⟨u, rfl, hw, by rw [ht]; exact hP, va_K.moved hW.alike hK, hD⟩, hS.F ht⟩) hS.2.2 hdg
theorem tX_free (hI : tX D cl tys A s H locs (w u)) (hA : ∀ q : Nat, s.heap.size ≤ q → A q) : ∀ q, va_A (w u) H.size q → A q := by
  obtain ⟨hK, hP, hD, hS⟩ := hI
  intro q h
  rcases h with ⟨k, x, h⟩ | h
  · exact hD.2 k _ h
  · exact hA q (Nat.le_trans hS.1 h)
theorem tr_goi {post : Int32 → tS → Prop} {a0 : Array Value} {st0 : List Value} (hI : tX D cl tys A s H locs (w u)) (hA : ∀ q : Nat, s.heap.size ≤ q → A q)
    (hrun : va_Run p l e R s m args below meth c H locs cells slots 0 0 (F0 m pc ls st0) rest (va_Qi post (tB D cl tys (va_A (w u) H.size) w) (va_A (w u) H.size) a0) (va_A (w u) H.size))
    (kk : ∀ (r : Int32) (u1 : tS) (H1 : Heap) (locs1 : List Loc), post r u1 → tX D cl tys A s H1 locs1 (w u1) → W p l e R s m args below meth c H1 locs1 cells slots Q (F0 m (pc + 3) ls (.int r :: rest))) : W p l e R s m args below meth c H locs cells slots Q (F0 m pc ls st0) := by
  have hF := tX_free hI hA
  obtain ⟨hK, hP, hD, hS⟩ := hI
  refine va_calli hrun hS (fun q _ h => hF q h) hF (fun r u1 t H1 locs1 ht hvm hp hB hz hk hS1 => ?_)
  obtain ⟨hP1, hK1, hD1⟩ := hB
  rw [ht] at hP1
  exact kk r u1 H1 locs1 hp ⟨hK, hP1, hD1.weaken (fun _ q _ h => hF q.1 h), hS1⟩
theorem tr_gov {post : tS → Prop} {a0 : Array Value} {st0 : List Value} (hI : tX D cl tys A s H locs (w u)) (hA : ∀ q : Nat, s.heap.size ≤ q → A q)
    (hrun : va_Run p l e R s m args below meth c H locs cells slots 0 0 (F0 m pc ls st0) rest (va_Qv post (tB D cl tys (va_A (w u) H.size) w) (va_A (w u) H.size) a0) (va_A (w u) H.size))
    (kk : ∀ (u1 : tS) (H1 : Heap) (locs1 : List Loc), post u1 → tX D cl tys A s H1 locs1 (w u1) → W p l e R s m args below meth c H1 locs1 cells slots Q (F0 m (pc + 3) ls rest)) : W p l e R s m args below meth c H locs cells slots Q (F0 m pc ls st0) := by
  have hF := tX_free hI hA
  obtain ⟨hK, hP, hD, hS⟩ := hI
  refine va_callv hrun hS (fun q _ h => hF q h) hF (fun u1 t H1 locs1 ht hvm hp hB hz hk hS1 => ?_)
  obtain ⟨hP1, hK1, hD1⟩ := hB
  rw [ht] at hP1
  exact kk u1 H1 locs1 hp ⟨hK, hP1, hD1.weaken (fun _ q _ h => hF q.1 h), hS1⟩
/-- a callee's start, an object's method -/
theorem tr_preV {C : String} {b : Nat} {As : List Value} {wp : Prop} {ci q0 : Nat} {q : vw_C} {fs : List Value} (hI : tX D cl tys A s H locs (w u)) (hc : cl[ci]? = some q) (hq : (w u)[q0]? = some (b, .inr (ci, fs))) (hC : q.1 = C) (hN : tN s) (hw : wp) : PreV s H C b (va_Pc (.ref b :: As) (tP D cl tys w u H.size wp)) As := by
  obtain ⟨hK, hP, hD, hS⟩ := hI
  subst hC
  exact ⟨tP_blind _, va_recv hK hP hc hq, fun U hU hW => ⟨rfl, by rw [hU], by rw [hU]; exact hP, va_K.moved hW.alike hK, hD.weaken (fun _ _ _ _ => trivial), tN_warm hW hN, hw⟩⟩
theorem tr_preS {As : List Value} {wp : Prop} (hI : tX D cl tys A s H locs (w u)) (hN : tN s) (hw : wp) : PreS s H (va_Pc As (tP D cl tys w u H.size wp)) As := by
  obtain ⟨hK, hP, hD, hS⟩ := hI
  exact ⟨tP_blind _, fun U hU hW => ⟨rfl, by rw [hU], by rw [hU]; exact hP, va_K.moved hW.alike hK, hD.weaken (fun _ _ _ _ => trivial), tN_warm hW hN, hw⟩⟩
end TR
theorem tab_out2 {x : Int32} (h0 : ¬ x = 0) (h1 : ¬ x = 1) : x.toInt < 0 ∨ 1 < x.toInt := by
  have a0 := lv_neT h0 (show (0 : Int32).toInt = 0 from rfl); have a1 := lv_neT h1 (show (1 : Int32).toInt = 1 from rfl); omega
theorem tab_out3 {x : Int32} (h0 : ¬ x = 0) (h1 : ¬ x = 1) (h2 : ¬ x = 2) : x.toInt < 0 ∨ 2 < x.toInt := by
  have a0 := tab_out2 h0 h1; have a1 := lv_neT h2 (show (2 : Int32).toInt = 2 from rfl); omega
theorem tab_out4 {x : Int32} (h0 : ¬ x = 0) (h1 : ¬ x = 1) (h2 : ¬ x = 2) (h3 : ¬ x = 3) : x.toInt < 0 ∨ 3 < x.toInt := by
  have a0 := tab_out3 h0 h1 h2; have a1 := lv_neT h3 (show (3 : Int32).toInt = 3 from rfl); omega
theorem tab_out5 {x : Int32} (h0 : ¬ x = 0) (h1 : ¬ x = 1) (h2 : ¬ x = 2) (h3 : ¬ x = 3) (h4 : ¬ x = 4) : x.toInt < 0 ∨ 4 < x.toInt := by
  have a0 := tab_out4 h0 h1 h2 h3; have a1 := lv_neT h4 (show (4 : Int32).toInt = 4 from rfl); omega
theorem tab_out6 {x : Int32} (h0 : ¬ x = 0) (h1 : ¬ x = 1) (h2 : ¬ x = 2) (h3 : ¬ x = 3) (h4 : ¬ x = 4) (h5 : ¬ x = 5) : x.toInt < 0 ∨ 5 < x.toInt := by
  have a0 := tab_out5 h0 h1 h2 h3 h4; have a1 := lv_neT h5 (show (5 : Int32).toInt = 5 from rfl); omega
end
section
def wdX (a : Nat → Nat) (cA : ClassId) (u : tS) : va_W := [(a 0, .inr (0, [.ref (a 1), .ref (a 5), .ref (a 6), .ref (a 7), .ref (a 8), .ref (a 9)])), (a 1, .inr (1, [.int (u.1 0), .ref (a 10), .ref (a 2), .ref (a 3), .ref (a 4)])), (a 2, .inr (2, [.int (u.1 1), .ref (a 11), .ref (a 12), .ref (a 13), .ref (a 14), .ref (a 15), .ref (a 16)])), (a 3, .inr (3, [.int (u.1 2), .ref (a 17), .ref (a 18)])), (a 4, .inr (4, [.int (u.1 3), .ref (a 19), .ref (a 20), .ref (a 21), .ref (a 22)])), (a 5, .inr (5, [.ref (a 23), .ref (a 24)])), (a 6, .inr (5, [.ref (a 25), .ref (a 26)])), (a 7, .inr (6, [.ref (a 27), .ref (a 28)])), (a 8, .inr (7, [.int (u.1 4), .ref (a 29), .ref (a 30)])), (a 9, .inr (8, [.int (u.1 5), .ref (a 31), .ref (a 32), .ref (a 33), .ref (a 34)])), (a 10, .inl (cA, 12, .inl (u.2 0))), (a 11, .inl (cA, 40, .inl (u.2 1))), (a 12, .inl (cA, 40, .inl (u.2 2))), (a 13, .inl (cA, 40, .inl (u.2 3))), (a 14, .inl (cA, 40, .inl (u.2 4))), (a 15, .inl (cA, 40, .inl (u.2 5))), (a 16, .inl (cA, 280, .inl (u.2 6))), (a 17, .inl (cA, 280, .inl (u.2 7))), (a 18, .inl (cA, 280, .inl (u.2 8))), (a 19, .inl (cA, 30, .inl (u.2 9))), (a 20, .inl (cA, 30, .inl (u.2 10))), (a 21, .inl (cA, 30, .inl (u.2 11))), (a 22, .inl (cA, 144, .inl (u.2 12))), (a 23, .inl (cA, 12, .inl (u.2 13))), (a 24, .inl (cA, 12, .inl (u.2 14))), (a 25, .inl (cA, 12, .inl (u.2 15))), (a 26, .inl (cA, 12, .inl (u.2 16))), (a 27, .inl (cA, 280, .inl (u.2 17))), (a 28, .inl (cA, 601, .inl (u.2 18))), (a 29, .inl (cA, 601, .inl (u.2 19))), (a 30, .inl (cA, 601, .inl (u.2 20))), (a 31, .inl (cA, 24, .inl (u.2 21))), (a 32, .inl (cA, 24, .inl (u.2 22))), (a 33, .inl (cA, 24, .inl (u.2 23))), (a 34, .inl (cA, 24, .inl (u.2 24)))]
theorem wdX_o0 (a : Nat → Nat) (cA : ClassId) (u : tS) : (wdX a cA u)[0]? = some (a 0, .inr (0, [.ref (a 1), .ref (a 5), .ref (a 6), .ref (a 7), .ref (a 8), .ref (a 9)])) := rfl
theorem wdX_o1 (a : Nat → Nat) (cA : ClassId) (u : tS) : (wdX a cA u)[1]? = some (a 1, .inr (1, [.int (u.1 0), .ref (a 10), .ref (a 2), .ref (a 3), .ref (a 4)])) := rfl
theorem wdX_i0 (a : Nat → Nat) (cA : ClassId) (u : tS) (v : Int32) : (wdX a cA u).set 1 (a 1, .inr (1, ([.int (u.1 0), .ref (a 10), .ref (a 2), .ref (a 3), .ref (a 4)] : List Value).set 0 (.int v))) = wdX a cA (tI u 0 v) := rfl
theorem wdX_o2 (a : Nat → Nat) (cA : ClassId) (u : tS) : (wdX a cA u)[2]? = some (a 2, .inr (2, [.int (u.1 1), .ref (a 11), .ref (a 12), .ref (a 13), .ref (a 14), .ref (a 15), .ref (a 16)])) := rfl
theorem wdX_i1 (a : Nat → Nat) (cA : ClassId) (u : tS) (v : Int32) : (wdX a cA u).set 2 (a 2, .inr (2, ([.int (u.1 1), .ref (a 11), .ref (a 12), .ref (a 13), .ref (a 14), .ref (a 15), .ref (a 16)] : List Value).set 0 (.int v))) = wdX a cA (tI u 1 v) := rfl
theorem wdX_o3 (a : Nat → Nat) (cA : ClassId) (u : tS) : (wdX a cA u)[3]? = some (a 3, .inr (3, [.int (u.1 2), .ref (a 17), .ref (a 18)])) := rfl
theorem wdX_i2 (a : Nat → Nat) (cA : ClassId) (u : tS) (v : Int32) : (wdX a cA u).set 3 (a 3, .inr (3, ([.int (u.1 2), .ref (a 17), .ref (a 18)] : List Value).set 0 (.int v))) = wdX a cA (tI u 2 v) := rfl
theorem wdX_o4 (a : Nat → Nat) (cA : ClassId) (u : tS) : (wdX a cA u)[4]? = some (a 4, .inr (4, [.int (u.1 3), .ref (a 19), .ref (a 20), .ref (a 21), .ref (a 22)])) := rfl
theorem wdX_i3 (a : Nat → Nat) (cA : ClassId) (u : tS) (v : Int32) : (wdX a cA u).set 4 (a 4, .inr (4, ([.int (u.1 3), .ref (a 19), .ref (a 20), .ref (a 21), .ref (a 22)] : List Value).set 0 (.int v))) = wdX a cA (tI u 3 v) := rfl
theorem wdX_o5 (a : Nat → Nat) (cA : ClassId) (u : tS) : (wdX a cA u)[5]? = some (a 5, .inr (5, [.ref (a 23), .ref (a 24)])) := rfl
theorem wdX_o6 (a : Nat → Nat) (cA : ClassId) (u : tS) : (wdX a cA u)[6]? = some (a 6, .inr (5, [.ref (a 25), .ref (a 26)])) := rfl
theorem wdX_o7 (a : Nat → Nat) (cA : ClassId) (u : tS) : (wdX a cA u)[7]? = some (a 7, .inr (6, [.ref (a 27), .ref (a 28)])) := rfl
theorem wdX_o8 (a : Nat → Nat) (cA : ClassId) (u : tS) : (wdX a cA u)[8]? = some (a 8, .inr (7, [.int (u.1 4), .ref (a 29), .ref (a 30)])) := rfl
theorem wdX_i4 (a : Nat → Nat) (cA : ClassId) (u : tS) (v : Int32) : (wdX a cA u).set 8 (a 8, .inr (7, ([.int (u.1 4), .ref (a 29), .ref (a 30)] : List Value).set 0 (.int v))) = wdX a cA (tI u 4 v) := rfl
theorem wdX_o9 (a : Nat → Nat) (cA : ClassId) (u : tS) : (wdX a cA u)[9]? = some (a 9, .inr (8, [.int (u.1 5), .ref (a 31), .ref (a 32), .ref (a 33), .ref (a 34)])) := rfl
theorem wdX_i5 (a : Nat → Nat) (cA : ClassId) (u : tS) (v : Int32) : (wdX a cA u).set 9 (a 9, .inr (8, ([.int (u.1 5), .ref (a 31), .ref (a 32), .ref (a 33), .ref (a 34)] : List Value).set 0 (.int v))) = wdX a cA (tI u 5 v) := rfl
theorem wdX_o10 (a : Nat → Nat) (cA : ClassId) (u : tS) : (wdX a cA u)[10]? = some (a 10, .inl (cA, 12, .inl (u.2 0))) := rfl
theorem wdX_a0 (a : Nat → Nat) (cA : ClassId) (u : tS) (i x : Int32) : (wdX a cA u).set 10 (a 10, .inl (cA, 12, .inl (upd (u.2 0) i.toNatClampNeg x))) = wdX a cA (tA u 0 i x) := rfl
theorem wdX_o11 (a : Nat → Nat) (cA : ClassId) (u : tS) : (wdX a cA u)[11]? = some (a 11, .inl (cA, 40, .inl (u.2 1))) := rfl
theorem wdX_a1 (a : Nat → Nat) (cA : ClassId) (u : tS) (i x : Int32) : (wdX a cA u).set 11 (a 11, .inl (cA, 40, .inl (upd (u.2 1) i.toNatClampNeg x))) = wdX a cA (tA u 1 i x) := rfl
theorem wdX_o12 (a : Nat → Nat) (cA : ClassId) (u : tS) : (wdX a cA u)[12]? = some (a 12, .inl (cA, 40, .inl (u.2 2))) := rfl
theorem wdX_a2 (a : Nat → Nat) (cA : ClassId) (u : tS) (i x : Int32) : (wdX a cA u).set 12 (a 12, .inl (cA, 40, .inl (upd (u.2 2) i.toNatClampNeg x))) = wdX a cA (tA u 2 i x) := rfl
theorem wdX_o13 (a : Nat → Nat) (cA : ClassId) (u : tS) : (wdX a cA u)[13]? = some (a 13, .inl (cA, 40, .inl (u.2 3))) := rfl
theorem wdX_a3 (a : Nat → Nat) (cA : ClassId) (u : tS) (i x : Int32) : (wdX a cA u).set 13 (a 13, .inl (cA, 40, .inl (upd (u.2 3) i.toNatClampNeg x))) = wdX a cA (tA u 3 i x) := rfl
theorem wdX_o14 (a : Nat → Nat) (cA : ClassId) (u : tS) : (wdX a cA u)[14]? = some (a 14, .inl (cA, 40, .inl (u.2 4))) := rfl
theorem wdX_a4 (a : Nat → Nat) (cA : ClassId) (u : tS) (i x : Int32) : (wdX a cA u).set 14 (a 14, .inl (cA, 40, .inl (upd (u.2 4) i.toNatClampNeg x))) = wdX a cA (tA u 4 i x) := rfl
theorem wdX_o15 (a : Nat → Nat) (cA : ClassId) (u : tS) : (wdX a cA u)[15]? = some (a 15, .inl (cA, 40, .inl (u.2 5))) := rfl
theorem wdX_a5 (a : Nat → Nat) (cA : ClassId) (u : tS) (i x : Int32) : (wdX a cA u).set 15 (a 15, .inl (cA, 40, .inl (upd (u.2 5) i.toNatClampNeg x))) = wdX a cA (tA u 5 i x) := rfl
theorem wdX_o16 (a : Nat → Nat) (cA : ClassId) (u : tS) : (wdX a cA u)[16]? = some (a 16, .inl (cA, 280, .inl (u.2 6))) := rfl
theorem wdX_a6 (a : Nat → Nat) (cA : ClassId) (u : tS) (i x : Int32) : (wdX a cA u).set 16 (a 16, .inl (cA, 280, .inl (upd (u.2 6) i.toNatClampNeg x))) = wdX a cA (tA u 6 i x) := rfl
theorem wdX_o17 (a : Nat → Nat) (cA : ClassId) (u : tS) : (wdX a cA u)[17]? = some (a 17, .inl (cA, 280, .inl (u.2 7))) := rfl
theorem wdX_a7 (a : Nat → Nat) (cA : ClassId) (u : tS) (i x : Int32) : (wdX a cA u).set 17 (a 17, .inl (cA, 280, .inl (upd (u.2 7) i.toNatClampNeg x))) = wdX a cA (tA u 7 i x) := rfl
theorem wdX_o18 (a : Nat → Nat) (cA : ClassId) (u : tS) : (wdX a cA u)[18]? = some (a 18, .inl (cA, 280, .inl (u.2 8))) := rfl
theorem wdX_a8 (a : Nat → Nat) (cA : ClassId) (u : tS) (i x : Int32) : (wdX a cA u).set 18 (a 18, .inl (cA, 280, .inl (upd (u.2 8) i.toNatClampNeg x))) = wdX a cA (tA u 8 i x) := rfl
theorem wdX_o19 (a : Nat → Nat) (cA : ClassId) (u : tS) : (wdX a cA u)[19]? = some (a 19, .inl (cA, 30, .inl (u.2 9))) := rfl
theorem wdX_a9 (a : Nat → Nat) (cA : ClassId) (u : tS) (i x : Int32) : (wdX a cA u).set 19 (a 19, .inl (cA, 30, .inl (upd (u.2 9) i.toNatClampNeg x))) = wdX a cA (tA u 9 i x) := rfl
theorem wdX_o20 (a : Nat → Nat) (cA : ClassId) (u : tS) : (wdX a cA u)[20]? = some (a 20, .inl (cA, 30, .inl (u.2 10))) := rfl
theorem wdX_a10 (a : Nat → Nat) (cA : ClassId) (u : tS) (i x : Int32) : (wdX a cA u).set 20 (a 20, .inl (cA, 30, .inl (upd (u.2 10) i.toNatClampNeg x))) = wdX a cA (tA u 10 i x) := rfl
theorem wdX_o21 (a : Nat → Nat) (cA : ClassId) (u : tS) : (wdX a cA u)[21]? = some (a 21, .inl (cA, 30, .inl (u.2 11))) := rfl
theorem wdX_a11 (a : Nat → Nat) (cA : ClassId) (u : tS) (i x : Int32) : (wdX a cA u).set 21 (a 21, .inl (cA, 30, .inl (upd (u.2 11) i.toNatClampNeg x))) = wdX a cA (tA u 11 i x) := rfl
theorem wdX_o22 (a : Nat → Nat) (cA : ClassId) (u : tS) : (wdX a cA u)[22]? = some (a 22, .inl (cA, 144, .inl (u.2 12))) := rfl
theorem wdX_a12 (a : Nat → Nat) (cA : ClassId) (u : tS) (i x : Int32) : (wdX a cA u).set 22 (a 22, .inl (cA, 144, .inl (upd (u.2 12) i.toNatClampNeg x))) = wdX a cA (tA u 12 i x) := rfl
theorem wdX_o23 (a : Nat → Nat) (cA : ClassId) (u : tS) : (wdX a cA u)[23]? = some (a 23, .inl (cA, 12, .inl (u.2 13))) := rfl
theorem wdX_a13 (a : Nat → Nat) (cA : ClassId) (u : tS) (i x : Int32) : (wdX a cA u).set 23 (a 23, .inl (cA, 12, .inl (upd (u.2 13) i.toNatClampNeg x))) = wdX a cA (tA u 13 i x) := rfl
theorem wdX_o24 (a : Nat → Nat) (cA : ClassId) (u : tS) : (wdX a cA u)[24]? = some (a 24, .inl (cA, 12, .inl (u.2 14))) := rfl
theorem wdX_a14 (a : Nat → Nat) (cA : ClassId) (u : tS) (i x : Int32) : (wdX a cA u).set 24 (a 24, .inl (cA, 12, .inl (upd (u.2 14) i.toNatClampNeg x))) = wdX a cA (tA u 14 i x) := rfl
theorem wdX_o25 (a : Nat → Nat) (cA : ClassId) (u : tS) : (wdX a cA u)[25]? = some (a 25, .inl (cA, 12, .inl (u.2 15))) := rfl
theorem wdX_a15 (a : Nat → Nat) (cA : ClassId) (u : tS) (i x : Int32) : (wdX a cA u).set 25 (a 25, .inl (cA, 12, .inl (upd (u.2 15) i.toNatClampNeg x))) = wdX a cA (tA u 15 i x) := rfl
theorem wdX_o26 (a : Nat → Nat) (cA : ClassId) (u : tS) : (wdX a cA u)[26]? = some (a 26, .inl (cA, 12, .inl (u.2 16))) := rfl
theorem wdX_a16 (a : Nat → Nat) (cA : ClassId) (u : tS) (i x : Int32) : (wdX a cA u).set 26 (a 26, .inl (cA, 12, .inl (upd (u.2 16) i.toNatClampNeg x))) = wdX a cA (tA u 16 i x) := rfl
theorem wdX_o27 (a : Nat → Nat) (cA : ClassId) (u : tS) : (wdX a cA u)[27]? = some (a 27, .inl (cA, 280, .inl (u.2 17))) := rfl
theorem wdX_a17 (a : Nat → Nat) (cA : ClassId) (u : tS) (i x : Int32) : (wdX a cA u).set 27 (a 27, .inl (cA, 280, .inl (upd (u.2 17) i.toNatClampNeg x))) = wdX a cA (tA u 17 i x) := rfl
theorem wdX_o28 (a : Nat → Nat) (cA : ClassId) (u : tS) : (wdX a cA u)[28]? = some (a 28, .inl (cA, 601, .inl (u.2 18))) := rfl
theorem wdX_a18 (a : Nat → Nat) (cA : ClassId) (u : tS) (i x : Int32) : (wdX a cA u).set 28 (a 28, .inl (cA, 601, .inl (upd (u.2 18) i.toNatClampNeg x))) = wdX a cA (tA u 18 i x) := rfl
theorem wdX_o29 (a : Nat → Nat) (cA : ClassId) (u : tS) : (wdX a cA u)[29]? = some (a 29, .inl (cA, 601, .inl (u.2 19))) := rfl
theorem wdX_a19 (a : Nat → Nat) (cA : ClassId) (u : tS) (i x : Int32) : (wdX a cA u).set 29 (a 29, .inl (cA, 601, .inl (upd (u.2 19) i.toNatClampNeg x))) = wdX a cA (tA u 19 i x) := rfl
theorem wdX_o30 (a : Nat → Nat) (cA : ClassId) (u : tS) : (wdX a cA u)[30]? = some (a 30, .inl (cA, 601, .inl (u.2 20))) := rfl
theorem wdX_a20 (a : Nat → Nat) (cA : ClassId) (u : tS) (i x : Int32) : (wdX a cA u).set 30 (a 30, .inl (cA, 601, .inl (upd (u.2 20) i.toNatClampNeg x))) = wdX a cA (tA u 20 i x) := rfl
theorem wdX_o31 (a : Nat → Nat) (cA : ClassId) (u : tS) : (wdX a cA u)[31]? = some (a 31, .inl (cA, 24, .inl (u.2 21))) := rfl
theorem wdX_a21 (a : Nat → Nat) (cA : ClassId) (u : tS) (i x : Int32) : (wdX a cA u).set 31 (a 31, .inl (cA, 24, .inl (upd (u.2 21) i.toNatClampNeg x))) = wdX a cA (tA u 21 i x) := rfl
theorem wdX_o32 (a : Nat → Nat) (cA : ClassId) (u : tS) : (wdX a cA u)[32]? = some (a 32, .inl (cA, 24, .inl (u.2 22))) := rfl
theorem wdX_a22 (a : Nat → Nat) (cA : ClassId) (u : tS) (i x : Int32) : (wdX a cA u).set 32 (a 32, .inl (cA, 24, .inl (upd (u.2 22) i.toNatClampNeg x))) = wdX a cA (tA u 22 i x) := rfl
theorem wdX_o33 (a : Nat → Nat) (cA : ClassId) (u : tS) : (wdX a cA u)[33]? = some (a 33, .inl (cA, 24, .inl (u.2 23))) := rfl
theorem wdX_a23 (a : Nat → Nat) (cA : ClassId) (u : tS) (i x : Int32) : (wdX a cA u).set 33 (a 33, .inl (cA, 24, .inl (upd (u.2 23) i.toNatClampNeg x))) = wdX a cA (tA u 23 i x) := rfl
theorem wdX_o34 (a : Nat → Nat) (cA : ClassId) (u : tS) : (wdX a cA u)[34]? = some (a 34, .inl (cA, 24, .inl (u.2 24))) := rfl
theorem wdX_a24 (a : Nat → Nat) (cA : ClassId) (u : tS) (i x : Int32) : (wdX a cA u).set 34 (a 34, .inl (cA, 24, .inl (upd (u.2 24) i.toNatClampNeg x))) = wdX a cA (tA u 24 i x) := rfl
theorem wdX_y13_15 (a : Nat → Nat) (cA : ClassId) (u : tS) : (wdX a cA u).set 25 (a 25, .inl (cA, 12, .inl (va_cpy (u.2 13) (u.2 15) 0 0 12))) = wdX a cA (tY u 13 15 12) := rfl
theorem wdX_y14_16 (a : Nat → Nat) (cA : ClassId) (u : tS) : (wdX a cA u).set 26 (a 26, .inl (cA, 12, .inl (va_cpy (u.2 14) (u.2 16) 0 0 12))) = wdX a cA (tY u 14 16 12) := rfl
end
section
def w_J_fill_5 (post : tS → Prop) : Nat → Int32 → Int32 → Int32 → tS → Prop
  | 0 => fun _ _ _ _ => False
  | n + 1 => fun x1 x2 x3 u => ((x3 ≤ x2 → (post u)) ∧ (¬ x3 ≤ x2 → (vp_in x2 144 ∧ (w_J_fill_5 post n x1 (x2 + 1) x3 (tA u 12 x2 x1)))))
def w_J_fill (post : tS → Prop) (x1 : Int32) (u : tS) : Prop := (∃ k, w_J_fill_5 post k x1 0 144 u)
set_option maxRecDepth 100000 in
set_option maxHeartbeats 4000000 in
theorem k_J_fill_5 {p : Program} {l : Launch} {e : Env} {s : State} {m : MethodId} {args : Array Value} {below : List Frame} {meth : Method} {c : Code} {dC : Nat → ClassId} {dI : Nat → Nat → Nat} {cA : ClassId} {a : Nat → Nat} {A : Nat → Prop} (hC : tC p s m meth c args b_J_fill 4 none wsA R_J A) (post : tS → Prop) : ∀ n : Nat, ∀ (x1 x2 x3 : Int32) (u : tS) (H : Heap) (locs : List Loc) (ls : Array Slot), w_J_fill_5 post n x1 x2 x3 u → tX (dC, dI) twCl [(cA, .int)] A s H locs (wdX a cA u) → lv_has ls 4 [(0, .ref (a 22)), (1, .int x1), (2, .int x2), (3, .int x3)] → W p l e ({ frames := 0, cells := 0, slots := 0, locals := 0 }) s m args below meth c H locs 0 0 (MQ below (va_Qv post (tB (dC, dI) twCl [(cA, .int)] A (wdX a cA)) A) args s 0 0 A) (F0 m 5 ls []) := by
  obtain ⟨hx, hb, hr, hml, hown, hts, hlocks, hA, hN⟩ := id hC
  intro n
  induction n with
  | zero => intro x1 x2 x3 u H locs ls hw; exact False.elim hw
  | succ n ih =>
    intro x1 x2 x3 u H locs ls hw hI hl
    refine lv_iload_n hx hb d_J_fill_5 rfl (lv_at hl 2 rfl) ?_
    refine lv_iload_n hx hb d_J_fill_6 rfl (lv_at hl 3 rfl) ?_
    refine lv_icmp_ge (tgt := 20) hx hb d_J_fill_7 (by decide) (fun hc => ?_) (fun hc => ?_)
    · have hw := hw.1 hc
      exact tr_vret hx hb hr hlocks hI hw d_J_fill_20
    · have hw := hw.2 hc
      refine lv_aload_n hx hb d_J_fill_10 rfl (lv_at hl 0 rfl) ?_
      refine lv_iload_n hx hb d_J_fill_11 rfl (lv_at hl 2 rfl) ?_
      refine lv_iload_n hx hb d_J_fill_12 rfl (lv_at hl 1 rfl) ?_
      obtain ⟨hi, hw⟩ := hw
      refine tr_iast (w := wdX a cA) hx hb hI 22 0 12 (wdX_o22 a cA _) rfl (wdX_a12 a cA _ _ _) hi d_J_fill_13 (fun H locs hI => ?_)
      refine lv_iinc (v := (x2 + 1)) (lv' := [(2, .int (x2 + 1)), (0, .ref (a 22)), (1, .int x1), (3, .int x3)]) hx hb d_J_fill_14 hl (k := 2) rfl rfl (by decide) rfl (fun ls hl => ?_)
      refine lv_goto (tgt := 5) hx hb d_J_fill_17 (by decide) ?_
      exact ih _ _ _ _ _ _ ls hw hI (lv_sub hl [1, 2, 0, 3] rfl)
set_option maxRecDepth 100000 in
set_option maxHeartbeats 4000000 in
theorem c_J_fill (l : Launch) (dC : Nat → ClassId) (dI : Nat → Nat → Nat) (cA : ClassId) (a : Nat → Nat) (u : tS) (x1 : Int32) (post : tS → Prop) (sz : Nat) : Met l y_J_fill ws_J_fill ({ frames := 0, cells := 0, slots := 0, locals := 0 }) (va_Pc [.ref (a 22), .int x1] (tP (dC, dI) twCl [(cA, .int)] (wdX a cA) u sz (w_J_fill post x1 u))) (va_Qv post (tB (dC, dI) twCl [(cA, .int)] (va_A (wdX a cA u) sz) (wdX a cA)) (va_A (wdX a cA u) sz)) 0 0 (va_A (wdX a cA u) sz) := by
  refine Met.ofW (cc := b_J_fill) (maxL := 4) (ret := none) (by decide) rfl ?_
  intro p e s m args below meth c s₁ B hml hv
  obtain ⟨rfl, hsz, hP, hK, hD0, hN, hw⟩ := hv
  have hx := B.exec
  have hb := B.bytes
  have hr := B.returns
  have hts : ∀ w ∈ wsA, w.before _ s = true := fun w h => atoms_spec (ws := ws_J_fill) B.pre w (List.mem_cons_of_mem _ h)
  have hown : s.vm.findClass R_J = some m.cls := findClass_of_methodNamed B.named
  have hlocks := B.notSynchronized
  subst hsz
  have hD := hD0.self (sz := s.heap.size)
  generalize hAe : va_A (wdX a cA u) s.heap.size = A at hD ⊢
  have hA : ∀ q : Nat, s.heap.size ≤ q → A q := fun q h => by rw [← hAe]; exact Or.inr h
  have hS : va_S A s.heap s.heap [] := va_S.rf
  have hI : tX (dC, dI) twCl [(cA, .int)] A s s.heap [] (wdX a cA u) := ⟨hK, hP, hD, hS⟩
  have hC : tC p s m meth c ([.ref (a 22), .int x1] : List Value).toArray b_J_fill 4 none wsA R_J A := ⟨hx, hb, hr, hml, hown, hts, hlocks, hA, hN⟩
  have hl := lv_entry ([.ref (a 22), .int x1]) (n := 4) (Nat.le_of_ble_eq_true rfl)
  rw [lg_entry_eq]
  generalize (lg_sl ([.ref (a 22), .int x1]) ++ List.replicate (4 - (lg_sl ([.ref (a 22), .int x1])).length) Slot.unset).toArray = ls at hl ⊢
  have hl : lv_has ls 4 [(0, .ref (a 22)), (1, .int x1)] := hl
  have hw : (∃ k, w_J_fill_5 post k x1 0 144 u) := hw
  refine lv_iconst (v := 0) hx hb d_J_fill_0 (by decide) ?_
  refine lv_istore_n (lv' := [(2, .int 0), (0, .ref (a 22)), (1, .int x1)]) hx hb d_J_fill_1 rfl hl (by decide) rfl (fun ls hl => ?_)
  refine lv_aload_n hx hb d_J_fill_2 rfl (lv_at hl 1 rfl) ?_
  refine va_alen (D := (dC, dI)) (v := 144) hx hb hI.1 hI.2.1 22 0 (wdX_o22 a cA _) rfl rfl d_J_fill_3 ?_
  refine lv_istore_n (lv' := [(3, .int 144), (2, .int 0), (0, .ref (a 22)), (1, .int x1)]) hx hb d_J_fill_4 rfl hl (by decide) rfl (fun ls hl => ?_)
  obtain ⟨k, hw⟩ := hw
  exact k_J_fill_5 hC post k _ _ _ _ _ _ ls hw hI (lv_sub hl [2, 3, 1, 0] rfl)
def w_Wa_empty (post : tS → Prop) (u : tS) : Prop := (w_J_fill (fun u11 => (post u11)) 1000000 (tI u 3 0))
set_option maxRecDepth 100000 in
set_option maxHeartbeats 4000000 in
theorem c_Wa_empty (l : Launch) (dC : Nat → ClassId) (dI : Nat → Nat → Nat) (cA : ClassId) (a : Nat → Nat) (u : tS) (post : tS → Prop) (sz : Nat) : Met l y_Wa_empty ws_Wa_empty ({ frames := 1, cells := 0, slots := 0, locals := 23 }) (va_Pc [.ref (a 4)] (tP (dC, dI) twCl [(cA, .int)] (wdX a cA) u sz (w_Wa_empty post u))) (va_Qv post (tB (dC, dI) twCl [(cA, .int)] (va_A (wdX a cA u) sz) (wdX a cA)) (va_A (wdX a cA u) sz)) 0 0 (va_A (wdX a cA u) sz) := by
  refine Met.ofW (cc := b_Wa_empty) (maxL := 1) (ret := none) (by decide) rfl ?_
  intro p e s m args below meth c s₁ B hml hv
  obtain ⟨rfl, hsz, hP, hK, hD0, hN, hw⟩ := hv
  have hx := B.exec
  have hb := B.bytes
  have hr := B.returns
  have hts : ∀ w ∈ wsA, w.before _ s = true := fun w h => atoms_spec (ws := ws_Wa_empty) B.pre w (List.mem_cons_of_mem _ h)
  have hown : s.vm.findClass R_Wa = some m.cls := findClass_of_methodNamed B.named
  have hlocks := B.notSynchronized
  subst hsz
  have hD := hD0.self (sz := s.heap.size)
  generalize hAe : va_A (wdX a cA u) s.heap.size = A at hD ⊢
  have hA : ∀ q : Nat, s.heap.size ≤ q → A q := fun q h => by rw [← hAe]; exact Or.inr h
  have hS : va_S A s.heap s.heap [] := va_S.rf
  have hI : tX (dC, dI) twCl [(cA, .int)] A s s.heap [] (wdX a cA u) := ⟨hK, hP, hD, hS⟩
  have hC : tC p s m meth c ([.ref (a 4)] : List Value).toArray b_Wa_empty 1 none wsA R_Wa A := ⟨hx, hb, hr, hml, hown, hts, hlocks, hA, hN⟩
  have hl := lv_entry ([.ref (a 4)]) (n := 1) (Nat.le_of_ble_eq_true rfl)
  rw [lg_entry_eq]
  generalize (lg_sl ([.ref (a 4)]) ++ List.replicate (1 - (lg_sl ([.ref (a 4)])).length) Slot.unset).toArray = ls at hl ⊢
  have hl : lv_has ls 1 [(0, .ref (a 4))] := hl
  have hw : (w_J_fill (fun u11 => (post u11)) 1000000 (tI u 3 0)) := hw
  refine lv_aload_n hx hb d_Wa_empty_0 rfl (lv_at hl 0 rfl) ?_
  refine lv_iconst (v := 0) hx hb d_Wa_empty_1 (by decide) ?_
  refine tr_put (C := R_Wa) (T := F_Wa) (N := 5) (w := wdX a cA) hx hb hts in_Wa ft_Wa ft_Wa_ok fn_Wa hown hI 4 3 (wdX_o4 a cA _) rfl 0 (by decide) (hts _ wA_137) rfl (by decide +kernel) (Nat.le_of_ble_eq_true rfl) (wdX_i3 a cA _ _) d_Wa_empty_2 (fun H locs hI => ?_)
  refine lv_aload_n hx hb d_Wa_empty_5 rfl (lv_at hl 0 rfl) ?_
  refine va_get (D := (dC, dI)) (C := R_Wa) (T := F_Wa) (N := 5) hx hb hts in_Wa hown hI.1 hI.2.1 4 (wdX_o4 a cA _) rfl 4 (by decide) (hts _ wA_148) (fun _ h9 => h9) rfl d_Wa_empty_6 ?_
  refine lv_ldc (v := 1000000) hx hb hown (hts _ wA_133) d_Wa_empty_9 ?_
  refine tr_gov (w := wdX a cA) hI hA (va_runS (As := [.ref (a 22), .int 1000000]) (rest := []) ⟨hx, hb, hml, hown, hts⟩ (c_J_fill l dC dI cA a _ _ _ _) ⟨callB_of 2 hts (wsA_good wA_136) rfl rfl rfl (hts _ wA_35) (hts _ wA_134) (by decide +kernel) ⟨Nat.le_of_ble_eq_true rfl, Nat.le_of_ble_eq_true rfl⟩, hts _ wA_135⟩ (tr_preS hI hN hw) rfl rfl hl.1 rfl (lv_room (Nat.le_of_ble_eq_true rfl)) d_Wa_empty_11 ⟨Nat.zero_le _, Nat.zero_le _⟩) (fun u11 H locs hw hI => ?_)
  exact tr_vret hx hb hr hlocks hI hw d_Wa_empty_14
def w_Ne_empty (post : tS → Prop) (u : tS) : Prop := (w_Wa_empty (fun u25 => (post u25)) (tI (tI (tI u 0 0) 1 0) 2 0))
set_option maxRecDepth 100000 in
set_option maxHeartbeats 4000000 in
theorem c_Ne_empty (l : Launch) (dC : Nat → ClassId) (dI : Nat → Nat → Nat) (cA : ClassId) (a : Nat → Nat) (u : tS) (post : tS → Prop) (sz : Nat) : Met l y_Ne_empty ws_Ne_empty ({ frames := 2, cells := 0, slots := 0, locals := 43 }) (va_Pc [.ref (a 1)] (tP (dC, dI) twCl [(cA, .int)] (wdX a cA) u sz (w_Ne_empty post u))) (va_Qv post (tB (dC, dI) twCl [(cA, .int)] (va_A (wdX a cA u) sz) (wdX a cA)) (va_A (wdX a cA u) sz)) 0 0 (va_A (wdX a cA u) sz) := by
  refine Met.ofW (cc := b_Ne_empty) (maxL := 1) (ret := none) (by decide) rfl ?_
  intro p e s m args below meth c s₁ B hml hv
  obtain ⟨rfl, hsz, hP, hK, hD0, hN, hw⟩ := hv
  have hx := B.exec
  have hb := B.bytes
  have hr := B.returns
  have hts : ∀ w ∈ wsA, w.before _ s = true := fun w h => atoms_spec (ws := ws_Ne_empty) B.pre w (List.mem_cons_of_mem _ h)
  have hown : s.vm.findClass R_Ne = some m.cls := findClass_of_methodNamed B.named
  have hlocks := B.notSynchronized
  subst hsz
  have hD := hD0.self (sz := s.heap.size)
  generalize hAe : va_A (wdX a cA u) s.heap.size = A at hD ⊢
  have hA : ∀ q : Nat, s.heap.size ≤ q → A q := fun q h => by rw [← hAe]; exact Or.inr h
  have hS : va_S A s.heap s.heap [] := va_S.rf
  have hI : tX (dC, dI) twCl [(cA, .int)] A s s.heap [] (wdX a cA u) := ⟨hK, hP, hD, hS⟩
  have hC : tC p s m meth c ([.ref (a 1)] : List Value).toArray b_Ne_empty 1 none wsA R_Ne A := ⟨hx, hb, hr, hml, hown, hts, hlocks, hA, hN⟩
  have hl := lv_entry ([.ref (a 1)]) (n := 1) (Nat.le_of_ble_eq_true rfl)
  rw [lg_entry_eq]
  generalize (lg_sl ([.ref (a 1)]) ++ List.replicate (1 - (lg_sl ([.ref (a 1)])).length) Slot.unset).toArray = ls at hl ⊢
  have hl : lv_has ls 1 [(0, .ref (a 1))] := hl
  have hw : (w_Wa_empty (fun u25 => (post u25)) (tI (tI (tI u 0 0) 1 0) 2 0)) := hw
  refine lv_aload_n hx hb d_Ne_empty_0 rfl (lv_at hl 0 rfl) ?_
  refine lv_iconst (v := 0) hx hb d_Ne_empty_1 (by decide) ?_
  refine tr_put (C := R_Ne) (T := F_Ne) (N := 5) (w := wdX a cA) hx hb hts in_Ne ft_Ne ft_Ne_ok fn_Ne hown hI 1 0 (wdX_o1 a cA _) rfl 0 (by decide) (hts _ wA_160) rfl (by decide +kernel) (Nat.le_of_ble_eq_true rfl) (wdX_i0 a cA _ _) d_Ne_empty_2 (fun H locs hI => ?_)
  refine lv_aload_n hx hb d_Ne_empty_5 rfl (lv_at hl 0 rfl) ?_
  refine va_get (D := (dC, dI)) (C := R_Ne) (T := F_Ne) (N := 5) hx hb hts in_Ne hown hI.1 hI.2.1 1 (wdX_o1 a cA _) rfl 2 (by decide) (hts _ wA_166) (fun _ h9 => h9) rfl d_Ne_empty_6 ?_
  refine lv_iconst (v := 0) hx hb d_Ne_empty_9 (by decide) ?_
  refine tr_put (C := R_Ri) (T := F_Ri) (N := 7) (w := wdX a cA) hx hb hts in_Ri ft_Ri ft_Ri_ok fn_Ri hown hI 2 1 (wdX_o2 a cA _) rfl 0 (by decide) (hts _ wA_65) rfl (by decide +kernel) (Nat.le_of_ble_eq_true rfl) (wdX_i1 a cA _ _) d_Ne_empty_10 (fun H locs hI => ?_)
  refine lv_aload_n hx hb d_Ne_empty_13 rfl (lv_at hl 0 rfl) ?_
  refine va_get (D := (dC, dI)) (C := R_Ne) (T := F_Ne) (N := 5) hx hb hts in_Ne hown hI.1 hI.2.1 1 (wdX_o1 a cA _) rfl 3 (by decide) (hts _ wA_171) (fun _ h9 => h9) rfl d_Ne_empty_14 ?_
  refine lv_iconst (v := 0) hx hb d_Ne_empty_17 (by decide) ?_
  refine tr_put (C := R_Bo) (T := F_Bo) (N := 3) (w := wdX a cA) hx hb hts in_Bo ft_Bo ft_Bo_ok fn_Bo hown hI 3 2 (wdX_o3 a cA _) rfl 0 (by decide) (hts _ wA_113) rfl (by decide +kernel) (Nat.le_of_ble_eq_true rfl) (wdX_i2 a cA _ _) d_Ne_empty_18 (fun H locs hI => ?_)
  refine lv_aload_n hx hb d_Ne_empty_21 rfl (lv_at hl 0 rfl) ?_
  refine va_get (D := (dC, dI)) (C := R_Ne) (T := F_Ne) (N := 5) hx hb hts in_Ne hown hI.1 hI.2.1 1 (wdX_o1 a cA _) rfl 4 (by decide) (hts _ wA_175) (fun _ h9 => h9) rfl d_Ne_empty_22 ?_
  refine tr_gov (w := wdX a cA) hI hA (va_runV (As := []) (rest := []) ⟨hx, hb, hml, hown, hts⟩ (c_Wa_empty l dC dI cA a _ _ _) (cwV 0 hts (wsA_goodV wA_291 wA_292 wA_293 wA_34 wA_294) rfl rfl rfl (by decide +kernel) ⟨Nat.le_of_ble_eq_true rfl, Nat.le_of_ble_eq_true rfl⟩) (tr_preV (ci := 4) (q0 := 4) hI rfl (wdX_o4 a cA _) rfl hN hw) rfl rfl hl.1 rfl (lv_room (Nat.le_of_ble_eq_true rfl)) d_Ne_empty_25 ⟨Nat.zero_le _, Nat.zero_le _⟩) (fun u25 H locs hw hI => ?_)
  exact tr_vret hx hb hr hlocks hI hw d_Ne_empty_28
def w_T_clear (post : Int32 → tS → Prop) (u : tS) : Prop := (w_Ne_empty (fun u15 => (post (u.1 1) (tI (tI u15 4 0) 5 0))) u)
set_option maxRecDepth 100000 in
set_option maxHeartbeats 4000000 in
theorem c_T_clear (l : Launch) (dC : Nat → ClassId) (dI : Nat → Nat → Nat) (cA : ClassId) (a : Nat → Nat) (u : tS) (post : Int32 → tS → Prop) (sz : Nat) : Met l y_T_clear ws_T_clear ({ frames := 3, cells := 0, slots := 0, locals := 63 }) (va_Pc [.ref (a 0)] (tP (dC, dI) twCl [(cA, .int)] (wdX a cA) u sz (w_T_clear post u))) (va_Qi post (tB (dC, dI) twCl [(cA, .int)] (va_A (wdX a cA u) sz) (wdX a cA)) (va_A (wdX a cA u) sz)) 0 0 (va_A (wdX a cA u) sz) := by
  refine Met.ofW (cc := b_T_clear) (maxL := 2) (ret := (some .int)) (by decide) rfl ?_
  intro p e s m args below meth c s₁ B hml hv
  obtain ⟨rfl, hsz, hP, hK, hD0, hN, hw⟩ := hv
  have hx := B.exec
  have hb := B.bytes
  have hr := B.returns
  have hts : ∀ w ∈ wsA, w.before _ s = true := fun w h => atoms_spec (ws := ws_T_clear) B.pre w (List.mem_cons_of_mem _ h)
  have hown : s.vm.findClass R_T = some m.cls := findClass_of_methodNamed B.named
  have hlocks := B.notSynchronized
  subst hsz
  have hD := hD0.self (sz := s.heap.size)
  generalize hAe : va_A (wdX a cA u) s.heap.size = A at hD ⊢
  have hA : ∀ q : Nat, s.heap.size ≤ q → A q := fun q h => by rw [← hAe]; exact Or.inr h
  have hS : va_S A s.heap s.heap [] := va_S.rf
  have hI : tX (dC, dI) twCl [(cA, .int)] A s s.heap [] (wdX a cA u) := ⟨hK, hP, hD, hS⟩
  have hC : tC p s m meth c ([.ref (a 0)] : List Value).toArray b_T_clear 2 (some .int) wsA R_T A := ⟨hx, hb, hr, hml, hown, hts, hlocks, hA, hN⟩
  have hl := lv_entry ([.ref (a 0)]) (n := 2) (Nat.le_of_ble_eq_true rfl)
  rw [lg_entry_eq]
  generalize (lg_sl ([.ref (a 0)]) ++ List.replicate (2 - (lg_sl ([.ref (a 0)])).length) Slot.unset).toArray = ls at hl ⊢
  have hl : lv_has ls 2 [(0, .ref (a 0))] := hl
  have hw : (w_Ne_empty (fun u15 => (post (u.1 1) (tI (tI u15 4 0) 5 0))) u) := hw
  refine lv_aload_n hx hb d_T_clear_0 rfl (lv_at hl 0 rfl) ?_
  refine va_get (D := (dC, dI)) (C := R_T) (T := F_T) (N := 6) hx hb hts in_T hown hI.1 hI.2.1 0 (wdX_o0 a cA _) rfl 0 (by decide) (hts _ wA_264) (fun _ h9 => h9) rfl d_T_clear_1 ?_
  refine va_get (D := (dC, dI)) (C := R_Ne) (T := F_Ne) (N := 5) hx hb hts in_Ne hown hI.1 hI.2.1 1 (wdX_o1 a cA _) rfl 2 (by decide) (hts _ wA_167) (fun _ h9 => h9) rfl d_T_clear_4 ?_
  refine va_get (D := (dC, dI)) (C := R_Ri) (T := F_Ri) (N := 7) hx hb hts in_Ri hown hI.1 hI.2.1 2 (wdX_o2 a cA _) rfl 0 (by decide) (hts _ wA_64) (fun _ h9 => h9) rfl d_T_clear_7 ?_
  refine lv_istore_n (lv' := [(1, .int (u.1 1)), (0, .ref (a 0))]) hx hb d_T_clear_10 rfl hl (by decide) rfl (fun ls hl => ?_)
  refine lv_aload_n hx hb d_T_clear_11 rfl (lv_at hl 1 rfl) ?_
  refine va_get (D := (dC, dI)) (C := R_T) (T := F_T) (N := 6) hx hb hts in_T hown hI.1 hI.2.1 0 (wdX_o0 a cA _) rfl 0 (by decide) (hts _ wA_264) (fun _ h9 => h9) rfl d_T_clear_12 ?_
  refine tr_gov (w := wdX a cA) hI hA (va_runV (As := []) (rest := []) ⟨hx, hb, hml, hown, hts⟩ (c_Ne_empty l dC dI cA a _ _ _) (cwV 0 hts (wsA_goodV wA_287 wA_288 wA_289 wA_31 wA_290) rfl rfl rfl (by decide +kernel) ⟨Nat.le_of_ble_eq_true rfl, Nat.le_of_ble_eq_true rfl⟩) (tr_preV (ci := 1) (q0 := 1) hI rfl (wdX_o1 a cA _) rfl hN hw) rfl rfl hl.1 rfl (lv_room (Nat.le_of_ble_eq_true rfl)) d_T_clear_15 ⟨Nat.zero_le _, Nat.zero_le _⟩) (fun u15 H locs hw hI => ?_)
  refine lv_aload_n hx hb d_T_clear_18 rfl (lv_at hl 1 rfl) ?_
  refine va_get (D := (dC, dI)) (C := R_T) (T := F_T) (N := 6) hx hb hts in_T hown hI.1 hI.2.1 0 (wdX_o0 a cA _) rfl 4 (by decide) (hts _ wA_268) (fun _ h9 => h9) rfl d_T_clear_19 ?_
  refine lv_iconst (v := 0) hx hb d_T_clear_22 (by decide) ?_
  refine tr_put (C := R_St) (T := F_St) (N := 3) (w := wdX a cA) hx hb hts in_St ft_St ft_St_ok fn_St hown hI 8 4 (wdX_o8 a cA _) rfl 0 (by decide) (hts _ wA_225) rfl (by decide +kernel) (Nat.le_of_ble_eq_true rfl) (wdX_i4 a cA _ _) d_T_clear_23 (fun H locs hI => ?_)
  refine lv_aload_n hx hb d_T_clear_26 rfl (lv_at hl 1 rfl) ?_
  refine va_get (D := (dC, dI)) (C := R_T) (T := F_T) (N := 6) hx hb hts in_T hown hI.1 hI.2.1 0 (wdX_o0 a cA _) rfl 5 (by decide) (hts _ wA_269) (fun _ h9 => h9) rfl d_T_clear_27 ?_
  refine lv_iconst (v := 0) hx hb d_T_clear_30 (by decide) ?_
  refine tr_put (C := R_Ac) (T := F_Ac) (N := 5) (w := wdX a cA) hx hb hts in_Ac ft_Ac ft_Ac_ok fn_Ac hown hI 9 5 (wdX_o9 a cA _) rfl 0 (by decide) (hts _ wA_244) rfl (by decide +kernel) (Nat.le_of_ble_eq_true rfl) (wdX_i5 a cA _ _) d_T_clear_31 (fun H locs hI => ?_)
  refine lv_iload_n hx hb d_T_clear_34 rfl (lv_at hl 0 rfl) ?_
  exact tr_iret hx hb hr hlocks hI hw d_T_clear_35
def w_T_within (post : Int32 → tS → Prop) (x0 : Int32) (x1 : Int32) (x2 : Int32) (u : tS) : Prop := ((x0 < x1 → (post 0 u)) ∧ (¬ x0 < x1 → ((x2 < x0 → (post 0 u)) ∧ (¬ x2 < x0 → (post 1 u)))))
set_option maxRecDepth 100000 in
set_option maxHeartbeats 4000000 in
theorem c_T_within (l : Launch) (dC : Nat → ClassId) (dI : Nat → Nat → Nat) (cA : ClassId) (a : Nat → Nat) (u : tS) (x0 : Int32) (x1 : Int32) (x2 : Int32) (post : Int32 → tS → Prop) (sz : Nat) : Met l y_T_within ws_T_within ({ frames := 0, cells := 0, slots := 0, locals := 0 }) (va_Pc [.int x0, .int x1, .int x2] (tP (dC, dI) twCl [(cA, .int)] (wdX a cA) u sz (w_T_within post x0 x1 x2 u))) (va_Qi post (tB (dC, dI) twCl [(cA, .int)] (va_A (wdX a cA u) sz) (wdX a cA)) (va_A (wdX a cA u) sz)) 0 0 (va_A (wdX a cA u) sz) := by
  refine Met.ofW (cc := b_T_within) (maxL := 3) (ret := (some .boolean)) (by decide) rfl ?_
  intro p e s m args below meth c s₁ B hml hv
  obtain ⟨rfl, hsz, hP, hK, hD0, hN, hw⟩ := hv
  have hx := B.exec
  have hb := B.bytes
  have hr := B.returns
  have hts : ∀ w ∈ wsA, w.before _ s = true := fun w h => atoms_spec (ws := ws_T_within) B.pre w (List.mem_cons_of_mem _ h)
  have hown : s.vm.findClass R_T = some m.cls := findClass_of_methodNamed B.named
  have hlocks := B.notSynchronized
  subst hsz
  have hD := hD0.self (sz := s.heap.size)
  generalize hAe : va_A (wdX a cA u) s.heap.size = A at hD ⊢
  have hA : ∀ q : Nat, s.heap.size ≤ q → A q := fun q h => by rw [← hAe]; exact Or.inr h
  have hS : va_S A s.heap s.heap [] := va_S.rf
  have hI : tX (dC, dI) twCl [(cA, .int)] A s s.heap [] (wdX a cA u) := ⟨hK, hP, hD, hS⟩
  have hC : tC p s m meth c ([.int x0, .int x1, .int x2] : List Value).toArray b_T_within 3 (some .boolean) wsA R_T A := ⟨hx, hb, hr, hml, hown, hts, hlocks, hA, hN⟩
  have hl := lv_entry ([.int x0, .int x1, .int x2]) (n := 3) (Nat.le_of_ble_eq_true rfl)
  rw [lg_entry_eq]
  generalize (lg_sl ([.int x0, .int x1, .int x2]) ++ List.replicate (3 - (lg_sl ([.int x0, .int x1, .int x2])).length) Slot.unset).toArray = ls at hl ⊢
  have hl : lv_has ls 3 [(0, .int x0), (1, .int x1), (2, .int x2)] := hl
  have hw : ((x0 < x1 → (post 0 u)) ∧ (¬ x0 < x1 → ((x2 < x0 → (post 0 u)) ∧ (¬ x2 < x0 → (post 1 u))))) := hw
  refine lv_iload_n hx hb d_T_within_0 rfl (lv_at hl 0 rfl) ?_
  refine lv_iload_n hx hb d_T_within_1 rfl (lv_at hl 1 rfl) ?_
  refine lv_icmp_lt (tgt := 14) hx hb d_T_within_2 (by decide) (fun hc => ?_) (fun hc => ?_)
  · have hw := hw.1 hc
    refine lv_iconst (v := 0) hx hb d_T_within_14 (by decide) ?_
    exact tr_zret hx hb hr hlocks hI rfl hw d_T_within_15
  · have hw := hw.2 hc
    refine lv_iload_n hx hb d_T_within_5 rfl (lv_at hl 0 rfl) ?_
    refine lv_iload_n hx hb d_T_within_6 rfl (lv_at hl 2 rfl) ?_
    refine lv_icmp_gt (tgt := 14) hx hb d_T_within_7 (by decide) (fun hc => ?_) (fun hc => ?_)
    · have hw := hw.1 hc
      refine lv_iconst (v := 0) hx hb d_T_within_14 (by decide) ?_
      exact tr_zret hx hb hr hlocks hI rfl hw d_T_within_15
    · have hw := hw.2 hc
      refine lv_iconst (v := 1) hx hb d_T_within_10 (by decide) ?_
      refine lv_goto (tgt := 15) hx hb d_T_within_11 (by decide) ?_
      exact tr_zret hx hb hr hlocks hI rfl hw d_T_within_15
def w_T_stop (post : Int32 → tS → Prop) (x1 : Int32) (u : tS) : Prop := (w_T_within (fun r4 u4 => ((r4 = 0 → (post (-2) u4)) ∧ (¬ r4 = 0 → (((u4.1 0) < 12 → (vp_in (u4.1 0) 12 ∧ (post (((tI (tA u4 0 (u4.1 0) x1) 0 (((tA u4 0 (u4.1 0) x1).1 0) + 1)).1 0) - 1) (tI (tA u4 0 (u4.1 0) x1) 0 (((tA u4 0 (u4.1 0) x1).1 0) + 1))))) ∧ (¬ (u4.1 0) < 12 → (post (-3) u4)))))) x1 0 60 u)
set_option maxRecDepth 100000 in
set_option maxHeartbeats 4000000 in
theorem c_T_stop (l : Launch) (dC : Nat → ClassId) (dI : Nat → Nat → Nat) (cA : ClassId) (a : Nat → Nat) (u : tS) (x1 : Int32) (post : Int32 → tS → Prop) (sz : Nat) : Met l y_T_stop ws_T_stop ({ frames := 1, cells := 0, slots := 0, locals := 22 }) (va_Pc [.ref (a 0), .int x1] (tP (dC, dI) twCl [(cA, .int)] (wdX a cA) u sz (w_T_stop post x1 u))) (va_Qi post (tB (dC, dI) twCl [(cA, .int)] (va_A (wdX a cA u) sz) (wdX a cA)) (va_A (wdX a cA u) sz)) 0 0 (va_A (wdX a cA u) sz) := by
  refine Met.ofW (cc := b_T_stop) (maxL := 2) (ret := (some .int)) (by decide) rfl ?_
  intro p e s m args below meth c s₁ B hml hv
  obtain ⟨rfl, hsz, hP, hK, hD0, hN, hw⟩ := hv
  have hx := B.exec
  have hb := B.bytes
  have hr := B.returns
  have hts : ∀ w ∈ wsA, w.before _ s = true := fun w h => atoms_spec (ws := ws_T_stop) B.pre w (List.mem_cons_of_mem _ h)
  have hown : s.vm.findClass R_T = some m.cls := findClass_of_methodNamed B.named
  have hlocks := B.notSynchronized
  subst hsz
  have hD := hD0.self (sz := s.heap.size)
  generalize hAe : va_A (wdX a cA u) s.heap.size = A at hD ⊢
  have hA : ∀ q : Nat, s.heap.size ≤ q → A q := fun q h => by rw [← hAe]; exact Or.inr h
  have hS : va_S A s.heap s.heap [] := va_S.rf
  have hI : tX (dC, dI) twCl [(cA, .int)] A s s.heap [] (wdX a cA u) := ⟨hK, hP, hD, hS⟩
  have hC : tC p s m meth c ([.ref (a 0), .int x1] : List Value).toArray b_T_stop 2 (some .int) wsA R_T A := ⟨hx, hb, hr, hml, hown, hts, hlocks, hA, hN⟩
  have hl := lv_entry ([.ref (a 0), .int x1]) (n := 2) (Nat.le_of_ble_eq_true rfl)
  rw [lg_entry_eq]
  generalize (lg_sl ([.ref (a 0), .int x1]) ++ List.replicate (2 - (lg_sl ([.ref (a 0), .int x1])).length) Slot.unset).toArray = ls at hl ⊢
  have hl : lv_has ls 2 [(0, .ref (a 0)), (1, .int x1)] := hl
  have hw : (w_T_within (fun r4 u4 => ((r4 = 0 → (post (-2) u4)) ∧ (¬ r4 = 0 → (((u4.1 0) < 12 → (vp_in (u4.1 0) 12 ∧ (post (((tI (tA u4 0 (u4.1 0) x1) 0 (((tA u4 0 (u4.1 0) x1).1 0) + 1)).1 0) - 1) (tI (tA u4 0 (u4.1 0) x1) 0 (((tA u4 0 (u4.1 0) x1).1 0) + 1))))) ∧ (¬ (u4.1 0) < 12 → (post (-3) u4)))))) x1 0 60 u) := hw
  refine lv_iload_n hx hb d_T_stop_0 rfl (lv_at hl 1 rfl) ?_
  refine lv_iconst (v := 0) hx hb d_T_stop_1 (by decide) ?_
  refine lv_bipush (v := 60) hx hb d_T_stop_2 (by decide) ?_
  refine tr_goi (w := wdX a cA) hI hA (va_runS (As := [.int x1, .int 0, .int 60]) (rest := []) ⟨hx, hb, hml, hown, hts⟩ (c_T_within l dC dI cA a _ _ _ _ _ _) ⟨callB_of 3 hts (wsA_good wA_301) rfl rfl rfl (hts _ wA_30) (hts _ wA_299) (by decide +kernel) ⟨Nat.le_of_ble_eq_true rfl, Nat.le_of_ble_eq_true rfl⟩, hts _ wA_300⟩ (tr_preS hI hN hw) rfl rfl hl.1 rfl (lv_room (Nat.le_of_ble_eq_true rfl)) d_T_stop_4 ⟨Nat.zero_le _, Nat.zero_le _⟩) (fun r4 u4 H locs hw hI => ?_)
  refine lv_if_ne (tgt := 13) hx hb d_T_stop_7 (by decide) (fun hc => ?_) (fun hc => ?_)
  · have hw := hw.2 hc
    refine lv_aload_n hx hb d_T_stop_13 rfl (lv_at hl 0 rfl) ?_
    refine va_get (D := (dC, dI)) (C := R_T) (T := F_T) (N := 6) hx hb hts in_T hown hI.1 hI.2.1 0 (wdX_o0 a cA _) rfl 0 (by decide) (hts _ wA_264) (fun _ h9 => h9) rfl d_T_stop_14 ?_
    refine va_get (D := (dC, dI)) (C := R_Ne) (T := F_Ne) (N := 5) hx hb hts in_Ne hown hI.1 hI.2.1 1 (wdX_o1 a cA _) rfl 0 (by decide) (hts _ wA_161) (fun _ h9 => h9) rfl d_T_stop_17 ?_
    refine lv_bipush (v := 12) hx hb d_T_stop_20 (by decide) ?_
    refine lv_icmp_lt (tgt := 28) hx hb d_T_stop_22 (by decide) (fun hc => ?_) (fun hc => ?_)
    · have hw := hw.1 hc
      refine lv_aload_n hx hb d_T_stop_28 rfl (lv_at hl 0 rfl) ?_
      refine va_get (D := (dC, dI)) (C := R_T) (T := F_T) (N := 6) hx hb hts in_T hown hI.1 hI.2.1 0 (wdX_o0 a cA _) rfl 0 (by decide) (hts _ wA_264) (fun _ h9 => h9) rfl d_T_stop_29 ?_
      refine va_get (D := (dC, dI)) (C := R_Ne) (T := F_Ne) (N := 5) hx hb hts in_Ne hown hI.1 hI.2.1 1 (wdX_o1 a cA _) rfl 1 (by decide) (hts _ wA_164) (fun _ h9 => h9) rfl d_T_stop_32 ?_
      refine lv_aload_n hx hb d_T_stop_35 rfl (lv_at hl 0 rfl) ?_
      refine va_get (D := (dC, dI)) (C := R_T) (T := F_T) (N := 6) hx hb hts in_T hown hI.1 hI.2.1 0 (wdX_o0 a cA _) rfl 0 (by decide) (hts _ wA_264) (fun _ h9 => h9) rfl d_T_stop_36 ?_
      refine va_get (D := (dC, dI)) (C := R_Ne) (T := F_Ne) (N := 5) hx hb hts in_Ne hown hI.1 hI.2.1 1 (wdX_o1 a cA _) rfl 0 (by decide) (hts _ wA_161) (fun _ h9 => h9) rfl d_T_stop_39 ?_
      refine lv_iload_n hx hb d_T_stop_42 rfl (lv_at hl 1 rfl) ?_
      obtain ⟨hi, hw⟩ := hw
      refine tr_iast (w := wdX a cA) hx hb hI 10 0 0 (wdX_o10 a cA _) rfl (wdX_a0 a cA _ _ _) hi d_T_stop_43 (fun H locs hI => ?_)
      refine lv_aload_n hx hb d_T_stop_44 rfl (lv_at hl 0 rfl) ?_
      refine va_get (D := (dC, dI)) (C := R_T) (T := F_T) (N := 6) hx hb hts in_T hown hI.1 hI.2.1 0 (wdX_o0 a cA _) rfl 0 (by decide) (hts _ wA_264) (fun _ h9 => h9) rfl d_T_stop_45 ?_
      refine lv_dup hx hb d_T_stop_48 rfl ?_
      refine va_get (D := (dC, dI)) (C := R_Ne) (T := F_Ne) (N := 5) hx hb hts in_Ne hown hI.1 hI.2.1 1 (wdX_o1 a cA _) rfl 0 (by decide) (hts _ wA_161) (fun _ h9 => h9) rfl d_T_stop_49 ?_
      refine lv_iconst (v := 1) hx hb d_T_stop_52 (by decide) ?_
      refine lv_iadd hx hb d_T_stop_53 ?_
      refine tr_put (C := R_Ne) (T := F_Ne) (N := 5) (w := wdX a cA) hx hb hts in_Ne ft_Ne ft_Ne_ok fn_Ne hown hI 1 0 (wdX_o1 a cA _) rfl 0 (by decide) (hts _ wA_161) rfl (by decide +kernel) (Nat.le_of_ble_eq_true rfl) (wdX_i0 a cA _ _) d_T_stop_54 (fun H locs hI => ?_)
      refine lv_aload_n hx hb d_T_stop_57 rfl (lv_at hl 0 rfl) ?_
      refine va_get (D := (dC, dI)) (C := R_T) (T := F_T) (N := 6) hx hb hts in_T hown hI.1 hI.2.1 0 (wdX_o0 a cA _) rfl 0 (by decide) (hts _ wA_264) (fun _ h9 => h9) rfl d_T_stop_58 ?_
      refine va_get (D := (dC, dI)) (C := R_Ne) (T := F_Ne) (N := 5) hx hb hts in_Ne hown hI.1 hI.2.1 1 (wdX_o1 a cA _) rfl 0 (by decide) (hts _ wA_161) (fun _ h9 => h9) rfl d_T_stop_61 ?_
      refine lv_iconst (v := 1) hx hb d_T_stop_64 (by decide) ?_
      refine lv_isub hx hb d_T_stop_65 ?_
      exact tr_iret hx hb hr hlocks hI hw d_T_stop_66
    · have hw := hw.2 hc
      refine lv_bipush (v := (-3)) hx hb d_T_stop_25 (by decide) ?_
      exact tr_iret hx hb hr hlocks hI hw d_T_stop_27
  · have hw := hw.1 hc
    refine lv_bipush (v := (-2)) hx hb d_T_stop_10 (by decide) ?_
    exact tr_iret hx hb hr hlocks hI hw d_T_stop_12
def w_Ne_hasStop (post : Int32 → tS → Prop) (x1 : Int32) (u : tS) : Prop := (w_T_within (fun r8 u8 => (narrow .boolean (.int r8) = .int r8 ∧ post r8 u8)) x1 0 ((u.1 0) - 1) u)
set_option maxRecDepth 100000 in
set_option maxHeartbeats 4000000 in
theorem c_Ne_hasStop (l : Launch) (dC : Nat → ClassId) (dI : Nat → Nat → Nat) (cA : ClassId) (a : Nat → Nat) (u : tS) (x1 : Int32) (post : Int32 → tS → Prop) (sz : Nat) : Met l y_Ne_hasStop ws_Ne_hasStop ({ frames := 1, cells := 0, slots := 0, locals := 22 }) (va_Pc [.ref (a 1), .int x1] (tP (dC, dI) twCl [(cA, .int)] (wdX a cA) u sz (w_Ne_hasStop post x1 u))) (va_Qi post (tB (dC, dI) twCl [(cA, .int)] (va_A (wdX a cA u) sz) (wdX a cA)) (va_A (wdX a cA u) sz)) 0 0 (va_A (wdX a cA u) sz) := by
  refine Met.ofW (cc := b_Ne_hasStop) (maxL := 2) (ret := (some .boolean)) (by decide) rfl ?_
  intro p e s m args below meth c s₁ B hml hv
  obtain ⟨rfl, hsz, hP, hK, hD0, hN, hw⟩ := hv
  have hx := B.exec
  have hb := B.bytes
  have hr := B.returns
  have hts : ∀ w ∈ wsA, w.before _ s = true := fun w h => atoms_spec (ws := ws_Ne_hasStop) B.pre w (List.mem_cons_of_mem _ h)
  have hown : s.vm.findClass R_Ne = some m.cls := findClass_of_methodNamed B.named
  have hlocks := B.notSynchronized
  subst hsz
  have hD := hD0.self (sz := s.heap.size)
  generalize hAe : va_A (wdX a cA u) s.heap.size = A at hD ⊢
  have hA : ∀ q : Nat, s.heap.size ≤ q → A q := fun q h => by rw [← hAe]; exact Or.inr h
  have hS : va_S A s.heap s.heap [] := va_S.rf
  have hI : tX (dC, dI) twCl [(cA, .int)] A s s.heap [] (wdX a cA u) := ⟨hK, hP, hD, hS⟩
  have hC : tC p s m meth c ([.ref (a 1), .int x1] : List Value).toArray b_Ne_hasStop 2 (some .boolean) wsA R_Ne A := ⟨hx, hb, hr, hml, hown, hts, hlocks, hA, hN⟩
  have hl := lv_entry ([.ref (a 1), .int x1]) (n := 2) (Nat.le_of_ble_eq_true rfl)
  rw [lg_entry_eq]
  generalize (lg_sl ([.ref (a 1), .int x1]) ++ List.replicate (2 - (lg_sl ([.ref (a 1), .int x1])).length) Slot.unset).toArray = ls at hl ⊢
  have hl : lv_has ls 2 [(0, .ref (a 1)), (1, .int x1)] := hl
  have hw : (w_T_within (fun r8 u8 => (narrow .boolean (.int r8) = .int r8 ∧ post r8 u8)) x1 0 ((u.1 0) - 1) u) := hw
  refine lv_iload_n hx hb d_Ne_hasStop_0 rfl (lv_at hl 1 rfl) ?_
  refine lv_iconst (v := 0) hx hb d_Ne_hasStop_1 (by decide) ?_
  refine lv_aload_n hx hb d_Ne_hasStop_2 rfl (lv_at hl 0 rfl) ?_
  refine va_get (D := (dC, dI)) (C := R_Ne) (T := F_Ne) (N := 5) hx hb hts in_Ne hown hI.1 hI.2.1 1 (wdX_o1 a cA _) rfl 0 (by decide) (hts _ wA_160) (fun _ h9 => h9) rfl d_Ne_hasStop_3 ?_
  refine lv_iconst (v := 1) hx hb d_Ne_hasStop_6 (by decide) ?_
  refine lv_isub hx hb d_Ne_hasStop_7 ?_
  refine tr_goi (w := wdX a cA) hI hA (va_runSN (As := [.int x1, .int 0, .int ((u.1 0) - 1)]) (rest := []) ⟨hx, hb, hml, hown, hts⟩ (c_T_within l dC dI cA a _ _ _ _ _ _) ⟨va_cnB 3 hts (wsA_good wA_301) rfl rfl rfl hN.1 (hts _ wA_30) (by decide +kernel) ⟨Nat.le_of_ble_eq_true rfl, Nat.le_of_ble_eq_true rfl⟩, hts _ wA_300, trivial⟩ (tr_preS hI hN hw) rfl rfl hl.1 rfl (lv_room (Nat.le_of_ble_eq_true rfl)) d_Ne_hasStop_8 ⟨Nat.zero_le _, Nat.zero_le _⟩) (fun r8 u8 H locs hw hI => ?_)
  obtain ⟨hn, hw⟩ := hw
  exact tr_zret hx hb hr hlocks hI hn hw d_Ne_hasStop_11
def w_T_change (post : Int32 → tS → Prop) (x1 : Int32) (x2 : Int32) (u : tS) : Prop := (w_Ne_hasStop (fun r5 u5 => ((r5 = 0 → (post (-2) u5)) ∧ (¬ r5 = 0 → (w_T_within (fun r15 u15 => ((r15 = 0 → (post (-2) u15)) ∧ (¬ r15 = 0 → (vp_in x1 12 ∧ (vp_in x1 12 ∧ (post (u15.2 0 x1.toNatClampNeg) (tA u15 0 x1 x2))))))) x2 0 60 u5)))) x1 u)
set_option maxRecDepth 100000 in
set_option maxHeartbeats 4000000 in
theorem c_T_change (l : Launch) (dC : Nat → ClassId) (dI : Nat → Nat → Nat) (cA : ClassId) (a : Nat → Nat) (u : tS) (x1 : Int32) (x2 : Int32) (post : Int32 → tS → Prop) (sz : Nat) : Met l y_T_change ws_T_change ({ frames := 2, cells := 0, slots := 0, locals := 43 }) (va_Pc [.ref (a 0), .int x1, .int x2] (tP (dC, dI) twCl [(cA, .int)] (wdX a cA) u sz (w_T_change post x1 x2 u))) (va_Qi post (tB (dC, dI) twCl [(cA, .int)] (va_A (wdX a cA u) sz) (wdX a cA)) (va_A (wdX a cA u) sz)) 0 0 (va_A (wdX a cA u) sz) := by
  refine Met.ofW (cc := b_T_change) (maxL := 4) (ret := (some .int)) (by decide) rfl ?_
  intro p e s m args below meth c s₁ B hml hv
  obtain ⟨rfl, hsz, hP, hK, hD0, hN, hw⟩ := hv
  have hx := B.exec
  have hb := B.bytes
  have hr := B.returns
  have hts : ∀ w ∈ wsA, w.before _ s = true := fun w h => atoms_spec (ws := ws_T_change) B.pre w (List.mem_cons_of_mem _ h)
  have hown : s.vm.findClass R_T = some m.cls := findClass_of_methodNamed B.named
  have hlocks := B.notSynchronized
  subst hsz
  have hD := hD0.self (sz := s.heap.size)
  generalize hAe : va_A (wdX a cA u) s.heap.size = A at hD ⊢
  have hA : ∀ q : Nat, s.heap.size ≤ q → A q := fun q h => by rw [← hAe]; exact Or.inr h
  have hS : va_S A s.heap s.heap [] := va_S.rf
  have hI : tX (dC, dI) twCl [(cA, .int)] A s s.heap [] (wdX a cA u) := ⟨hK, hP, hD, hS⟩
  have hC : tC p s m meth c ([.ref (a 0), .int x1, .int x2] : List Value).toArray b_T_change 4 (some .int) wsA R_T A := ⟨hx, hb, hr, hml, hown, hts, hlocks, hA, hN⟩
  have hl := lv_entry ([.ref (a 0), .int x1, .int x2]) (n := 4) (Nat.le_of_ble_eq_true rfl)
  rw [lg_entry_eq]
  generalize (lg_sl ([.ref (a 0), .int x1, .int x2]) ++ List.replicate (4 - (lg_sl ([.ref (a 0), .int x1, .int x2])).length) Slot.unset).toArray = ls at hl ⊢
  have hl : lv_has ls 4 [(0, .ref (a 0)), (1, .int x1), (2, .int x2)] := hl
  have hw : (w_Ne_hasStop (fun r5 u5 => ((r5 = 0 → (post (-2) u5)) ∧ (¬ r5 = 0 → (w_T_within (fun r15 u15 => ((r15 = 0 → (post (-2) u15)) ∧ (¬ r15 = 0 → (vp_in x1 12 ∧ (vp_in x1 12 ∧ (post (u15.2 0 x1.toNatClampNeg) (tA u15 0 x1 x2))))))) x2 0 60 u5)))) x1 u) := hw
  refine lv_aload_n hx hb d_T_change_0 rfl (lv_at hl 0 rfl) ?_
  refine va_get (D := (dC, dI)) (C := R_T) (T := F_T) (N := 6) hx hb hts in_T hown hI.1 hI.2.1 0 (wdX_o0 a cA _) rfl 0 (by decide) (hts _ wA_264) (fun _ h9 => h9) rfl d_T_change_1 ?_
  refine lv_iload_n hx hb d_T_change_4 rfl (lv_at hl 1 rfl) ?_
  refine tr_goi (w := wdX a cA) hI hA (va_runV (As := [.int x1]) (rest := []) ⟨hx, hb, hml, hown, hts⟩ (c_Ne_hasStop l dC dI cA a _ _ _ _) (cwV 1 hts (wsA_goodV wA_306 wA_307 wA_308 wA_31 wA_309) rfl rfl rfl (by decide +kernel) ⟨Nat.le_of_ble_eq_true rfl, Nat.le_of_ble_eq_true rfl⟩) (tr_preV (ci := 1) (q0 := 1) hI rfl (wdX_o1 a cA _) rfl hN hw) rfl rfl hl.1 rfl (lv_room (Nat.le_of_ble_eq_true rfl)) d_T_change_5 ⟨Nat.zero_le _, Nat.zero_le _⟩) (fun r5 u5 H locs hw hI => ?_)
  refine lv_if_eq (tgt := 21) hx hb d_T_change_8 (by decide) (fun hc => ?_) (fun hc => ?_)
  · have hw := hw.1 hc
    refine lv_bipush (v := (-2)) hx hb d_T_change_21 (by decide) ?_
    exact tr_iret hx hb hr hlocks hI hw d_T_change_23
  · have hw := hw.2 hc
    refine lv_iload_n hx hb d_T_change_11 rfl (lv_at hl 2 rfl) ?_
    refine lv_iconst (v := 0) hx hb d_T_change_12 (by decide) ?_
    refine lv_bipush (v := 60) hx hb d_T_change_13 (by decide) ?_
    refine tr_goi (w := wdX a cA) hI hA (va_runS (As := [.int x2, .int 0, .int 60]) (rest := []) ⟨hx, hb, hml, hown, hts⟩ (c_T_within l dC dI cA a _ _ _ _ _ _) ⟨callB_of 3 hts (wsA_good wA_301) rfl rfl rfl (hts _ wA_30) (hts _ wA_299) (by decide +kernel) ⟨Nat.le_of_ble_eq_true rfl, Nat.le_of_ble_eq_true rfl⟩, hts _ wA_300⟩ (tr_preS hI hN hw) rfl rfl hl.1 rfl (lv_room (Nat.le_of_ble_eq_true rfl)) d_T_change_15 ⟨Nat.zero_le _, Nat.zero_le _⟩) (fun r15 u15 H locs hw hI => ?_)
    refine lv_if_ne (tgt := 24) hx hb d_T_change_18 (by decide) (fun hc => ?_) (fun hc => ?_)
    · have hw := hw.2 hc
      refine lv_aload_n hx hb d_T_change_24 rfl (lv_at hl 0 rfl) ?_
      refine va_get (D := (dC, dI)) (C := R_T) (T := F_T) (N := 6) hx hb hts in_T hown hI.1 hI.2.1 0 (wdX_o0 a cA _) rfl 0 (by decide) (hts _ wA_264) (fun _ h9 => h9) rfl d_T_change_25 ?_
      refine va_get (D := (dC, dI)) (C := R_Ne) (T := F_Ne) (N := 5) hx hb hts in_Ne hown hI.1 hI.2.1 1 (wdX_o1 a cA _) rfl 1 (by decide) (hts _ wA_164) (fun _ h9 => h9) rfl d_T_change_28 ?_
      refine lv_iload_n hx hb d_T_change_31 rfl (lv_at hl 1 rfl) ?_
      obtain ⟨hi, hw⟩ := hw
      refine va_iald (D := (dC, dI)) hx hb hI.1 hI.2.1 10 0 (wdX_o10 a cA _) rfl hi d_T_change_32 ?_
      refine lv_istore_n (lv' := [(3, .int (u15.2 0 x1.toNatClampNeg)), (0, .ref (a 0)), (1, .int x1), (2, .int x2)]) hx hb d_T_change_33 rfl hl (by decide) rfl (fun ls hl => ?_)
      refine lv_aload_n hx hb d_T_change_34 rfl (lv_at hl 1 rfl) ?_
      refine va_get (D := (dC, dI)) (C := R_T) (T := F_T) (N := 6) hx hb hts in_T hown hI.1 hI.2.1 0 (wdX_o0 a cA _) rfl 0 (by decide) (hts _ wA_264) (fun _ h9 => h9) rfl d_T_change_35 ?_
      refine va_get (D := (dC, dI)) (C := R_Ne) (T := F_Ne) (N := 5) hx hb hts in_Ne hown hI.1 hI.2.1 1 (wdX_o1 a cA _) rfl 1 (by decide) (hts _ wA_164) (fun _ h9 => h9) rfl d_T_change_38 ?_
      refine lv_iload_n hx hb d_T_change_41 rfl (lv_at hl 2 rfl) ?_
      refine lv_iload_n hx hb d_T_change_42 rfl (lv_at hl 3 rfl) ?_
      obtain ⟨hi, hw⟩ := hw
      refine tr_iast (w := wdX a cA) hx hb hI 10 0 0 (wdX_o10 a cA _) rfl (wdX_a0 a cA _ _ _) hi d_T_change_43 (fun H locs hI => ?_)
      refine lv_iload_n hx hb d_T_change_44 rfl (lv_at hl 0 rfl) ?_
      exact tr_iret hx hb hr hlocks hI hw d_T_change_45
    · have hw := hw.1 hc
      refine lv_bipush (v := (-2)) hx hb d_T_change_21 (by decide) ?_
      exact tr_iret hx hb hr hlocks hI hw d_T_change_23
end
section
def w_Ne_hasStops (post : Int32 → tS → Prop) (x1 : Int32) (x2 : Int32) (u : tS) : Prop := (w_Ne_hasStop (fun r2 u2 => ((r2 = 0 → (post 0 u2)) ∧ (¬ r2 = 0 → (w_Ne_hasStop (fun r10 u10 => ((r10 = 0 → (post 0 u10)) ∧ (¬ r10 = 0 → (post 1 u10)))) x2 u2)))) x1 u)
set_option maxRecDepth 100000 in
set_option maxHeartbeats 4000000 in
theorem c_Ne_hasStops (l : Launch) (dC : Nat → ClassId) (dI : Nat → Nat → Nat) (cA : ClassId) (a : Nat → Nat) (u : tS) (x1 : Int32) (x2 : Int32) (post : Int32 → tS → Prop) (sz : Nat) : Met l y_Ne_hasStops ws_Ne_hasStops ({ frames := 2, cells := 0, slots := 0, locals := 43 }) (va_Pc [.ref (a 1), .int x1, .int x2] (tP (dC, dI) twCl [(cA, .int)] (wdX a cA) u sz (w_Ne_hasStops post x1 x2 u))) (va_Qi post (tB (dC, dI) twCl [(cA, .int)] (va_A (wdX a cA u) sz) (wdX a cA)) (va_A (wdX a cA u) sz)) 0 0 (va_A (wdX a cA u) sz) := by
  refine Met.ofW (cc := b_Ne_hasStops) (maxL := 3) (ret := (some .boolean)) (by decide) rfl ?_
  intro p e s m args below meth c s₁ B hml hv
  obtain ⟨rfl, hsz, hP, hK, hD0, hN, hw⟩ := hv
  have hx := B.exec
  have hb := B.bytes
  have hr := B.returns
  have hts : ∀ w ∈ wsA, w.before _ s = true := fun w h => atoms_spec (ws := ws_Ne_hasStops) B.pre w (List.mem_cons_of_mem _ h)
  have hown : s.vm.findClass R_Ne = some m.cls := findClass_of_methodNamed B.named
  have hlocks := B.notSynchronized
  subst hsz
  have hD := hD0.self (sz := s.heap.size)
  generalize hAe : va_A (wdX a cA u) s.heap.size = A at hD ⊢
  have hA : ∀ q : Nat, s.heap.size ≤ q → A q := fun q h => by rw [← hAe]; exact Or.inr h
  have hS : va_S A s.heap s.heap [] := va_S.rf
  have hI : tX (dC, dI) twCl [(cA, .int)] A s s.heap [] (wdX a cA u) := ⟨hK, hP, hD, hS⟩
  have hC : tC p s m meth c ([.ref (a 1), .int x1, .int x2] : List Value).toArray b_Ne_hasStops 3 (some .boolean) wsA R_Ne A := ⟨hx, hb, hr, hml, hown, hts, hlocks, hA, hN⟩
  have hl := lv_entry ([.ref (a 1), .int x1, .int x2]) (n := 3) (Nat.le_of_ble_eq_true rfl)
  rw [lg_entry_eq]
  generalize (lg_sl ([.ref (a 1), .int x1, .int x2]) ++ List.replicate (3 - (lg_sl ([.ref (a 1), .int x1, .int x2])).length) Slot.unset).toArray = ls at hl ⊢
  have hl : lv_has ls 3 [(0, .ref (a 1)), (1, .int x1), (2, .int x2)] := hl
  have hw : (w_Ne_hasStop (fun r2 u2 => ((r2 = 0 → (post 0 u2)) ∧ (¬ r2 = 0 → (w_Ne_hasStop (fun r10 u10 => ((r10 = 0 → (post 0 u10)) ∧ (¬ r10 = 0 → (post 1 u10)))) x2 u2)))) x1 u) := hw
  refine lv_aload_n hx hb d_Ne_hasStops_0 rfl (lv_at hl 0 rfl) ?_
  refine lv_iload_n hx hb d_Ne_hasStops_1 rfl (lv_at hl 1 rfl) ?_
  refine tr_goi (w := wdX a cA) hI hA (va_runV (As := [.int x1]) (rest := []) ⟨hx, hb, hml, hown, hts⟩ (c_Ne_hasStop l dC dI cA a _ _ _ _) (cwV 1 hts (wsA_goodV wA_319 wA_307 wA_308 wA_31 wA_309) rfl rfl rfl (by decide +kernel) ⟨Nat.le_of_ble_eq_true rfl, Nat.le_of_ble_eq_true rfl⟩) (tr_preV (ci := 1) (q0 := 1) hI rfl (wdX_o1 a cA _) rfl hN hw) rfl rfl hl.1 rfl (lv_room (Nat.le_of_ble_eq_true rfl)) d_Ne_hasStops_2 ⟨Nat.zero_le _, Nat.zero_le _⟩) (fun r2 u2 H locs hw hI => ?_)
  refine lv_if_eq (tgt := 20) hx hb d_Ne_hasStops_5 (by decide) (fun hc => ?_) (fun hc => ?_)
  · have hw := hw.1 hc
    refine lv_iconst (v := 0) hx hb d_Ne_hasStops_20 (by decide) ?_
    exact tr_zret hx hb hr hlocks hI rfl hw d_Ne_hasStops_21
  · have hw := hw.2 hc
    refine lv_aload_n hx hb d_Ne_hasStops_8 rfl (lv_at hl 0 rfl) ?_
    refine lv_iload_n hx hb d_Ne_hasStops_9 rfl (lv_at hl 2 rfl) ?_
    refine tr_goi (w := wdX a cA) hI hA (va_runV (As := [.int x2]) (rest := []) ⟨hx, hb, hml, hown, hts⟩ (c_Ne_hasStop l dC dI cA a _ _ _ _) (cwV 1 hts (wsA_goodV wA_319 wA_307 wA_308 wA_31 wA_309) rfl rfl rfl (by decide +kernel) ⟨Nat.le_of_ble_eq_true rfl, Nat.le_of_ble_eq_true rfl⟩) (tr_preV (ci := 1) (q0 := 1) hI rfl (wdX_o1 a cA _) rfl hN hw) rfl rfl hl.1 rfl (lv_room (Nat.le_of_ble_eq_true rfl)) d_Ne_hasStops_10 ⟨Nat.zero_le _, Nat.zero_le _⟩) (fun r10 u10 H locs hw hI => ?_)
    refine lv_if_eq (tgt := 20) hx hb d_Ne_hasStops_13 (by decide) (fun hc => ?_) (fun hc => ?_)
    · have hw := hw.1 hc
      refine lv_iconst (v := 0) hx hb d_Ne_hasStops_20 (by decide) ?_
      exact tr_zret hx hb hr hlocks hI rfl hw d_Ne_hasStops_21
    · have hw := hw.2 hc
      refine lv_iconst (v := 1) hx hb d_Ne_hasStops_16 (by decide) ?_
      refine lv_goto (tgt := 21) hx hb d_Ne_hasStops_17 (by decide) ?_
      exact tr_zret hx hb hr hlocks hI rfl hw d_Ne_hasStops_21
def w_Ri_isOnDay (post : Int32 → tS → Prop) (x1 : Int32) (x2 : Int32) (u : tS) : Prop := (vp_in x1 40 ∧ (((((u.2 5 x1.toNatClampNeg) >>> (x2 &&& 31)) &&& 1) = 1 → (post 1 u)) ∧ (¬ (((u.2 5 x1.toNatClampNeg) >>> (x2 &&& 31)) &&& 1) = 1 → (post 0 u))))
set_option maxRecDepth 100000 in
set_option maxHeartbeats 4000000 in
theorem c_Ri_isOnDay (l : Launch) (dC : Nat → ClassId) (dI : Nat → Nat → Nat) (cA : ClassId) (a : Nat → Nat) (u : tS) (x1 : Int32) (x2 : Int32) (post : Int32 → tS → Prop) (sz : Nat) : Met l y_Ri_isOnDay ws_Ri_isOnDay ({ frames := 0, cells := 0, slots := 0, locals := 0 }) (va_Pc [.ref (a 2), .int x1, .int x2] (tP (dC, dI) twCl [(cA, .int)] (wdX a cA) u sz (w_Ri_isOnDay post x1 x2 u))) (va_Qi post (tB (dC, dI) twCl [(cA, .int)] (va_A (wdX a cA u) sz) (wdX a cA)) (va_A (wdX a cA u) sz)) 0 0 (va_A (wdX a cA u) sz) := by
  refine Met.ofW (cc := b_Ri_isOnDay) (maxL := 3) (ret := (some .boolean)) (by decide) rfl ?_
  intro p e s m args below meth c s₁ B hml hv
  obtain ⟨rfl, hsz, hP, hK, hD0, hN, hw⟩ := hv
  have hx := B.exec
  have hb := B.bytes
  have hr := B.returns
  have hts : ∀ w ∈ wsA, w.before _ s = true := fun w h => atoms_spec (ws := ws_Ri_isOnDay) B.pre w (List.mem_cons_of_mem _ h)
  have hown : s.vm.findClass R_Ri = some m.cls := findClass_of_methodNamed B.named
  have hlocks := B.notSynchronized
  subst hsz
  have hD := hD0.self (sz := s.heap.size)
  generalize hAe : va_A (wdX a cA u) s.heap.size = A at hD ⊢
  have hA : ∀ q : Nat, s.heap.size ≤ q → A q := fun q h => by rw [← hAe]; exact Or.inr h
  have hS : va_S A s.heap s.heap [] := va_S.rf
  have hI : tX (dC, dI) twCl [(cA, .int)] A s s.heap [] (wdX a cA u) := ⟨hK, hP, hD, hS⟩
  have hC : tC p s m meth c ([.ref (a 2), .int x1, .int x2] : List Value).toArray b_Ri_isOnDay 3 (some .boolean) wsA R_Ri A := ⟨hx, hb, hr, hml, hown, hts, hlocks, hA, hN⟩
  have hl := lv_entry ([.ref (a 2), .int x1, .int x2]) (n := 3) (Nat.le_of_ble_eq_true rfl)
  rw [lg_entry_eq]
  generalize (lg_sl ([.ref (a 2), .int x1, .int x2]) ++ List.replicate (3 - (lg_sl ([.ref (a 2), .int x1, .int x2])).length) Slot.unset).toArray = ls at hl ⊢
  have hl : lv_has ls 3 [(0, .ref (a 2)), (1, .int x1), (2, .int x2)] := hl
  have hw : (vp_in x1 40 ∧ (((((u.2 5 x1.toNatClampNeg) >>> (x2 &&& 31)) &&& 1) = 1 → (post 1 u)) ∧ (¬ (((u.2 5 x1.toNatClampNeg) >>> (x2 &&& 31)) &&& 1) = 1 → (post 0 u)))) := hw
  refine lv_aload_n hx hb d_Ri_isOnDay_0 rfl (lv_at hl 0 rfl) ?_
  refine va_get (D := (dC, dI)) (C := R_Ri) (T := F_Ri) (N := 7) hx hb hts in_Ri hown hI.1 hI.2.1 2 (wdX_o2 a cA _) rfl 5 (by decide) (hts _ wA_84) (fun _ h9 => h9) rfl d_Ri_isOnDay_1 ?_
  refine lv_iload_n hx hb d_Ri_isOnDay_4 rfl (lv_at hl 1 rfl) ?_
  obtain ⟨hi, hw⟩ := hw
  refine va_iald (D := (dC, dI)) hx hb hI.1 hI.2.1 15 0 (wdX_o15 a cA _) rfl hi d_Ri_isOnDay_5 ?_
  refine lv_iload_n hx hb d_Ri_isOnDay_6 rfl (lv_at hl 2 rfl) ?_
  refine lv_ishr hx hb d_Ri_isOnDay_7 ?_
  refine lv_iconst (v := 1) hx hb d_Ri_isOnDay_8 (by decide) ?_
  refine lv_iand hx hb d_Ri_isOnDay_9 ?_
  refine lv_iconst (v := 1) hx hb d_Ri_isOnDay_10 (by decide) ?_
  refine lv_icmp_ne (tgt := 18) hx hb d_Ri_isOnDay_11 (by decide) (fun hc => ?_) (fun hc => ?_)
  · have hw := hw.2 hc
    refine lv_iconst (v := 0) hx hb d_Ri_isOnDay_18 (by decide) ?_
    exact tr_zret hx hb hr hlocks hI rfl hw d_Ri_isOnDay_19
  · have hw := hw.1 hc
    refine lv_iconst (v := 1) hx hb d_Ri_isOnDay_14 (by decide) ?_
    refine lv_goto (tgt := 19) hx hb d_Ri_isOnDay_15 (by decide) ?_
    exact tr_zret hx hb hr hlocks hI rfl hw d_Ri_isOnDay_19
def w_Ri_add_51 (post : Int32 → tS → Prop) : Nat → Int32 → Int32 → tS → Prop
  | 0 => fun _ _ _ => False
  | n + 1 => fun x6 x7 u => ((7 ≤ x7 → (post x6 (tI u 1 ((u.1 1) + 1)))) ∧ (¬ 7 ≤ x7 → (w_Ri_isOnDay (fun r75 u75 => ((r75 = 0 → (vp_in ((x6 * 7) + x7) 280 ∧ (w_Ri_add_51 post n x6 (x7 + 1) (tA u75 6 ((x6 * 7) + x7) (-1))))) ∧ (¬ r75 = 0 → (vp_in ((x6 * 7) + x7) 280 ∧ (w_Ri_add_51 post n x6 (x7 + 1) (tA u75 6 ((x6 * 7) + x7) 0)))))) x6 x7 u)))
def w_Ri_add (post : Int32 → tS → Prop) (x1 : Int32) (x2 : Int32) (x3 : Int32) (x4 : Int32) (x5 : Int32) (u : tS) : Prop := (vp_in (u.1 1) 40 ∧ (vp_in (u.1 1) 40 ∧ (vp_in (u.1 1) 40 ∧ (vp_in (u.1 1) 40 ∧ (vp_in (u.1 1) 40 ∧ (∃ k, w_Ri_add_51 post k (u.1 1) 0 (tA (tA (tA (tA (tA u 1 (u.1 1) x1) 2 (u.1 1) x2) 3 (u.1 1) x3) 4 (u.1 1) x4) 5 (u.1 1) x5)))))))
set_option maxRecDepth 100000 in
set_option maxHeartbeats 4000000 in
theorem k_Ri_add_51 {p : Program} {l : Launch} {e : Env} {s : State} {m : MethodId} {args : Array Value} {below : List Frame} {meth : Method} {c : Code} {dC : Nat → ClassId} {dI : Nat → Nat → Nat} {cA : ClassId} {a : Nat → Nat} {A : Nat → Prop} (hC : tC p s m meth c args b_Ri_add 8 (some .int) wsA R_Ri A) (post : Int32 → tS → Prop) : ∀ n : Nat, ∀ (x6 x7 : Int32) (u : tS) (H : Heap) (locs : List Loc) (ls : Array Slot), w_Ri_add_51 post n x6 x7 u → tX (dC, dI) twCl [(cA, .int)] A s H locs (wdX a cA u) → lv_has ls 8 [(0, .ref (a 2)), (6, .int x6), (7, .int x7)] → W p l e ({ frames := 1, cells := 0, slots := 0, locals := 22 }) s m args below meth c H locs 0 0 (MQ below (va_Qi post (tB (dC, dI) twCl [(cA, .int)] A (wdX a cA)) A) args s 0 0 A) (F0 m 51 ls []) := by
  obtain ⟨hx, hb, hr, hml, hown, hts, hlocks, hA, hN⟩ := id hC
  intro n
  induction n with
  | zero => intro x6 x7 u H locs ls hw; exact False.elim hw
  | succ n ih =>
    intro x6 x7 u H locs ls hw hI hl
    refine lv_iload hx hb d_Ri_add_51 (lv_at hl 2 rfl) ?_
    refine lv_bipush (v := 7) hx hb d_Ri_add_53 (by decide) ?_
    refine lv_icmp_ge (tgt := 93) hx hb d_Ri_add_55 (by decide) (fun hc => ?_) (fun hc => ?_)
    · have hw := hw.1 hc
      refine lv_aload_n hx hb d_Ri_add_93 rfl (lv_at hl 0 rfl) ?_
      refine lv_dup hx hb d_Ri_add_94 rfl ?_
      refine va_get (D := (dC, dI)) (C := R_Ri) (T := F_Ri) (N := 7) hx hb hts in_Ri hown hI.1 hI.2.1 2 (wdX_o2 a cA _) rfl 0 (by decide) (hts _ wA_63) (fun _ h9 => h9) rfl d_Ri_add_95 ?_
      refine lv_iconst (v := 1) hx hb d_Ri_add_98 (by decide) ?_
      refine lv_iadd hx hb d_Ri_add_99 ?_
      refine tr_put (C := R_Ri) (T := F_Ri) (N := 7) (w := wdX a cA) hx hb hts in_Ri ft_Ri ft_Ri_ok fn_Ri hown hI 2 1 (wdX_o2 a cA _) rfl 0 (by decide) (hts _ wA_63) rfl (by decide +kernel) (Nat.le_of_ble_eq_true rfl) (wdX_i1 a cA _ _) d_Ri_add_100 (fun H locs hI => ?_)
      refine lv_iload hx hb d_Ri_add_103 (lv_at hl 1 rfl) ?_
      exact tr_iret hx hb hr hlocks hI hw d_Ri_add_105
    · have hw := hw.2 hc
      refine lv_aload_n hx hb d_Ri_add_58 rfl (lv_at hl 0 rfl) ?_
      refine va_get (D := (dC, dI)) (C := R_Ri) (T := F_Ri) (N := 7) hx hb hts in_Ri hown hI.1 hI.2.1 2 (wdX_o2 a cA _) rfl 6 (by decide) (hts _ wA_86) (fun _ h9 => h9) rfl d_Ri_add_59 ?_
      refine lv_iload hx hb d_Ri_add_62 (lv_at hl 1 rfl) ?_
      refine lv_bipush (v := 7) hx hb d_Ri_add_64 (by decide) ?_
      refine lv_imul hx hb d_Ri_add_66 ?_
      refine lv_iload hx hb d_Ri_add_67 (lv_at hl 2 rfl) ?_
      refine lv_iadd hx hb d_Ri_add_69 ?_
      refine lv_aload_n hx hb d_Ri_add_70 rfl (lv_at hl 0 rfl) ?_
      refine lv_iload hx hb d_Ri_add_71 (lv_at hl 1 rfl) ?_
      refine lv_iload hx hb d_Ri_add_73 (lv_at hl 2 rfl) ?_
      refine tr_goi (w := wdX a cA) hI hA (va_runV (As := [.int x6, .int x7]) (rest := [.int ((x6 * 7) + x7), .ref (a 16)]) ⟨hx, hb, hml, hown, hts⟩ (c_Ri_isOnDay l dC dI cA a _ _ _ _ _) (cwV 2 hts (wsA_goodV wA_324 wA_325 wA_326 wA_32 wA_327) rfl rfl rfl (by decide +kernel) ⟨Nat.le_of_ble_eq_true rfl, Nat.le_of_ble_eq_true rfl⟩) (tr_preV (ci := 2) (q0 := 2) hI rfl (wdX_o2 a cA _) rfl hN hw) rfl rfl hl.1 rfl (lv_room (Nat.le_of_ble_eq_true rfl)) d_Ri_add_75 ⟨Nat.zero_le _, Nat.zero_le _⟩) (fun r75 u75 H locs hw hI => ?_)
      refine lv_if_eq (tgt := 85) hx hb d_Ri_add_78 (by decide) (fun hc => ?_) (fun hc => ?_)
      · have hw := hw.1 hc
        refine lv_iconst (v := (-1)) hx hb d_Ri_add_85 (by decide) ?_
        obtain ⟨hi, hw⟩ := hw
        refine tr_iast (w := wdX a cA) hx hb hI 16 0 6 (wdX_o16 a cA _) rfl (wdX_a6 a cA _ _ _) hi d_Ri_add_86 (fun H locs hI => ?_)
        refine lv_iinc (v := (x7 + 1)) (lv' := [(7, .int (x7 + 1)), (0, .ref (a 2)), (6, .int x6)]) hx hb d_Ri_add_87 hl (k := 2) rfl rfl (by decide) rfl (fun ls hl => ?_)
        refine lv_goto (tgt := 51) hx hb d_Ri_add_90 (by decide) ?_
        exact ih _ _ _ _ _ ls hw hI (lv_sub hl [1, 2, 0] rfl)
      · have hw := hw.2 hc
        refine lv_iconst (v := 0) hx hb d_Ri_add_81 (by decide) ?_
        refine lv_goto (tgt := 86) hx hb d_Ri_add_82 (by decide) ?_
        obtain ⟨hi, hw⟩ := hw
        refine tr_iast (w := wdX a cA) hx hb hI 16 0 6 (wdX_o16 a cA _) rfl (wdX_a6 a cA _ _ _) hi d_Ri_add_86 (fun H locs hI => ?_)
        refine lv_iinc (v := (x7 + 1)) (lv' := [(7, .int (x7 + 1)), (0, .ref (a 2)), (6, .int x6)]) hx hb d_Ri_add_87 hl (k := 2) rfl rfl (by decide) rfl (fun ls hl => ?_)
        refine lv_goto (tgt := 51) hx hb d_Ri_add_90 (by decide) ?_
        exact ih _ _ _ _ _ ls hw hI (lv_sub hl [1, 2, 0] rfl)
set_option maxRecDepth 100000 in
set_option maxHeartbeats 4000000 in
theorem c_Ri_add (l : Launch) (dC : Nat → ClassId) (dI : Nat → Nat → Nat) (cA : ClassId) (a : Nat → Nat) (u : tS) (x1 : Int32) (x2 : Int32) (x3 : Int32) (x4 : Int32) (x5 : Int32) (post : Int32 → tS → Prop) (sz : Nat) : Met l y_Ri_add ws_Ri_add ({ frames := 1, cells := 0, slots := 0, locals := 22 }) (va_Pc [.ref (a 2), .int x1, .int x2, .int x3, .int x4, .int x5] (tP (dC, dI) twCl [(cA, .int)] (wdX a cA) u sz (w_Ri_add post x1 x2 x3 x4 x5 u))) (va_Qi post (tB (dC, dI) twCl [(cA, .int)] (va_A (wdX a cA u) sz) (wdX a cA)) (va_A (wdX a cA u) sz)) 0 0 (va_A (wdX a cA u) sz) := by
  refine Met.ofW (cc := b_Ri_add) (maxL := 8) (ret := (some .int)) (by decide) rfl ?_
  intro p e s m args below meth c s₁ B hml hv
  obtain ⟨rfl, hsz, hP, hK, hD0, hN, hw⟩ := hv
  have hx := B.exec
  have hb := B.bytes
  have hr := B.returns
  have hts : ∀ w ∈ wsA, w.before _ s = true := fun w h => atoms_spec (ws := ws_Ri_add) B.pre w (List.mem_cons_of_mem _ h)
  have hown : s.vm.findClass R_Ri = some m.cls := findClass_of_methodNamed B.named
  have hlocks := B.notSynchronized
  subst hsz
  have hD := hD0.self (sz := s.heap.size)
  generalize hAe : va_A (wdX a cA u) s.heap.size = A at hD ⊢
  have hA : ∀ q : Nat, s.heap.size ≤ q → A q := fun q h => by rw [← hAe]; exact Or.inr h
  have hS : va_S A s.heap s.heap [] := va_S.rf
  have hI : tX (dC, dI) twCl [(cA, .int)] A s s.heap [] (wdX a cA u) := ⟨hK, hP, hD, hS⟩
  have hC : tC p s m meth c ([.ref (a 2), .int x1, .int x2, .int x3, .int x4, .int x5] : List Value).toArray b_Ri_add 8 (some .int) wsA R_Ri A := ⟨hx, hb, hr, hml, hown, hts, hlocks, hA, hN⟩
  have hl := lv_entry ([.ref (a 2), .int x1, .int x2, .int x3, .int x4, .int x5]) (n := 8) (Nat.le_of_ble_eq_true rfl)
  rw [lg_entry_eq]
  generalize (lg_sl ([.ref (a 2), .int x1, .int x2, .int x3, .int x4, .int x5]) ++ List.replicate (8 - (lg_sl ([.ref (a 2), .int x1, .int x2, .int x3, .int x4, .int x5])).length) Slot.unset).toArray = ls at hl ⊢
  have hl : lv_has ls 8 [(0, .ref (a 2)), (1, .int x1), (2, .int x2), (3, .int x3), (4, .int x4), (5, .int x5)] := hl
  have hw : (vp_in (u.1 1) 40 ∧ (vp_in (u.1 1) 40 ∧ (vp_in (u.1 1) 40 ∧ (vp_in (u.1 1) 40 ∧ (vp_in (u.1 1) 40 ∧ (∃ k, w_Ri_add_51 post k (u.1 1) 0 (tA (tA (tA (tA (tA u 1 (u.1 1) x1) 2 (u.1 1) x2) 3 (u.1 1) x3) 4 (u.1 1) x4) 5 (u.1 1) x5))))))) := hw
  refine lv_aload_n hx hb d_Ri_add_0 rfl (lv_at hl 0 rfl) ?_
  refine va_get (D := (dC, dI)) (C := R_Ri) (T := F_Ri) (N := 7) hx hb hts in_Ri hown hI.1 hI.2.1 2 (wdX_o2 a cA _) rfl 0 (by decide) (hts _ wA_63) (fun _ h9 => h9) rfl d_Ri_add_1 ?_
  refine lv_istore (lv' := [(6, .int (u.1 1)), (0, .ref (a 2)), (1, .int x1), (2, .int x2), (3, .int x3), (4, .int x4), (5, .int x5)]) hx hb d_Ri_add_4 hl (by decide) rfl (fun ls hl => ?_)
  refine lv_aload_n hx hb d_Ri_add_6 rfl (lv_at hl 1 rfl) ?_
  refine va_get (D := (dC, dI)) (C := R_Ri) (T := F_Ri) (N := 7) hx hb hts in_Ri hown hI.1 hI.2.1 2 (wdX_o2 a cA _) rfl 1 (by decide) (hts _ wA_67) (fun _ h9 => h9) rfl d_Ri_add_7 ?_
  refine lv_iload hx hb d_Ri_add_10 (lv_at hl 0 rfl) ?_
  refine lv_iload_n hx hb d_Ri_add_12 rfl (lv_at hl 2 rfl) ?_
  obtain ⟨hi, hw⟩ := hw
  refine tr_iast (w := wdX a cA) hx hb hI 11 0 1 (wdX_o11 a cA _) rfl (wdX_a1 a cA _ _ _) hi d_Ri_add_13 (fun H locs hI => ?_)
  refine lv_aload_n hx hb d_Ri_add_14 rfl (lv_at hl 1 rfl) ?_
  refine va_get (D := (dC, dI)) (C := R_Ri) (T := F_Ri) (N := 7) hx hb hts in_Ri hown hI.1 hI.2.1 2 (wdX_o2 a cA _) rfl 2 (by decide) (hts _ wA_73) (fun _ h9 => h9) rfl d_Ri_add_15 ?_
  refine lv_iload hx hb d_Ri_add_18 (lv_at hl 0 rfl) ?_
  refine lv_iload_n hx hb d_Ri_add_20 rfl (lv_at hl 3 rfl) ?_
  obtain ⟨hi, hw⟩ := hw
  refine tr_iast (w := wdX a cA) hx hb hI 12 0 2 (wdX_o12 a cA _) rfl (wdX_a2 a cA _ _ _) hi d_Ri_add_21 (fun H locs hI => ?_)
  refine lv_aload_n hx hb d_Ri_add_22 rfl (lv_at hl 1 rfl) ?_
  refine va_get (D := (dC, dI)) (C := R_Ri) (T := F_Ri) (N := 7) hx hb hts in_Ri hown hI.1 hI.2.1 2 (wdX_o2 a cA _) rfl 3 (by decide) (hts _ wA_77) (fun _ h9 => h9) rfl d_Ri_add_23 ?_
  refine lv_iload hx hb d_Ri_add_26 (lv_at hl 0 rfl) ?_
  refine lv_iload_n hx hb d_Ri_add_28 rfl (lv_at hl 4 rfl) ?_
  obtain ⟨hi, hw⟩ := hw
  refine tr_iast (w := wdX a cA) hx hb hI 13 0 3 (wdX_o13 a cA _) rfl (wdX_a3 a cA _ _ _) hi d_Ri_add_29 (fun H locs hI => ?_)
  refine lv_aload_n hx hb d_Ri_add_30 rfl (lv_at hl 1 rfl) ?_
  refine va_get (D := (dC, dI)) (C := R_Ri) (T := F_Ri) (N := 7) hx hb hts in_Ri hown hI.1 hI.2.1 2 (wdX_o2 a cA _) rfl 4 (by decide) (hts _ wA_79) (fun _ h9 => h9) rfl d_Ri_add_31 ?_
  refine lv_iload hx hb d_Ri_add_34 (lv_at hl 0 rfl) ?_
  refine lv_iload hx hb d_Ri_add_36 (lv_at hl 5 rfl) ?_
  obtain ⟨hi, hw⟩ := hw
  refine tr_iast (w := wdX a cA) hx hb hI 14 0 4 (wdX_o14 a cA _) rfl (wdX_a4 a cA _ _ _) hi d_Ri_add_38 (fun H locs hI => ?_)
  refine lv_aload_n hx hb d_Ri_add_39 rfl (lv_at hl 1 rfl) ?_
  refine va_get (D := (dC, dI)) (C := R_Ri) (T := F_Ri) (N := 7) hx hb hts in_Ri hown hI.1 hI.2.1 2 (wdX_o2 a cA _) rfl 5 (by decide) (hts _ wA_84) (fun _ h9 => h9) rfl d_Ri_add_40 ?_
  refine lv_iload hx hb d_Ri_add_43 (lv_at hl 0 rfl) ?_
  refine lv_iload hx hb d_Ri_add_45 (lv_at hl 6 rfl) ?_
  obtain ⟨hi, hw⟩ := hw
  refine tr_iast (w := wdX a cA) hx hb hI 15 0 5 (wdX_o15 a cA _) rfl (wdX_a5 a cA _ _ _) hi d_Ri_add_47 (fun H locs hI => ?_)
  refine lv_iconst (v := 0) hx hb d_Ri_add_48 (by decide) ?_
  refine lv_istore (lv' := [(7, .int 0), (6, .int (u.1 1)), (0, .ref (a 2)), (1, .int x1), (2, .int x2), (3, .int x3), (4, .int x4), (5, .int x5)]) hx hb d_Ri_add_49 hl (by decide) rfl (fun ls hl => ?_)
  obtain ⟨k, hw⟩ := hw
  exact k_Ri_add_51 hC post k _ _ _ _ _ ls hw hI (lv_sub hl [2, 1, 0] rfl)
def w_Ri_goes (post : Int32 → tS → Prop) (x1 : Int32) (u : tS) : Prop := (vp_in x1 280 ∧ (((u.2 6 x1.toNatClampNeg) = (-1) → (post 0 u)) ∧ (¬ (u.2 6 x1.toNatClampNeg) = (-1) → (post 1 u))))
set_option maxRecDepth 100000 in
set_option maxHeartbeats 4000000 in
theorem c_Ri_goes (l : Launch) (dC : Nat → ClassId) (dI : Nat → Nat → Nat) (cA : ClassId) (a : Nat → Nat) (u : tS) (x1 : Int32) (post : Int32 → tS → Prop) (sz : Nat) : Met l y_Ri_goes ws_Ri_goes ({ frames := 0, cells := 0, slots := 0, locals := 0 }) (va_Pc [.ref (a 2), .int x1] (tP (dC, dI) twCl [(cA, .int)] (wdX a cA) u sz (w_Ri_goes post x1 u))) (va_Qi post (tB (dC, dI) twCl [(cA, .int)] (va_A (wdX a cA u) sz) (wdX a cA)) (va_A (wdX a cA u) sz)) 0 0 (va_A (wdX a cA u) sz) := by
  refine Met.ofW (cc := b_Ri_goes) (maxL := 2) (ret := (some .boolean)) (by decide) rfl ?_
  intro p e s m args below meth c s₁ B hml hv
  obtain ⟨rfl, hsz, hP, hK, hD0, hN, hw⟩ := hv
  have hx := B.exec
  have hb := B.bytes
  have hr := B.returns
  have hts : ∀ w ∈ wsA, w.before _ s = true := fun w h => atoms_spec (ws := ws_Ri_goes) B.pre w (List.mem_cons_of_mem _ h)
  have hown : s.vm.findClass R_Ri = some m.cls := findClass_of_methodNamed B.named
  have hlocks := B.notSynchronized
  subst hsz
  have hD := hD0.self (sz := s.heap.size)
  generalize hAe : va_A (wdX a cA u) s.heap.size = A at hD ⊢
  have hA : ∀ q : Nat, s.heap.size ≤ q → A q := fun q h => by rw [← hAe]; exact Or.inr h
  have hS : va_S A s.heap s.heap [] := va_S.rf
  have hI : tX (dC, dI) twCl [(cA, .int)] A s s.heap [] (wdX a cA u) := ⟨hK, hP, hD, hS⟩
  have hC : tC p s m meth c ([.ref (a 2), .int x1] : List Value).toArray b_Ri_goes 2 (some .boolean) wsA R_Ri A := ⟨hx, hb, hr, hml, hown, hts, hlocks, hA, hN⟩
  have hl := lv_entry ([.ref (a 2), .int x1]) (n := 2) (Nat.le_of_ble_eq_true rfl)
  rw [lg_entry_eq]
  generalize (lg_sl ([.ref (a 2), .int x1]) ++ List.replicate (2 - (lg_sl ([.ref (a 2), .int x1])).length) Slot.unset).toArray = ls at hl ⊢
  have hl : lv_has ls 2 [(0, .ref (a 2)), (1, .int x1)] := hl
  have hw : (vp_in x1 280 ∧ (((u.2 6 x1.toNatClampNeg) = (-1) → (post 0 u)) ∧ (¬ (u.2 6 x1.toNatClampNeg) = (-1) → (post 1 u)))) := hw
  refine lv_aload_n hx hb d_Ri_goes_0 rfl (lv_at hl 0 rfl) ?_
  refine va_get (D := (dC, dI)) (C := R_Ri) (T := F_Ri) (N := 7) hx hb hts in_Ri hown hI.1 hI.2.1 2 (wdX_o2 a cA _) rfl 6 (by decide) (hts _ wA_86) (fun _ h9 => h9) rfl d_Ri_goes_1 ?_
  refine lv_iload_n hx hb d_Ri_goes_4 rfl (lv_at hl 1 rfl) ?_
  obtain ⟨hi, hw⟩ := hw
  refine va_iald (D := (dC, dI)) hx hb hI.1 hI.2.1 16 0 (wdX_o16 a cA _) rfl hi d_Ri_goes_5 ?_
  refine lv_iconst (v := (-1)) hx hb d_Ri_goes_6 (by decide) ?_
  refine lv_icmp_eq (tgt := 14) hx hb d_Ri_goes_7 (by decide) (fun hc => ?_) (fun hc => ?_)
  · have hw := hw.1 hc
    refine lv_iconst (v := 0) hx hb d_Ri_goes_14 (by decide) ?_
    exact tr_zret hx hb hr hlocks hI rfl hw d_Ri_goes_15
  · have hw := hw.2 hc
    refine lv_iconst (v := 1) hx hb d_Ri_goes_10 (by decide) ?_
    refine lv_goto (tgt := 15) hx hb d_Ri_goes_11 (by decide) ?_
    exact tr_zret hx hb hr hlocks hI rfl hw d_Ri_goes_15
def w_Ri_leaves (post : Int32 → tS → Prop) (x1 : Int32) (u : tS) : Prop := (vp_in (x1 / 7) 40 ∧ (vp_in x1 280 ∧ (post ((((x1 - x1 / 7 * 7) * 1440) + (u.2 3 (x1 / 7).toNatClampNeg)) + (u.2 6 x1.toNatClampNeg)) u)))
set_option maxRecDepth 100000 in
set_option maxHeartbeats 4000000 in
theorem c_Ri_leaves (l : Launch) (dC : Nat → ClassId) (dI : Nat → Nat → Nat) (cA : ClassId) (a : Nat → Nat) (u : tS) (x1 : Int32) (post : Int32 → tS → Prop) (sz : Nat) : Met l y_Ri_leaves ws_Ri_leaves ({ frames := 0, cells := 0, slots := 0, locals := 0 }) (va_Pc [.ref (a 2), .int x1] (tP (dC, dI) twCl [(cA, .int)] (wdX a cA) u sz (w_Ri_leaves post x1 u))) (va_Qi post (tB (dC, dI) twCl [(cA, .int)] (va_A (wdX a cA u) sz) (wdX a cA)) (va_A (wdX a cA u) sz)) 0 0 (va_A (wdX a cA u) sz) := by
  refine Met.ofW (cc := b_Ri_leaves) (maxL := 3) (ret := (some .int)) (by decide) rfl ?_
  intro p e s m args below meth c s₁ B hml hv
  obtain ⟨rfl, hsz, hP, hK, hD0, hN, hw⟩ := hv
  have hx := B.exec
  have hb := B.bytes
  have hr := B.returns
  have hts : ∀ w ∈ wsA, w.before _ s = true := fun w h => atoms_spec (ws := ws_Ri_leaves) B.pre w (List.mem_cons_of_mem _ h)
  have hown : s.vm.findClass R_Ri = some m.cls := findClass_of_methodNamed B.named
  have hlocks := B.notSynchronized
  subst hsz
  have hD := hD0.self (sz := s.heap.size)
  generalize hAe : va_A (wdX a cA u) s.heap.size = A at hD ⊢
  have hA : ∀ q : Nat, s.heap.size ≤ q → A q := fun q h => by rw [← hAe]; exact Or.inr h
  have hS : va_S A s.heap s.heap [] := va_S.rf
  have hI : tX (dC, dI) twCl [(cA, .int)] A s s.heap [] (wdX a cA u) := ⟨hK, hP, hD, hS⟩
  have hC : tC p s m meth c ([.ref (a 2), .int x1] : List Value).toArray b_Ri_leaves 3 (some .int) wsA R_Ri A := ⟨hx, hb, hr, hml, hown, hts, hlocks, hA, hN⟩
  have hl := lv_entry ([.ref (a 2), .int x1]) (n := 3) (Nat.le_of_ble_eq_true rfl)
  rw [lg_entry_eq]
  generalize (lg_sl ([.ref (a 2), .int x1]) ++ List.replicate (3 - (lg_sl ([.ref (a 2), .int x1])).length) Slot.unset).toArray = ls at hl ⊢
  have hl : lv_has ls 3 [(0, .ref (a 2)), (1, .int x1)] := hl
  have hw : (vp_in (x1 / 7) 40 ∧ (vp_in x1 280 ∧ (post ((((x1 - x1 / 7 * 7) * 1440) + (u.2 3 (x1 / 7).toNatClampNeg)) + (u.2 6 x1.toNatClampNeg)) u))) := hw
  refine lv_iload_n hx hb d_Ri_leaves_0 rfl (lv_at hl 1 rfl) ?_
  refine lv_bipush (v := 7) hx hb d_Ri_leaves_1 (by decide) ?_
  refine lv_irem hx hb d_Ri_leaves_3 (by decide) ?_
  refine lv_istore_n (lv' := [(2, .int (x1 - x1 / 7 * 7)), (0, .ref (a 2)), (1, .int x1)]) hx hb d_Ri_leaves_4 rfl hl (by decide) rfl (fun ls hl => ?_)
  refine lv_iload_n hx hb d_Ri_leaves_5 rfl (lv_at hl 0 rfl) ?_
  refine lv_sipush (v := 1440) hx hb d_Ri_leaves_6 (by decide) ?_
  refine lv_imul hx hb d_Ri_leaves_9 ?_
  refine lv_aload_n hx hb d_Ri_leaves_10 rfl (lv_at hl 1 rfl) ?_
  refine va_get (D := (dC, dI)) (C := R_Ri) (T := F_Ri) (N := 7) hx hb hts in_Ri hown hI.1 hI.2.1 2 (wdX_o2 a cA _) rfl 3 (by decide) (hts _ wA_77) (fun _ h9 => h9) rfl d_Ri_leaves_11 ?_
  refine lv_iload_n hx hb d_Ri_leaves_14 rfl (lv_at hl 2 rfl) ?_
  refine lv_bipush (v := 7) hx hb d_Ri_leaves_15 (by decide) ?_
  refine lv_idiv hx hb d_Ri_leaves_17 (by decide) ?_
  obtain ⟨hi, hw⟩ := hw
  refine va_iald (D := (dC, dI)) hx hb hI.1 hI.2.1 13 0 (wdX_o13 a cA _) rfl hi d_Ri_leaves_18 ?_
  refine lv_iadd hx hb d_Ri_leaves_19 ?_
  refine lv_aload_n hx hb d_Ri_leaves_20 rfl (lv_at hl 1 rfl) ?_
  refine va_get (D := (dC, dI)) (C := R_Ri) (T := F_Ri) (N := 7) hx hb hts in_Ri hown hI.1 hI.2.1 2 (wdX_o2 a cA _) rfl 6 (by decide) (hts _ wA_86) (fun _ h9 => h9) rfl d_Ri_leaves_21 ?_
  refine lv_iload_n hx hb d_Ri_leaves_24 rfl (lv_at hl 2 rfl) ?_
  obtain ⟨hi, hw⟩ := hw
  refine va_iald (D := (dC, dI)) hx hb hI.1 hI.2.1 16 0 (wdX_o16 a cA _) rfl hi d_Ri_leaves_25 ?_
  refine lv_iadd hx hb d_Ri_leaves_26 ?_
  exact tr_iret hx hb hr hlocks hI hw d_Ri_leaves_27
def w_Bo_isBehind (post : Int32 → tS → Prop) (x1 : Int32) (x2 : Int32) (x3 : Int32) (u : tS) : Prop := (vp_in x1 280 ∧ ((x2 < (u.2 8 x1.toNatClampNeg) → (post 1 u)) ∧ (¬ x2 < (u.2 8 x1.toNatClampNeg) → (vp_in x1 280 ∧ (((u.2 8 x1.toNatClampNeg) = x2 → (vp_in x1 280 ∧ (((u.2 7 x1.toNatClampNeg) ≤ x3 → (post 0 u)) ∧ (¬ (u.2 7 x1.toNatClampNeg) ≤ x3 → (post 1 u))))) ∧ (¬ (u.2 8 x1.toNatClampNeg) = x2 → (post 0 u)))))))
set_option maxRecDepth 100000 in
set_option maxHeartbeats 4000000 in
theorem c_Bo_isBehind (l : Launch) (dC : Nat → ClassId) (dI : Nat → Nat → Nat) (cA : ClassId) (a : Nat → Nat) (u : tS) (x1 : Int32) (x2 : Int32) (x3 : Int32) (post : Int32 → tS → Prop) (sz : Nat) : Met l y_Bo_isBehind ws_Bo_isBehind ({ frames := 0, cells := 0, slots := 0, locals := 0 }) (va_Pc [.ref (a 3), .int x1, .int x2, .int x3] (tP (dC, dI) twCl [(cA, .int)] (wdX a cA) u sz (w_Bo_isBehind post x1 x2 x3 u))) (va_Qi post (tB (dC, dI) twCl [(cA, .int)] (va_A (wdX a cA u) sz) (wdX a cA)) (va_A (wdX a cA u) sz)) 0 0 (va_A (wdX a cA u) sz) := by
  refine Met.ofW (cc := b_Bo_isBehind) (maxL := 4) (ret := (some .boolean)) (by decide) rfl ?_
  intro p e s m args below meth c s₁ B hml hv
  obtain ⟨rfl, hsz, hP, hK, hD0, hN, hw⟩ := hv
  have hx := B.exec
  have hb := B.bytes
  have hr := B.returns
  have hts : ∀ w ∈ wsA, w.before _ s = true := fun w h => atoms_spec (ws := ws_Bo_isBehind) B.pre w (List.mem_cons_of_mem _ h)
  have hown : s.vm.findClass R_Bo = some m.cls := findClass_of_methodNamed B.named
  have hlocks := B.notSynchronized
  subst hsz
  have hD := hD0.self (sz := s.heap.size)
  generalize hAe : va_A (wdX a cA u) s.heap.size = A at hD ⊢
  have hA : ∀ q : Nat, s.heap.size ≤ q → A q := fun q h => by rw [← hAe]; exact Or.inr h
  have hS : va_S A s.heap s.heap [] := va_S.rf
  have hI : tX (dC, dI) twCl [(cA, .int)] A s s.heap [] (wdX a cA u) := ⟨hK, hP, hD, hS⟩
  have hC : tC p s m meth c ([.ref (a 3), .int x1, .int x2, .int x3] : List Value).toArray b_Bo_isBehind 4 (some .boolean) wsA R_Bo A := ⟨hx, hb, hr, hml, hown, hts, hlocks, hA, hN⟩
  have hl := lv_entry ([.ref (a 3), .int x1, .int x2, .int x3]) (n := 4) (Nat.le_of_ble_eq_true rfl)
  rw [lg_entry_eq]
  generalize (lg_sl ([.ref (a 3), .int x1, .int x2, .int x3]) ++ List.replicate (4 - (lg_sl ([.ref (a 3), .int x1, .int x2, .int x3])).length) Slot.unset).toArray = ls at hl ⊢
  have hl : lv_has ls 4 [(0, .ref (a 3)), (1, .int x1), (2, .int x2), (3, .int x3)] := hl
  have hw : (vp_in x1 280 ∧ ((x2 < (u.2 8 x1.toNatClampNeg) → (post 1 u)) ∧ (¬ x2 < (u.2 8 x1.toNatClampNeg) → (vp_in x1 280 ∧ (((u.2 8 x1.toNatClampNeg) = x2 → (vp_in x1 280 ∧ (((u.2 7 x1.toNatClampNeg) ≤ x3 → (post 0 u)) ∧ (¬ (u.2 7 x1.toNatClampNeg) ≤ x3 → (post 1 u))))) ∧ (¬ (u.2 8 x1.toNatClampNeg) = x2 → (post 0 u))))))) := hw
  refine lv_aload_n hx hb d_Bo_isBehind_0 rfl (lv_at hl 0 rfl) ?_
  refine va_get (D := (dC, dI)) (C := R_Bo) (T := F_Bo) (N := 3) hx hb hts in_Bo hown hI.1 hI.2.1 3 (wdX_o3 a cA _) rfl 2 (by decide) (hts _ wA_117) (fun _ h9 => h9) rfl d_Bo_isBehind_1 ?_
  refine lv_iload_n hx hb d_Bo_isBehind_4 rfl (lv_at hl 1 rfl) ?_
  obtain ⟨hi, hw⟩ := hw
  refine va_iald (D := (dC, dI)) hx hb hI.1 hI.2.1 18 0 (wdX_o18 a cA _) rfl hi d_Bo_isBehind_5 ?_
  refine lv_iload_n hx hb d_Bo_isBehind_6 rfl (lv_at hl 2 rfl) ?_
  refine lv_icmp_gt (tgt := 30) hx hb d_Bo_isBehind_7 (by decide) (fun hc => ?_) (fun hc => ?_)
  · have hw := hw.1 hc
    refine lv_iconst (v := 1) hx hb d_Bo_isBehind_30 (by decide) ?_
    refine lv_goto (tgt := 35) hx hb d_Bo_isBehind_31 (by decide) ?_
    exact tr_zret hx hb hr hlocks hI rfl hw d_Bo_isBehind_35
  · have hw := hw.2 hc
    refine lv_aload_n hx hb d_Bo_isBehind_10 rfl (lv_at hl 0 rfl) ?_
    refine va_get (D := (dC, dI)) (C := R_Bo) (T := F_Bo) (N := 3) hx hb hts in_Bo hown hI.1 hI.2.1 3 (wdX_o3 a cA _) rfl 2 (by decide) (hts _ wA_117) (fun _ h9 => h9) rfl d_Bo_isBehind_11 ?_
    refine lv_iload_n hx hb d_Bo_isBehind_14 rfl (lv_at hl 1 rfl) ?_
    obtain ⟨hi, hw⟩ := hw
    refine va_iald (D := (dC, dI)) hx hb hI.1 hI.2.1 18 0 (wdX_o18 a cA _) rfl hi d_Bo_isBehind_15 ?_
    refine lv_iload_n hx hb d_Bo_isBehind_16 rfl (lv_at hl 2 rfl) ?_
    refine lv_icmp_ne (tgt := 34) hx hb d_Bo_isBehind_17 (by decide) (fun hc => ?_) (fun hc => ?_)
    · have hw := hw.2 hc
      refine lv_iconst (v := 0) hx hb d_Bo_isBehind_34 (by decide) ?_
      exact tr_zret hx hb hr hlocks hI rfl hw d_Bo_isBehind_35
    · have hw := hw.1 hc
      refine lv_aload_n hx hb d_Bo_isBehind_20 rfl (lv_at hl 0 rfl) ?_
      refine va_get (D := (dC, dI)) (C := R_Bo) (T := F_Bo) (N := 3) hx hb hts in_Bo hown hI.1 hI.2.1 3 (wdX_o3 a cA _) rfl 1 (by decide) (hts _ wA_116) (fun _ h9 => h9) rfl d_Bo_isBehind_21 ?_
      refine lv_iload_n hx hb d_Bo_isBehind_24 rfl (lv_at hl 1 rfl) ?_
      obtain ⟨hi, hw⟩ := hw
      refine va_iald (D := (dC, dI)) hx hb hI.1 hI.2.1 17 0 (wdX_o17 a cA _) rfl hi d_Bo_isBehind_25 ?_
      refine lv_iload_n hx hb d_Bo_isBehind_26 rfl (lv_at hl 3 rfl) ?_
      refine lv_icmp_le (tgt := 34) hx hb d_Bo_isBehind_27 (by decide) (fun hc => ?_) (fun hc => ?_)
      · have hw := hw.1 hc
        refine lv_iconst (v := 0) hx hb d_Bo_isBehind_34 (by decide) ?_
        exact tr_zret hx hb hr hlocks hI rfl hw d_Bo_isBehind_35
      · have hw := hw.2 hc
        refine lv_iconst (v := 1) hx hb d_Bo_isBehind_30 (by decide) ?_
        refine lv_goto (tgt := 35) hx hb d_Bo_isBehind_31 (by decide) ?_
        exact tr_zret hx hb hr hlocks hI rfl hw d_Bo_isBehind_35
def w_Bo_putIn_87 (post : tS → Prop) (x2 : Int32) (x3 : Int32) (x4 : Int32) (u : tS) : Prop := (vp_in x4 280 ∧ (vp_in x4 280 ∧ (post (tI (tA (tA u 7 x4 x2) 8 x4 x3) 2 (((tA (tA u 7 x4 x2) 8 x4 x3).1 2) + 1)))))
def w_Bo_putIn_31 (post : tS → Prop) : Nat → Int32 → Int32 → Int32 → tS → Prop
  | 0 => fun _ _ _ _ => False
  | n + 1 => fun x2 x3 x4 u => ((x4 ≤ 0 → (w_Bo_putIn_87 post x2 x3 x4 u)) ∧ (¬ x4 ≤ 0 → (w_Bo_isBehind (fun r43 u43 => ((r43 = 0 → (w_Bo_putIn_87 post x2 x3 x4 u43)) ∧ (¬ r43 = 0 → (vp_in (x4 - 1) 280 ∧ (vp_in x4 280 ∧ (vp_in (x4 - 1) 280 ∧ (vp_in x4 280 ∧ (w_Bo_putIn_31 post n x2 x3 (x4 + (-1)) (tA (tA u43 7 x4 (u43.2 7 (x4 - 1).toNatClampNeg)) 8 x4 ((tA u43 7 x4 (u43.2 7 (x4 - 1).toNatClampNeg)).2 8 (x4 - 1).toNatClampNeg)))))))))) (x4 - 1) x3 x2 u)))
def w_Bo_putIn (post : tS → Prop) (x2 : Int32) (u : tS) : Prop := (w_Ri_goes (fun r2 u2 => ((r2 = 0 → (post u2)) ∧ (¬ r2 = 0 → (((u2.1 2) < 280 → (w_Ri_leaves (fun r21 u21 => (∃ k, w_Bo_putIn_31 post k x2 r21 (u21.1 2) u21)) x2 u2)) ∧ (¬ (u2.1 2) < 280 → (post u2)))))) x2 u)
set_option maxRecDepth 100000 in
set_option maxHeartbeats 4000000 in
theorem k_Bo_putIn_87 {p : Program} {l : Launch} {e : Env} {s : State} {m : MethodId} {args : Array Value} {below : List Frame} {meth : Method} {c : Code} {dC : Nat → ClassId} {dI : Nat → Nat → Nat} {cA : ClassId} {a : Nat → Nat} {A : Nat → Prop} (hC : tC p s m meth c args b_Bo_putIn 5 none wsA R_Bo A) (post : tS → Prop) : ∀ (x2 x3 x4 : Int32) (u : tS) (H : Heap) (locs : List Loc) (ls : Array Slot), w_Bo_putIn_87 post x2 x3 x4 u → tX (dC, dI) twCl [(cA, .int)] A s H locs (wdX a cA u) → lv_has ls 5 [(0, .ref (a 3)), (2, .int x2), (3, .int x3), (4, .int x4)] → W p l e ({ frames := 1, cells := 0, slots := 0, locals := 23 }) s m args below meth c H locs 0 0 (MQ below (va_Qv post (tB (dC, dI) twCl [(cA, .int)] A (wdX a cA)) A) args s 0 0 A) (F0 m 87 ls []) := by
  obtain ⟨hx, hb, hr, hml, hown, hts, hlocks, hA, hN⟩ := id hC
  intro x2 x3 x4 u H locs ls hw hI hl
  refine lv_aload_n hx hb d_Bo_putIn_87 rfl (lv_at hl 0 rfl) ?_
  refine va_get (D := (dC, dI)) (C := R_Bo) (T := F_Bo) (N := 3) hx hb hts in_Bo hown hI.1 hI.2.1 3 (wdX_o3 a cA _) rfl 1 (by decide) (hts _ wA_116) (fun _ h9 => h9) rfl d_Bo_putIn_88 ?_
  refine lv_iload hx hb d_Bo_putIn_91 (lv_at hl 3 rfl) ?_
  refine lv_iload_n hx hb d_Bo_putIn_93 rfl (lv_at hl 1 rfl) ?_
  obtain ⟨hi, hw⟩ := hw
  refine tr_iast (w := wdX a cA) hx hb hI 17 0 7 (wdX_o17 a cA _) rfl (wdX_a7 a cA _ _ _) hi d_Bo_putIn_94 (fun H locs hI => ?_)
  refine lv_aload_n hx hb d_Bo_putIn_95 rfl (lv_at hl 0 rfl) ?_
  refine va_get (D := (dC, dI)) (C := R_Bo) (T := F_Bo) (N := 3) hx hb hts in_Bo hown hI.1 hI.2.1 3 (wdX_o3 a cA _) rfl 2 (by decide) (hts _ wA_117) (fun _ h9 => h9) rfl d_Bo_putIn_96 ?_
  refine lv_iload hx hb d_Bo_putIn_99 (lv_at hl 3 rfl) ?_
  refine lv_iload_n hx hb d_Bo_putIn_101 rfl (lv_at hl 2 rfl) ?_
  obtain ⟨hi, hw⟩ := hw
  refine tr_iast (w := wdX a cA) hx hb hI 18 0 8 (wdX_o18 a cA _) rfl (wdX_a8 a cA _ _ _) hi d_Bo_putIn_102 (fun H locs hI => ?_)
  refine lv_aload_n hx hb d_Bo_putIn_103 rfl (lv_at hl 0 rfl) ?_
  refine lv_dup hx hb d_Bo_putIn_104 rfl ?_
  refine va_get (D := (dC, dI)) (C := R_Bo) (T := F_Bo) (N := 3) hx hb hts in_Bo hown hI.1 hI.2.1 3 (wdX_o3 a cA _) rfl 0 (by decide) (hts _ wA_111) (fun _ h9 => h9) rfl d_Bo_putIn_105 ?_
  refine lv_iconst (v := 1) hx hb d_Bo_putIn_108 (by decide) ?_
  refine lv_iadd hx hb d_Bo_putIn_109 ?_
  refine tr_put (C := R_Bo) (T := F_Bo) (N := 3) (w := wdX a cA) hx hb hts in_Bo ft_Bo ft_Bo_ok fn_Bo hown hI 3 2 (wdX_o3 a cA _) rfl 0 (by decide) (hts _ wA_111) rfl (by decide +kernel) (Nat.le_of_ble_eq_true rfl) (wdX_i2 a cA _ _) d_Bo_putIn_110 (fun H locs hI => ?_)
  exact tr_vret hx hb hr hlocks hI hw d_Bo_putIn_113
set_option maxRecDepth 100000 in
set_option maxHeartbeats 4000000 in
theorem k_Bo_putIn_31 {p : Program} {l : Launch} {e : Env} {s : State} {m : MethodId} {args : Array Value} {below : List Frame} {meth : Method} {c : Code} {dC : Nat → ClassId} {dI : Nat → Nat → Nat} {cA : ClassId} {a : Nat → Nat} {A : Nat → Prop} (hC : tC p s m meth c args b_Bo_putIn 5 none wsA R_Bo A) (post : tS → Prop) : ∀ n : Nat, ∀ (x2 x3 x4 : Int32) (u : tS) (H : Heap) (locs : List Loc) (ls : Array Slot), w_Bo_putIn_31 post n x2 x3 x4 u → tX (dC, dI) twCl [(cA, .int)] A s H locs (wdX a cA u) → lv_has ls 5 [(0, .ref (a 3)), (2, .int x2), (3, .int x3), (4, .int x4)] → W p l e ({ frames := 1, cells := 0, slots := 0, locals := 23 }) s m args below meth c H locs 0 0 (MQ below (va_Qv post (tB (dC, dI) twCl [(cA, .int)] A (wdX a cA)) A) args s 0 0 A) (F0 m 31 ls []) := by
  obtain ⟨hx, hb, hr, hml, hown, hts, hlocks, hA, hN⟩ := id hC
  intro n
  induction n with
  | zero => intro x2 x3 x4 u H locs ls hw; exact False.elim hw
  | succ n ih =>
    intro x2 x3 x4 u H locs ls hw hI hl
    refine lv_iload hx hb d_Bo_putIn_31 (lv_at hl 3 rfl) ?_
    refine lv_if_le (tgt := 87) hx hb d_Bo_putIn_33 (by decide) (fun hc => ?_) (fun hc => ?_)
    · have hw := hw.1 hc
      exact k_Bo_putIn_87 hC post _ _ _ _ _ _ ls hw hI (lv_sub hl [0, 1, 2, 3] rfl)
    · have hw := hw.2 hc
      refine lv_aload_n hx hb d_Bo_putIn_36 rfl (lv_at hl 0 rfl) ?_
      refine lv_iload hx hb d_Bo_putIn_37 (lv_at hl 3 rfl) ?_
      refine lv_iconst (v := 1) hx hb d_Bo_putIn_39 (by decide) ?_
      refine lv_isub hx hb d_Bo_putIn_40 ?_
      refine lv_iload_n hx hb d_Bo_putIn_41 rfl (lv_at hl 2 rfl) ?_
      refine lv_iload_n hx hb d_Bo_putIn_42 rfl (lv_at hl 1 rfl) ?_
      refine tr_goi (w := wdX a cA) hI hA (va_runV (As := [.int (x4 - 1), .int x3, .int x2]) (rest := []) ⟨hx, hb, hml, hown, hts⟩ (c_Bo_isBehind l dC dI cA a _ _ _ _ _ _) (cwV 3 hts (wsA_goodV wA_344 wA_346 wA_0 wA_33 wA_347) rfl rfl rfl (by decide +kernel) ⟨Nat.le_of_ble_eq_true rfl, Nat.le_of_ble_eq_true rfl⟩) (tr_preV (ci := 3) (q0 := 3) hI rfl (wdX_o3 a cA _) rfl hN hw) rfl rfl hl.1 rfl (lv_room (Nat.le_of_ble_eq_true rfl)) d_Bo_putIn_43 ⟨Nat.zero_le _, Nat.zero_le _⟩) (fun r43 u43 H locs hw hI => ?_)
      refine lv_if_eq (tgt := 87) hx hb d_Bo_putIn_46 (by decide) (fun hc => ?_) (fun hc => ?_)
      · have hw := hw.1 hc
        exact k_Bo_putIn_87 hC post _ _ _ _ _ _ ls hw hI (lv_sub hl [0, 1, 2, 3] rfl)
      · have hw := hw.2 hc
        refine lv_aload_n hx hb d_Bo_putIn_49 rfl (lv_at hl 0 rfl) ?_
        refine va_get (D := (dC, dI)) (C := R_Bo) (T := F_Bo) (N := 3) hx hb hts in_Bo hown hI.1 hI.2.1 3 (wdX_o3 a cA _) rfl 1 (by decide) (hts _ wA_116) (fun _ h9 => h9) rfl d_Bo_putIn_50 ?_
        refine lv_iload hx hb d_Bo_putIn_53 (lv_at hl 3 rfl) ?_
        refine lv_aload_n hx hb d_Bo_putIn_55 rfl (lv_at hl 0 rfl) ?_
        refine va_get (D := (dC, dI)) (C := R_Bo) (T := F_Bo) (N := 3) hx hb hts in_Bo hown hI.1 hI.2.1 3 (wdX_o3 a cA _) rfl 1 (by decide) (hts _ wA_116) (fun _ h9 => h9) rfl d_Bo_putIn_56 ?_
        refine lv_iload hx hb d_Bo_putIn_59 (lv_at hl 3 rfl) ?_
        refine lv_iconst (v := 1) hx hb d_Bo_putIn_61 (by decide) ?_
        refine lv_isub hx hb d_Bo_putIn_62 ?_
        obtain ⟨hi, hw⟩ := hw
        refine va_iald (D := (dC, dI)) hx hb hI.1 hI.2.1 17 0 (wdX_o17 a cA _) rfl hi d_Bo_putIn_63 ?_
        obtain ⟨hi, hw⟩ := hw
        refine tr_iast (w := wdX a cA) hx hb hI 17 0 7 (wdX_o17 a cA _) rfl (wdX_a7 a cA _ _ _) hi d_Bo_putIn_64 (fun H locs hI => ?_)
        refine lv_aload_n hx hb d_Bo_putIn_65 rfl (lv_at hl 0 rfl) ?_
        refine va_get (D := (dC, dI)) (C := R_Bo) (T := F_Bo) (N := 3) hx hb hts in_Bo hown hI.1 hI.2.1 3 (wdX_o3 a cA _) rfl 2 (by decide) (hts _ wA_117) (fun _ h9 => h9) rfl d_Bo_putIn_66 ?_
        refine lv_iload hx hb d_Bo_putIn_69 (lv_at hl 3 rfl) ?_
        refine lv_aload_n hx hb d_Bo_putIn_71 rfl (lv_at hl 0 rfl) ?_
        refine va_get (D := (dC, dI)) (C := R_Bo) (T := F_Bo) (N := 3) hx hb hts in_Bo hown hI.1 hI.2.1 3 (wdX_o3 a cA _) rfl 2 (by decide) (hts _ wA_117) (fun _ h9 => h9) rfl d_Bo_putIn_72 ?_
        refine lv_iload hx hb d_Bo_putIn_75 (lv_at hl 3 rfl) ?_
        refine lv_iconst (v := 1) hx hb d_Bo_putIn_77 (by decide) ?_
        refine lv_isub hx hb d_Bo_putIn_78 ?_
        obtain ⟨hi, hw⟩ := hw
        refine va_iald (D := (dC, dI)) hx hb hI.1 hI.2.1 18 0 (wdX_o18 a cA _) rfl hi d_Bo_putIn_79 ?_
        obtain ⟨hi, hw⟩ := hw
        refine tr_iast (w := wdX a cA) hx hb hI 18 0 8 (wdX_o18 a cA _) rfl (wdX_a8 a cA _ _ _) hi d_Bo_putIn_80 (fun H locs hI => ?_)
        refine lv_iinc (v := (x4 + (-1))) (lv' := [(4, .int (x4 + (-1))), (0, .ref (a 3)), (2, .int x2), (3, .int x3)]) hx hb d_Bo_putIn_81 hl (k := 3) rfl rfl (by decide) rfl (fun ls hl => ?_)
        refine lv_goto (tgt := 31) hx hb d_Bo_putIn_84 (by decide) ?_
        exact ih _ _ _ _ _ _ ls hw hI (lv_sub hl [1, 2, 3, 0] rfl)
set_option maxRecDepth 100000 in
set_option maxHeartbeats 4000000 in
theorem c_Bo_putIn (l : Launch) (dC : Nat → ClassId) (dI : Nat → Nat → Nat) (cA : ClassId) (a : Nat → Nat) (u : tS) (x2 : Int32) (post : tS → Prop) (sz : Nat) : Met l y_Bo_putIn ws_Bo_putIn ({ frames := 1, cells := 0, slots := 0, locals := 23 }) (va_Pc [.ref (a 3), .ref (a 2), .int x2] (tP (dC, dI) twCl [(cA, .int)] (wdX a cA) u sz (w_Bo_putIn post x2 u))) (va_Qv post (tB (dC, dI) twCl [(cA, .int)] (va_A (wdX a cA u) sz) (wdX a cA)) (va_A (wdX a cA u) sz)) 0 0 (va_A (wdX a cA u) sz) := by
  refine Met.ofW (cc := b_Bo_putIn) (maxL := 5) (ret := none) (by decide) rfl ?_
  intro p e s m args below meth c s₁ B hml hv
  obtain ⟨rfl, hsz, hP, hK, hD0, hN, hw⟩ := hv
  have hx := B.exec
  have hb := B.bytes
  have hr := B.returns
  have hts : ∀ w ∈ wsA, w.before _ s = true := fun w h => atoms_spec (ws := ws_Bo_putIn) B.pre w (List.mem_cons_of_mem _ h)
  have hown : s.vm.findClass R_Bo = some m.cls := findClass_of_methodNamed B.named
  have hlocks := B.notSynchronized
  subst hsz
  have hD := hD0.self (sz := s.heap.size)
  generalize hAe : va_A (wdX a cA u) s.heap.size = A at hD ⊢
  have hA : ∀ q : Nat, s.heap.size ≤ q → A q := fun q h => by rw [← hAe]; exact Or.inr h
  have hS : va_S A s.heap s.heap [] := va_S.rf
  have hI : tX (dC, dI) twCl [(cA, .int)] A s s.heap [] (wdX a cA u) := ⟨hK, hP, hD, hS⟩
  have hC : tC p s m meth c ([.ref (a 3), .ref (a 2), .int x2] : List Value).toArray b_Bo_putIn 5 none wsA R_Bo A := ⟨hx, hb, hr, hml, hown, hts, hlocks, hA, hN⟩
  have hl := lv_entry ([.ref (a 3), .ref (a 2), .int x2]) (n := 5) (Nat.le_of_ble_eq_true rfl)
  rw [lg_entry_eq]
  generalize (lg_sl ([.ref (a 3), .ref (a 2), .int x2]) ++ List.replicate (5 - (lg_sl ([.ref (a 3), .ref (a 2), .int x2])).length) Slot.unset).toArray = ls at hl ⊢
  have hl : lv_has ls 5 [(0, .ref (a 3)), (1, .ref (a 2)), (2, .int x2)] := hl
  have hw : (w_Ri_goes (fun r2 u2 => ((r2 = 0 → (post u2)) ∧ (¬ r2 = 0 → (((u2.1 2) < 280 → (w_Ri_leaves (fun r21 u21 => (∃ k, w_Bo_putIn_31 post k x2 r21 (u21.1 2) u21)) x2 u2)) ∧ (¬ (u2.1 2) < 280 → (post u2)))))) x2 u) := hw
  refine lv_aload_n hx hb d_Bo_putIn_0 rfl (lv_at hl 1 rfl) ?_
  refine lv_iload_n hx hb d_Bo_putIn_1 rfl (lv_at hl 2 rfl) ?_
  refine tr_goi (w := wdX a cA) hI hA (va_runV (As := [.int x2]) (rest := []) ⟨hx, hb, hml, hown, hts⟩ (c_Ri_goes l dC dI cA a _ _ _ _) (cwV 1 hts (wsA_goodV wA_336 wA_337 wA_338 wA_32 wA_339) rfl rfl rfl (by decide +kernel) ⟨Nat.le_of_ble_eq_true rfl, Nat.le_of_ble_eq_true rfl⟩) (tr_preV (ci := 2) (q0 := 2) hI rfl (wdX_o2 a cA _) rfl hN hw) rfl rfl hl.1 rfl (lv_room (Nat.le_of_ble_eq_true rfl)) d_Bo_putIn_2 ⟨Nat.zero_le _, Nat.zero_le _⟩) (fun r2 u2 H locs hw hI => ?_)
  refine lv_if_eq (tgt := 18) hx hb d_Bo_putIn_5 (by decide) (fun hc => ?_) (fun hc => ?_)
  · have hw := hw.1 hc
    exact tr_vret hx hb hr hlocks hI hw d_Bo_putIn_18
  · have hw := hw.2 hc
    refine lv_aload_n hx hb d_Bo_putIn_8 rfl (lv_at hl 0 rfl) ?_
    refine va_get (D := (dC, dI)) (C := R_Bo) (T := F_Bo) (N := 3) hx hb hts in_Bo hown hI.1 hI.2.1 3 (wdX_o3 a cA _) rfl 0 (by decide) (hts _ wA_111) (fun _ h9 => h9) rfl d_Bo_putIn_9 ?_
    refine lv_sipush (v := 280) hx hb d_Bo_putIn_12 (by decide) ?_
    refine lv_icmp_lt (tgt := 19) hx hb d_Bo_putIn_15 (by decide) (fun hc => ?_) (fun hc => ?_)
    · have hw := hw.1 hc
      refine lv_aload_n hx hb d_Bo_putIn_19 rfl (lv_at hl 1 rfl) ?_
      refine lv_iload_n hx hb d_Bo_putIn_20 rfl (lv_at hl 2 rfl) ?_
      refine tr_goi (w := wdX a cA) hI hA (va_runV (As := [.int x2]) (rest := []) ⟨hx, hb, hml, hown, hts⟩ (c_Ri_leaves l dC dI cA a _ _ _ _) (cwV 1 hts (wsA_goodV wA_340 wA_341 wA_342 wA_32 wA_343) rfl rfl rfl (by decide +kernel) ⟨Nat.le_of_ble_eq_true rfl, Nat.le_of_ble_eq_true rfl⟩) (tr_preV (ci := 2) (q0 := 2) hI rfl (wdX_o2 a cA _) rfl hN hw) rfl rfl hl.1 rfl (lv_room (Nat.le_of_ble_eq_true rfl)) d_Bo_putIn_21 ⟨Nat.zero_le _, Nat.zero_le _⟩) (fun r21 u21 H locs hw hI => ?_)
      refine lv_istore_n (lv' := [(3, .int r21), (0, .ref (a 3)), (1, .ref (a 2)), (2, .int x2)]) hx hb d_Bo_putIn_24 rfl hl (by decide) rfl (fun ls hl => ?_)
      refine lv_aload_n hx hb d_Bo_putIn_25 rfl (lv_at hl 1 rfl) ?_
      refine va_get (D := (dC, dI)) (C := R_Bo) (T := F_Bo) (N := 3) hx hb hts in_Bo hown hI.1 hI.2.1 3 (wdX_o3 a cA _) rfl 0 (by decide) (hts _ wA_111) (fun _ h9 => h9) rfl d_Bo_putIn_26 ?_
      refine lv_istore (lv' := [(4, .int (u21.1 2)), (3, .int r21), (0, .ref (a 3)), (1, .ref (a 2)), (2, .int x2)]) hx hb d_Bo_putIn_29 hl (by decide) rfl (fun ls hl => ?_)
      obtain ⟨k, hw⟩ := hw
      exact k_Bo_putIn_31 hC post k _ _ _ _ _ _ ls hw hI (lv_sub hl [2, 4, 1, 0] rfl)
    · have hw := hw.2 hc
      exact tr_vret hx hb hr hlocks hI hw d_Bo_putIn_18
end
section
def w_Bo_putRide_2 (post : tS → Prop) : Nat → Int32 → Int32 → tS → Prop
  | 0 => fun _ _ _ => False
  | n + 1 => fun x2 x3 u => ((7 ≤ x3 → (post u)) ∧ (¬ 7 ≤ x3 → (w_Bo_putIn (fun u16 => (w_Bo_putRide_2 post n x2 (x3 + 1) u16)) ((x2 * 7) + x3) u)))
def w_Bo_putRide (post : tS → Prop) (x2 : Int32) (u : tS) : Prop := (∃ k, w_Bo_putRide_2 post k x2 0 u)
set_option maxRecDepth 100000 in
set_option maxHeartbeats 4000000 in
theorem k_Bo_putRide_2 {p : Program} {l : Launch} {e : Env} {s : State} {m : MethodId} {args : Array Value} {below : List Frame} {meth : Method} {c : Code} {dC : Nat → ClassId} {dI : Nat → Nat → Nat} {cA : ClassId} {a : Nat → Nat} {A : Nat → Prop} (hC : tC p s m meth c args b_Bo_putRide 4 none wsA R_Bo A) (post : tS → Prop) : ∀ n : Nat, ∀ (x2 x3 : Int32) (u : tS) (H : Heap) (locs : List Loc) (ls : Array Slot), w_Bo_putRide_2 post n x2 x3 u → tX (dC, dI) twCl [(cA, .int)] A s H locs (wdX a cA u) → lv_has ls 4 [(0, .ref (a 3)), (1, .ref (a 2)), (2, .int x2), (3, .int x3)] → W p l e ({ frames := 2, cells := 0, slots := 0, locals := 47 }) s m args below meth c H locs 0 0 (MQ below (va_Qv post (tB (dC, dI) twCl [(cA, .int)] A (wdX a cA)) A) args s 0 0 A) (F0 m 2 ls []) := by
  obtain ⟨hx, hb, hr, hml, hown, hts, hlocks, hA, hN⟩ := id hC
  intro n
  induction n with
  | zero => intro x2 x3 u H locs ls hw; exact False.elim hw
  | succ n ih =>
    intro x2 x3 u H locs ls hw hI hl
    refine lv_iload_n hx hb d_Bo_putRide_2 rfl (lv_at hl 3 rfl) ?_
    refine lv_bipush (v := 7) hx hb d_Bo_putRide_3 (by decide) ?_
    refine lv_icmp_ge (tgt := 25) hx hb d_Bo_putRide_5 (by decide) (fun hc => ?_) (fun hc => ?_)
    · have hw := hw.1 hc
      exact tr_vret hx hb hr hlocks hI hw d_Bo_putRide_25
    · have hw := hw.2 hc
      refine lv_aload_n hx hb d_Bo_putRide_8 rfl (lv_at hl 0 rfl) ?_
      refine lv_aload_n hx hb d_Bo_putRide_9 rfl (lv_at hl 1 rfl) ?_
      refine lv_iload_n hx hb d_Bo_putRide_10 rfl (lv_at hl 2 rfl) ?_
      refine lv_bipush (v := 7) hx hb d_Bo_putRide_11 (by decide) ?_
      refine lv_imul hx hb d_Bo_putRide_13 ?_
      refine lv_iload_n hx hb d_Bo_putRide_14 rfl (lv_at hl 3 rfl) ?_
      refine lv_iadd hx hb d_Bo_putRide_15 ?_
      refine tr_gov (w := wdX a cA) hI hA (va_runV (As := [.ref (a 2), .int ((x2 * 7) + x3)]) (rest := []) ⟨hx, hb, hml, hown, hts⟩ (c_Bo_putIn l dC dI cA a _ _ _ _) (cwV 2 hts (wsA_goodV wA_332 wA_333 wA_334 wA_33 wA_335) rfl rfl rfl (by decide +kernel) ⟨Nat.le_of_ble_eq_true rfl, Nat.le_of_ble_eq_true rfl⟩) (tr_preV (ci := 3) (q0 := 3) hI rfl (wdX_o3 a cA _) rfl hN hw) rfl rfl hl.1 rfl (lv_room (Nat.le_of_ble_eq_true rfl)) d_Bo_putRide_16 ⟨Nat.zero_le _, Nat.zero_le _⟩) (fun u16 H locs hw hI => ?_)
      refine lv_iinc (v := (x3 + 1)) (lv' := [(3, .int (x3 + 1)), (0, .ref (a 3)), (1, .ref (a 2)), (2, .int x2)]) hx hb d_Bo_putRide_19 hl (k := 3) rfl rfl (by decide) rfl (fun ls hl => ?_)
      refine lv_goto (tgt := 2) hx hb d_Bo_putRide_22 (by decide) ?_
      exact ih _ _ _ _ _ ls hw hI (lv_sub hl [1, 2, 3, 0] rfl)
set_option maxRecDepth 100000 in
set_option maxHeartbeats 4000000 in
theorem c_Bo_putRide (l : Launch) (dC : Nat → ClassId) (dI : Nat → Nat → Nat) (cA : ClassId) (a : Nat → Nat) (u : tS) (x2 : Int32) (post : tS → Prop) (sz : Nat) : Met l y_Bo_putRide ws_Bo_putRide ({ frames := 2, cells := 0, slots := 0, locals := 47 }) (va_Pc [.ref (a 3), .ref (a 2), .int x2] (tP (dC, dI) twCl [(cA, .int)] (wdX a cA) u sz (w_Bo_putRide post x2 u))) (va_Qv post (tB (dC, dI) twCl [(cA, .int)] (va_A (wdX a cA u) sz) (wdX a cA)) (va_A (wdX a cA u) sz)) 0 0 (va_A (wdX a cA u) sz) := by
  refine Met.ofW (cc := b_Bo_putRide) (maxL := 4) (ret := none) (by decide) rfl ?_
  intro p e s m args below meth c s₁ B hml hv
  obtain ⟨rfl, hsz, hP, hK, hD0, hN, hw⟩ := hv
  have hx := B.exec
  have hb := B.bytes
  have hr := B.returns
  have hts : ∀ w ∈ wsA, w.before _ s = true := fun w h => atoms_spec (ws := ws_Bo_putRide) B.pre w (List.mem_cons_of_mem _ h)
  have hown : s.vm.findClass R_Bo = some m.cls := findClass_of_methodNamed B.named
  have hlocks := B.notSynchronized
  subst hsz
  have hD := hD0.self (sz := s.heap.size)
  generalize hAe : va_A (wdX a cA u) s.heap.size = A at hD ⊢
  have hA : ∀ q : Nat, s.heap.size ≤ q → A q := fun q h => by rw [← hAe]; exact Or.inr h
  have hS : va_S A s.heap s.heap [] := va_S.rf
  have hI : tX (dC, dI) twCl [(cA, .int)] A s s.heap [] (wdX a cA u) := ⟨hK, hP, hD, hS⟩
  have hC : tC p s m meth c ([.ref (a 3), .ref (a 2), .int x2] : List Value).toArray b_Bo_putRide 4 none wsA R_Bo A := ⟨hx, hb, hr, hml, hown, hts, hlocks, hA, hN⟩
  have hl := lv_entry ([.ref (a 3), .ref (a 2), .int x2]) (n := 4) (Nat.le_of_ble_eq_true rfl)
  rw [lg_entry_eq]
  generalize (lg_sl ([.ref (a 3), .ref (a 2), .int x2]) ++ List.replicate (4 - (lg_sl ([.ref (a 3), .ref (a 2), .int x2])).length) Slot.unset).toArray = ls at hl ⊢
  have hl : lv_has ls 4 [(0, .ref (a 3)), (1, .ref (a 2)), (2, .int x2)] := hl
  have hw : (∃ k, w_Bo_putRide_2 post k x2 0 u) := hw
  refine lv_iconst (v := 0) hx hb d_Bo_putRide_0 (by decide) ?_
  refine lv_istore_n (lv' := [(3, .int 0), (0, .ref (a 3)), (1, .ref (a 2)), (2, .int x2)]) hx hb d_Bo_putRide_1 rfl hl (by decide) rfl (fun ls hl => ?_)
  obtain ⟨k, hw⟩ := hw
  exact k_Bo_putRide_2 hC post k _ _ _ _ _ ls hw hI (lv_sub hl [1, 2, 3, 0] rfl)
def w_T_ride (post : Int32 → tS → Prop) (x1 : Int32) (x2 : Int32) (x3 : Int32) (x4 : Int32) (x5 : Int32) (u : tS) : Prop := (w_Ne_hasStops (fun r6 u6 => ((r6 = 0 → (post (-2) u6)) ∧ (¬ r6 = 0 → ((x1 = x2 → (post (-2) u6)) ∧ (¬ x1 = x2 → (w_T_within (fun r25 u25 => ((r25 = 0 → (post (-2) u25)) ∧ (¬ r25 = 0 → (w_T_within (fun r37 u37 => ((r37 = 0 → (post (-2) u37)) ∧ (¬ r37 = 0 → (w_T_within (fun r48 u48 => ((r48 = 0 → (post (-2) u48)) ∧ (¬ r48 = 0 → (((u48.1 1) < 40 → (w_Ri_add (fun r89 u89 => (w_Bo_putRide (fun u110 => (post r89 u110)) r89 u89)) x1 x2 x3 x4 x5 u48)) ∧ (¬ (u48.1 1) < 40 → (post (-3) u48)))))) x5 1 127 u37)))) x4 1 1440 u25)))) x3 0 1439 u6)))))) x1 x2 u)
set_option maxRecDepth 100000 in
set_option maxHeartbeats 4000000 in
theorem c_T_ride (l : Launch) (dC : Nat → ClassId) (dI : Nat → Nat → Nat) (cA : ClassId) (a : Nat → Nat) (u : tS) (x1 : Int32) (x2 : Int32) (x3 : Int32) (x4 : Int32) (x5 : Int32) (post : Int32 → tS → Prop) (sz : Nat) : Met l y_T_ride ws_T_ride ({ frames := 3, cells := 0, slots := 0, locals := 70 }) (va_Pc [.ref (a 0), .int x1, .int x2, .int x3, .int x4, .int x5] (tP (dC, dI) twCl [(cA, .int)] (wdX a cA) u sz (w_T_ride post x1 x2 x3 x4 x5 u))) (va_Qi post (tB (dC, dI) twCl [(cA, .int)] (va_A (wdX a cA u) sz) (wdX a cA)) (va_A (wdX a cA u) sz)) 0 0 (va_A (wdX a cA u) sz) := by
  refine Met.ofW (cc := b_T_ride) (maxL := 7) (ret := (some .int)) (by decide) rfl ?_
  intro p e s m args below meth c s₁ B hml hv
  obtain ⟨rfl, hsz, hP, hK, hD0, hN, hw⟩ := hv
  have hx := B.exec
  have hb := B.bytes
  have hr := B.returns
  have hts : ∀ w ∈ wsA, w.before _ s = true := fun w h => atoms_spec (ws := ws_T_ride) B.pre w (List.mem_cons_of_mem _ h)
  have hown : s.vm.findClass R_T = some m.cls := findClass_of_methodNamed B.named
  have hlocks := B.notSynchronized
  subst hsz
  have hD := hD0.self (sz := s.heap.size)
  generalize hAe : va_A (wdX a cA u) s.heap.size = A at hD ⊢
  have hA : ∀ q : Nat, s.heap.size ≤ q → A q := fun q h => by rw [← hAe]; exact Or.inr h
  have hS : va_S A s.heap s.heap [] := va_S.rf
  have hI : tX (dC, dI) twCl [(cA, .int)] A s s.heap [] (wdX a cA u) := ⟨hK, hP, hD, hS⟩
  have hC : tC p s m meth c ([.ref (a 0), .int x1, .int x2, .int x3, .int x4, .int x5] : List Value).toArray b_T_ride 7 (some .int) wsA R_T A := ⟨hx, hb, hr, hml, hown, hts, hlocks, hA, hN⟩
  have hl := lv_entry ([.ref (a 0), .int x1, .int x2, .int x3, .int x4, .int x5]) (n := 7) (Nat.le_of_ble_eq_true rfl)
  rw [lg_entry_eq]
  generalize (lg_sl ([.ref (a 0), .int x1, .int x2, .int x3, .int x4, .int x5]) ++ List.replicate (7 - (lg_sl ([.ref (a 0), .int x1, .int x2, .int x3, .int x4, .int x5])).length) Slot.unset).toArray = ls at hl ⊢
  have hl : lv_has ls 7 [(0, .ref (a 0)), (1, .int x1), (2, .int x2), (3, .int x3), (4, .int x4), (5, .int x5)] := hl
  have hw : (w_Ne_hasStops (fun r6 u6 => ((r6 = 0 → (post (-2) u6)) ∧ (¬ r6 = 0 → ((x1 = x2 → (post (-2) u6)) ∧ (¬ x1 = x2 → (w_T_within (fun r25 u25 => ((r25 = 0 → (post (-2) u25)) ∧ (¬ r25 = 0 → (w_T_within (fun r37 u37 => ((r37 = 0 → (post (-2) u37)) ∧ (¬ r37 = 0 → (w_T_within (fun r48 u48 => ((r48 = 0 → (post (-2) u48)) ∧ (¬ r48 = 0 → (((u48.1 1) < 40 → (w_Ri_add (fun r89 u89 => (w_Bo_putRide (fun u110 => (post r89 u110)) r89 u89)) x1 x2 x3 x4 x5 u48)) ∧ (¬ (u48.1 1) < 40 → (post (-3) u48)))))) x5 1 127 u37)))) x4 1 1440 u25)))) x3 0 1439 u6)))))) x1 x2 u) := hw
  refine lv_aload_n hx hb d_T_ride_0 rfl (lv_at hl 0 rfl) ?_
  refine va_get (D := (dC, dI)) (C := R_T) (T := F_T) (N := 6) hx hb hts in_T hown hI.1 hI.2.1 0 (wdX_o0 a cA _) rfl 0 (by decide) (hts _ wA_264) (fun _ h9 => h9) rfl d_T_ride_1 ?_
  refine lv_iload_n hx hb d_T_ride_4 rfl (lv_at hl 1 rfl) ?_
  refine lv_iload_n hx hb d_T_ride_5 rfl (lv_at hl 2 rfl) ?_
  refine tr_goi (w := wdX a cA) hI hA (va_runV (As := [.int x1, .int x2]) (rest := []) ⟨hx, hb, hml, hown, hts⟩ (c_Ne_hasStops l dC dI cA a _ _ _ _ _) (cwV 2 hts (wsA_goodV wA_315 wA_316 wA_317 wA_31 wA_318) rfl rfl rfl (by decide +kernel) ⟨Nat.le_of_ble_eq_true rfl, Nat.le_of_ble_eq_true rfl⟩) (tr_preV (ci := 1) (q0 := 1) hI rfl (wdX_o1 a cA _) rfl hN hw) rfl rfl hl.1 rfl (lv_room (Nat.le_of_ble_eq_true rfl)) d_T_ride_6 ⟨Nat.zero_le _, Nat.zero_le _⟩) (fun r6 u6 H locs hw hI => ?_)
  refine lv_if_eq (tgt := 17) hx hb d_T_ride_9 (by decide) (fun hc => ?_) (fun hc => ?_)
  · have hw := hw.1 hc
    refine lv_bipush (v := (-2)) hx hb d_T_ride_17 (by decide) ?_
    exact tr_iret hx hb hr hlocks hI hw d_T_ride_19
  · have hw := hw.2 hc
    refine lv_iload_n hx hb d_T_ride_12 rfl (lv_at hl 1 rfl) ?_
    refine lv_iload_n hx hb d_T_ride_13 rfl (lv_at hl 2 rfl) ?_
    refine lv_icmp_ne (tgt := 20) hx hb d_T_ride_14 (by decide) (fun hc => ?_) (fun hc => ?_)
    · have hw := hw.2 hc
      refine lv_iload_n hx hb d_T_ride_20 rfl (lv_at hl 3 rfl) ?_
      refine lv_iconst (v := 0) hx hb d_T_ride_21 (by decide) ?_
      refine lv_sipush (v := 1439) hx hb d_T_ride_22 (by decide) ?_
      refine tr_goi (w := wdX a cA) hI hA (va_runS (As := [.int x3, .int 0, .int 1439]) (rest := []) ⟨hx, hb, hml, hown, hts⟩ (c_T_within l dC dI cA a _ _ _ _ _ _) ⟨callB_of 3 hts (wsA_good wA_301) rfl rfl rfl (hts _ wA_30) (hts _ wA_299) (by decide +kernel) ⟨Nat.le_of_ble_eq_true rfl, Nat.le_of_ble_eq_true rfl⟩, hts _ wA_300⟩ (tr_preS hI hN hw) rfl rfl hl.1 rfl (lv_room (Nat.le_of_ble_eq_true rfl)) d_T_ride_25 ⟨Nat.zero_le _, Nat.zero_le _⟩) (fun r25 u25 H locs hw hI => ?_)
      refine lv_if_eq (tgt := 54) hx hb d_T_ride_28 (by decide) (fun hc => ?_) (fun hc => ?_)
      · have hw := hw.1 hc
        refine lv_bipush (v := (-2)) hx hb d_T_ride_54 (by decide) ?_
        exact tr_iret hx hb hr hlocks hI hw d_T_ride_56
      · have hw := hw.2 hc
        refine lv_iload hx hb d_T_ride_31 (lv_at hl 4 rfl) ?_
        refine lv_iconst (v := 1) hx hb d_T_ride_33 (by decide) ?_
        refine lv_sipush (v := 1440) hx hb d_T_ride_34 (by decide) ?_
        refine tr_goi (w := wdX a cA) hI hA (va_runS (As := [.int x4, .int 1, .int 1440]) (rest := []) ⟨hx, hb, hml, hown, hts⟩ (c_T_within l dC dI cA a _ _ _ _ _ _) ⟨callB_of 3 hts (wsA_good wA_301) rfl rfl rfl (hts _ wA_30) (hts _ wA_299) (by decide +kernel) ⟨Nat.le_of_ble_eq_true rfl, Nat.le_of_ble_eq_true rfl⟩, hts _ wA_300⟩ (tr_preS hI hN hw) rfl rfl hl.1 rfl (lv_room (Nat.le_of_ble_eq_true rfl)) d_T_ride_37 ⟨Nat.zero_le _, Nat.zero_le _⟩) (fun r37 u37 H locs hw hI => ?_)
        refine lv_if_eq (tgt := 54) hx hb d_T_ride_40 (by decide) (fun hc => ?_) (fun hc => ?_)
        · have hw := hw.1 hc
          refine lv_bipush (v := (-2)) hx hb d_T_ride_54 (by decide) ?_
          exact tr_iret hx hb hr hlocks hI hw d_T_ride_56
        · have hw := hw.2 hc
          refine lv_iload hx hb d_T_ride_43 (lv_at hl 5 rfl) ?_
          refine lv_iconst (v := 1) hx hb d_T_ride_45 (by decide) ?_
          refine lv_bipush (v := 127) hx hb d_T_ride_46 (by decide) ?_
          refine tr_goi (w := wdX a cA) hI hA (va_runS (As := [.int x5, .int 1, .int 127]) (rest := []) ⟨hx, hb, hml, hown, hts⟩ (c_T_within l dC dI cA a _ _ _ _ _ _) ⟨callB_of 3 hts (wsA_good wA_301) rfl rfl rfl (hts _ wA_30) (hts _ wA_299) (by decide +kernel) ⟨Nat.le_of_ble_eq_true rfl, Nat.le_of_ble_eq_true rfl⟩, hts _ wA_300⟩ (tr_preS hI hN hw) rfl rfl hl.1 rfl (lv_room (Nat.le_of_ble_eq_true rfl)) d_T_ride_48 ⟨Nat.zero_le _, Nat.zero_le _⟩) (fun r48 u48 H locs hw hI => ?_)
          refine lv_if_ne (tgt := 57) hx hb d_T_ride_51 (by decide) (fun hc => ?_) (fun hc => ?_)
          · have hw := hw.2 hc
            refine lv_aload_n hx hb d_T_ride_57 rfl (lv_at hl 0 rfl) ?_
            refine va_get (D := (dC, dI)) (C := R_T) (T := F_T) (N := 6) hx hb hts in_T hown hI.1 hI.2.1 0 (wdX_o0 a cA _) rfl 0 (by decide) (hts _ wA_264) (fun _ h9 => h9) rfl d_T_ride_58 ?_
            refine va_get (D := (dC, dI)) (C := R_Ne) (T := F_Ne) (N := 5) hx hb hts in_Ne hown hI.1 hI.2.1 1 (wdX_o1 a cA _) rfl 2 (by decide) (hts _ wA_167) (fun _ h9 => h9) rfl d_T_ride_61 ?_
            refine va_get (D := (dC, dI)) (C := R_Ri) (T := F_Ri) (N := 7) hx hb hts in_Ri hown hI.1 hI.2.1 2 (wdX_o2 a cA _) rfl 0 (by decide) (hts _ wA_64) (fun _ h9 => h9) rfl d_T_ride_64 ?_
            refine lv_bipush (v := 40) hx hb d_T_ride_67 (by decide) ?_
            refine lv_icmp_lt (tgt := 75) hx hb d_T_ride_69 (by decide) (fun hc => ?_) (fun hc => ?_)
            · have hw := hw.1 hc
              refine lv_aload_n hx hb d_T_ride_75 rfl (lv_at hl 0 rfl) ?_
              refine va_get (D := (dC, dI)) (C := R_T) (T := F_T) (N := 6) hx hb hts in_T hown hI.1 hI.2.1 0 (wdX_o0 a cA _) rfl 0 (by decide) (hts _ wA_264) (fun _ h9 => h9) rfl d_T_ride_76 ?_
              refine va_get (D := (dC, dI)) (C := R_Ne) (T := F_Ne) (N := 5) hx hb hts in_Ne hown hI.1 hI.2.1 1 (wdX_o1 a cA _) rfl 2 (by decide) (hts _ wA_167) (fun _ h9 => h9) rfl d_T_ride_79 ?_
              refine lv_iload_n hx hb d_T_ride_82 rfl (lv_at hl 1 rfl) ?_
              refine lv_iload_n hx hb d_T_ride_83 rfl (lv_at hl 2 rfl) ?_
              refine lv_iload_n hx hb d_T_ride_84 rfl (lv_at hl 3 rfl) ?_
              refine lv_iload hx hb d_T_ride_85 (lv_at hl 4 rfl) ?_
              refine lv_iload hx hb d_T_ride_87 (lv_at hl 5 rfl) ?_
              refine tr_goi (w := wdX a cA) hI hA (va_runV (As := [.int x1, .int x2, .int x3, .int x4, .int x5]) (rest := []) ⟨hx, hb, hml, hown, hts⟩ (c_Ri_add l dC dI cA a _ _ _ _ _ _ _ _) (cwV 5 hts (wsA_goodV wA_320 wA_321 wA_322 wA_32 wA_323) rfl rfl rfl (by decide +kernel) ⟨Nat.le_of_ble_eq_true rfl, Nat.le_of_ble_eq_true rfl⟩) (tr_preV (ci := 2) (q0 := 2) hI rfl (wdX_o2 a cA _) rfl hN hw) rfl rfl hl.1 rfl (lv_room (Nat.le_of_ble_eq_true rfl)) d_T_ride_89 ⟨Nat.zero_le _, Nat.zero_le _⟩) (fun r89 u89 H locs hw hI => ?_)
              refine lv_istore (lv' := [(6, .int r89), (0, .ref (a 0)), (1, .int x1), (2, .int x2), (3, .int x3), (4, .int x4), (5, .int x5)]) hx hb d_T_ride_92 hl (by decide) rfl (fun ls hl => ?_)
              refine lv_aload_n hx hb d_T_ride_94 rfl (lv_at hl 1 rfl) ?_
              refine va_get (D := (dC, dI)) (C := R_T) (T := F_T) (N := 6) hx hb hts in_T hown hI.1 hI.2.1 0 (wdX_o0 a cA _) rfl 0 (by decide) (hts _ wA_264) (fun _ h9 => h9) rfl d_T_ride_95 ?_
              refine va_get (D := (dC, dI)) (C := R_Ne) (T := F_Ne) (N := 5) hx hb hts in_Ne hown hI.1 hI.2.1 1 (wdX_o1 a cA _) rfl 3 (by decide) (hts _ wA_173) (fun _ h9 => h9) rfl d_T_ride_98 ?_
              refine lv_aload_n hx hb d_T_ride_101 rfl (lv_at hl 1 rfl) ?_
              refine va_get (D := (dC, dI)) (C := R_T) (T := F_T) (N := 6) hx hb hts in_T hown hI.1 hI.2.1 0 (wdX_o0 a cA _) rfl 0 (by decide) (hts _ wA_264) (fun _ h9 => h9) rfl d_T_ride_102 ?_
              refine va_get (D := (dC, dI)) (C := R_Ne) (T := F_Ne) (N := 5) hx hb hts in_Ne hown hI.1 hI.2.1 1 (wdX_o1 a cA _) rfl 2 (by decide) (hts _ wA_167) (fun _ h9 => h9) rfl d_T_ride_105 ?_
              refine lv_iload hx hb d_T_ride_108 (lv_at hl 0 rfl) ?_
              refine tr_gov (w := wdX a cA) hI hA (va_runV (As := [.ref (a 2), .int r89]) (rest := []) ⟨hx, hb, hml, hown, hts⟩ (c_Bo_putRide l dC dI cA a _ _ _ _) (cwV 2 hts (wsA_goodV wA_328 wA_329 wA_330 wA_33 wA_331) rfl rfl rfl (by decide +kernel) ⟨Nat.le_of_ble_eq_true rfl, Nat.le_of_ble_eq_true rfl⟩) (tr_preV (ci := 3) (q0 := 3) hI rfl (wdX_o3 a cA _) rfl hN hw) rfl rfl hl.1 rfl (lv_room (Nat.le_of_ble_eq_true rfl)) d_T_ride_110 ⟨Nat.zero_le _, Nat.zero_le _⟩) (fun u110 H locs hw hI => ?_)
              refine lv_iload hx hb d_T_ride_113 (lv_at hl 0 rfl) ?_
              exact tr_iret hx hb hr hlocks hI hw d_T_ride_115
            · have hw := hw.2 hc
              refine lv_bipush (v := (-3)) hx hb d_T_ride_72 (by decide) ?_
              exact tr_iret hx hb hr hlocks hI hw d_T_ride_74
          · have hw := hw.1 hc
            refine lv_bipush (v := (-2)) hx hb d_T_ride_54 (by decide) ?_
            exact tr_iret hx hb hr hlocks hI hw d_T_ride_56
    · have hw := hw.1 hc
      refine lv_bipush (v := (-2)) hx hb d_T_ride_17 (by decide) ?_
      exact tr_iret hx hb hr hlocks hI hw d_T_ride_19
def w_Wa_atLeastOne (post : Int32 → tS → Prop) (x1 : Int32) (x2 : Int32) (u : tS) : Prop := (vp_in ((x1 * 12) + x2) 144 ∧ (post (u.2 12 ((x1 * 12) + x2).toNatClampNeg) u))
set_option maxRecDepth 100000 in
set_option maxHeartbeats 4000000 in
theorem c_Wa_atLeastOne (l : Launch) (dC : Nat → ClassId) (dI : Nat → Nat → Nat) (cA : ClassId) (a : Nat → Nat) (u : tS) (x1 : Int32) (x2 : Int32) (post : Int32 → tS → Prop) (sz : Nat) : Met l y_Wa_atLeastOne ws_Wa_atLeastOne ({ frames := 0, cells := 0, slots := 0, locals := 0 }) (va_Pc [.ref (a 4), .int x1, .int x2] (tP (dC, dI) twCl [(cA, .int)] (wdX a cA) u sz (w_Wa_atLeastOne post x1 x2 u))) (va_Qi post (tB (dC, dI) twCl [(cA, .int)] (va_A (wdX a cA u) sz) (wdX a cA)) (va_A (wdX a cA u) sz)) 0 0 (va_A (wdX a cA u) sz) := by
  refine Met.ofW (cc := b_Wa_atLeastOne) (maxL := 3) (ret := (some .int)) (by decide) rfl ?_
  intro p e s m args below meth c s₁ B hml hv
  obtain ⟨rfl, hsz, hP, hK, hD0, hN, hw⟩ := hv
  have hx := B.exec
  have hb := B.bytes
  have hr := B.returns
  have hts : ∀ w ∈ wsA, w.before _ s = true := fun w h => atoms_spec (ws := ws_Wa_atLeastOne) B.pre w (List.mem_cons_of_mem _ h)
  have hown : s.vm.findClass R_Wa = some m.cls := findClass_of_methodNamed B.named
  have hlocks := B.notSynchronized
  subst hsz
  have hD := hD0.self (sz := s.heap.size)
  generalize hAe : va_A (wdX a cA u) s.heap.size = A at hD ⊢
  have hA : ∀ q : Nat, s.heap.size ≤ q → A q := fun q h => by rw [← hAe]; exact Or.inr h
  have hS : va_S A s.heap s.heap [] := va_S.rf
  have hI : tX (dC, dI) twCl [(cA, .int)] A s s.heap [] (wdX a cA u) := ⟨hK, hP, hD, hS⟩
  have hC : tC p s m meth c ([.ref (a 4), .int x1, .int x2] : List Value).toArray b_Wa_atLeastOne 3 (some .int) wsA R_Wa A := ⟨hx, hb, hr, hml, hown, hts, hlocks, hA, hN⟩
  have hl := lv_entry ([.ref (a 4), .int x1, .int x2]) (n := 3) (Nat.le_of_ble_eq_true rfl)
  rw [lg_entry_eq]
  generalize (lg_sl ([.ref (a 4), .int x1, .int x2]) ++ List.replicate (3 - (lg_sl ([.ref (a 4), .int x1, .int x2])).length) Slot.unset).toArray = ls at hl ⊢
  have hl : lv_has ls 3 [(0, .ref (a 4)), (1, .int x1), (2, .int x2)] := hl
  have hw : (vp_in ((x1 * 12) + x2) 144 ∧ (post (u.2 12 ((x1 * 12) + x2).toNatClampNeg) u)) := hw
  refine lv_aload_n hx hb d_Wa_atLeastOne_0 rfl (lv_at hl 0 rfl) ?_
  refine va_get (D := (dC, dI)) (C := R_Wa) (T := F_Wa) (N := 5) hx hb hts in_Wa hown hI.1 hI.2.1 4 (wdX_o4 a cA _) rfl 4 (by decide) (hts _ wA_148) (fun _ h9 => h9) rfl d_Wa_atLeastOne_1 ?_
  refine lv_iload_n hx hb d_Wa_atLeastOne_4 rfl (lv_at hl 1 rfl) ?_
  refine lv_bipush (v := 12) hx hb d_Wa_atLeastOne_5 (by decide) ?_
  refine lv_imul hx hb d_Wa_atLeastOne_7 ?_
  refine lv_iload_n hx hb d_Wa_atLeastOne_8 rfl (lv_at hl 2 rfl) ?_
  refine lv_iadd hx hb d_Wa_atLeastOne_9 ?_
  obtain ⟨hi, hw⟩ := hw
  refine va_iald (D := (dC, dI)) hx hb hI.1 hI.2.1 22 0 (wdX_o22 a cA _) rfl hi d_Wa_atLeastOne_10 ?_
  exact tr_iret hx hb hr hlocks hI hw d_Wa_atLeastOne_11
def w_Wa_anyNumber (post : Int32 → tS → Prop) (x1 : Int32) (x2 : Int32) (u : tS) : Prop := ((x1 = x2 → (post 0 u)) ∧ (¬ x1 = x2 → (w_Wa_atLeastOne (fun r12 u12 => (post r12 u12)) x1 x2 u)))
set_option maxRecDepth 100000 in
set_option maxHeartbeats 4000000 in
theorem c_Wa_anyNumber (l : Launch) (dC : Nat → ClassId) (dI : Nat → Nat → Nat) (cA : ClassId) (a : Nat → Nat) (u : tS) (x1 : Int32) (x2 : Int32) (post : Int32 → tS → Prop) (sz : Nat) : Met l y_Wa_anyNumber ws_Wa_anyNumber ({ frames := 1, cells := 0, slots := 0, locals := 22 }) (va_Pc [.ref (a 4), .int x1, .int x2] (tP (dC, dI) twCl [(cA, .int)] (wdX a cA) u sz (w_Wa_anyNumber post x1 x2 u))) (va_Qi post (tB (dC, dI) twCl [(cA, .int)] (va_A (wdX a cA u) sz) (wdX a cA)) (va_A (wdX a cA u) sz)) 0 0 (va_A (wdX a cA u) sz) := by
  refine Met.ofW (cc := b_Wa_anyNumber) (maxL := 3) (ret := (some .int)) (by decide) rfl ?_
  intro p e s m args below meth c s₁ B hml hv
  obtain ⟨rfl, hsz, hP, hK, hD0, hN, hw⟩ := hv
  have hx := B.exec
  have hb := B.bytes
  have hr := B.returns
  have hts : ∀ w ∈ wsA, w.before _ s = true := fun w h => atoms_spec (ws := ws_Wa_anyNumber) B.pre w (List.mem_cons_of_mem _ h)
  have hown : s.vm.findClass R_Wa = some m.cls := findClass_of_methodNamed B.named
  have hlocks := B.notSynchronized
  subst hsz
  have hD := hD0.self (sz := s.heap.size)
  generalize hAe : va_A (wdX a cA u) s.heap.size = A at hD ⊢
  have hA : ∀ q : Nat, s.heap.size ≤ q → A q := fun q h => by rw [← hAe]; exact Or.inr h
  have hS : va_S A s.heap s.heap [] := va_S.rf
  have hI : tX (dC, dI) twCl [(cA, .int)] A s s.heap [] (wdX a cA u) := ⟨hK, hP, hD, hS⟩
  have hC : tC p s m meth c ([.ref (a 4), .int x1, .int x2] : List Value).toArray b_Wa_anyNumber 3 (some .int) wsA R_Wa A := ⟨hx, hb, hr, hml, hown, hts, hlocks, hA, hN⟩
  have hl := lv_entry ([.ref (a 4), .int x1, .int x2]) (n := 3) (Nat.le_of_ble_eq_true rfl)
  rw [lg_entry_eq]
  generalize (lg_sl ([.ref (a 4), .int x1, .int x2]) ++ List.replicate (3 - (lg_sl ([.ref (a 4), .int x1, .int x2])).length) Slot.unset).toArray = ls at hl ⊢
  have hl : lv_has ls 3 [(0, .ref (a 4)), (1, .int x1), (2, .int x2)] := hl
  have hw : ((x1 = x2 → (post 0 u)) ∧ (¬ x1 = x2 → (w_Wa_atLeastOne (fun r12 u12 => (post r12 u12)) x1 x2 u))) := hw
  refine lv_iload_n hx hb d_Wa_anyNumber_0 rfl (lv_at hl 1 rfl) ?_
  refine lv_iload_n hx hb d_Wa_anyNumber_1 rfl (lv_at hl 2 rfl) ?_
  refine lv_icmp_ne (tgt := 9) hx hb d_Wa_anyNumber_2 (by decide) (fun hc => ?_) (fun hc => ?_)
  · have hw := hw.2 hc
    refine lv_aload_n hx hb d_Wa_anyNumber_9 rfl (lv_at hl 0 rfl) ?_
    refine lv_iload_n hx hb d_Wa_anyNumber_10 rfl (lv_at hl 1 rfl) ?_
    refine lv_iload_n hx hb d_Wa_anyNumber_11 rfl (lv_at hl 2 rfl) ?_
    refine tr_goi (w := wdX a cA) hI hA (va_runV (As := [.int x1, .int x2]) (rest := []) ⟨hx, hb, hml, hown, hts⟩ (c_Wa_atLeastOne l dC dI cA a _ _ _ _ _) (cwV 2 hts (wsA_goodV wA_364 wA_365 wA_366 wA_34 wA_367) rfl rfl rfl (by decide +kernel) ⟨Nat.le_of_ble_eq_true rfl, Nat.le_of_ble_eq_true rfl⟩) (tr_preV (ci := 4) (q0 := 4) hI rfl (wdX_o4 a cA _) rfl hN hw) rfl rfl hl.1 rfl (lv_room (Nat.le_of_ble_eq_true rfl)) d_Wa_anyNumber_12 ⟨Nat.zero_le _, Nat.zero_le _⟩) (fun r12 u12 H locs hw hI => ?_)
    exact tr_iret hx hb hr hlocks hI hw d_Wa_anyNumber_15
  · have hw := hw.1 hc
    refine lv_iconst (v := 0) hx hb d_Wa_anyNumber_5 (by decide) ?_
    refine lv_goto (tgt := 15) hx hb d_Wa_anyNumber_6 (by decide) ?_
    exact tr_iret hx hb hr hlocks hI hw d_Wa_anyNumber_15
def w_Wa_shorten_24 (post : tS → Prop) (K3 : Int32 → Int32 → Int32 → Int32 → tS → Prop) : Nat → Int32 → Int32 → Int32 → Int32 → Int32 → Int32 → tS → Prop
  | 0 => fun _ _ _ _ _ _ _ => False
  | n + 1 => fun x1 x2 x3 x4 x5 x6 u => ((12 ≤ x6 → (K3 x1 x2 x3 (x4 + 1) u)) ∧ (¬ 12 ≤ x6 → (w_Wa_anyNumber (fun r37 u37 => (vp_in ((x4 * 12) + x6) 144 ∧ (vp_in ((x4 * 12) + x6) 144 ∧ (w_Wa_shorten_24 post K3 n x1 x2 x3 x4 x5 (x6 + 1) (tA u37 12 ((x4 * 12) + x6) (if (x5 + r37) < (u37.2 12 ((x4 * 12) + x6).toNatClampNeg) then (x5 + r37) else (u37.2 12 ((x4 * 12) + x6).toNatClampNeg))))))) x2 x6 u)))
def w_Wa_shorten_3 (post : tS → Prop) : Nat → Int32 → Int32 → Int32 → Int32 → tS → Prop
  | 0 => fun _ _ _ _ _ => False
  | n + 1 => fun x1 x2 x3 x4 u => ((12 ≤ x4 → (post u)) ∧ (¬ 12 ≤ x4 → (w_Wa_anyNumber (fun r14 u14 => (∃ k, w_Wa_shorten_24 post (w_Wa_shorten_3 post n) k x1 x2 x3 x4 (r14 + x3) 0 u14)) x4 x1 u)))
def w_Wa_shorten (post : tS → Prop) (x1 : Int32) (x2 : Int32) (x3 : Int32) (u : tS) : Prop := (∃ k, w_Wa_shorten_3 post k x1 x2 x3 0 u)
set_option maxRecDepth 100000 in
set_option maxHeartbeats 4000000 in
theorem k_Wa_shorten_24 {p : Program} {l : Launch} {e : Env} {s : State} {m : MethodId} {args : Array Value} {below : List Frame} {meth : Method} {c : Code} {dC : Nat → ClassId} {dI : Nat → Nat → Nat} {cA : ClassId} {a : Nat → Nat} {A : Nat → Prop} (hC : tC p s m meth c args b_Wa_shorten 8 none wsA R_Wa A) (post : tS → Prop) (K3 : Int32 → Int32 → Int32 → Int32 → tS → Prop) (hK3 : ∀ (x1 x2 x3 x4 : Int32) (u : tS) (H : Heap) (locs : List Loc) (ls : Array Slot), K3 x1 x2 x3 x4 u → tX (dC, dI) twCl [(cA, .int)] A s H locs (wdX a cA u) → lv_has ls 8 [(0, .ref (a 4)), (1, .int x1), (2, .int x2), (3, .int x3), (4, .int x4)] → W p l e ({ frames := 2, cells := 0, slots := 0, locals := 44 }) s m args below meth c H locs 0 0 (MQ below (va_Qv post (tB (dC, dI) twCl [(cA, .int)] A (wdX a cA)) A) args s 0 0 A) (F0 m 3 ls [])) : ∀ n : Nat, ∀ (x1 x2 x3 x4 x5 x6 : Int32) (u : tS) (H : Heap) (locs : List Loc) (ls : Array Slot), w_Wa_shorten_24 post K3 n x1 x2 x3 x4 x5 x6 u → tX (dC, dI) twCl [(cA, .int)] A s H locs (wdX a cA u) → lv_has ls 8 [(0, .ref (a 4)), (1, .int x1), (2, .int x2), (3, .int x3), (4, .int x4), (5, .int x5), (6, .int x6)] → W p l e ({ frames := 2, cells := 0, slots := 0, locals := 44 }) s m args below meth c H locs 0 0 (MQ below (va_Qv post (tB (dC, dI) twCl [(cA, .int)] A (wdX a cA)) A) args s 0 0 A) (F0 m 24 ls []) := by
  obtain ⟨hx, hb, hr, hml, hown, hts, hlocks, hA, hN⟩ := id hC
  intro n
  induction n with
  | zero => intro x1 x2 x3 x4 x5 x6 u H locs ls hw; exact False.elim hw
  | succ n ih =>
    intro x1 x2 x3 x4 x5 x6 u H locs ls hw hI hl
    refine lv_iload hx hb d_Wa_shorten_24 (lv_at hl 6 rfl) ?_
    refine lv_bipush (v := 12) hx hb d_Wa_shorten_26 (by decide) ?_
    refine lv_icmp_ge (tgt := 80) hx hb d_Wa_shorten_28 (by decide) (fun hc => ?_) (fun hc => ?_)
    · have hw := hw.1 hc
      refine lv_iinc (v := (x4 + 1)) (lv' := [(4, .int (x4 + 1)), (0, .ref (a 4)), (1, .int x1), (2, .int x2), (3, .int x3), (5, .int x5), (6, .int x6)]) hx hb d_Wa_shorten_80 hl (k := 4) rfl rfl (by decide) rfl (fun ls hl => ?_)
      refine lv_goto (tgt := 3) hx hb d_Wa_shorten_83 (by decide) ?_
      exact hK3 _ _ _ _ _ _ _ ls hw hI (lv_sub hl [1, 2, 3, 4, 0] rfl)
    · have hw := hw.2 hc
      refine lv_iload hx hb d_Wa_shorten_31 (lv_at hl 5 rfl) ?_
      refine lv_aload_n hx hb d_Wa_shorten_33 rfl (lv_at hl 0 rfl) ?_
      refine lv_iload_n hx hb d_Wa_shorten_34 rfl (lv_at hl 2 rfl) ?_
      refine lv_iload hx hb d_Wa_shorten_35 (lv_at hl 6 rfl) ?_
      refine tr_goi (w := wdX a cA) hI hA (va_runV (As := [.int x2, .int x6]) (rest := [.int x5]) ⟨hx, hb, hml, hown, hts⟩ (c_Wa_anyNumber l dC dI cA a _ _ _ _ _) (cwV 2 hts (wsA_goodV wA_360 wA_361 wA_362 wA_34 wA_363) rfl rfl rfl (by decide +kernel) ⟨Nat.le_of_ble_eq_true rfl, Nat.le_of_ble_eq_true rfl⟩) (tr_preV (ci := 4) (q0 := 4) hI rfl (wdX_o4 a cA _) rfl hN hw) rfl rfl hl.1 rfl (lv_room (Nat.le_of_ble_eq_true rfl)) d_Wa_shorten_37 ⟨Nat.zero_le _, Nat.zero_le _⟩) (fun r37 u37 H locs hw hI => ?_)
      refine lv_iadd hx hb d_Wa_shorten_40 ?_
      refine lv_istore (lv' := [(7, .int (x5 + r37)), (0, .ref (a 4)), (1, .int x1), (2, .int x2), (3, .int x3), (4, .int x4), (5, .int x5), (6, .int x6)]) hx hb d_Wa_shorten_41 hl (by decide) rfl (fun ls hl => ?_)
      refine lv_aload_n hx hb d_Wa_shorten_43 rfl (lv_at hl 1 rfl) ?_
      refine va_get (D := (dC, dI)) (C := R_Wa) (T := F_Wa) (N := 5) hx hb hts in_Wa hown hI.1 hI.2.1 4 (wdX_o4 a cA _) rfl 4 (by decide) (hts _ wA_148) (fun _ h9 => h9) rfl d_Wa_shorten_44 ?_
      refine lv_iload hx hb d_Wa_shorten_47 (lv_at hl 5 rfl) ?_
      refine lv_bipush (v := 12) hx hb d_Wa_shorten_49 (by decide) ?_
      refine lv_imul hx hb d_Wa_shorten_51 ?_
      refine lv_iload hx hb d_Wa_shorten_52 (lv_at hl 7 rfl) ?_
      refine lv_iadd hx hb d_Wa_shorten_54 ?_
      refine lv_aload_n hx hb d_Wa_shorten_55 rfl (lv_at hl 1 rfl) ?_
      refine va_get (D := (dC, dI)) (C := R_Wa) (T := F_Wa) (N := 5) hx hb hts in_Wa hown hI.1 hI.2.1 4 (wdX_o4 a cA _) rfl 4 (by decide) (hts _ wA_148) (fun _ h9 => h9) rfl d_Wa_shorten_56 ?_
      refine lv_iload hx hb d_Wa_shorten_59 (lv_at hl 5 rfl) ?_
      refine lv_bipush (v := 12) hx hb d_Wa_shorten_61 (by decide) ?_
      refine lv_imul hx hb d_Wa_shorten_63 ?_
      refine lv_iload hx hb d_Wa_shorten_64 (lv_at hl 7 rfl) ?_
      refine lv_iadd hx hb d_Wa_shorten_66 ?_
      obtain ⟨hi, hw⟩ := hw
      refine va_iald (D := (dC, dI)) hx hb hI.1 hI.2.1 22 0 (wdX_o22 a cA _) rfl hi d_Wa_shorten_67 ?_
      refine lv_iload hx hb d_Wa_shorten_68 (lv_at hl 0 rfl) ?_
      refine va_mmin hx hb (by rw [hml]; exact hl.1.symm) hown (hts _ wA_368) (hts _ wA_369) (hts _ wA_41) (hts _ wA_370) (Nat.le_of_ble_eq_true rfl) (Nat.le_of_ble_eq_true rfl) (Nat.zero_le _) (Nat.zero_le _) d_Wa_shorten_70 ?_
      obtain ⟨hi, hw⟩ := hw
      refine tr_iast (w := wdX a cA) hx hb hI 22 0 12 (wdX_o22 a cA _) rfl (wdX_a12 a cA _ _ _) hi d_Wa_shorten_73 (fun H locs hI => ?_)
      refine lv_iinc (v := (x6 + 1)) (lv' := [(6, .int (x6 + 1)), (7, .int (x5 + r37)), (0, .ref (a 4)), (1, .int x1), (2, .int x2), (3, .int x3), (4, .int x4), (5, .int x5)]) hx hb d_Wa_shorten_74 hl (k := 7) rfl rfl (by decide) rfl (fun ls hl => ?_)
      refine lv_goto (tgt := 24) hx hb d_Wa_shorten_77 (by decide) ?_
      exact ih _ _ _ _ _ _ _ _ _ ls hw hI (lv_sub hl [2, 3, 4, 5, 6, 7, 0] rfl)
set_option maxRecDepth 100000 in
set_option maxHeartbeats 4000000 in
theorem k_Wa_shorten_3 {p : Program} {l : Launch} {e : Env} {s : State} {m : MethodId} {args : Array Value} {below : List Frame} {meth : Method} {c : Code} {dC : Nat → ClassId} {dI : Nat → Nat → Nat} {cA : ClassId} {a : Nat → Nat} {A : Nat → Prop} (hC : tC p s m meth c args b_Wa_shorten 8 none wsA R_Wa A) (post : tS → Prop) : ∀ n : Nat, ∀ (x1 x2 x3 x4 : Int32) (u : tS) (H : Heap) (locs : List Loc) (ls : Array Slot), w_Wa_shorten_3 post n x1 x2 x3 x4 u → tX (dC, dI) twCl [(cA, .int)] A s H locs (wdX a cA u) → lv_has ls 8 [(0, .ref (a 4)), (1, .int x1), (2, .int x2), (3, .int x3), (4, .int x4)] → W p l e ({ frames := 2, cells := 0, slots := 0, locals := 44 }) s m args below meth c H locs 0 0 (MQ below (va_Qv post (tB (dC, dI) twCl [(cA, .int)] A (wdX a cA)) A) args s 0 0 A) (F0 m 3 ls []) := by
  obtain ⟨hx, hb, hr, hml, hown, hts, hlocks, hA, hN⟩ := id hC
  intro n
  induction n with
  | zero => intro x1 x2 x3 x4 u H locs ls hw; exact False.elim hw
  | succ n ih =>
    intro x1 x2 x3 x4 u H locs ls hw hI hl
    refine lv_iload hx hb d_Wa_shorten_3 (lv_at hl 4 rfl) ?_
    refine lv_bipush (v := 12) hx hb d_Wa_shorten_5 (by decide) ?_
    refine lv_icmp_ge (tgt := 86) hx hb d_Wa_shorten_7 (by decide) (fun hc => ?_) (fun hc => ?_)
    · have hw := hw.1 hc
      exact tr_vret hx hb hr hlocks hI hw d_Wa_shorten_86
    · have hw := hw.2 hc
      refine lv_aload_n hx hb d_Wa_shorten_10 rfl (lv_at hl 0 rfl) ?_
      refine lv_iload hx hb d_Wa_shorten_11 (lv_at hl 4 rfl) ?_
      refine lv_iload_n hx hb d_Wa_shorten_13 rfl (lv_at hl 1 rfl) ?_
      refine tr_goi (w := wdX a cA) hI hA (va_runV (As := [.int x4, .int x1]) (rest := []) ⟨hx, hb, hml, hown, hts⟩ (c_Wa_anyNumber l dC dI cA a _ _ _ _ _) (cwV 2 hts (wsA_goodV wA_360 wA_361 wA_362 wA_34 wA_363) rfl rfl rfl (by decide +kernel) ⟨Nat.le_of_ble_eq_true rfl, Nat.le_of_ble_eq_true rfl⟩) (tr_preV (ci := 4) (q0 := 4) hI rfl (wdX_o4 a cA _) rfl hN hw) rfl rfl hl.1 rfl (lv_room (Nat.le_of_ble_eq_true rfl)) d_Wa_shorten_14 ⟨Nat.zero_le _, Nat.zero_le _⟩) (fun r14 u14 H locs hw hI => ?_)
      refine lv_iload_n hx hb d_Wa_shorten_17 rfl (lv_at hl 3 rfl) ?_
      refine lv_iadd hx hb d_Wa_shorten_18 ?_
      refine lv_istore (lv' := [(5, .int (r14 + x3)), (0, .ref (a 4)), (1, .int x1), (2, .int x2), (3, .int x3), (4, .int x4)]) hx hb d_Wa_shorten_19 hl (by decide) rfl (fun ls hl => ?_)
      refine lv_iconst (v := 0) hx hb d_Wa_shorten_21 (by decide) ?_
      refine lv_istore (lv' := [(6, .int 0), (5, .int (r14 + x3)), (0, .ref (a 4)), (1, .int x1), (2, .int x2), (3, .int x3), (4, .int x4)]) hx hb d_Wa_shorten_22 hl (by decide) rfl (fun ls hl => ?_)
      obtain ⟨k, hw⟩ := hw
      exact k_Wa_shorten_24 hC post _ ih k _ _ _ _ _ _ _ _ _ ls hw hI (lv_sub hl [2, 3, 4, 5, 6, 1, 0] rfl)
set_option maxRecDepth 100000 in
set_option maxHeartbeats 4000000 in
theorem c_Wa_shorten (l : Launch) (dC : Nat → ClassId) (dI : Nat → Nat → Nat) (cA : ClassId) (a : Nat → Nat) (u : tS) (x1 : Int32) (x2 : Int32) (x3 : Int32) (post : tS → Prop) (sz : Nat) : Met l y_Wa_shorten ws_Wa_shorten ({ frames := 2, cells := 0, slots := 0, locals := 44 }) (va_Pc [.ref (a 4), .int x1, .int x2, .int x3] (tP (dC, dI) twCl [(cA, .int)] (wdX a cA) u sz (w_Wa_shorten post x1 x2 x3 u))) (va_Qv post (tB (dC, dI) twCl [(cA, .int)] (va_A (wdX a cA u) sz) (wdX a cA)) (va_A (wdX a cA u) sz)) 0 0 (va_A (wdX a cA u) sz) := by
  refine Met.ofW (cc := b_Wa_shorten) (maxL := 8) (ret := none) (by decide) rfl ?_
  intro p e s m args below meth c s₁ B hml hv
  obtain ⟨rfl, hsz, hP, hK, hD0, hN, hw⟩ := hv
  have hx := B.exec
  have hb := B.bytes
  have hr := B.returns
  have hts : ∀ w ∈ wsA, w.before _ s = true := fun w h => atoms_spec (ws := ws_Wa_shorten) B.pre w (List.mem_cons_of_mem _ h)
  have hown : s.vm.findClass R_Wa = some m.cls := findClass_of_methodNamed B.named
  have hlocks := B.notSynchronized
  subst hsz
  have hD := hD0.self (sz := s.heap.size)
  generalize hAe : va_A (wdX a cA u) s.heap.size = A at hD ⊢
  have hA : ∀ q : Nat, s.heap.size ≤ q → A q := fun q h => by rw [← hAe]; exact Or.inr h
  have hS : va_S A s.heap s.heap [] := va_S.rf
  have hI : tX (dC, dI) twCl [(cA, .int)] A s s.heap [] (wdX a cA u) := ⟨hK, hP, hD, hS⟩
  have hC : tC p s m meth c ([.ref (a 4), .int x1, .int x2, .int x3] : List Value).toArray b_Wa_shorten 8 none wsA R_Wa A := ⟨hx, hb, hr, hml, hown, hts, hlocks, hA, hN⟩
  have hl := lv_entry ([.ref (a 4), .int x1, .int x2, .int x3]) (n := 8) (Nat.le_of_ble_eq_true rfl)
  rw [lg_entry_eq]
  generalize (lg_sl ([.ref (a 4), .int x1, .int x2, .int x3]) ++ List.replicate (8 - (lg_sl ([.ref (a 4), .int x1, .int x2, .int x3])).length) Slot.unset).toArray = ls at hl ⊢
  have hl : lv_has ls 8 [(0, .ref (a 4)), (1, .int x1), (2, .int x2), (3, .int x3)] := hl
  have hw : (∃ k, w_Wa_shorten_3 post k x1 x2 x3 0 u) := hw
  refine lv_iconst (v := 0) hx hb d_Wa_shorten_0 (by decide) ?_
  refine lv_istore (lv' := [(4, .int 0), (0, .ref (a 4)), (1, .int x1), (2, .int x2), (3, .int x3)]) hx hb d_Wa_shorten_1 hl (by decide) rfl (fun ls hl => ?_)
  obtain ⟨k, hw⟩ := hw
  exact k_Wa_shorten_3 hC post k _ _ _ _ _ _ _ ls hw hI (lv_sub hl [1, 2, 3, 4, 0] rfl)
def w_Wa_add (post : Int32 → tS → Prop) (x1 : Int32) (x2 : Int32) (x3 : Int32) (u : tS) : Prop := (vp_in (u.1 3) 30 ∧ (vp_in ((tA u 9 (u.1 3) x1).1 3) 30 ∧ (vp_in ((tA (tA u 9 (u.1 3) x1) 10 ((tA u 9 (u.1 3) x1).1 3) x2).1 3) 30 ∧ (w_Wa_shorten (fun u44 => (post ((u44.1 3) - 1) u44)) x1 x2 x3 (tI (tA (tA (tA u 9 (u.1 3) x1) 10 ((tA u 9 (u.1 3) x1).1 3) x2) 11 ((tA (tA u 9 (u.1 3) x1) 10 ((tA u 9 (u.1 3) x1).1 3) x2).1 3) x3) 3 (((tA (tA (tA u 9 (u.1 3) x1) 10 ((tA u 9 (u.1 3) x1).1 3) x2) 11 ((tA (tA u 9 (u.1 3) x1) 10 ((tA u 9 (u.1 3) x1).1 3) x2).1 3) x3).1 3) + 1))))))
set_option maxRecDepth 100000 in
set_option maxHeartbeats 4000000 in
theorem c_Wa_add (l : Launch) (dC : Nat → ClassId) (dI : Nat → Nat → Nat) (cA : ClassId) (a : Nat → Nat) (u : tS) (x1 : Int32) (x2 : Int32) (x3 : Int32) (post : Int32 → tS → Prop) (sz : Nat) : Met l y_Wa_add ws_Wa_add ({ frames := 3, cells := 0, slots := 0, locals := 71 }) (va_Pc [.ref (a 4), .int x1, .int x2, .int x3] (tP (dC, dI) twCl [(cA, .int)] (wdX a cA) u sz (w_Wa_add post x1 x2 x3 u))) (va_Qi post (tB (dC, dI) twCl [(cA, .int)] (va_A (wdX a cA u) sz) (wdX a cA)) (va_A (wdX a cA u) sz)) 0 0 (va_A (wdX a cA u) sz) := by
  refine Met.ofW (cc := b_Wa_add) (maxL := 4) (ret := (some .int)) (by decide) rfl ?_
  intro p e s m args below meth c s₁ B hml hv
  obtain ⟨rfl, hsz, hP, hK, hD0, hN, hw⟩ := hv
  have hx := B.exec
  have hb := B.bytes
  have hr := B.returns
  have hts : ∀ w ∈ wsA, w.before _ s = true := fun w h => atoms_spec (ws := ws_Wa_add) B.pre w (List.mem_cons_of_mem _ h)
  have hown : s.vm.findClass R_Wa = some m.cls := findClass_of_methodNamed B.named
  have hlocks := B.notSynchronized
  subst hsz
  have hD := hD0.self (sz := s.heap.size)
  generalize hAe : va_A (wdX a cA u) s.heap.size = A at hD ⊢
  have hA : ∀ q : Nat, s.heap.size ≤ q → A q := fun q h => by rw [← hAe]; exact Or.inr h
  have hS : va_S A s.heap s.heap [] := va_S.rf
  have hI : tX (dC, dI) twCl [(cA, .int)] A s s.heap [] (wdX a cA u) := ⟨hK, hP, hD, hS⟩
  have hC : tC p s m meth c ([.ref (a 4), .int x1, .int x2, .int x3] : List Value).toArray b_Wa_add 4 (some .int) wsA R_Wa A := ⟨hx, hb, hr, hml, hown, hts, hlocks, hA, hN⟩
  have hl := lv_entry ([.ref (a 4), .int x1, .int x2, .int x3]) (n := 4) (Nat.le_of_ble_eq_true rfl)
  rw [lg_entry_eq]
  generalize (lg_sl ([.ref (a 4), .int x1, .int x2, .int x3]) ++ List.replicate (4 - (lg_sl ([.ref (a 4), .int x1, .int x2, .int x3])).length) Slot.unset).toArray = ls at hl ⊢
  have hl : lv_has ls 4 [(0, .ref (a 4)), (1, .int x1), (2, .int x2), (3, .int x3)] := hl
  have hw : (vp_in (u.1 3) 30 ∧ (vp_in ((tA u 9 (u.1 3) x1).1 3) 30 ∧ (vp_in ((tA (tA u 9 (u.1 3) x1) 10 ((tA u 9 (u.1 3) x1).1 3) x2).1 3) 30 ∧ (w_Wa_shorten (fun u44 => (post ((u44.1 3) - 1) u44)) x1 x2 x3 (tI (tA (tA (tA u 9 (u.1 3) x1) 10 ((tA u 9 (u.1 3) x1).1 3) x2) 11 ((tA (tA u 9 (u.1 3) x1) 10 ((tA u 9 (u.1 3) x1).1 3) x2).1 3) x3) 3 (((tA (tA (tA u 9 (u.1 3) x1) 10 ((tA u 9 (u.1 3) x1).1 3) x2) 11 ((tA (tA u 9 (u.1 3) x1) 10 ((tA u 9 (u.1 3) x1).1 3) x2).1 3) x3).1 3) + 1)))))) := hw
  refine lv_aload_n hx hb d_Wa_add_0 rfl (lv_at hl 0 rfl) ?_
  refine va_get (D := (dC, dI)) (C := R_Wa) (T := F_Wa) (N := 5) hx hb hts in_Wa hown hI.1 hI.2.1 4 (wdX_o4 a cA _) rfl 1 (by decide) (hts _ wA_140) (fun _ h9 => h9) rfl d_Wa_add_1 ?_
  refine lv_aload_n hx hb d_Wa_add_4 rfl (lv_at hl 0 rfl) ?_
  refine va_get (D := (dC, dI)) (C := R_Wa) (T := F_Wa) (N := 5) hx hb hts in_Wa hown hI.1 hI.2.1 4 (wdX_o4 a cA _) rfl 0 (by decide) (hts _ wA_137) (fun _ h9 => h9) rfl d_Wa_add_5 ?_
  refine lv_iload_n hx hb d_Wa_add_8 rfl (lv_at hl 1 rfl) ?_
  obtain ⟨hi, hw⟩ := hw
  refine tr_iast (w := wdX a cA) hx hb hI 19 0 9 (wdX_o19 a cA _) rfl (wdX_a9 a cA _ _ _) hi d_Wa_add_9 (fun H locs hI => ?_)
  refine lv_aload_n hx hb d_Wa_add_10 rfl (lv_at hl 0 rfl) ?_
  refine va_get (D := (dC, dI)) (C := R_Wa) (T := F_Wa) (N := 5) hx hb hts in_Wa hown hI.1 hI.2.1 4 (wdX_o4 a cA _) rfl 2 (by decide) (hts _ wA_143) (fun _ h9 => h9) rfl d_Wa_add_11 ?_
  refine lv_aload_n hx hb d_Wa_add_14 rfl (lv_at hl 0 rfl) ?_
  refine va_get (D := (dC, dI)) (C := R_Wa) (T := F_Wa) (N := 5) hx hb hts in_Wa hown hI.1 hI.2.1 4 (wdX_o4 a cA _) rfl 0 (by decide) (hts _ wA_137) (fun _ h9 => h9) rfl d_Wa_add_15 ?_
  refine lv_iload_n hx hb d_Wa_add_18 rfl (lv_at hl 2 rfl) ?_
  obtain ⟨hi, hw⟩ := hw
  refine tr_iast (w := wdX a cA) hx hb hI 20 0 10 (wdX_o20 a cA _) rfl (wdX_a10 a cA _ _ _) hi d_Wa_add_19 (fun H locs hI => ?_)
  refine lv_aload_n hx hb d_Wa_add_20 rfl (lv_at hl 0 rfl) ?_
  refine va_get (D := (dC, dI)) (C := R_Wa) (T := F_Wa) (N := 5) hx hb hts in_Wa hown hI.1 hI.2.1 4 (wdX_o4 a cA _) rfl 3 (by decide) (hts _ wA_145) (fun _ h9 => h9) rfl d_Wa_add_21 ?_
  refine lv_aload_n hx hb d_Wa_add_24 rfl (lv_at hl 0 rfl) ?_
  refine va_get (D := (dC, dI)) (C := R_Wa) (T := F_Wa) (N := 5) hx hb hts in_Wa hown hI.1 hI.2.1 4 (wdX_o4 a cA _) rfl 0 (by decide) (hts _ wA_137) (fun _ h9 => h9) rfl d_Wa_add_25 ?_
  refine lv_iload_n hx hb d_Wa_add_28 rfl (lv_at hl 3 rfl) ?_
  obtain ⟨hi, hw⟩ := hw
  refine tr_iast (w := wdX a cA) hx hb hI 21 0 11 (wdX_o21 a cA _) rfl (wdX_a11 a cA _ _ _) hi d_Wa_add_29 (fun H locs hI => ?_)
  refine lv_aload_n hx hb d_Wa_add_30 rfl (lv_at hl 0 rfl) ?_
  refine lv_dup hx hb d_Wa_add_31 rfl ?_
  refine va_get (D := (dC, dI)) (C := R_Wa) (T := F_Wa) (N := 5) hx hb hts in_Wa hown hI.1 hI.2.1 4 (wdX_o4 a cA _) rfl 0 (by decide) (hts _ wA_137) (fun _ h9 => h9) rfl d_Wa_add_32 ?_
  refine lv_iconst (v := 1) hx hb d_Wa_add_35 (by decide) ?_
  refine lv_iadd hx hb d_Wa_add_36 ?_
  refine tr_put (C := R_Wa) (T := F_Wa) (N := 5) (w := wdX a cA) hx hb hts in_Wa ft_Wa ft_Wa_ok fn_Wa hown hI 4 3 (wdX_o4 a cA _) rfl 0 (by decide) (hts _ wA_137) rfl (by decide +kernel) (Nat.le_of_ble_eq_true rfl) (wdX_i3 a cA _ _) d_Wa_add_37 (fun H locs hI => ?_)
  refine lv_aload_n hx hb d_Wa_add_40 rfl (lv_at hl 0 rfl) ?_
  refine lv_iload_n hx hb d_Wa_add_41 rfl (lv_at hl 1 rfl) ?_
  refine lv_iload_n hx hb d_Wa_add_42 rfl (lv_at hl 2 rfl) ?_
  refine lv_iload_n hx hb d_Wa_add_43 rfl (lv_at hl 3 rfl) ?_
  refine tr_gov (w := wdX a cA) hI hA (va_runV (As := [.int x1, .int x2, .int x3]) (rest := []) ⟨hx, hb, hml, hown, hts⟩ (c_Wa_shorten l dC dI cA a _ _ _ _ _ _) (cwV 3 hts (wsA_goodV wA_356 wA_358 wA_1 wA_34 wA_359) rfl rfl rfl (by decide +kernel) ⟨Nat.le_of_ble_eq_true rfl, Nat.le_of_ble_eq_true rfl⟩) (tr_preV (ci := 4) (q0 := 4) hI rfl (wdX_o4 a cA _) rfl hN hw) rfl rfl hl.1 rfl (lv_room (Nat.le_of_ble_eq_true rfl)) d_Wa_add_44 ⟨Nat.zero_le _, Nat.zero_le _⟩) (fun u44 H locs hw hI => ?_)
  refine lv_aload_n hx hb d_Wa_add_47 rfl (lv_at hl 0 rfl) ?_
  refine va_get (D := (dC, dI)) (C := R_Wa) (T := F_Wa) (N := 5) hx hb hts in_Wa hown hI.1 hI.2.1 4 (wdX_o4 a cA _) rfl 0 (by decide) (hts _ wA_137) (fun _ h9 => h9) rfl d_Wa_add_48 ?_
  refine lv_iconst (v := 1) hx hb d_Wa_add_51 (by decide) ?_
  refine lv_isub hx hb d_Wa_add_52 ?_
  exact tr_iret hx hb hr hlocks hI hw d_Wa_add_53
end
section
def w_T_walk (post : Int32 → tS → Prop) (x1 : Int32) (x2 : Int32) (x3 : Int32) (u : tS) : Prop := (w_Ne_hasStops (fun r6 u6 => ((r6 = 0 → (post (-2) u6)) ∧ (¬ r6 = 0 → ((x1 = x2 → (post (-2) u6)) ∧ (¬ x1 = x2 → (w_T_within (fun r22 u22 => ((r22 = 0 → (post (-2) u22)) ∧ (¬ r22 = 0 → (((u22.1 3) < 30 → (w_Wa_add (fun r59 u59 => (post r59 u59)) x1 x2 x3 u22)) ∧ (¬ (u22.1 3) < 30 → (post (-3) u22)))))) x3 1 600 u6)))))) x1 x2 u)
set_option maxRecDepth 100000 in
set_option maxHeartbeats 4000000 in
theorem c_T_walk (l : Launch) (dC : Nat → ClassId) (dI : Nat → Nat → Nat) (cA : ClassId) (a : Nat → Nat) (u : tS) (x1 : Int32) (x2 : Int32) (x3 : Int32) (post : Int32 → tS → Prop) (sz : Nat) : Met l y_T_walk ws_T_walk ({ frames := 4, cells := 0, slots := 0, locals := 94 }) (va_Pc [.ref (a 0), .int x1, .int x2, .int x3] (tP (dC, dI) twCl [(cA, .int)] (wdX a cA) u sz (w_T_walk post x1 x2 x3 u))) (va_Qi post (tB (dC, dI) twCl [(cA, .int)] (va_A (wdX a cA u) sz) (wdX a cA)) (va_A (wdX a cA u) sz)) 0 0 (va_A (wdX a cA u) sz) := by
  refine Met.ofW (cc := b_T_walk) (maxL := 4) (ret := (some .int)) (by decide) rfl ?_
  intro p e s m args below meth c s₁ B hml hv
  obtain ⟨rfl, hsz, hP, hK, hD0, hN, hw⟩ := hv
  have hx := B.exec
  have hb := B.bytes
  have hr := B.returns
  have hts : ∀ w ∈ wsA, w.before _ s = true := fun w h => atoms_spec (ws := ws_T_walk) B.pre w (List.mem_cons_of_mem _ h)
  have hown : s.vm.findClass R_T = some m.cls := findClass_of_methodNamed B.named
  have hlocks := B.notSynchronized
  subst hsz
  have hD := hD0.self (sz := s.heap.size)
  generalize hAe : va_A (wdX a cA u) s.heap.size = A at hD ⊢
  have hA : ∀ q : Nat, s.heap.size ≤ q → A q := fun q h => by rw [← hAe]; exact Or.inr h
  have hS : va_S A s.heap s.heap [] := va_S.rf
  have hI : tX (dC, dI) twCl [(cA, .int)] A s s.heap [] (wdX a cA u) := ⟨hK, hP, hD, hS⟩
  have hC : tC p s m meth c ([.ref (a 0), .int x1, .int x2, .int x3] : List Value).toArray b_T_walk 4 (some .int) wsA R_T A := ⟨hx, hb, hr, hml, hown, hts, hlocks, hA, hN⟩
  have hl := lv_entry ([.ref (a 0), .int x1, .int x2, .int x3]) (n := 4) (Nat.le_of_ble_eq_true rfl)
  rw [lg_entry_eq]
  generalize (lg_sl ([.ref (a 0), .int x1, .int x2, .int x3]) ++ List.replicate (4 - (lg_sl ([.ref (a 0), .int x1, .int x2, .int x3])).length) Slot.unset).toArray = ls at hl ⊢
  have hl : lv_has ls 4 [(0, .ref (a 0)), (1, .int x1), (2, .int x2), (3, .int x3)] := hl
  have hw : (w_Ne_hasStops (fun r6 u6 => ((r6 = 0 → (post (-2) u6)) ∧ (¬ r6 = 0 → ((x1 = x2 → (post (-2) u6)) ∧ (¬ x1 = x2 → (w_T_within (fun r22 u22 => ((r22 = 0 → (post (-2) u22)) ∧ (¬ r22 = 0 → (((u22.1 3) < 30 → (w_Wa_add (fun r59 u59 => (post r59 u59)) x1 x2 x3 u22)) ∧ (¬ (u22.1 3) < 30 → (post (-3) u22)))))) x3 1 600 u6)))))) x1 x2 u) := hw
  refine lv_aload_n hx hb d_T_walk_0 rfl (lv_at hl 0 rfl) ?_
  refine va_get (D := (dC, dI)) (C := R_T) (T := F_T) (N := 6) hx hb hts in_T hown hI.1 hI.2.1 0 (wdX_o0 a cA _) rfl 0 (by decide) (hts _ wA_264) (fun _ h9 => h9) rfl d_T_walk_1 ?_
  refine lv_iload_n hx hb d_T_walk_4 rfl (lv_at hl 1 rfl) ?_
  refine lv_iload_n hx hb d_T_walk_5 rfl (lv_at hl 2 rfl) ?_
  refine tr_goi (w := wdX a cA) hI hA (va_runV (As := [.int x1, .int x2]) (rest := []) ⟨hx, hb, hml, hown, hts⟩ (c_Ne_hasStops l dC dI cA a _ _ _ _ _) (cwV 2 hts (wsA_goodV wA_315 wA_316 wA_317 wA_31 wA_318) rfl rfl rfl (by decide +kernel) ⟨Nat.le_of_ble_eq_true rfl, Nat.le_of_ble_eq_true rfl⟩) (tr_preV (ci := 1) (q0 := 1) hI rfl (wdX_o1 a cA _) rfl hN hw) rfl rfl hl.1 rfl (lv_room (Nat.le_of_ble_eq_true rfl)) d_T_walk_6 ⟨Nat.zero_le _, Nat.zero_le _⟩) (fun r6 u6 H locs hw hI => ?_)
  refine lv_if_eq (tgt := 28) hx hb d_T_walk_9 (by decide) (fun hc => ?_) (fun hc => ?_)
  · have hw := hw.1 hc
    refine lv_bipush (v := (-2)) hx hb d_T_walk_28 (by decide) ?_
    exact tr_iret hx hb hr hlocks hI hw d_T_walk_30
  · have hw := hw.2 hc
    refine lv_iload_n hx hb d_T_walk_12 rfl (lv_at hl 1 rfl) ?_
    refine lv_iload_n hx hb d_T_walk_13 rfl (lv_at hl 2 rfl) ?_
    refine lv_icmp_eq (tgt := 28) hx hb d_T_walk_14 (by decide) (fun hc => ?_) (fun hc => ?_)
    · have hw := hw.1 hc
      refine lv_bipush (v := (-2)) hx hb d_T_walk_28 (by decide) ?_
      exact tr_iret hx hb hr hlocks hI hw d_T_walk_30
    · have hw := hw.2 hc
      refine lv_iload_n hx hb d_T_walk_17 rfl (lv_at hl 3 rfl) ?_
      refine lv_iconst (v := 1) hx hb d_T_walk_18 (by decide) ?_
      refine lv_sipush (v := 600) hx hb d_T_walk_19 (by decide) ?_
      refine tr_goi (w := wdX a cA) hI hA (va_runS (As := [.int x3, .int 1, .int 600]) (rest := []) ⟨hx, hb, hml, hown, hts⟩ (c_T_within l dC dI cA a _ _ _ _ _ _) ⟨callB_of 3 hts (wsA_good wA_301) rfl rfl rfl (hts _ wA_30) (hts _ wA_299) (by decide +kernel) ⟨Nat.le_of_ble_eq_true rfl, Nat.le_of_ble_eq_true rfl⟩, hts _ wA_300⟩ (tr_preS hI hN hw) rfl rfl hl.1 rfl (lv_room (Nat.le_of_ble_eq_true rfl)) d_T_walk_22 ⟨Nat.zero_le _, Nat.zero_le _⟩) (fun r22 u22 H locs hw hI => ?_)
      refine lv_if_ne (tgt := 31) hx hb d_T_walk_25 (by decide) (fun hc => ?_) (fun hc => ?_)
      · have hw := hw.2 hc
        refine lv_aload_n hx hb d_T_walk_31 rfl (lv_at hl 0 rfl) ?_
        refine va_get (D := (dC, dI)) (C := R_T) (T := F_T) (N := 6) hx hb hts in_T hown hI.1 hI.2.1 0 (wdX_o0 a cA _) rfl 0 (by decide) (hts _ wA_264) (fun _ h9 => h9) rfl d_T_walk_32 ?_
        refine va_get (D := (dC, dI)) (C := R_Ne) (T := F_Ne) (N := 5) hx hb hts in_Ne hown hI.1 hI.2.1 1 (wdX_o1 a cA _) rfl 4 (by decide) (hts _ wA_179) (fun _ h9 => h9) rfl d_T_walk_35 ?_
        refine va_get (D := (dC, dI)) (C := R_Wa) (T := F_Wa) (N := 5) hx hb hts in_Wa hown hI.1 hI.2.1 4 (wdX_o4 a cA _) rfl 0 (by decide) (hts _ wA_138) (fun _ h9 => h9) rfl d_T_walk_38 ?_
        refine lv_bipush (v := 30) hx hb d_T_walk_41 (by decide) ?_
        refine lv_icmp_lt (tgt := 49) hx hb d_T_walk_43 (by decide) (fun hc => ?_) (fun hc => ?_)
        · have hw := hw.1 hc
          refine lv_aload_n hx hb d_T_walk_49 rfl (lv_at hl 0 rfl) ?_
          refine va_get (D := (dC, dI)) (C := R_T) (T := F_T) (N := 6) hx hb hts in_T hown hI.1 hI.2.1 0 (wdX_o0 a cA _) rfl 0 (by decide) (hts _ wA_264) (fun _ h9 => h9) rfl d_T_walk_50 ?_
          refine va_get (D := (dC, dI)) (C := R_Ne) (T := F_Ne) (N := 5) hx hb hts in_Ne hown hI.1 hI.2.1 1 (wdX_o1 a cA _) rfl 4 (by decide) (hts _ wA_179) (fun _ h9 => h9) rfl d_T_walk_53 ?_
          refine lv_iload_n hx hb d_T_walk_56 rfl (lv_at hl 1 rfl) ?_
          refine lv_iload_n hx hb d_T_walk_57 rfl (lv_at hl 2 rfl) ?_
          refine lv_iload_n hx hb d_T_walk_58 rfl (lv_at hl 3 rfl) ?_
          refine tr_goi (w := wdX a cA) hI hA (va_runV (As := [.int x1, .int x2, .int x3]) (rest := []) ⟨hx, hb, hml, hown, hts⟩ (c_Wa_add l dC dI cA a _ _ _ _ _ _) (cwV 3 hts (wsA_goodV wA_352 wA_353 wA_354 wA_34 wA_355) rfl rfl rfl (by decide +kernel) ⟨Nat.le_of_ble_eq_true rfl, Nat.le_of_ble_eq_true rfl⟩) (tr_preV (ci := 4) (q0 := 4) hI rfl (wdX_o4 a cA _) rfl hN hw) rfl rfl hl.1 rfl (lv_room (Nat.le_of_ble_eq_true rfl)) d_T_walk_59 ⟨Nat.zero_le _, Nat.zero_le _⟩) (fun r59 u59 H locs hw hI => ?_)
          exact tr_iret hx hb hr hlocks hI hw d_T_walk_62
        · have hw := hw.2 hc
          refine lv_bipush (v := (-3)) hx hb d_T_walk_46 (by decide) ?_
          exact tr_iret hx hb hr hlocks hI hw d_T_walk_48
      · have hw := hw.1 hc
        refine lv_bipush (v := (-2)) hx hb d_T_walk_28 (by decide) ?_
        exact tr_iret hx hb hr hlocks hI hw d_T_walk_30
def w_Ri_has (post : Int32 → tS → Prop) (x1 : Int32) (u : tS) : Prop := (w_T_within (fun r8 u8 => (narrow .boolean (.int r8) = .int r8 ∧ post r8 u8)) x1 0 ((u.1 1) - 1) u)
set_option maxRecDepth 100000 in
set_option maxHeartbeats 4000000 in
theorem c_Ri_has (l : Launch) (dC : Nat → ClassId) (dI : Nat → Nat → Nat) (cA : ClassId) (a : Nat → Nat) (u : tS) (x1 : Int32) (post : Int32 → tS → Prop) (sz : Nat) : Met l y_Ri_has ws_Ri_has ({ frames := 1, cells := 0, slots := 0, locals := 22 }) (va_Pc [.ref (a 2), .int x1] (tP (dC, dI) twCl [(cA, .int)] (wdX a cA) u sz (w_Ri_has post x1 u))) (va_Qi post (tB (dC, dI) twCl [(cA, .int)] (va_A (wdX a cA u) sz) (wdX a cA)) (va_A (wdX a cA u) sz)) 0 0 (va_A (wdX a cA u) sz) := by
  refine Met.ofW (cc := b_Ri_has) (maxL := 2) (ret := (some .boolean)) (by decide) rfl ?_
  intro p e s m args below meth c s₁ B hml hv
  obtain ⟨rfl, hsz, hP, hK, hD0, hN, hw⟩ := hv
  have hx := B.exec
  have hb := B.bytes
  have hr := B.returns
  have hts : ∀ w ∈ wsA, w.before _ s = true := fun w h => atoms_spec (ws := ws_Ri_has) B.pre w (List.mem_cons_of_mem _ h)
  have hown : s.vm.findClass R_Ri = some m.cls := findClass_of_methodNamed B.named
  have hlocks := B.notSynchronized
  subst hsz
  have hD := hD0.self (sz := s.heap.size)
  generalize hAe : va_A (wdX a cA u) s.heap.size = A at hD ⊢
  have hA : ∀ q : Nat, s.heap.size ≤ q → A q := fun q h => by rw [← hAe]; exact Or.inr h
  have hS : va_S A s.heap s.heap [] := va_S.rf
  have hI : tX (dC, dI) twCl [(cA, .int)] A s s.heap [] (wdX a cA u) := ⟨hK, hP, hD, hS⟩
  have hC : tC p s m meth c ([.ref (a 2), .int x1] : List Value).toArray b_Ri_has 2 (some .boolean) wsA R_Ri A := ⟨hx, hb, hr, hml, hown, hts, hlocks, hA, hN⟩
  have hl := lv_entry ([.ref (a 2), .int x1]) (n := 2) (Nat.le_of_ble_eq_true rfl)
  rw [lg_entry_eq]
  generalize (lg_sl ([.ref (a 2), .int x1]) ++ List.replicate (2 - (lg_sl ([.ref (a 2), .int x1])).length) Slot.unset).toArray = ls at hl ⊢
  have hl : lv_has ls 2 [(0, .ref (a 2)), (1, .int x1)] := hl
  have hw : (w_T_within (fun r8 u8 => (narrow .boolean (.int r8) = .int r8 ∧ post r8 u8)) x1 0 ((u.1 1) - 1) u) := hw
  refine lv_iload_n hx hb d_Ri_has_0 rfl (lv_at hl 1 rfl) ?_
  refine lv_iconst (v := 0) hx hb d_Ri_has_1 (by decide) ?_
  refine lv_aload_n hx hb d_Ri_has_2 rfl (lv_at hl 0 rfl) ?_
  refine va_get (D := (dC, dI)) (C := R_Ri) (T := F_Ri) (N := 7) hx hb hts in_Ri hown hI.1 hI.2.1 2 (wdX_o2 a cA _) rfl 0 (by decide) (hts _ wA_63) (fun _ h9 => h9) rfl d_Ri_has_3 ?_
  refine lv_iconst (v := 1) hx hb d_Ri_has_6 (by decide) ?_
  refine lv_isub hx hb d_Ri_has_7 ?_
  refine tr_goi (w := wdX a cA) hI hA (va_runSN (As := [.int x1, .int 0, .int ((u.1 1) - 1)]) (rest := []) ⟨hx, hb, hml, hown, hts⟩ (c_T_within l dC dI cA a _ _ _ _ _ _) ⟨va_cnB 3 hts (wsA_good wA_301) rfl rfl rfl hN.2 (hts _ wA_30) (by decide +kernel) ⟨Nat.le_of_ble_eq_true rfl, Nat.le_of_ble_eq_true rfl⟩, hts _ wA_300, trivial⟩ (tr_preS hI hN hw) rfl rfl hl.1 rfl (lv_room (Nat.le_of_ble_eq_true rfl)) d_Ri_has_8 ⟨Nat.zero_le _, Nat.zero_le _⟩) (fun r8 u8 H locs hw hI => ?_)
  obtain ⟨hn, hw⟩ := hw
  exact tr_zret hx hb hr hlocks hI hn hw d_Ri_has_11
def w_Bo_takeOut_4 (post : tS → Prop) : Nat → Int32 → Int32 → Int32 → tS → Prop
  | 0 => fun _ _ _ _ => False
  | n + 1 => fun x1 x2 x3 u => (((u.1 2) ≤ x3 → (post (tI u 2 x2))) ∧ (¬ (u.1 2) ≤ x3 → (vp_in x3 280 ∧ (((u.2 7 x3.toNatClampNeg) = x1 → (w_Bo_takeOut_4 post n x1 x2 (x3 + 1) u)) ∧ (¬ (u.2 7 x3.toNatClampNeg) = x1 → (vp_in x3 280 ∧ (vp_in x2 280 ∧ (vp_in x3 280 ∧ (vp_in x2 280 ∧ (w_Bo_takeOut_4 post n x1 (x2 + 1) (x3 + 1) (tA (tA u 7 x2 (u.2 7 x3.toNatClampNeg)) 8 x2 ((tA u 7 x2 (u.2 7 x3.toNatClampNeg)).2 8 x3.toNatClampNeg))))))))))))
def w_Bo_takeOut (post : tS → Prop) (x1 : Int32) (u : tS) : Prop := (∃ k, w_Bo_takeOut_4 post k x1 0 0 u)
set_option maxRecDepth 100000 in
set_option maxHeartbeats 4000000 in
theorem k_Bo_takeOut_4 {p : Program} {l : Launch} {e : Env} {s : State} {m : MethodId} {args : Array Value} {below : List Frame} {meth : Method} {c : Code} {dC : Nat → ClassId} {dI : Nat → Nat → Nat} {cA : ClassId} {a : Nat → Nat} {A : Nat → Prop} (hC : tC p s m meth c args b_Bo_takeOut 4 none wsA R_Bo A) (post : tS → Prop) : ∀ n : Nat, ∀ (x1 x2 x3 : Int32) (u : tS) (H : Heap) (locs : List Loc) (ls : Array Slot), w_Bo_takeOut_4 post n x1 x2 x3 u → tX (dC, dI) twCl [(cA, .int)] A s H locs (wdX a cA u) → lv_has ls 4 [(0, .ref (a 3)), (1, .int x1), (2, .int x2), (3, .int x3)] → W p l e ({ frames := 0, cells := 0, slots := 0, locals := 0 }) s m args below meth c H locs 0 0 (MQ below (va_Qv post (tB (dC, dI) twCl [(cA, .int)] A (wdX a cA)) A) args s 0 0 A) (F0 m 4 ls []) := by
  obtain ⟨hx, hb, hr, hml, hown, hts, hlocks, hA, hN⟩ := id hC
  intro n
  induction n with
  | zero => intro x1 x2 x3 u H locs ls hw; exact False.elim hw
  | succ n ih =>
    intro x1 x2 x3 u H locs ls hw hI hl
    refine lv_iload_n hx hb d_Bo_takeOut_4 rfl (lv_at hl 3 rfl) ?_
    refine lv_aload_n hx hb d_Bo_takeOut_5 rfl (lv_at hl 0 rfl) ?_
    refine va_get (D := (dC, dI)) (C := R_Bo) (T := F_Bo) (N := 3) hx hb hts in_Bo hown hI.1 hI.2.1 3 (wdX_o3 a cA _) rfl 0 (by decide) (hts _ wA_111) (fun _ h9 => h9) rfl d_Bo_takeOut_6 ?_
    refine lv_icmp_ge (tgt := 55) hx hb d_Bo_takeOut_9 (by decide) (fun hc => ?_) (fun hc => ?_)
    · have hw := hw.1 hc
      refine lv_aload_n hx hb d_Bo_takeOut_55 rfl (lv_at hl 0 rfl) ?_
      refine lv_iload_n hx hb d_Bo_takeOut_56 rfl (lv_at hl 2 rfl) ?_
      refine tr_put (C := R_Bo) (T := F_Bo) (N := 3) (w := wdX a cA) hx hb hts in_Bo ft_Bo ft_Bo_ok fn_Bo hown hI 3 2 (wdX_o3 a cA _) rfl 0 (by decide) (hts _ wA_111) rfl (by decide +kernel) (Nat.le_of_ble_eq_true rfl) (wdX_i2 a cA _ _) d_Bo_takeOut_57 (fun H locs hI => ?_)
      exact tr_vret hx hb hr hlocks hI hw d_Bo_takeOut_60
    · have hw := hw.2 hc
      refine lv_aload_n hx hb d_Bo_takeOut_12 rfl (lv_at hl 0 rfl) ?_
      refine va_get (D := (dC, dI)) (C := R_Bo) (T := F_Bo) (N := 3) hx hb hts in_Bo hown hI.1 hI.2.1 3 (wdX_o3 a cA _) rfl 1 (by decide) (hts _ wA_116) (fun _ h9 => h9) rfl d_Bo_takeOut_13 ?_
      refine lv_iload_n hx hb d_Bo_takeOut_16 rfl (lv_at hl 3 rfl) ?_
      obtain ⟨hi, hw⟩ := hw
      refine va_iald (D := (dC, dI)) hx hb hI.1 hI.2.1 17 0 (wdX_o17 a cA _) rfl hi d_Bo_takeOut_17 ?_
      refine lv_iload_n hx hb d_Bo_takeOut_18 rfl (lv_at hl 1 rfl) ?_
      refine lv_icmp_eq (tgt := 49) hx hb d_Bo_takeOut_19 (by decide) (fun hc => ?_) (fun hc => ?_)
      · have hw := hw.1 hc
        refine lv_iinc (v := (x3 + 1)) (lv' := [(3, .int (x3 + 1)), (0, .ref (a 3)), (1, .int x1), (2, .int x2)]) hx hb d_Bo_takeOut_49 hl (k := 3) rfl rfl (by decide) rfl (fun ls hl => ?_)
        refine lv_goto (tgt := 4) hx hb d_Bo_takeOut_52 (by decide) ?_
        exact ih _ _ _ _ _ _ ls hw hI (lv_sub hl [1, 2, 3, 0] rfl)
      · have hw := hw.2 hc
        refine lv_aload_n hx hb d_Bo_takeOut_22 rfl (lv_at hl 0 rfl) ?_
        refine va_get (D := (dC, dI)) (C := R_Bo) (T := F_Bo) (N := 3) hx hb hts in_Bo hown hI.1 hI.2.1 3 (wdX_o3 a cA _) rfl 1 (by decide) (hts _ wA_116) (fun _ h9 => h9) rfl d_Bo_takeOut_23 ?_
        refine lv_iload_n hx hb d_Bo_takeOut_26 rfl (lv_at hl 2 rfl) ?_
        refine lv_aload_n hx hb d_Bo_takeOut_27 rfl (lv_at hl 0 rfl) ?_
        refine va_get (D := (dC, dI)) (C := R_Bo) (T := F_Bo) (N := 3) hx hb hts in_Bo hown hI.1 hI.2.1 3 (wdX_o3 a cA _) rfl 1 (by decide) (hts _ wA_116) (fun _ h9 => h9) rfl d_Bo_takeOut_28 ?_
        refine lv_iload_n hx hb d_Bo_takeOut_31 rfl (lv_at hl 3 rfl) ?_
        obtain ⟨hi, hw⟩ := hw
        refine va_iald (D := (dC, dI)) hx hb hI.1 hI.2.1 17 0 (wdX_o17 a cA _) rfl hi d_Bo_takeOut_32 ?_
        obtain ⟨hi, hw⟩ := hw
        refine tr_iast (w := wdX a cA) hx hb hI 17 0 7 (wdX_o17 a cA _) rfl (wdX_a7 a cA _ _ _) hi d_Bo_takeOut_33 (fun H locs hI => ?_)
        refine lv_aload_n hx hb d_Bo_takeOut_34 rfl (lv_at hl 0 rfl) ?_
        refine va_get (D := (dC, dI)) (C := R_Bo) (T := F_Bo) (N := 3) hx hb hts in_Bo hown hI.1 hI.2.1 3 (wdX_o3 a cA _) rfl 2 (by decide) (hts _ wA_117) (fun _ h9 => h9) rfl d_Bo_takeOut_35 ?_
        refine lv_iload_n hx hb d_Bo_takeOut_38 rfl (lv_at hl 2 rfl) ?_
        refine lv_aload_n hx hb d_Bo_takeOut_39 rfl (lv_at hl 0 rfl) ?_
        refine va_get (D := (dC, dI)) (C := R_Bo) (T := F_Bo) (N := 3) hx hb hts in_Bo hown hI.1 hI.2.1 3 (wdX_o3 a cA _) rfl 2 (by decide) (hts _ wA_117) (fun _ h9 => h9) rfl d_Bo_takeOut_40 ?_
        refine lv_iload_n hx hb d_Bo_takeOut_43 rfl (lv_at hl 3 rfl) ?_
        obtain ⟨hi, hw⟩ := hw
        refine va_iald (D := (dC, dI)) hx hb hI.1 hI.2.1 18 0 (wdX_o18 a cA _) rfl hi d_Bo_takeOut_44 ?_
        obtain ⟨hi, hw⟩ := hw
        refine tr_iast (w := wdX a cA) hx hb hI 18 0 8 (wdX_o18 a cA _) rfl (wdX_a8 a cA _ _ _) hi d_Bo_takeOut_45 (fun H locs hI => ?_)
        refine lv_iinc (v := (x2 + 1)) (lv' := [(2, .int (x2 + 1)), (0, .ref (a 3)), (1, .int x1), (3, .int x3)]) hx hb d_Bo_takeOut_46 hl (k := 2) rfl rfl (by decide) rfl (fun ls hl => ?_)
        refine lv_iinc (v := (x3 + 1)) (lv' := [(3, .int (x3 + 1)), (2, .int (x2 + 1)), (0, .ref (a 3)), (1, .int x1)]) hx hb d_Bo_takeOut_49 hl (k := 3) rfl rfl (by decide) rfl (fun ls hl => ?_)
        refine lv_goto (tgt := 4) hx hb d_Bo_takeOut_52 (by decide) ?_
        exact ih _ _ _ _ _ _ ls hw hI (lv_sub hl [2, 3, 1, 0] rfl)
set_option maxRecDepth 100000 in
set_option maxHeartbeats 4000000 in
theorem c_Bo_takeOut (l : Launch) (dC : Nat → ClassId) (dI : Nat → Nat → Nat) (cA : ClassId) (a : Nat → Nat) (u : tS) (x1 : Int32) (post : tS → Prop) (sz : Nat) : Met l y_Bo_takeOut ws_Bo_takeOut ({ frames := 0, cells := 0, slots := 0, locals := 0 }) (va_Pc [.ref (a 3), .int x1] (tP (dC, dI) twCl [(cA, .int)] (wdX a cA) u sz (w_Bo_takeOut post x1 u))) (va_Qv post (tB (dC, dI) twCl [(cA, .int)] (va_A (wdX a cA u) sz) (wdX a cA)) (va_A (wdX a cA u) sz)) 0 0 (va_A (wdX a cA u) sz) := by
  refine Met.ofW (cc := b_Bo_takeOut) (maxL := 4) (ret := none) (by decide) rfl ?_
  intro p e s m args below meth c s₁ B hml hv
  obtain ⟨rfl, hsz, hP, hK, hD0, hN, hw⟩ := hv
  have hx := B.exec
  have hb := B.bytes
  have hr := B.returns
  have hts : ∀ w ∈ wsA, w.before _ s = true := fun w h => atoms_spec (ws := ws_Bo_takeOut) B.pre w (List.mem_cons_of_mem _ h)
  have hown : s.vm.findClass R_Bo = some m.cls := findClass_of_methodNamed B.named
  have hlocks := B.notSynchronized
  subst hsz
  have hD := hD0.self (sz := s.heap.size)
  generalize hAe : va_A (wdX a cA u) s.heap.size = A at hD ⊢
  have hA : ∀ q : Nat, s.heap.size ≤ q → A q := fun q h => by rw [← hAe]; exact Or.inr h
  have hS : va_S A s.heap s.heap [] := va_S.rf
  have hI : tX (dC, dI) twCl [(cA, .int)] A s s.heap [] (wdX a cA u) := ⟨hK, hP, hD, hS⟩
  have hC : tC p s m meth c ([.ref (a 3), .int x1] : List Value).toArray b_Bo_takeOut 4 none wsA R_Bo A := ⟨hx, hb, hr, hml, hown, hts, hlocks, hA, hN⟩
  have hl := lv_entry ([.ref (a 3), .int x1]) (n := 4) (Nat.le_of_ble_eq_true rfl)
  rw [lg_entry_eq]
  generalize (lg_sl ([.ref (a 3), .int x1]) ++ List.replicate (4 - (lg_sl ([.ref (a 3), .int x1])).length) Slot.unset).toArray = ls at hl ⊢
  have hl : lv_has ls 4 [(0, .ref (a 3)), (1, .int x1)] := hl
  have hw : (∃ k, w_Bo_takeOut_4 post k x1 0 0 u) := hw
  refine lv_iconst (v := 0) hx hb d_Bo_takeOut_0 (by decide) ?_
  refine lv_istore_n (lv' := [(2, .int 0), (0, .ref (a 3)), (1, .int x1)]) hx hb d_Bo_takeOut_1 rfl hl (by decide) rfl (fun ls hl => ?_)
  refine lv_iconst (v := 0) hx hb d_Bo_takeOut_2 (by decide) ?_
  refine lv_istore_n (lv' := [(3, .int 0), (2, .int 0), (0, .ref (a 3)), (1, .int x1)]) hx hb d_Bo_takeOut_3 rfl hl (by decide) rfl (fun ls hl => ?_)
  obtain ⟨k, hw⟩ := hw
  exact k_Bo_takeOut_4 hC post k _ _ _ _ _ _ ls hw hI (lv_sub hl [2, 3, 1, 0] rfl)
def w_T_late (post : Int32 → tS → Prop) (x1 : Int32) (x2 : Int32) (x3 : Int32) (u : tS) : Prop := (w_Ri_has (fun r8 u8 => ((r8 = 0 → (post (-2) u8)) ∧ (¬ r8 = 0 → (w_T_within (fun r18 u18 => ((r18 = 0 → (post (-2) u18)) ∧ (¬ r18 = 0 → (w_T_within (fun r29 u29 => ((r29 = 0 → (post (-2) u29)) ∧ (¬ r29 = 0 → (w_Ri_isOnDay (fun r47 u47 => ((r47 = 0 → (post (-2) u47)) ∧ (¬ r47 = 0 → (vp_in ((x1 * 7) + x2) 280 ∧ (w_Bo_takeOut (fun u88 => (vp_in ((x1 * 7) + x2) 280 ∧ (w_Bo_putIn (fun u121 => (post (u47.2 6 ((x1 * 7) + x2).toNatClampNeg) u121)) ((x1 * 7) + x2) (tA u88 6 ((x1 * 7) + x2) x3)))) ((x1 * 7) + x2) u47))))) x1 x2 u29)))) x3 (-1) 300 u18)))) x2 0 6 u8)))) x1 u)
set_option maxRecDepth 100000 in
set_option maxHeartbeats 4000000 in
theorem c_T_late (l : Launch) (dC : Nat → ClassId) (dI : Nat → Nat → Nat) (cA : ClassId) (a : Nat → Nat) (u : tS) (x1 : Int32) (x2 : Int32) (x3 : Int32) (post : Int32 → tS → Prop) (sz : Nat) : Met l y_T_late ws_T_late ({ frames := 2, cells := 0, slots := 0, locals := 47 }) (va_Pc [.ref (a 0), .int x1, .int x2, .int x3] (tP (dC, dI) twCl [(cA, .int)] (wdX a cA) u sz (w_T_late post x1 x2 x3 u))) (va_Qi post (tB (dC, dI) twCl [(cA, .int)] (va_A (wdX a cA u) sz) (wdX a cA)) (va_A (wdX a cA u) sz)) 0 0 (va_A (wdX a cA u) sz) := by
  refine Met.ofW (cc := b_T_late) (maxL := 6) (ret := (some .int)) (by decide) rfl ?_
  intro p e s m args below meth c s₁ B hml hv
  obtain ⟨rfl, hsz, hP, hK, hD0, hN, hw⟩ := hv
  have hx := B.exec
  have hb := B.bytes
  have hr := B.returns
  have hts : ∀ w ∈ wsA, w.before _ s = true := fun w h => atoms_spec (ws := ws_T_late) B.pre w (List.mem_cons_of_mem _ h)
  have hown : s.vm.findClass R_T = some m.cls := findClass_of_methodNamed B.named
  have hlocks := B.notSynchronized
  subst hsz
  have hD := hD0.self (sz := s.heap.size)
  generalize hAe : va_A (wdX a cA u) s.heap.size = A at hD ⊢
  have hA : ∀ q : Nat, s.heap.size ≤ q → A q := fun q h => by rw [← hAe]; exact Or.inr h
  have hS : va_S A s.heap s.heap [] := va_S.rf
  have hI : tX (dC, dI) twCl [(cA, .int)] A s s.heap [] (wdX a cA u) := ⟨hK, hP, hD, hS⟩
  have hC : tC p s m meth c ([.ref (a 0), .int x1, .int x2, .int x3] : List Value).toArray b_T_late 6 (some .int) wsA R_T A := ⟨hx, hb, hr, hml, hown, hts, hlocks, hA, hN⟩
  have hl := lv_entry ([.ref (a 0), .int x1, .int x2, .int x3]) (n := 6) (Nat.le_of_ble_eq_true rfl)
  rw [lg_entry_eq]
  generalize (lg_sl ([.ref (a 0), .int x1, .int x2, .int x3]) ++ List.replicate (6 - (lg_sl ([.ref (a 0), .int x1, .int x2, .int x3])).length) Slot.unset).toArray = ls at hl ⊢
  have hl : lv_has ls 6 [(0, .ref (a 0)), (1, .int x1), (2, .int x2), (3, .int x3)] := hl
  have hw : (w_Ri_has (fun r8 u8 => ((r8 = 0 → (post (-2) u8)) ∧ (¬ r8 = 0 → (w_T_within (fun r18 u18 => ((r18 = 0 → (post (-2) u18)) ∧ (¬ r18 = 0 → (w_T_within (fun r29 u29 => ((r29 = 0 → (post (-2) u29)) ∧ (¬ r29 = 0 → (w_Ri_isOnDay (fun r47 u47 => ((r47 = 0 → (post (-2) u47)) ∧ (¬ r47 = 0 → (vp_in ((x1 * 7) + x2) 280 ∧ (w_Bo_takeOut (fun u88 => (vp_in ((x1 * 7) + x2) 280 ∧ (w_Bo_putIn (fun u121 => (post (u47.2 6 ((x1 * 7) + x2).toNatClampNeg) u121)) ((x1 * 7) + x2) (tA u88 6 ((x1 * 7) + x2) x3)))) ((x1 * 7) + x2) u47))))) x1 x2 u29)))) x3 (-1) 300 u18)))) x2 0 6 u8)))) x1 u) := hw
  refine lv_aload_n hx hb d_T_late_0 rfl (lv_at hl 0 rfl) ?_
  refine va_get (D := (dC, dI)) (C := R_T) (T := F_T) (N := 6) hx hb hts in_T hown hI.1 hI.2.1 0 (wdX_o0 a cA _) rfl 0 (by decide) (hts _ wA_264) (fun _ h9 => h9) rfl d_T_late_1 ?_
  refine va_get (D := (dC, dI)) (C := R_Ne) (T := F_Ne) (N := 5) hx hb hts in_Ne hown hI.1 hI.2.1 1 (wdX_o1 a cA _) rfl 2 (by decide) (hts _ wA_167) (fun _ h9 => h9) rfl d_T_late_4 ?_
  refine lv_iload_n hx hb d_T_late_7 rfl (lv_at hl 1 rfl) ?_
  refine tr_goi (w := wdX a cA) hI hA (va_runV (As := [.int x1]) (rest := []) ⟨hx, hb, hml, hown, hts⟩ (c_Ri_has l dC dI cA a _ _ _ _) (cwV 1 hts (wsA_goodV wA_375 wA_376 wA_377 wA_32 wA_378) rfl rfl rfl (by decide +kernel) ⟨Nat.le_of_ble_eq_true rfl, Nat.le_of_ble_eq_true rfl⟩) (tr_preV (ci := 2) (q0 := 2) hI rfl (wdX_o2 a cA _) rfl hN hw) rfl rfl hl.1 rfl (lv_room (Nat.le_of_ble_eq_true rfl)) d_T_late_8 ⟨Nat.zero_le _, Nat.zero_le _⟩) (fun r8 u8 H locs hw hI => ?_)
  refine lv_if_eq (tgt := 35) hx hb d_T_late_11 (by decide) (fun hc => ?_) (fun hc => ?_)
  · have hw := hw.1 hc
    refine lv_bipush (v := (-2)) hx hb d_T_late_35 (by decide) ?_
    exact tr_iret hx hb hr hlocks hI hw d_T_late_37
  · have hw := hw.2 hc
    refine lv_iload_n hx hb d_T_late_14 rfl (lv_at hl 2 rfl) ?_
    refine lv_iconst (v := 0) hx hb d_T_late_15 (by decide) ?_
    refine lv_bipush (v := 6) hx hb d_T_late_16 (by decide) ?_
    refine tr_goi (w := wdX a cA) hI hA (va_runS (As := [.int x2, .int 0, .int 6]) (rest := []) ⟨hx, hb, hml, hown, hts⟩ (c_T_within l dC dI cA a _ _ _ _ _ _) ⟨callB_of 3 hts (wsA_good wA_301) rfl rfl rfl (hts _ wA_30) (hts _ wA_299) (by decide +kernel) ⟨Nat.le_of_ble_eq_true rfl, Nat.le_of_ble_eq_true rfl⟩, hts _ wA_300⟩ (tr_preS hI hN hw) rfl rfl hl.1 rfl (lv_room (Nat.le_of_ble_eq_true rfl)) d_T_late_18 ⟨Nat.zero_le _, Nat.zero_le _⟩) (fun r18 u18 H locs hw hI => ?_)
    refine lv_if_eq (tgt := 35) hx hb d_T_late_21 (by decide) (fun hc => ?_) (fun hc => ?_)
    · have hw := hw.1 hc
      refine lv_bipush (v := (-2)) hx hb d_T_late_35 (by decide) ?_
      exact tr_iret hx hb hr hlocks hI hw d_T_late_37
    · have hw := hw.2 hc
      refine lv_iload_n hx hb d_T_late_24 rfl (lv_at hl 3 rfl) ?_
      refine lv_iconst (v := (-1)) hx hb d_T_late_25 (by decide) ?_
      refine lv_sipush (v := 300) hx hb d_T_late_26 (by decide) ?_
      refine tr_goi (w := wdX a cA) hI hA (va_runS (As := [.int x3, .int (-1), .int 300]) (rest := []) ⟨hx, hb, hml, hown, hts⟩ (c_T_within l dC dI cA a _ _ _ _ _ _) ⟨callB_of 3 hts (wsA_good wA_301) rfl rfl rfl (hts _ wA_30) (hts _ wA_299) (by decide +kernel) ⟨Nat.le_of_ble_eq_true rfl, Nat.le_of_ble_eq_true rfl⟩, hts _ wA_300⟩ (tr_preS hI hN hw) rfl rfl hl.1 rfl (lv_room (Nat.le_of_ble_eq_true rfl)) d_T_late_29 ⟨Nat.zero_le _, Nat.zero_le _⟩) (fun r29 u29 H locs hw hI => ?_)
      refine lv_if_ne (tgt := 38) hx hb d_T_late_32 (by decide) (fun hc => ?_) (fun hc => ?_)
      · have hw := hw.2 hc
        refine lv_aload_n hx hb d_T_late_38 rfl (lv_at hl 0 rfl) ?_
        refine va_get (D := (dC, dI)) (C := R_T) (T := F_T) (N := 6) hx hb hts in_T hown hI.1 hI.2.1 0 (wdX_o0 a cA _) rfl 0 (by decide) (hts _ wA_264) (fun _ h9 => h9) rfl d_T_late_39 ?_
        refine va_get (D := (dC, dI)) (C := R_Ne) (T := F_Ne) (N := 5) hx hb hts in_Ne hown hI.1 hI.2.1 1 (wdX_o1 a cA _) rfl 2 (by decide) (hts _ wA_167) (fun _ h9 => h9) rfl d_T_late_42 ?_
        refine lv_iload_n hx hb d_T_late_45 rfl (lv_at hl 1 rfl) ?_
        refine lv_iload_n hx hb d_T_late_46 rfl (lv_at hl 2 rfl) ?_
        refine tr_goi (w := wdX a cA) hI hA (va_runV (As := [.int x1, .int x2]) (rest := []) ⟨hx, hb, hml, hown, hts⟩ (c_Ri_isOnDay l dC dI cA a _ _ _ _ _) (cwV 2 hts (wsA_goodV wA_380 wA_325 wA_326 wA_32 wA_327) rfl rfl rfl (by decide +kernel) ⟨Nat.le_of_ble_eq_true rfl, Nat.le_of_ble_eq_true rfl⟩) (tr_preV (ci := 2) (q0 := 2) hI rfl (wdX_o2 a cA _) rfl hN hw) rfl rfl hl.1 rfl (lv_room (Nat.le_of_ble_eq_true rfl)) d_T_late_47 ⟨Nat.zero_le _, Nat.zero_le _⟩) (fun r47 u47 H locs hw hI => ?_)
        refine lv_if_ne (tgt := 56) hx hb d_T_late_50 (by decide) (fun hc => ?_) (fun hc => ?_)
        · have hw := hw.2 hc
          refine lv_iload_n hx hb d_T_late_56 rfl (lv_at hl 1 rfl) ?_
          refine lv_bipush (v := 7) hx hb d_T_late_57 (by decide) ?_
          refine lv_imul hx hb d_T_late_59 ?_
          refine lv_iload_n hx hb d_T_late_60 rfl (lv_at hl 2 rfl) ?_
          refine lv_iadd hx hb d_T_late_61 ?_
          refine lv_istore (lv' := [(4, .int ((x1 * 7) + x2)), (0, .ref (a 0)), (1, .int x1), (2, .int x2), (3, .int x3)]) hx hb d_T_late_62 hl (by decide) rfl (fun ls hl => ?_)
          refine lv_aload_n hx hb d_T_late_64 rfl (lv_at hl 1 rfl) ?_
          refine va_get (D := (dC, dI)) (C := R_T) (T := F_T) (N := 6) hx hb hts in_T hown hI.1 hI.2.1 0 (wdX_o0 a cA _) rfl 0 (by decide) (hts _ wA_264) (fun _ h9 => h9) rfl d_T_late_65 ?_
          refine va_get (D := (dC, dI)) (C := R_Ne) (T := F_Ne) (N := 5) hx hb hts in_Ne hown hI.1 hI.2.1 1 (wdX_o1 a cA _) rfl 2 (by decide) (hts _ wA_167) (fun _ h9 => h9) rfl d_T_late_68 ?_
          refine va_get (D := (dC, dI)) (C := R_Ri) (T := F_Ri) (N := 7) hx hb hts in_Ri hown hI.1 hI.2.1 2 (wdX_o2 a cA _) rfl 6 (by decide) (hts _ wA_87) (fun _ h9 => h9) rfl d_T_late_71 ?_
          refine lv_iload hx hb d_T_late_74 (lv_at hl 0 rfl) ?_
          obtain ⟨hi, hw⟩ := hw
          refine va_iald (D := (dC, dI)) hx hb hI.1 hI.2.1 16 0 (wdX_o16 a cA _) rfl hi d_T_late_76 ?_
          refine lv_istore (lv' := [(5, .int (u47.2 6 ((x1 * 7) + x2).toNatClampNeg)), (4, .int ((x1 * 7) + x2)), (0, .ref (a 0)), (1, .int x1), (2, .int x2), (3, .int x3)]) hx hb d_T_late_77 hl (by decide) rfl (fun ls hl => ?_)
          refine lv_aload_n hx hb d_T_late_79 rfl (lv_at hl 2 rfl) ?_
          refine va_get (D := (dC, dI)) (C := R_T) (T := F_T) (N := 6) hx hb hts in_T hown hI.1 hI.2.1 0 (wdX_o0 a cA _) rfl 0 (by decide) (hts _ wA_264) (fun _ h9 => h9) rfl d_T_late_80 ?_
          refine va_get (D := (dC, dI)) (C := R_Ne) (T := F_Ne) (N := 5) hx hb hts in_Ne hown hI.1 hI.2.1 1 (wdX_o1 a cA _) rfl 3 (by decide) (hts _ wA_173) (fun _ h9 => h9) rfl d_T_late_83 ?_
          refine lv_iload hx hb d_T_late_86 (lv_at hl 1 rfl) ?_
          refine tr_gov (w := wdX a cA) hI hA (va_runV (As := [.int ((x1 * 7) + x2)]) (rest := []) ⟨hx, hb, hml, hown, hts⟩ (c_Bo_takeOut l dC dI cA a _ _ _ _) (cwV 1 hts (wsA_goodV wA_381 wA_382 wA_383 wA_33 wA_384) rfl rfl rfl (by decide +kernel) ⟨Nat.le_of_ble_eq_true rfl, Nat.le_of_ble_eq_true rfl⟩) (tr_preV (ci := 3) (q0 := 3) hI rfl (wdX_o3 a cA _) rfl hN hw) rfl rfl hl.1 rfl (lv_room (Nat.le_of_ble_eq_true rfl)) d_T_late_88 ⟨Nat.zero_le _, Nat.zero_le _⟩) (fun u88 H locs hw hI => ?_)
          refine lv_aload_n hx hb d_T_late_91 rfl (lv_at hl 2 rfl) ?_
          refine va_get (D := (dC, dI)) (C := R_T) (T := F_T) (N := 6) hx hb hts in_T hown hI.1 hI.2.1 0 (wdX_o0 a cA _) rfl 0 (by decide) (hts _ wA_264) (fun _ h9 => h9) rfl d_T_late_92 ?_
          refine va_get (D := (dC, dI)) (C := R_Ne) (T := F_Ne) (N := 5) hx hb hts in_Ne hown hI.1 hI.2.1 1 (wdX_o1 a cA _) rfl 2 (by decide) (hts _ wA_167) (fun _ h9 => h9) rfl d_T_late_95 ?_
          refine va_get (D := (dC, dI)) (C := R_Ri) (T := F_Ri) (N := 7) hx hb hts in_Ri hown hI.1 hI.2.1 2 (wdX_o2 a cA _) rfl 6 (by decide) (hts _ wA_87) (fun _ h9 => h9) rfl d_T_late_98 ?_
          refine lv_iload hx hb d_T_late_101 (lv_at hl 1 rfl) ?_
          refine lv_iload_n hx hb d_T_late_103 rfl (lv_at hl 5 rfl) ?_
          obtain ⟨hi, hw⟩ := hw
          refine tr_iast (w := wdX a cA) hx hb hI 16 0 6 (wdX_o16 a cA _) rfl (wdX_a6 a cA _ _ _) hi d_T_late_104 (fun H locs hI => ?_)
          refine lv_aload_n hx hb d_T_late_105 rfl (lv_at hl 2 rfl) ?_
          refine va_get (D := (dC, dI)) (C := R_T) (T := F_T) (N := 6) hx hb hts in_T hown hI.1 hI.2.1 0 (wdX_o0 a cA _) rfl 0 (by decide) (hts _ wA_264) (fun _ h9 => h9) rfl d_T_late_106 ?_
          refine va_get (D := (dC, dI)) (C := R_Ne) (T := F_Ne) (N := 5) hx hb hts in_Ne hown hI.1 hI.2.1 1 (wdX_o1 a cA _) rfl 3 (by decide) (hts _ wA_173) (fun _ h9 => h9) rfl d_T_late_109 ?_
          refine lv_aload_n hx hb d_T_late_112 rfl (lv_at hl 2 rfl) ?_
          refine va_get (D := (dC, dI)) (C := R_T) (T := F_T) (N := 6) hx hb hts in_T hown hI.1 hI.2.1 0 (wdX_o0 a cA _) rfl 0 (by decide) (hts _ wA_264) (fun _ h9 => h9) rfl d_T_late_113 ?_
          refine va_get (D := (dC, dI)) (C := R_Ne) (T := F_Ne) (N := 5) hx hb hts in_Ne hown hI.1 hI.2.1 1 (wdX_o1 a cA _) rfl 2 (by decide) (hts _ wA_167) (fun _ h9 => h9) rfl d_T_late_116 ?_
          refine lv_iload hx hb d_T_late_119 (lv_at hl 1 rfl) ?_
          refine tr_gov (w := wdX a cA) hI hA (va_runV (As := [.ref (a 2), .int ((x1 * 7) + x2)]) (rest := []) ⟨hx, hb, hml, hown, hts⟩ (c_Bo_putIn l dC dI cA a _ _ _ _) (cwV 2 hts (wsA_goodV wA_385 wA_333 wA_334 wA_33 wA_335) rfl rfl rfl (by decide +kernel) ⟨Nat.le_of_ble_eq_true rfl, Nat.le_of_ble_eq_true rfl⟩) (tr_preV (ci := 3) (q0 := 3) hI rfl (wdX_o3 a cA _) rfl hN hw) rfl rfl hl.1 rfl (lv_room (Nat.le_of_ble_eq_true rfl)) d_T_late_121 ⟨Nat.zero_le _, Nat.zero_le _⟩) (fun u121 H locs hw hI => ?_)
          refine lv_iload hx hb d_T_late_124 (lv_at hl 0 rfl) ?_
          exact tr_iret hx hb hr hlocks hI hw d_T_late_126
        · have hw := hw.1 hc
          refine lv_bipush (v := (-2)) hx hb d_T_late_53 (by decide) ?_
          exact tr_iret hx hb hr hlocks hI hw d_T_late_55
      · have hw := hw.1 hc
        refine lv_bipush (v := (-2)) hx hb d_T_late_35 (by decide) ?_
        exact tr_iret hx hb hr hlocks hI hw d_T_late_37
def w_T_isTime (post : Int32 → tS → Prop) (x0 : Int32) (u : tS) : Prop := (w_T_within (fun r5 u5 => (narrow .boolean (.int r5) = .int r5 ∧ post r5 u5)) x0 0 10079 u)
set_option maxRecDepth 100000 in
set_option maxHeartbeats 4000000 in
theorem c_T_isTime (l : Launch) (dC : Nat → ClassId) (dI : Nat → Nat → Nat) (cA : ClassId) (a : Nat → Nat) (u : tS) (x0 : Int32) (post : Int32 → tS → Prop) (sz : Nat) : Met l y_T_isTime ws_T_isTime ({ frames := 1, cells := 0, slots := 0, locals := 22 }) (va_Pc [.int x0] (tP (dC, dI) twCl [(cA, .int)] (wdX a cA) u sz (w_T_isTime post x0 u))) (va_Qi post (tB (dC, dI) twCl [(cA, .int)] (va_A (wdX a cA u) sz) (wdX a cA)) (va_A (wdX a cA u) sz)) 0 0 (va_A (wdX a cA u) sz) := by
  refine Met.ofW (cc := b_T_isTime) (maxL := 1) (ret := (some .boolean)) (by decide) rfl ?_
  intro p e s m args below meth c s₁ B hml hv
  obtain ⟨rfl, hsz, hP, hK, hD0, hN, hw⟩ := hv
  have hx := B.exec
  have hb := B.bytes
  have hr := B.returns
  have hts : ∀ w ∈ wsA, w.before _ s = true := fun w h => atoms_spec (ws := ws_T_isTime) B.pre w (List.mem_cons_of_mem _ h)
  have hown : s.vm.findClass R_T = some m.cls := findClass_of_methodNamed B.named
  have hlocks := B.notSynchronized
  subst hsz
  have hD := hD0.self (sz := s.heap.size)
  generalize hAe : va_A (wdX a cA u) s.heap.size = A at hD ⊢
  have hA : ∀ q : Nat, s.heap.size ≤ q → A q := fun q h => by rw [← hAe]; exact Or.inr h
  have hS : va_S A s.heap s.heap [] := va_S.rf
  have hI : tX (dC, dI) twCl [(cA, .int)] A s s.heap [] (wdX a cA u) := ⟨hK, hP, hD, hS⟩
  have hC : tC p s m meth c ([.int x0] : List Value).toArray b_T_isTime 1 (some .boolean) wsA R_T A := ⟨hx, hb, hr, hml, hown, hts, hlocks, hA, hN⟩
  have hl := lv_entry ([.int x0]) (n := 1) (Nat.le_of_ble_eq_true rfl)
  rw [lg_entry_eq]
  generalize (lg_sl ([.int x0]) ++ List.replicate (1 - (lg_sl ([.int x0])).length) Slot.unset).toArray = ls at hl ⊢
  have hl : lv_has ls 1 [(0, .int x0)] := hl
  have hw : (w_T_within (fun r5 u5 => (narrow .boolean (.int r5) = .int r5 ∧ post r5 u5)) x0 0 10079 u) := hw
  refine lv_iload_n hx hb d_T_isTime_0 rfl (lv_at hl 0 rfl) ?_
  refine lv_iconst (v := 0) hx hb d_T_isTime_1 (by decide) ?_
  refine lv_sipush (v := 10079) hx hb d_T_isTime_2 (by decide) ?_
  refine tr_goi (w := wdX a cA) hI hA (va_runS (As := [.int x0, .int 0, .int 10079]) (rest := []) ⟨hx, hb, hml, hown, hts⟩ (c_T_within l dC dI cA a _ _ _ _ _ _) ⟨callB_of 3 hts (wsA_good wA_301) rfl rfl rfl (hts _ wA_30) (hts _ wA_299) (by decide +kernel) ⟨Nat.le_of_ble_eq_true rfl, Nat.le_of_ble_eq_true rfl⟩, hts _ wA_300⟩ (tr_preS hI hN hw) rfl rfl hl.1 rfl (lv_room (Nat.le_of_ble_eq_true rfl)) d_T_isTime_5 ⟨Nat.zero_le _, Nat.zero_le _⟩) (fun r5 u5 H locs hw hI => ?_)
  obtain ⟨hn, hw⟩ := hw
  exact tr_zret hx hb hr hlocks hI hn hw d_T_isTime_8
def w_Ar_begin_3 (post : tS → Prop) : Nat → Int32 → Int32 → Int32 → tS → Prop
  | 0 => fun _ _ _ _ => False
  | n + 1 => fun x2 x3 x4 u => ((12 ≤ x4 → (post u)) ∧ (¬ 12 ≤ x4 → (vp_in x4 12 ∧ (w_Wa_anyNumber (fun r35 u35 => (vp_in x4 12 ∧ (w_Ar_begin_3 post n x2 x3 (x4 + 1) (tA u35 14 x4 (if (x3 + r35) < 1000000 then (x3 + r35) else 1000000))))) x2 x4 (tA u 13 x4 1000000)))))
def w_Ar_begin (post : tS → Prop) (x2 : Int32) (x3 : Int32) (u : tS) : Prop := (∃ k, w_Ar_begin_3 post k x2 x3 0 u)
set_option maxRecDepth 100000 in
set_option maxHeartbeats 4000000 in
theorem k_Ar_begin_3 {p : Program} {l : Launch} {e : Env} {s : State} {m : MethodId} {args : Array Value} {below : List Frame} {meth : Method} {c : Code} {dC : Nat → ClassId} {dI : Nat → Nat → Nat} {cA : ClassId} {a : Nat → Nat} {A : Nat → Prop} (hC : tC p s m meth c args b_Ar_begin 5 none wsA R_Ar A) (post : tS → Prop) : ∀ n : Nat, ∀ (x2 x3 x4 : Int32) (u : tS) (H : Heap) (locs : List Loc) (ls : Array Slot), w_Ar_begin_3 post n x2 x3 x4 u → tX (dC, dI) twCl [(cA, .int)] A s H locs (wdX a cA u) → lv_has ls 5 [(0, .ref (a 5)), (1, .ref (a 1)), (2, .int x2), (3, .int x3), (4, .int x4)] → W p l e ({ frames := 2, cells := 0, slots := 0, locals := 44 }) s m args below meth c H locs 0 0 (MQ below (va_Qv post (tB (dC, dI) twCl [(cA, .int)] A (wdX a cA)) A) args s 0 0 A) (F0 m 3 ls []) := by
  obtain ⟨hx, hb, hr, hml, hown, hts, hlocks, hA, hN⟩ := id hC
  intro n
  induction n with
  | zero => intro x2 x3 x4 u H locs ls hw; exact False.elim hw
  | succ n ih =>
    intro x2 x3 x4 u H locs ls hw hI hl
    refine lv_iload hx hb d_Ar_begin_3 (lv_at hl 4 rfl) ?_
    refine lv_bipush (v := 12) hx hb d_Ar_begin_5 (by decide) ?_
    refine lv_icmp_ge (tgt := 49) hx hb d_Ar_begin_7 (by decide) (fun hc => ?_) (fun hc => ?_)
    · have hw := hw.1 hc
      exact tr_vret hx hb hr hlocks hI hw d_Ar_begin_49
    · have hw := hw.2 hc
      refine lv_aload_n hx hb d_Ar_begin_10 rfl (lv_at hl 0 rfl) ?_
      refine va_get (D := (dC, dI)) (C := R_Ar) (T := F_Ar) (N := 2) hx hb hts in_Ar hown hI.1 hI.2.1 5 (wdX_o5 a cA _) rfl 0 (by decide) (hts _ wA_197) (fun _ h9 => h9) rfl d_Ar_begin_11 ?_
      refine lv_iload hx hb d_Ar_begin_14 (lv_at hl 4 rfl) ?_
      refine lv_ldc (v := 1000000) hx hb hown (hts _ wA_401) d_Ar_begin_16 ?_
      obtain ⟨hi, hw⟩ := hw
      refine tr_iast (w := wdX a cA) hx hb hI 23 0 13 (wdX_o23 a cA _) rfl (wdX_a13 a cA _ _ _) hi d_Ar_begin_18 (fun H locs hI => ?_)
      refine lv_aload_n hx hb d_Ar_begin_19 rfl (lv_at hl 0 rfl) ?_
      refine va_get (D := (dC, dI)) (C := R_Ar) (T := F_Ar) (N := 2) hx hb hts in_Ar hown hI.1 hI.2.1 5 (wdX_o5 a cA _) rfl 1 (by decide) (hts _ wA_198) (fun _ h9 => h9) rfl d_Ar_begin_20 ?_
      refine lv_iload hx hb d_Ar_begin_23 (lv_at hl 4 rfl) ?_
      refine lv_ldc (v := 1000000) hx hb hown (hts _ wA_401) d_Ar_begin_25 ?_
      refine lv_iload_n hx hb d_Ar_begin_27 rfl (lv_at hl 3 rfl) ?_
      refine lv_aload_n hx hb d_Ar_begin_28 rfl (lv_at hl 1 rfl) ?_
      refine va_get (D := (dC, dI)) (C := R_Ne) (T := F_Ne) (N := 5) hx hb hts in_Ne hown hI.1 hI.2.1 1 (wdX_o1 a cA _) rfl 4 (by decide) (hts _ wA_178) (fun _ h9 => h9) rfl d_Ar_begin_29 ?_
      refine lv_iload_n hx hb d_Ar_begin_32 rfl (lv_at hl 2 rfl) ?_
      refine lv_iload hx hb d_Ar_begin_33 (lv_at hl 4 rfl) ?_
      refine tr_goi (w := wdX a cA) hI hA (va_runV (As := [.int x2, .int x4]) (rest := [.int x3, .int 1000000, .int x4, .ref (a 24)]) ⟨hx, hb, hml, hown, hts⟩ (c_Wa_anyNumber l dC dI cA a _ _ _ _ _) (cwV 2 hts (wsA_goodV wA_402 wA_361 wA_362 wA_34 wA_363) rfl rfl rfl (by decide +kernel) ⟨Nat.le_of_ble_eq_true rfl, Nat.le_of_ble_eq_true rfl⟩) (tr_preV (ci := 4) (q0 := 4) hI rfl (wdX_o4 a cA _) rfl hN hw) rfl rfl hl.1 rfl (lv_room (Nat.le_of_ble_eq_true rfl)) d_Ar_begin_35 ⟨Nat.zero_le _, Nat.zero_le _⟩) (fun r35 u35 H locs hw hI => ?_)
      refine lv_iadd hx hb d_Ar_begin_38 ?_
      refine va_mmin hx hb (by rw [hml]; exact hl.1.symm) hown (hts _ wA_403) (hts _ wA_369) (hts _ wA_41) (hts _ wA_370) (Nat.le_of_ble_eq_true rfl) (Nat.le_of_ble_eq_true rfl) (Nat.zero_le _) (Nat.zero_le _) d_Ar_begin_39 ?_
      obtain ⟨hi, hw⟩ := hw
      refine tr_iast (w := wdX a cA) hx hb hI 24 0 14 (wdX_o24 a cA _) rfl (wdX_a14 a cA _ _ _) hi d_Ar_begin_42 (fun H locs hI => ?_)
      refine lv_iinc (v := (x4 + 1)) (lv' := [(4, .int (x4 + 1)), (0, .ref (a 5)), (1, .ref (a 1)), (2, .int x2), (3, .int x3)]) hx hb d_Ar_begin_43 hl (k := 4) rfl rfl (by decide) rfl (fun ls hl => ?_)
      refine lv_goto (tgt := 3) hx hb d_Ar_begin_46 (by decide) ?_
      exact ih _ _ _ _ _ _ ls hw hI (lv_sub hl [1, 2, 3, 4, 0] rfl)
set_option maxRecDepth 100000 in
set_option maxHeartbeats 4000000 in
theorem c_Ar_begin (l : Launch) (dC : Nat → ClassId) (dI : Nat → Nat → Nat) (cA : ClassId) (a : Nat → Nat) (u : tS) (x2 : Int32) (x3 : Int32) (post : tS → Prop) (sz : Nat) : Met l y_Ar_begin ws_Ar_begin ({ frames := 2, cells := 0, slots := 0, locals := 44 }) (va_Pc [.ref (a 5), .ref (a 1), .int x2, .int x3] (tP (dC, dI) twCl [(cA, .int)] (wdX a cA) u sz (w_Ar_begin post x2 x3 u))) (va_Qv post (tB (dC, dI) twCl [(cA, .int)] (va_A (wdX a cA u) sz) (wdX a cA)) (va_A (wdX a cA u) sz)) 0 0 (va_A (wdX a cA u) sz) := by
  refine Met.ofW (cc := b_Ar_begin) (maxL := 5) (ret := none) (by decide) rfl ?_
  intro p e s m args below meth c s₁ B hml hv
  obtain ⟨rfl, hsz, hP, hK, hD0, hN, hw⟩ := hv
  have hx := B.exec
  have hb := B.bytes
  have hr := B.returns
  have hts : ∀ w ∈ wsA, w.before _ s = true := fun w h => atoms_spec (ws := ws_Ar_begin) B.pre w (List.mem_cons_of_mem _ h)
  have hown : s.vm.findClass R_Ar = some m.cls := findClass_of_methodNamed B.named
  have hlocks := B.notSynchronized
  subst hsz
  have hD := hD0.self (sz := s.heap.size)
  generalize hAe : va_A (wdX a cA u) s.heap.size = A at hD ⊢
  have hA : ∀ q : Nat, s.heap.size ≤ q → A q := fun q h => by rw [← hAe]; exact Or.inr h
  have hS : va_S A s.heap s.heap [] := va_S.rf
  have hI : tX (dC, dI) twCl [(cA, .int)] A s s.heap [] (wdX a cA u) := ⟨hK, hP, hD, hS⟩
  have hC : tC p s m meth c ([.ref (a 5), .ref (a 1), .int x2, .int x3] : List Value).toArray b_Ar_begin 5 none wsA R_Ar A := ⟨hx, hb, hr, hml, hown, hts, hlocks, hA, hN⟩
  have hl := lv_entry ([.ref (a 5), .ref (a 1), .int x2, .int x3]) (n := 5) (Nat.le_of_ble_eq_true rfl)
  rw [lg_entry_eq]
  generalize (lg_sl ([.ref (a 5), .ref (a 1), .int x2, .int x3]) ++ List.replicate (5 - (lg_sl ([.ref (a 5), .ref (a 1), .int x2, .int x3])).length) Slot.unset).toArray = ls at hl ⊢
  have hl : lv_has ls 5 [(0, .ref (a 5)), (1, .ref (a 1)), (2, .int x2), (3, .int x3)] := hl
  have hw : (∃ k, w_Ar_begin_3 post k x2 x3 0 u) := hw
  refine lv_iconst (v := 0) hx hb d_Ar_begin_0 (by decide) ?_
  refine lv_istore (lv' := [(4, .int 0), (0, .ref (a 5)), (1, .ref (a 1)), (2, .int x2), (3, .int x3)]) hx hb d_Ar_begin_1 hl (by decide) rfl (fun ls hl => ?_)
  obtain ⟨k, hw⟩ := hw
  exact k_Ar_begin_3 hC post k _ _ _ _ _ _ ls hw hI (lv_sub hl [1, 2, 3, 4, 0] rfl)
end
section
def w_Bo_rideAt (post : Int32 → tS → Prop) (x1 : Int32) (u : tS) : Prop := (vp_in x1 280 ∧ (post ((u.2 7 x1.toNatClampNeg) / 7) u))
set_option maxRecDepth 100000 in
set_option maxHeartbeats 4000000 in
theorem c_Bo_rideAt (l : Launch) (dC : Nat → ClassId) (dI : Nat → Nat → Nat) (cA : ClassId) (a : Nat → Nat) (u : tS) (x1 : Int32) (post : Int32 → tS → Prop) (sz : Nat) : Met l y_Bo_rideAt ws_Bo_rideAt ({ frames := 0, cells := 0, slots := 0, locals := 0 }) (va_Pc [.ref (a 3), .int x1] (tP (dC, dI) twCl [(cA, .int)] (wdX a cA) u sz (w_Bo_rideAt post x1 u))) (va_Qi post (tB (dC, dI) twCl [(cA, .int)] (va_A (wdX a cA u) sz) (wdX a cA)) (va_A (wdX a cA u) sz)) 0 0 (va_A (wdX a cA u) sz) := by
  refine Met.ofW (cc := b_Bo_rideAt) (maxL := 2) (ret := (some .int)) (by decide) rfl ?_
  intro p e s m args below meth c s₁ B hml hv
  obtain ⟨rfl, hsz, hP, hK, hD0, hN, hw⟩ := hv
  have hx := B.exec
  have hb := B.bytes
  have hr := B.returns
  have hts : ∀ w ∈ wsA, w.before _ s = true := fun w h => atoms_spec (ws := ws_Bo_rideAt) B.pre w (List.mem_cons_of_mem _ h)
  have hown : s.vm.findClass R_Bo = some m.cls := findClass_of_methodNamed B.named
  have hlocks := B.notSynchronized
  subst hsz
  have hD := hD0.self (sz := s.heap.size)
  generalize hAe : va_A (wdX a cA u) s.heap.size = A at hD ⊢
  have hA : ∀ q : Nat, s.heap.size ≤ q → A q := fun q h => by rw [← hAe]; exact Or.inr h
  have hS : va_S A s.heap s.heap [] := va_S.rf
  have hI : tX (dC, dI) twCl [(cA, .int)] A s s.heap [] (wdX a cA u) := ⟨hK, hP, hD, hS⟩
  have hC : tC p s m meth c ([.ref (a 3), .int x1] : List Value).toArray b_Bo_rideAt 2 (some .int) wsA R_Bo A := ⟨hx, hb, hr, hml, hown, hts, hlocks, hA, hN⟩
  have hl := lv_entry ([.ref (a 3), .int x1]) (n := 2) (Nat.le_of_ble_eq_true rfl)
  rw [lg_entry_eq]
  generalize (lg_sl ([.ref (a 3), .int x1]) ++ List.replicate (2 - (lg_sl ([.ref (a 3), .int x1])).length) Slot.unset).toArray = ls at hl ⊢
  have hl : lv_has ls 2 [(0, .ref (a 3)), (1, .int x1)] := hl
  have hw : (vp_in x1 280 ∧ (post ((u.2 7 x1.toNatClampNeg) / 7) u)) := hw
  refine lv_aload_n hx hb d_Bo_rideAt_0 rfl (lv_at hl 0 rfl) ?_
  refine va_get (D := (dC, dI)) (C := R_Bo) (T := F_Bo) (N := 3) hx hb hts in_Bo hown hI.1 hI.2.1 3 (wdX_o3 a cA _) rfl 1 (by decide) (hts _ wA_116) (fun _ h9 => h9) rfl d_Bo_rideAt_1 ?_
  refine lv_iload_n hx hb d_Bo_rideAt_4 rfl (lv_at hl 1 rfl) ?_
  obtain ⟨hi, hw⟩ := hw
  refine va_iald (D := (dC, dI)) hx hb hI.1 hI.2.1 17 0 (wdX_o17 a cA _) rfl hi d_Bo_rideAt_5 ?_
  refine lv_bipush (v := 7) hx hb d_Bo_rideAt_6 (by decide) ?_
  refine lv_idiv hx hb d_Bo_rideAt_8 (by decide) ?_
  exact tr_iret hx hb hr hlocks hI hw d_Bo_rideAt_9
def w_Ar_mayTake (post : Int32 → tS → Prop) (x2 : Int32) (x3 : Int32) (u : tS) : Prop := (vp_in x2 12 ∧ (((u.2 14 x2.toNatClampNeg) ≤ x3 → (post 1 u)) ∧ (¬ (u.2 14 x2.toNatClampNeg) ≤ x3 → (vp_in x2 12 ∧ (vp_in x2 12 ∧ ((x3 < ((u.2 13 x2.toNatClampNeg) + (u.2 0 x2.toNatClampNeg)) → (post 0 u)) ∧ (¬ x3 < ((u.2 13 x2.toNatClampNeg) + (u.2 0 x2.toNatClampNeg)) → (post 1 u))))))))
set_option maxRecDepth 100000 in
set_option maxHeartbeats 4000000 in
theorem c_Ar_mayTake (l : Launch) (dC : Nat → ClassId) (dI : Nat → Nat → Nat) (cA : ClassId) (a : Nat → Nat) (u : tS) (x2 : Int32) (x3 : Int32) (post : Int32 → tS → Prop) (sz : Nat) : Met l y_Ar_mayTake ws_Ar_mayTake ({ frames := 0, cells := 0, slots := 0, locals := 0 }) (va_Pc [.ref (a 5), .ref (a 1), .int x2, .int x3] (tP (dC, dI) twCl [(cA, .int)] (wdX a cA) u sz (w_Ar_mayTake post x2 x3 u))) (va_Qi post (tB (dC, dI) twCl [(cA, .int)] (va_A (wdX a cA u) sz) (wdX a cA)) (va_A (wdX a cA u) sz)) 0 0 (va_A (wdX a cA u) sz) := by
  refine Met.ofW (cc := b_Ar_mayTake) (maxL := 4) (ret := (some .boolean)) (by decide) rfl ?_
  intro p e s m args below meth c s₁ B hml hv
  obtain ⟨rfl, hsz, hP, hK, hD0, hN, hw⟩ := hv
  have hx := B.exec
  have hb := B.bytes
  have hr := B.returns
  have hts : ∀ w ∈ wsA, w.before _ s = true := fun w h => atoms_spec (ws := ws_Ar_mayTake) B.pre w (List.mem_cons_of_mem _ h)
  have hown : s.vm.findClass R_Ar = some m.cls := findClass_of_methodNamed B.named
  have hlocks := B.notSynchronized
  subst hsz
  have hD := hD0.self (sz := s.heap.size)
  generalize hAe : va_A (wdX a cA u) s.heap.size = A at hD ⊢
  have hA : ∀ q : Nat, s.heap.size ≤ q → A q := fun q h => by rw [← hAe]; exact Or.inr h
  have hS : va_S A s.heap s.heap [] := va_S.rf
  have hI : tX (dC, dI) twCl [(cA, .int)] A s s.heap [] (wdX a cA u) := ⟨hK, hP, hD, hS⟩
  have hC : tC p s m meth c ([.ref (a 5), .ref (a 1), .int x2, .int x3] : List Value).toArray b_Ar_mayTake 4 (some .boolean) wsA R_Ar A := ⟨hx, hb, hr, hml, hown, hts, hlocks, hA, hN⟩
  have hl := lv_entry ([.ref (a 5), .ref (a 1), .int x2, .int x3]) (n := 4) (Nat.le_of_ble_eq_true rfl)
  rw [lg_entry_eq]
  generalize (lg_sl ([.ref (a 5), .ref (a 1), .int x2, .int x3]) ++ List.replicate (4 - (lg_sl ([.ref (a 5), .ref (a 1), .int x2, .int x3])).length) Slot.unset).toArray = ls at hl ⊢
  have hl : lv_has ls 4 [(0, .ref (a 5)), (1, .ref (a 1)), (2, .int x2), (3, .int x3)] := hl
  have hw : (vp_in x2 12 ∧ (((u.2 14 x2.toNatClampNeg) ≤ x3 → (post 1 u)) ∧ (¬ (u.2 14 x2.toNatClampNeg) ≤ x3 → (vp_in x2 12 ∧ (vp_in x2 12 ∧ ((x3 < ((u.2 13 x2.toNatClampNeg) + (u.2 0 x2.toNatClampNeg)) → (post 0 u)) ∧ (¬ x3 < ((u.2 13 x2.toNatClampNeg) + (u.2 0 x2.toNatClampNeg)) → (post 1 u)))))))) := hw
  refine lv_iload_n hx hb d_Ar_mayTake_0 rfl (lv_at hl 3 rfl) ?_
  refine lv_aload_n hx hb d_Ar_mayTake_1 rfl (lv_at hl 0 rfl) ?_
  refine va_get (D := (dC, dI)) (C := R_Ar) (T := F_Ar) (N := 2) hx hb hts in_Ar hown hI.1 hI.2.1 5 (wdX_o5 a cA _) rfl 1 (by decide) (hts _ wA_198) (fun _ h9 => h9) rfl d_Ar_mayTake_2 ?_
  refine lv_iload_n hx hb d_Ar_mayTake_5 rfl (lv_at hl 2 rfl) ?_
  obtain ⟨hi, hw⟩ := hw
  refine va_iald (D := (dC, dI)) hx hb hI.1 hI.2.1 24 0 (wdX_o24 a cA _) rfl hi d_Ar_mayTake_6 ?_
  refine lv_icmp_ge (tgt := 27) hx hb d_Ar_mayTake_7 (by decide) (fun hc => ?_) (fun hc => ?_)
  · have hw := hw.1 hc
    refine lv_iconst (v := 1) hx hb d_Ar_mayTake_27 (by decide) ?_
    refine lv_goto (tgt := 32) hx hb d_Ar_mayTake_28 (by decide) ?_
    exact tr_zret hx hb hr hlocks hI rfl hw d_Ar_mayTake_32
  · have hw := hw.2 hc
    refine lv_iload_n hx hb d_Ar_mayTake_10 rfl (lv_at hl 3 rfl) ?_
    refine lv_aload_n hx hb d_Ar_mayTake_11 rfl (lv_at hl 0 rfl) ?_
    refine va_get (D := (dC, dI)) (C := R_Ar) (T := F_Ar) (N := 2) hx hb hts in_Ar hown hI.1 hI.2.1 5 (wdX_o5 a cA _) rfl 0 (by decide) (hts _ wA_197) (fun _ h9 => h9) rfl d_Ar_mayTake_12 ?_
    refine lv_iload_n hx hb d_Ar_mayTake_15 rfl (lv_at hl 2 rfl) ?_
    obtain ⟨hi, hw⟩ := hw
    refine va_iald (D := (dC, dI)) hx hb hI.1 hI.2.1 23 0 (wdX_o23 a cA _) rfl hi d_Ar_mayTake_16 ?_
    refine lv_aload_n hx hb d_Ar_mayTake_17 rfl (lv_at hl 1 rfl) ?_
    refine va_get (D := (dC, dI)) (C := R_Ne) (T := F_Ne) (N := 5) hx hb hts in_Ne hown hI.1 hI.2.1 1 (wdX_o1 a cA _) rfl 1 (by decide) (hts _ wA_165) (fun _ h9 => h9) rfl d_Ar_mayTake_18 ?_
    refine lv_iload_n hx hb d_Ar_mayTake_21 rfl (lv_at hl 2 rfl) ?_
    obtain ⟨hi, hw⟩ := hw
    refine va_iald (D := (dC, dI)) hx hb hI.1 hI.2.1 10 0 (wdX_o10 a cA _) rfl hi d_Ar_mayTake_22 ?_
    refine lv_iadd hx hb d_Ar_mayTake_23 ?_
    refine lv_icmp_lt (tgt := 31) hx hb d_Ar_mayTake_24 (by decide) (fun hc => ?_) (fun hc => ?_)
    · have hw := hw.1 hc
      refine lv_iconst (v := 0) hx hb d_Ar_mayTake_31 (by decide) ?_
      exact tr_zret hx hb hr hlocks hI rfl hw d_Ar_mayTake_32
    · have hw := hw.2 hc
      refine lv_iconst (v := 1) hx hb d_Ar_mayTake_27 (by decide) ?_
      refine lv_goto (tgt := 32) hx hb d_Ar_mayTake_28 (by decide) ?_
      exact tr_zret hx hb hr hlocks hI rfl hw d_Ar_mayTake_32
def w_Ar_arrive_21 (post : tS → Prop) : Nat → Int32 → Int32 → Int32 → tS → Prop
  | 0 => fun _ _ _ _ => False
  | n + 1 => fun x2 x3 x4 u => (((u.1 0) ≤ x4 → (post u)) ∧ (¬ (u.1 0) ≤ x4 → (vp_in x4 12 ∧ (w_Wa_atLeastOne (fun r51 u51 => (vp_in x4 12 ∧ (w_Ar_arrive_21 post n x2 x3 (x4 + 1) (tA u51 14 x4 (if (x3 + r51) < (u.2 14 x4.toNatClampNeg) then (x3 + r51) else (u.2 14 x4.toNatClampNeg)))))) x2 x4 u))))
def w_Ar_arrive (post : tS → Prop) (x2 : Int32) (x3 : Int32) (u : tS) : Prop := (vp_in x2 12 ∧ ((x3 < (u.2 13 x2.toNatClampNeg) → (vp_in x2 12 ∧ (∃ k, w_Ar_arrive_21 post k x2 x3 0 (tA u 13 x2 x3)))) ∧ (¬ x3 < (u.2 13 x2.toNatClampNeg) → (post u))))
set_option maxRecDepth 100000 in
set_option maxHeartbeats 4000000 in
theorem k_Ar_arrive_21 {p : Program} {l : Launch} {e : Env} {s : State} {m : MethodId} {args : Array Value} {below : List Frame} {meth : Method} {c : Code} {dC : Nat → ClassId} {dI : Nat → Nat → Nat} {cA : ClassId} {a : Nat → Nat} {A : Nat → Prop} (hC : tC p s m meth c args b_Ar_arrive 5 none wsA R_Ar A) (post : tS → Prop) : ∀ n : Nat, ∀ (x2 x3 x4 : Int32) (u : tS) (H : Heap) (locs : List Loc) (ls : Array Slot), w_Ar_arrive_21 post n x2 x3 x4 u → tX (dC, dI) twCl [(cA, .int)] A s H locs (wdX a cA u) → lv_has ls 5 [(0, .ref (a 5)), (1, .ref (a 1)), (2, .int x2), (3, .int x3), (4, .int x4)] → W p l e ({ frames := 1, cells := 0, slots := 0, locals := 22 }) s m args below meth c H locs 0 0 (MQ below (va_Qv post (tB (dC, dI) twCl [(cA, .int)] A (wdX a cA)) A) args s 0 0 A) (F0 m 21 ls []) := by
  obtain ⟨hx, hb, hr, hml, hown, hts, hlocks, hA, hN⟩ := id hC
  intro n
  induction n with
  | zero => intro x2 x3 x4 u H locs ls hw; exact False.elim hw
  | succ n ih =>
    intro x2 x3 x4 u H locs ls hw hI hl
    refine lv_iload hx hb d_Ar_arrive_21 (lv_at hl 4 rfl) ?_
    refine lv_aload_n hx hb d_Ar_arrive_23 rfl (lv_at hl 1 rfl) ?_
    refine va_get (D := (dC, dI)) (C := R_Ne) (T := F_Ne) (N := 5) hx hb hts in_Ne hown hI.1 hI.2.1 1 (wdX_o1 a cA _) rfl 0 (by decide) (hts _ wA_162) (fun _ h9 => h9) rfl d_Ar_arrive_24 ?_
    refine lv_icmp_ge (tgt := 65) hx hb d_Ar_arrive_27 (by decide) (fun hc => ?_) (fun hc => ?_)
    · have hw := hw.1 hc
      exact tr_vret hx hb hr hlocks hI hw d_Ar_arrive_65
    · have hw := hw.2 hc
      refine lv_aload_n hx hb d_Ar_arrive_30 rfl (lv_at hl 0 rfl) ?_
      refine va_get (D := (dC, dI)) (C := R_Ar) (T := F_Ar) (N := 2) hx hb hts in_Ar hown hI.1 hI.2.1 5 (wdX_o5 a cA _) rfl 1 (by decide) (hts _ wA_198) (fun _ h9 => h9) rfl d_Ar_arrive_31 ?_
      refine lv_iload hx hb d_Ar_arrive_34 (lv_at hl 4 rfl) ?_
      refine lv_aload_n hx hb d_Ar_arrive_36 rfl (lv_at hl 0 rfl) ?_
      refine va_get (D := (dC, dI)) (C := R_Ar) (T := F_Ar) (N := 2) hx hb hts in_Ar hown hI.1 hI.2.1 5 (wdX_o5 a cA _) rfl 1 (by decide) (hts _ wA_198) (fun _ h9 => h9) rfl d_Ar_arrive_37 ?_
      refine lv_iload hx hb d_Ar_arrive_40 (lv_at hl 4 rfl) ?_
      obtain ⟨hi, hw⟩ := hw
      refine va_iald (D := (dC, dI)) hx hb hI.1 hI.2.1 24 0 (wdX_o24 a cA _) rfl hi d_Ar_arrive_42 ?_
      refine lv_iload_n hx hb d_Ar_arrive_43 rfl (lv_at hl 3 rfl) ?_
      refine lv_aload_n hx hb d_Ar_arrive_44 rfl (lv_at hl 1 rfl) ?_
      refine va_get (D := (dC, dI)) (C := R_Ne) (T := F_Ne) (N := 5) hx hb hts in_Ne hown hI.1 hI.2.1 1 (wdX_o1 a cA _) rfl 4 (by decide) (hts _ wA_178) (fun _ h9 => h9) rfl d_Ar_arrive_45 ?_
      refine lv_iload_n hx hb d_Ar_arrive_48 rfl (lv_at hl 2 rfl) ?_
      refine lv_iload hx hb d_Ar_arrive_49 (lv_at hl 4 rfl) ?_
      refine tr_goi (w := wdX a cA) hI hA (va_runV (As := [.int x2, .int x4]) (rest := [.int x3, .int (u.2 14 x4.toNatClampNeg), .int x4, .ref (a 24)]) ⟨hx, hb, hml, hown, hts⟩ (c_Wa_atLeastOne l dC dI cA a _ _ _ _ _) (cwV 2 hts (wsA_goodV wA_420 wA_365 wA_366 wA_34 wA_367) rfl rfl rfl (by decide +kernel) ⟨Nat.le_of_ble_eq_true rfl, Nat.le_of_ble_eq_true rfl⟩) (tr_preV (ci := 4) (q0 := 4) hI rfl (wdX_o4 a cA _) rfl hN hw) rfl rfl hl.1 rfl (lv_room (Nat.le_of_ble_eq_true rfl)) d_Ar_arrive_51 ⟨Nat.zero_le _, Nat.zero_le _⟩) (fun r51 u51 H locs hw hI => ?_)
      refine lv_iadd hx hb d_Ar_arrive_54 ?_
      refine va_mmin hx hb (by rw [hml]; exact hl.1.symm) hown (hts _ wA_403) (hts _ wA_369) (hts _ wA_41) (hts _ wA_370) (Nat.le_of_ble_eq_true rfl) (Nat.le_of_ble_eq_true rfl) (Nat.zero_le _) (Nat.zero_le _) d_Ar_arrive_55 ?_
      obtain ⟨hi, hw⟩ := hw
      refine tr_iast (w := wdX a cA) hx hb hI 24 0 14 (wdX_o24 a cA _) rfl (wdX_a14 a cA _ _ _) hi d_Ar_arrive_58 (fun H locs hI => ?_)
      refine lv_iinc (v := (x4 + 1)) (lv' := [(4, .int (x4 + 1)), (0, .ref (a 5)), (1, .ref (a 1)), (2, .int x2), (3, .int x3)]) hx hb d_Ar_arrive_59 hl (k := 4) rfl rfl (by decide) rfl (fun ls hl => ?_)
      refine lv_goto (tgt := 21) hx hb d_Ar_arrive_62 (by decide) ?_
      exact ih _ _ _ _ _ _ ls hw hI (lv_sub hl [1, 2, 3, 4, 0] rfl)
set_option maxRecDepth 100000 in
set_option maxHeartbeats 4000000 in
theorem c_Ar_arrive (l : Launch) (dC : Nat → ClassId) (dI : Nat → Nat → Nat) (cA : ClassId) (a : Nat → Nat) (u : tS) (x2 : Int32) (x3 : Int32) (post : tS → Prop) (sz : Nat) : Met l y_Ar_arrive ws_Ar_arrive ({ frames := 1, cells := 0, slots := 0, locals := 22 }) (va_Pc [.ref (a 5), .ref (a 1), .int x2, .int x3] (tP (dC, dI) twCl [(cA, .int)] (wdX a cA) u sz (w_Ar_arrive post x2 x3 u))) (va_Qv post (tB (dC, dI) twCl [(cA, .int)] (va_A (wdX a cA u) sz) (wdX a cA)) (va_A (wdX a cA u) sz)) 0 0 (va_A (wdX a cA u) sz) := by
  refine Met.ofW (cc := b_Ar_arrive) (maxL := 5) (ret := none) (by decide) rfl ?_
  intro p e s m args below meth c s₁ B hml hv
  obtain ⟨rfl, hsz, hP, hK, hD0, hN, hw⟩ := hv
  have hx := B.exec
  have hb := B.bytes
  have hr := B.returns
  have hts : ∀ w ∈ wsA, w.before _ s = true := fun w h => atoms_spec (ws := ws_Ar_arrive) B.pre w (List.mem_cons_of_mem _ h)
  have hown : s.vm.findClass R_Ar = some m.cls := findClass_of_methodNamed B.named
  have hlocks := B.notSynchronized
  subst hsz
  have hD := hD0.self (sz := s.heap.size)
  generalize hAe : va_A (wdX a cA u) s.heap.size = A at hD ⊢
  have hA : ∀ q : Nat, s.heap.size ≤ q → A q := fun q h => by rw [← hAe]; exact Or.inr h
  have hS : va_S A s.heap s.heap [] := va_S.rf
  have hI : tX (dC, dI) twCl [(cA, .int)] A s s.heap [] (wdX a cA u) := ⟨hK, hP, hD, hS⟩
  have hC : tC p s m meth c ([.ref (a 5), .ref (a 1), .int x2, .int x3] : List Value).toArray b_Ar_arrive 5 none wsA R_Ar A := ⟨hx, hb, hr, hml, hown, hts, hlocks, hA, hN⟩
  have hl := lv_entry ([.ref (a 5), .ref (a 1), .int x2, .int x3]) (n := 5) (Nat.le_of_ble_eq_true rfl)
  rw [lg_entry_eq]
  generalize (lg_sl ([.ref (a 5), .ref (a 1), .int x2, .int x3]) ++ List.replicate (5 - (lg_sl ([.ref (a 5), .ref (a 1), .int x2, .int x3])).length) Slot.unset).toArray = ls at hl ⊢
  have hl : lv_has ls 5 [(0, .ref (a 5)), (1, .ref (a 1)), (2, .int x2), (3, .int x3)] := hl
  have hw : (vp_in x2 12 ∧ ((x3 < (u.2 13 x2.toNatClampNeg) → (vp_in x2 12 ∧ (∃ k, w_Ar_arrive_21 post k x2 x3 0 (tA u 13 x2 x3)))) ∧ (¬ x3 < (u.2 13 x2.toNatClampNeg) → (post u)))) := hw
  refine lv_iload_n hx hb d_Ar_arrive_0 rfl (lv_at hl 3 rfl) ?_
  refine lv_aload_n hx hb d_Ar_arrive_1 rfl (lv_at hl 0 rfl) ?_
  refine va_get (D := (dC, dI)) (C := R_Ar) (T := F_Ar) (N := 2) hx hb hts in_Ar hown hI.1 hI.2.1 5 (wdX_o5 a cA _) rfl 0 (by decide) (hts _ wA_197) (fun _ h9 => h9) rfl d_Ar_arrive_2 ?_
  refine lv_iload_n hx hb d_Ar_arrive_5 rfl (lv_at hl 2 rfl) ?_
  obtain ⟨hi, hw⟩ := hw
  refine va_iald (D := (dC, dI)) hx hb hI.1 hI.2.1 23 0 (wdX_o23 a cA _) rfl hi d_Ar_arrive_6 ?_
  refine lv_icmp_lt (tgt := 11) hx hb d_Ar_arrive_7 (by decide) (fun hc => ?_) (fun hc => ?_)
  · have hw := hw.1 hc
    refine lv_aload_n hx hb d_Ar_arrive_11 rfl (lv_at hl 0 rfl) ?_
    refine va_get (D := (dC, dI)) (C := R_Ar) (T := F_Ar) (N := 2) hx hb hts in_Ar hown hI.1 hI.2.1 5 (wdX_o5 a cA _) rfl 0 (by decide) (hts _ wA_197) (fun _ h9 => h9) rfl d_Ar_arrive_12 ?_
    refine lv_iload_n hx hb d_Ar_arrive_15 rfl (lv_at hl 2 rfl) ?_
    refine lv_iload_n hx hb d_Ar_arrive_16 rfl (lv_at hl 3 rfl) ?_
    obtain ⟨hi, hw⟩ := hw
    refine tr_iast (w := wdX a cA) hx hb hI 23 0 13 (wdX_o23 a cA _) rfl (wdX_a13 a cA _ _ _) hi d_Ar_arrive_17 (fun H locs hI => ?_)
    refine lv_iconst (v := 0) hx hb d_Ar_arrive_18 (by decide) ?_
    refine lv_istore (lv' := [(4, .int 0), (0, .ref (a 5)), (1, .ref (a 1)), (2, .int x2), (3, .int x3)]) hx hb d_Ar_arrive_19 hl (by decide) rfl (fun ls hl => ?_)
    obtain ⟨k, hw⟩ := hw
    exact k_Ar_arrive_21 hC post k _ _ _ _ _ _ ls hw hI (lv_sub hl [1, 2, 3, 4, 0] rfl)
  · have hw := hw.2 hc
    exact tr_vret hx hb hr hlocks hI hw d_Ar_arrive_10
def w_Ar_addOneDeparture_2 (post : tS → Prop) : Nat → Int32 → tS → Prop
  | 0 => fun _ _ => False
  | n + 1 => fun x3 u => (((u.1 2) ≤ x3 → (post u)) ∧ (¬ (u.1 2) ≤ x3 → (w_Bo_rideAt (fun r18 u18 => (vp_in x3 280 ∧ (vp_in r18 40 ∧ (w_Ar_mayTake (fun r48 u48 => ((r48 = 0 → (w_Ar_addOneDeparture_2 post n (x3 + 1) u48)) ∧ (¬ r48 = 0 → (vp_in r18 40 ∧ (vp_in r18 40 ∧ (w_Ar_arrive (fun u79 => (w_Ar_addOneDeparture_2 post n (x3 + 1) u79)) (u48.2 2 r18.toNatClampNeg) ((u18.2 8 x3.toNatClampNeg) + (u48.2 4 r18.toNatClampNeg)) u48)))))) (u18.2 1 r18.toNatClampNeg) (u18.2 8 x3.toNatClampNeg) u18)))) x3 u)))
def w_Ar_addOneDeparture (post : tS → Prop) (u : tS) : Prop := (∃ k, w_Ar_addOneDeparture_2 post k 0 u)
set_option maxRecDepth 100000 in
set_option maxHeartbeats 4000000 in
theorem k_Ar_addOneDeparture_2 {p : Program} {l : Launch} {e : Env} {s : State} {m : MethodId} {args : Array Value} {below : List Frame} {meth : Method} {c : Code} {dC : Nat → ClassId} {dI : Nat → Nat → Nat} {cA : ClassId} {a : Nat → Nat} {A : Nat → Prop} (hC : tC p s m meth c args b_Ar_addOneDeparture 6 none wsA R_Ar A) (post : tS → Prop) : ∀ n : Nat, ∀ (x3 : Int32) (u : tS) (H : Heap) (locs : List Loc) (ls : Array Slot), w_Ar_addOneDeparture_2 post n x3 u → tX (dC, dI) twCl [(cA, .int)] A s H locs (wdX a cA u) → lv_has ls 6 [(0, .ref (a 5)), (1, .ref (a 1)), (2, .ref (a 5)), (3, .int x3)] → W p l e ({ frames := 2, cells := 0, slots := 0, locals := 46 }) s m args below meth c H locs 0 0 (MQ below (va_Qv post (tB (dC, dI) twCl [(cA, .int)] A (wdX a cA)) A) args s 0 0 A) (F0 m 2 ls []) := by
  obtain ⟨hx, hb, hr, hml, hown, hts, hlocks, hA, hN⟩ := id hC
  intro n
  induction n with
  | zero => intro x3 u H locs ls hw; exact False.elim hw
  | succ n ih =>
    intro x3 u H locs ls hw hI hl
    refine lv_iload_n hx hb d_Ar_addOneDeparture_2 rfl (lv_at hl 3 rfl) ?_
    refine lv_aload_n hx hb d_Ar_addOneDeparture_3 rfl (lv_at hl 1 rfl) ?_
    refine va_get (D := (dC, dI)) (C := R_Ne) (T := F_Ne) (N := 5) hx hb hts in_Ne hown hI.1 hI.2.1 1 (wdX_o1 a cA _) rfl 3 (by decide) (hts _ wA_174) (fun _ h9 => h9) rfl d_Ar_addOneDeparture_4 ?_
    refine va_get (D := (dC, dI)) (C := R_Bo) (T := F_Bo) (N := 3) hx hb hts in_Bo hown hI.1 hI.2.1 3 (wdX_o3 a cA _) rfl 0 (by decide) (hts _ wA_114) (fun _ h9 => h9) rfl d_Ar_addOneDeparture_7 ?_
    refine lv_icmp_ge (tgt := 88) hx hb d_Ar_addOneDeparture_10 (by decide) (fun hc => ?_) (fun hc => ?_)
    · have hw := hw.1 hc
      exact tr_vret hx hb hr hlocks hI hw d_Ar_addOneDeparture_88
    · have hw := hw.2 hc
      refine lv_aload_n hx hb d_Ar_addOneDeparture_13 rfl (lv_at hl 1 rfl) ?_
      refine va_get (D := (dC, dI)) (C := R_Ne) (T := F_Ne) (N := 5) hx hb hts in_Ne hown hI.1 hI.2.1 1 (wdX_o1 a cA _) rfl 3 (by decide) (hts _ wA_174) (fun _ h9 => h9) rfl d_Ar_addOneDeparture_14 ?_
      refine lv_iload_n hx hb d_Ar_addOneDeparture_17 rfl (lv_at hl 3 rfl) ?_
      refine tr_goi (w := wdX a cA) hI hA (va_runV (As := [.int x3]) (rest := []) ⟨hx, hb, hml, hown, hts⟩ (c_Bo_rideAt l dC dI cA a _ _ _ _) (cwV 1 hts (wsA_goodV wA_408 wA_409 wA_410 wA_33 wA_411) rfl rfl rfl (by decide +kernel) ⟨Nat.le_of_ble_eq_true rfl, Nat.le_of_ble_eq_true rfl⟩) (tr_preV (ci := 3) (q0 := 3) hI rfl (wdX_o3 a cA _) rfl hN hw) rfl rfl hl.1 rfl (lv_room (Nat.le_of_ble_eq_true rfl)) d_Ar_addOneDeparture_18 ⟨Nat.zero_le _, Nat.zero_le _⟩) (fun r18 u18 H locs hw hI => ?_)
      refine lv_istore (lv' := [(4, .int r18), (0, .ref (a 5)), (1, .ref (a 1)), (2, .ref (a 5)), (3, .int x3)]) hx hb d_Ar_addOneDeparture_21 hl (by decide) rfl (fun ls hl => ?_)
      refine lv_aload_n hx hb d_Ar_addOneDeparture_23 rfl (lv_at hl 2 rfl) ?_
      refine va_get (D := (dC, dI)) (C := R_Ne) (T := F_Ne) (N := 5) hx hb hts in_Ne hown hI.1 hI.2.1 1 (wdX_o1 a cA _) rfl 3 (by decide) (hts _ wA_174) (fun _ h9 => h9) rfl d_Ar_addOneDeparture_24 ?_
      refine va_get (D := (dC, dI)) (C := R_Bo) (T := F_Bo) (N := 3) hx hb hts in_Bo hown hI.1 hI.2.1 3 (wdX_o3 a cA _) rfl 2 (by decide) (hts _ wA_119) (fun _ h9 => h9) rfl d_Ar_addOneDeparture_27 ?_
      refine lv_iload_n hx hb d_Ar_addOneDeparture_30 rfl (lv_at hl 4 rfl) ?_
      obtain ⟨hi, hw⟩ := hw
      refine va_iald (D := (dC, dI)) hx hb hI.1 hI.2.1 18 0 (wdX_o18 a cA _) rfl hi d_Ar_addOneDeparture_31 ?_
      refine lv_istore (lv' := [(5, .int (u18.2 8 x3.toNatClampNeg)), (4, .int r18), (0, .ref (a 5)), (1, .ref (a 1)), (2, .ref (a 5)), (3, .int x3)]) hx hb d_Ar_addOneDeparture_32 hl (by decide) rfl (fun ls hl => ?_)
      refine lv_aload_n hx hb d_Ar_addOneDeparture_34 rfl (lv_at hl 4 rfl) ?_
      refine lv_aload_n hx hb d_Ar_addOneDeparture_35 rfl (lv_at hl 3 rfl) ?_
      refine lv_aload_n hx hb d_Ar_addOneDeparture_36 rfl (lv_at hl 3 rfl) ?_
      refine va_get (D := (dC, dI)) (C := R_Ne) (T := F_Ne) (N := 5) hx hb hts in_Ne hown hI.1 hI.2.1 1 (wdX_o1 a cA _) rfl 2 (by decide) (hts _ wA_170) (fun _ h9 => h9) rfl d_Ar_addOneDeparture_37 ?_
      refine va_get (D := (dC, dI)) (C := R_Ri) (T := F_Ri) (N := 7) hx hb hts in_Ri hown hI.1 hI.2.1 2 (wdX_o2 a cA _) rfl 1 (by decide) (hts _ wA_71) (fun _ h9 => h9) rfl d_Ar_addOneDeparture_40 ?_
      refine lv_iload hx hb d_Ar_addOneDeparture_43 (lv_at hl 1 rfl) ?_
      obtain ⟨hi, hw⟩ := hw
      refine va_iald (D := (dC, dI)) hx hb hI.1 hI.2.1 11 0 (wdX_o11 a cA _) rfl hi d_Ar_addOneDeparture_45 ?_
      refine lv_iload hx hb d_Ar_addOneDeparture_46 (lv_at hl 0 rfl) ?_
      refine tr_goi (w := wdX a cA) hI hA (va_runV (As := [.ref (a 1), .int (u18.2 1 r18.toNatClampNeg), .int (u18.2 8 x3.toNatClampNeg)]) (rest := []) ⟨hx, hb, hml, hown, hts⟩ (c_Ar_mayTake l dC dI cA a _ _ _ _ _) (cwV 3 hts (wsA_goodV wA_412 wA_413 wA_414 wA_36 wA_415) rfl rfl rfl (by decide +kernel) ⟨Nat.le_of_ble_eq_true rfl, Nat.le_of_ble_eq_true rfl⟩) (tr_preV (ci := 5) (q0 := 5) hI rfl (wdX_o5 a cA _) rfl hN hw) rfl rfl hl.1 rfl (lv_room (Nat.le_of_ble_eq_true rfl)) d_Ar_addOneDeparture_48 ⟨Nat.zero_le _, Nat.zero_le _⟩) (fun r48 u48 H locs hw hI => ?_)
      refine lv_if_eq (tgt := 82) hx hb d_Ar_addOneDeparture_51 (by decide) (fun hc => ?_) (fun hc => ?_)
      · have hw := hw.1 hc
        refine lv_iinc (v := (x3 + 1)) (lv' := [(3, .int (x3 + 1)), (5, .int (u18.2 8 x3.toNatClampNeg)), (4, .int r18), (0, .ref (a 5)), (1, .ref (a 1)), (2, .ref (a 5))]) hx hb d_Ar_addOneDeparture_82 hl (k := 5) rfl rfl (by decide) rfl (fun ls hl => ?_)
        refine lv_goto (tgt := 2) hx hb d_Ar_addOneDeparture_85 (by decide) ?_
        exact ih _ _ _ _ ls hw hI (lv_sub hl [3, 4, 5, 0] rfl)
      · have hw := hw.2 hc
        refine lv_aload_n hx hb d_Ar_addOneDeparture_54 rfl (lv_at hl 2 rfl) ?_
        refine lv_aload_n hx hb d_Ar_addOneDeparture_55 rfl (lv_at hl 3 rfl) ?_
        refine lv_aload_n hx hb d_Ar_addOneDeparture_56 rfl (lv_at hl 3 rfl) ?_
        refine va_get (D := (dC, dI)) (C := R_Ne) (T := F_Ne) (N := 5) hx hb hts in_Ne hown hI.1 hI.2.1 1 (wdX_o1 a cA _) rfl 2 (by decide) (hts _ wA_170) (fun _ h9 => h9) rfl d_Ar_addOneDeparture_57 ?_
        refine va_get (D := (dC, dI)) (C := R_Ri) (T := F_Ri) (N := 7) hx hb hts in_Ri hown hI.1 hI.2.1 2 (wdX_o2 a cA _) rfl 2 (by decide) (hts _ wA_75) (fun _ h9 => h9) rfl d_Ar_addOneDeparture_60 ?_
        refine lv_iload hx hb d_Ar_addOneDeparture_63 (lv_at hl 1 rfl) ?_
        obtain ⟨hi, hw⟩ := hw
        refine va_iald (D := (dC, dI)) hx hb hI.1 hI.2.1 12 0 (wdX_o12 a cA _) rfl hi d_Ar_addOneDeparture_65 ?_
        refine lv_iload hx hb d_Ar_addOneDeparture_66 (lv_at hl 0 rfl) ?_
        refine lv_aload_n hx hb d_Ar_addOneDeparture_68 rfl (lv_at hl 3 rfl) ?_
        refine va_get (D := (dC, dI)) (C := R_Ne) (T := F_Ne) (N := 5) hx hb hts in_Ne hown hI.1 hI.2.1 1 (wdX_o1 a cA _) rfl 2 (by decide) (hts _ wA_170) (fun _ h9 => h9) rfl d_Ar_addOneDeparture_69 ?_
        refine va_get (D := (dC, dI)) (C := R_Ri) (T := F_Ri) (N := 7) hx hb hts in_Ri hown hI.1 hI.2.1 2 (wdX_o2 a cA _) rfl 4 (by decide) (hts _ wA_82) (fun _ h9 => h9) rfl d_Ar_addOneDeparture_72 ?_
        refine lv_iload hx hb d_Ar_addOneDeparture_75 (lv_at hl 1 rfl) ?_
        obtain ⟨hi, hw⟩ := hw
        refine va_iald (D := (dC, dI)) hx hb hI.1 hI.2.1 14 0 (wdX_o14 a cA _) rfl hi d_Ar_addOneDeparture_77 ?_
        refine lv_iadd hx hb d_Ar_addOneDeparture_78 ?_
        refine tr_gov (w := wdX a cA) hI hA (va_runV (As := [.ref (a 1), .int (u48.2 2 r18.toNatClampNeg), .int ((u18.2 8 x3.toNatClampNeg) + (u48.2 4 r18.toNatClampNeg))]) (rest := []) ⟨hx, hb, hml, hown, hts⟩ (c_Ar_arrive l dC dI cA a _ _ _ _ _) (cwV 3 hts (wsA_goodV wA_416 wA_418 wA_2 wA_36 wA_419) rfl rfl rfl (by decide +kernel) ⟨Nat.le_of_ble_eq_true rfl, Nat.le_of_ble_eq_true rfl⟩) (tr_preV (ci := 5) (q0 := 5) hI rfl (wdX_o5 a cA _) rfl hN hw) rfl rfl hl.1 rfl (lv_room (Nat.le_of_ble_eq_true rfl)) d_Ar_addOneDeparture_79 ⟨Nat.zero_le _, Nat.zero_le _⟩) (fun u79 H locs hw hI => ?_)
        refine lv_iinc (v := (x3 + 1)) (lv' := [(3, .int (x3 + 1)), (5, .int (u18.2 8 x3.toNatClampNeg)), (4, .int r18), (0, .ref (a 5)), (1, .ref (a 1)), (2, .ref (a 5))]) hx hb d_Ar_addOneDeparture_82 hl (k := 5) rfl rfl (by decide) rfl (fun ls hl => ?_)
        refine lv_goto (tgt := 2) hx hb d_Ar_addOneDeparture_85 (by decide) ?_
        exact ih _ _ _ _ ls hw hI (lv_sub hl [3, 4, 5, 0] rfl)
set_option maxRecDepth 100000 in
set_option maxHeartbeats 4000000 in
theorem c_Ar_addOneDeparture (l : Launch) (dC : Nat → ClassId) (dI : Nat → Nat → Nat) (cA : ClassId) (a : Nat → Nat) (u : tS) (post : tS → Prop) (sz : Nat) : Met l y_Ar_addOneDeparture ws_Ar_addOneDeparture ({ frames := 2, cells := 0, slots := 0, locals := 46 }) (va_Pc [.ref (a 5), .ref (a 1), .ref (a 5)] (tP (dC, dI) twCl [(cA, .int)] (wdX a cA) u sz (w_Ar_addOneDeparture post u))) (va_Qv post (tB (dC, dI) twCl [(cA, .int)] (va_A (wdX a cA u) sz) (wdX a cA)) (va_A (wdX a cA u) sz)) 0 0 (va_A (wdX a cA u) sz) := by
  refine Met.ofW (cc := b_Ar_addOneDeparture) (maxL := 6) (ret := none) (by decide) rfl ?_
  intro p e s m args below meth c s₁ B hml hv
  obtain ⟨rfl, hsz, hP, hK, hD0, hN, hw⟩ := hv
  have hx := B.exec
  have hb := B.bytes
  have hr := B.returns
  have hts : ∀ w ∈ wsA, w.before _ s = true := fun w h => atoms_spec (ws := ws_Ar_addOneDeparture) B.pre w (List.mem_cons_of_mem _ h)
  have hown : s.vm.findClass R_Ar = some m.cls := findClass_of_methodNamed B.named
  have hlocks := B.notSynchronized
  subst hsz
  have hD := hD0.self (sz := s.heap.size)
  generalize hAe : va_A (wdX a cA u) s.heap.size = A at hD ⊢
  have hA : ∀ q : Nat, s.heap.size ≤ q → A q := fun q h => by rw [← hAe]; exact Or.inr h
  have hS : va_S A s.heap s.heap [] := va_S.rf
  have hI : tX (dC, dI) twCl [(cA, .int)] A s s.heap [] (wdX a cA u) := ⟨hK, hP, hD, hS⟩
  have hC : tC p s m meth c ([.ref (a 5), .ref (a 1), .ref (a 5)] : List Value).toArray b_Ar_addOneDeparture 6 none wsA R_Ar A := ⟨hx, hb, hr, hml, hown, hts, hlocks, hA, hN⟩
  have hl := lv_entry ([.ref (a 5), .ref (a 1), .ref (a 5)]) (n := 6) (Nat.le_of_ble_eq_true rfl)
  rw [lg_entry_eq]
  generalize (lg_sl ([.ref (a 5), .ref (a 1), .ref (a 5)]) ++ List.replicate (6 - (lg_sl ([.ref (a 5), .ref (a 1), .ref (a 5)])).length) Slot.unset).toArray = ls at hl ⊢
  have hl : lv_has ls 6 [(0, .ref (a 5)), (1, .ref (a 1)), (2, .ref (a 5))] := hl
  have hw : (∃ k, w_Ar_addOneDeparture_2 post k 0 u) := hw
  refine lv_iconst (v := 0) hx hb d_Ar_addOneDeparture_0 (by decide) ?_
  refine lv_istore_n (lv' := [(3, .int 0), (0, .ref (a 5)), (1, .ref (a 1)), (2, .ref (a 5))]) hx hb d_Ar_addOneDeparture_1 rfl hl (by decide) rfl (fun ls hl => ?_)
  obtain ⟨k, hw⟩ := hw
  exact k_Ar_addOneDeparture_2 hC post k _ _ _ _ ls hw hI (lv_sub hl [1, 2, 3, 0] rfl)
def w_Ar_find (post : tS → Prop) (x2 : Int32) (x3 : Int32) (u : tS) : Prop := (w_Ar_begin (fun u4 => (w_Ar_addOneDeparture (fun u10 => (post u10)) u4)) x2 x3 u)
set_option maxRecDepth 100000 in
set_option maxHeartbeats 4000000 in
theorem c_Ar_find (l : Launch) (dC : Nat → ClassId) (dI : Nat → Nat → Nat) (cA : ClassId) (a : Nat → Nat) (u : tS) (x2 : Int32) (x3 : Int32) (post : tS → Prop) (sz : Nat) : Met l y_Ar_find ws_Ar_find ({ frames := 3, cells := 0, slots := 0, locals := 71 }) (va_Pc [.ref (a 5), .ref (a 1), .int x2, .int x3] (tP (dC, dI) twCl [(cA, .int)] (wdX a cA) u sz (w_Ar_find post x2 x3 u))) (va_Qv post (tB (dC, dI) twCl [(cA, .int)] (va_A (wdX a cA u) sz) (wdX a cA)) (va_A (wdX a cA u) sz)) 0 0 (va_A (wdX a cA u) sz) := by
  refine Met.ofW (cc := b_Ar_find) (maxL := 4) (ret := none) (by decide) rfl ?_
  intro p e s m args below meth c s₁ B hml hv
  obtain ⟨rfl, hsz, hP, hK, hD0, hN, hw⟩ := hv
  have hx := B.exec
  have hb := B.bytes
  have hr := B.returns
  have hts : ∀ w ∈ wsA, w.before _ s = true := fun w h => atoms_spec (ws := ws_Ar_find) B.pre w (List.mem_cons_of_mem _ h)
  have hown : s.vm.findClass R_Ar = some m.cls := findClass_of_methodNamed B.named
  have hlocks := B.notSynchronized
  subst hsz
  have hD := hD0.self (sz := s.heap.size)
  generalize hAe : va_A (wdX a cA u) s.heap.size = A at hD ⊢
  have hA : ∀ q : Nat, s.heap.size ≤ q → A q := fun q h => by rw [← hAe]; exact Or.inr h
  have hS : va_S A s.heap s.heap [] := va_S.rf
  have hI : tX (dC, dI) twCl [(cA, .int)] A s s.heap [] (wdX a cA u) := ⟨hK, hP, hD, hS⟩
  have hC : tC p s m meth c ([.ref (a 5), .ref (a 1), .int x2, .int x3] : List Value).toArray b_Ar_find 4 none wsA R_Ar A := ⟨hx, hb, hr, hml, hown, hts, hlocks, hA, hN⟩
  have hl := lv_entry ([.ref (a 5), .ref (a 1), .int x2, .int x3]) (n := 4) (Nat.le_of_ble_eq_true rfl)
  rw [lg_entry_eq]
  generalize (lg_sl ([.ref (a 5), .ref (a 1), .int x2, .int x3]) ++ List.replicate (4 - (lg_sl ([.ref (a 5), .ref (a 1), .int x2, .int x3])).length) Slot.unset).toArray = ls at hl ⊢
  have hl : lv_has ls 4 [(0, .ref (a 5)), (1, .ref (a 1)), (2, .int x2), (3, .int x3)] := hl
  have hw : (w_Ar_begin (fun u4 => (w_Ar_addOneDeparture (fun u10 => (post u10)) u4)) x2 x3 u) := hw
  refine lv_aload_n hx hb d_Ar_find_0 rfl (lv_at hl 0 rfl) ?_
  refine lv_aload_n hx hb d_Ar_find_1 rfl (lv_at hl 1 rfl) ?_
  refine lv_iload_n hx hb d_Ar_find_2 rfl (lv_at hl 2 rfl) ?_
  refine lv_iload_n hx hb d_Ar_find_3 rfl (lv_at hl 3 rfl) ?_
  refine tr_gov (w := wdX a cA) hI hA (va_runV (As := [.ref (a 1), .int x2, .int x3]) (rest := []) ⟨hx, hb, hml, hown, hts⟩ (c_Ar_begin l dC dI cA a _ _ _ _ _) (cwV 3 hts (wsA_goodV wA_397 wA_398 wA_399 wA_36 wA_400) rfl rfl rfl (by decide +kernel) ⟨Nat.le_of_ble_eq_true rfl, Nat.le_of_ble_eq_true rfl⟩) (tr_preV (ci := 5) (q0 := 5) hI rfl (wdX_o5 a cA _) rfl hN hw) rfl rfl hl.1 rfl (lv_room (Nat.le_of_ble_eq_true rfl)) d_Ar_find_4 ⟨Nat.zero_le _, Nat.zero_le _⟩) (fun u4 H locs hw hI => ?_)
  refine lv_aload_n hx hb d_Ar_find_7 rfl (lv_at hl 0 rfl) ?_
  refine lv_aload_n hx hb d_Ar_find_8 rfl (lv_at hl 1 rfl) ?_
  refine lv_aload_n hx hb d_Ar_find_9 rfl (lv_at hl 0 rfl) ?_
  refine tr_gov (w := wdX a cA) hI hA (va_runV (As := [.ref (a 1), .ref (a 5)]) (rest := []) ⟨hx, hb, hml, hown, hts⟩ (c_Ar_addOneDeparture l dC dI cA a _ _ _) (cwV 2 hts (wsA_goodV wA_404 wA_405 wA_406 wA_36 wA_407) rfl rfl rfl (by decide +kernel) ⟨Nat.le_of_ble_eq_true rfl, Nat.le_of_ble_eq_true rfl⟩) (tr_preV (ci := 5) (q0 := 5) hI rfl (wdX_o5 a cA _) rfl hN hw) rfl rfl hl.1 rfl (lv_room (Nat.le_of_ble_eq_true rfl)) d_Ar_find_10 ⟨Nat.zero_le _, Nat.zero_le _⟩) (fun u10 H locs hw hI => ?_)
  exact tr_vret hx hb hr hlocks hI hw d_Ar_find_13
def w_Ar_first (post : Int32 → tS → Prop) (x1 : Int32) (u : tS) : Prop := (vp_in x1 12 ∧ (vp_in x1 12 ∧ (post (if (u.2 14 x1.toNatClampNeg) < (u.2 13 x1.toNatClampNeg) then (u.2 14 x1.toNatClampNeg) else (u.2 13 x1.toNatClampNeg)) u)))
set_option maxRecDepth 100000 in
set_option maxHeartbeats 4000000 in
theorem c_Ar_first (l : Launch) (dC : Nat → ClassId) (dI : Nat → Nat → Nat) (cA : ClassId) (a : Nat → Nat) (u : tS) (x1 : Int32) (post : Int32 → tS → Prop) (sz : Nat) : Met l y_Ar_first ws_Ar_first ({ frames := 1, cells := 0, slots := 0, locals := 13 }) (va_Pc [.ref (a 5), .int x1] (tP (dC, dI) twCl [(cA, .int)] (wdX a cA) u sz (w_Ar_first post x1 u))) (va_Qi post (tB (dC, dI) twCl [(cA, .int)] (va_A (wdX a cA u) sz) (wdX a cA)) (va_A (wdX a cA u) sz)) 0 0 (va_A (wdX a cA u) sz) := by
  refine Met.ofW (cc := b_Ar_first) (maxL := 2) (ret := (some .int)) (by decide) rfl ?_
  intro p e s m args below meth c s₁ B hml hv
  obtain ⟨rfl, hsz, hP, hK, hD0, hN, hw⟩ := hv
  have hx := B.exec
  have hb := B.bytes
  have hr := B.returns
  have hts : ∀ w ∈ wsA, w.before _ s = true := fun w h => atoms_spec (ws := ws_Ar_first) B.pre w (List.mem_cons_of_mem _ h)
  have hown : s.vm.findClass R_Ar = some m.cls := findClass_of_methodNamed B.named
  have hlocks := B.notSynchronized
  subst hsz
  have hD := hD0.self (sz := s.heap.size)
  generalize hAe : va_A (wdX a cA u) s.heap.size = A at hD ⊢
  have hA : ∀ q : Nat, s.heap.size ≤ q → A q := fun q h => by rw [← hAe]; exact Or.inr h
  have hS : va_S A s.heap s.heap [] := va_S.rf
  have hI : tX (dC, dI) twCl [(cA, .int)] A s s.heap [] (wdX a cA u) := ⟨hK, hP, hD, hS⟩
  have hC : tC p s m meth c ([.ref (a 5), .int x1] : List Value).toArray b_Ar_first 2 (some .int) wsA R_Ar A := ⟨hx, hb, hr, hml, hown, hts, hlocks, hA, hN⟩
  have hl := lv_entry ([.ref (a 5), .int x1]) (n := 2) (Nat.le_of_ble_eq_true rfl)
  rw [lg_entry_eq]
  generalize (lg_sl ([.ref (a 5), .int x1]) ++ List.replicate (2 - (lg_sl ([.ref (a 5), .int x1])).length) Slot.unset).toArray = ls at hl ⊢
  have hl : lv_has ls 2 [(0, .ref (a 5)), (1, .int x1)] := hl
  have hw : (vp_in x1 12 ∧ (vp_in x1 12 ∧ (post (if (u.2 14 x1.toNatClampNeg) < (u.2 13 x1.toNatClampNeg) then (u.2 14 x1.toNatClampNeg) else (u.2 13 x1.toNatClampNeg)) u))) := hw
  refine lv_aload_n hx hb d_Ar_first_0 rfl (lv_at hl 0 rfl) ?_
  refine va_get (D := (dC, dI)) (C := R_Ar) (T := F_Ar) (N := 2) hx hb hts in_Ar hown hI.1 hI.2.1 5 (wdX_o5 a cA _) rfl 0 (by decide) (hts _ wA_197) (fun _ h9 => h9) rfl d_Ar_first_1 ?_
  refine lv_iload_n hx hb d_Ar_first_4 rfl (lv_at hl 1 rfl) ?_
  obtain ⟨hi, hw⟩ := hw
  refine va_iald (D := (dC, dI)) hx hb hI.1 hI.2.1 23 0 (wdX_o23 a cA _) rfl hi d_Ar_first_5 ?_
  refine lv_aload_n hx hb d_Ar_first_6 rfl (lv_at hl 0 rfl) ?_
  refine va_get (D := (dC, dI)) (C := R_Ar) (T := F_Ar) (N := 2) hx hb hts in_Ar hown hI.1 hI.2.1 5 (wdX_o5 a cA _) rfl 1 (by decide) (hts _ wA_198) (fun _ h9 => h9) rfl d_Ar_first_7 ?_
  refine lv_iload_n hx hb d_Ar_first_10 rfl (lv_at hl 1 rfl) ?_
  obtain ⟨hi, hw⟩ := hw
  refine va_iald (D := (dC, dI)) hx hb hI.1 hI.2.1 24 0 (wdX_o24 a cA _) rfl hi d_Ar_first_11 ?_
  refine va_mmin hx hb (by rw [hml]; exact hl.1.symm) hown (hts _ wA_403) (hts _ wA_369) (hts _ wA_41) (hts _ wA_370) (Nat.le_of_ble_eq_true rfl) (Nat.le_of_ble_eq_true rfl) (Nat.zero_le _) (Nat.zero_le _) d_Ar_first_12 ?_
  exact tr_iret hx hb hr hlocks hI hw d_Ar_first_15
def w_T_orNone (post : Int32 → tS → Prop) (x0 : Int32) (u : tS) : Prop := ((x0 < 1000000 → (post x0 u)) ∧ (¬ x0 < 1000000 → (post (-1) u)))
set_option maxRecDepth 100000 in
set_option maxHeartbeats 4000000 in
theorem c_T_orNone (l : Launch) (dC : Nat → ClassId) (dI : Nat → Nat → Nat) (cA : ClassId) (a : Nat → Nat) (u : tS) (x0 : Int32) (post : Int32 → tS → Prop) (sz : Nat) : Met l y_T_orNone ws_T_orNone ({ frames := 0, cells := 0, slots := 0, locals := 0 }) (va_Pc [.int x0] (tP (dC, dI) twCl [(cA, .int)] (wdX a cA) u sz (w_T_orNone post x0 u))) (va_Qi post (tB (dC, dI) twCl [(cA, .int)] (va_A (wdX a cA u) sz) (wdX a cA)) (va_A (wdX a cA u) sz)) 0 0 (va_A (wdX a cA u) sz) := by
  refine Met.ofW (cc := b_T_orNone) (maxL := 1) (ret := (some .int)) (by decide) rfl ?_
  intro p e s m args below meth c s₁ B hml hv
  obtain ⟨rfl, hsz, hP, hK, hD0, hN, hw⟩ := hv
  have hx := B.exec
  have hb := B.bytes
  have hr := B.returns
  have hts : ∀ w ∈ wsA, w.before _ s = true := fun w h => atoms_spec (ws := ws_T_orNone) B.pre w (List.mem_cons_of_mem _ h)
  have hown : s.vm.findClass R_T = some m.cls := findClass_of_methodNamed B.named
  have hlocks := B.notSynchronized
  subst hsz
  have hD := hD0.self (sz := s.heap.size)
  generalize hAe : va_A (wdX a cA u) s.heap.size = A at hD ⊢
  have hA : ∀ q : Nat, s.heap.size ≤ q → A q := fun q h => by rw [← hAe]; exact Or.inr h
  have hS : va_S A s.heap s.heap [] := va_S.rf
  have hI : tX (dC, dI) twCl [(cA, .int)] A s s.heap [] (wdX a cA u) := ⟨hK, hP, hD, hS⟩
  have hC : tC p s m meth c ([.int x0] : List Value).toArray b_T_orNone 1 (some .int) wsA R_T A := ⟨hx, hb, hr, hml, hown, hts, hlocks, hA, hN⟩
  have hl := lv_entry ([.int x0]) (n := 1) (Nat.le_of_ble_eq_true rfl)
  rw [lg_entry_eq]
  generalize (lg_sl ([.int x0]) ++ List.replicate (1 - (lg_sl ([.int x0])).length) Slot.unset).toArray = ls at hl ⊢
  have hl : lv_has ls 1 [(0, .int x0)] := hl
  have hw : ((x0 < 1000000 → (post x0 u)) ∧ (¬ x0 < 1000000 → (post (-1) u))) := hw
  refine lv_iload_n hx hb d_T_orNone_0 rfl (lv_at hl 0 rfl) ?_
  refine lv_ldc (v := 1000000) hx hb hown (hts _ wA_428) d_T_orNone_1 ?_
  refine lv_icmp_lt (tgt := 10) hx hb d_T_orNone_3 (by decide) (fun hc => ?_) (fun hc => ?_)
  · have hw := hw.1 hc
    refine lv_iload_n hx hb d_T_orNone_10 rfl (lv_at hl 0 rfl) ?_
    exact tr_iret hx hb hr hlocks hI hw d_T_orNone_11
  · have hw := hw.2 hc
    refine lv_iconst (v := (-1)) hx hb d_T_orNone_6 (by decide) ?_
    refine lv_goto (tgt := 11) hx hb d_T_orNone_7 (by decide) ?_
    exact tr_iret hx hb hr hlocks hI hw d_T_orNone_11
end
section
def w_T_earliest (post : Int32 → tS → Prop) (x1 : Int32) (x2 : Int32) (x3 : Int32) (u : tS) : Prop := (w_Ne_hasStops (fun r6 u6 => ((r6 = 0 → (post (-2) u6)) ∧ (¬ r6 = 0 → (w_T_isTime (fun r13 u13 => ((r13 = 0 → (post (-2) u13)) ∧ (¬ r13 = 0 → (w_Ar_find (fun u32 => (w_Ar_first (fun r40 u40 => (w_T_orNone (fun r43 u43 => (post r43 u43)) r40 u40)) x2 u32)) x1 x3 u13)))) x3 u6)))) x1 x2 u)
set_option maxRecDepth 100000 in
set_option maxHeartbeats 4000000 in
theorem c_T_earliest (l : Launch) (dC : Nat → ClassId) (dI : Nat → Nat → Nat) (cA : ClassId) (a : Nat → Nat) (u : tS) (x1 : Int32) (x2 : Int32) (x3 : Int32) (post : Int32 → tS → Prop) (sz : Nat) : Met l y_T_earliest ws_T_earliest ({ frames := 4, cells := 0, slots := 0, locals := 94 }) (va_Pc [.ref (a 0), .int x1, .int x2, .int x3] (tP (dC, dI) twCl [(cA, .int)] (wdX a cA) u sz (w_T_earliest post x1 x2 x3 u))) (va_Qi post (tB (dC, dI) twCl [(cA, .int)] (va_A (wdX a cA u) sz) (wdX a cA)) (va_A (wdX a cA u) sz)) 0 0 (va_A (wdX a cA u) sz) := by
  refine Met.ofW (cc := b_T_earliest) (maxL := 4) (ret := (some .int)) (by decide) rfl ?_
  intro p e s m args below meth c s₁ B hml hv
  obtain ⟨rfl, hsz, hP, hK, hD0, hN, hw⟩ := hv
  have hx := B.exec
  have hb := B.bytes
  have hr := B.returns
  have hts : ∀ w ∈ wsA, w.before _ s = true := fun w h => atoms_spec (ws := ws_T_earliest) B.pre w (List.mem_cons_of_mem _ h)
  have hown : s.vm.findClass R_T = some m.cls := findClass_of_methodNamed B.named
  have hlocks := B.notSynchronized
  subst hsz
  have hD := hD0.self (sz := s.heap.size)
  generalize hAe : va_A (wdX a cA u) s.heap.size = A at hD ⊢
  have hA : ∀ q : Nat, s.heap.size ≤ q → A q := fun q h => by rw [← hAe]; exact Or.inr h
  have hS : va_S A s.heap s.heap [] := va_S.rf
  have hI : tX (dC, dI) twCl [(cA, .int)] A s s.heap [] (wdX a cA u) := ⟨hK, hP, hD, hS⟩
  have hC : tC p s m meth c ([.ref (a 0), .int x1, .int x2, .int x3] : List Value).toArray b_T_earliest 4 (some .int) wsA R_T A := ⟨hx, hb, hr, hml, hown, hts, hlocks, hA, hN⟩
  have hl := lv_entry ([.ref (a 0), .int x1, .int x2, .int x3]) (n := 4) (Nat.le_of_ble_eq_true rfl)
  rw [lg_entry_eq]
  generalize (lg_sl ([.ref (a 0), .int x1, .int x2, .int x3]) ++ List.replicate (4 - (lg_sl ([.ref (a 0), .int x1, .int x2, .int x3])).length) Slot.unset).toArray = ls at hl ⊢
  have hl : lv_has ls 4 [(0, .ref (a 0)), (1, .int x1), (2, .int x2), (3, .int x3)] := hl
  have hw : (w_Ne_hasStops (fun r6 u6 => ((r6 = 0 → (post (-2) u6)) ∧ (¬ r6 = 0 → (w_T_isTime (fun r13 u13 => ((r13 = 0 → (post (-2) u13)) ∧ (¬ r13 = 0 → (w_Ar_find (fun u32 => (w_Ar_first (fun r40 u40 => (w_T_orNone (fun r43 u43 => (post r43 u43)) r40 u40)) x2 u32)) x1 x3 u13)))) x3 u6)))) x1 x2 u) := hw
  refine lv_aload_n hx hb d_T_earliest_0 rfl (lv_at hl 0 rfl) ?_
  refine va_get (D := (dC, dI)) (C := R_T) (T := F_T) (N := 6) hx hb hts in_T hown hI.1 hI.2.1 0 (wdX_o0 a cA _) rfl 0 (by decide) (hts _ wA_264) (fun _ h9 => h9) rfl d_T_earliest_1 ?_
  refine lv_iload_n hx hb d_T_earliest_4 rfl (lv_at hl 1 rfl) ?_
  refine lv_iload_n hx hb d_T_earliest_5 rfl (lv_at hl 2 rfl) ?_
  refine tr_goi (w := wdX a cA) hI hA (va_runV (As := [.int x1, .int x2]) (rest := []) ⟨hx, hb, hml, hown, hts⟩ (c_Ne_hasStops l dC dI cA a _ _ _ _ _) (cwV 2 hts (wsA_goodV wA_315 wA_316 wA_317 wA_31 wA_318) rfl rfl rfl (by decide +kernel) ⟨Nat.le_of_ble_eq_true rfl, Nat.le_of_ble_eq_true rfl⟩) (tr_preV (ci := 1) (q0 := 1) hI rfl (wdX_o1 a cA _) rfl hN hw) rfl rfl hl.1 rfl (lv_room (Nat.le_of_ble_eq_true rfl)) d_T_earliest_6 ⟨Nat.zero_le _, Nat.zero_le _⟩) (fun r6 u6 H locs hw hI => ?_)
  refine lv_if_eq (tgt := 19) hx hb d_T_earliest_9 (by decide) (fun hc => ?_) (fun hc => ?_)
  · have hw := hw.1 hc
    refine lv_bipush (v := (-2)) hx hb d_T_earliest_19 (by decide) ?_
    exact tr_iret hx hb hr hlocks hI hw d_T_earliest_21
  · have hw := hw.2 hc
    refine lv_iload_n hx hb d_T_earliest_12 rfl (lv_at hl 3 rfl) ?_
    refine tr_goi (w := wdX a cA) hI hA (va_runS (As := [.int x3]) (rest := []) ⟨hx, hb, hml, hown, hts⟩ (c_T_isTime l dC dI cA a _ _ _ _) ⟨callB_of 1 hts (wsA_good wA_392) rfl rfl rfl (hts _ wA_30) (hts _ wA_390) (by decide +kernel) ⟨Nat.le_of_ble_eq_true rfl, Nat.le_of_ble_eq_true rfl⟩, hts _ wA_391⟩ (tr_preS hI hN hw) rfl rfl hl.1 rfl (lv_room (Nat.le_of_ble_eq_true rfl)) d_T_earliest_13 ⟨Nat.zero_le _, Nat.zero_le _⟩) (fun r13 u13 H locs hw hI => ?_)
    refine lv_if_ne (tgt := 22) hx hb d_T_earliest_16 (by decide) (fun hc => ?_) (fun hc => ?_)
    · have hw := hw.2 hc
      refine lv_aload_n hx hb d_T_earliest_22 rfl (lv_at hl 0 rfl) ?_
      refine va_get (D := (dC, dI)) (C := R_T) (T := F_T) (N := 6) hx hb hts in_T hown hI.1 hI.2.1 0 (wdX_o0 a cA _) rfl 1 (by decide) (hts _ wA_265) (fun _ h9 => h9) rfl d_T_earliest_23 ?_
      refine lv_aload_n hx hb d_T_earliest_26 rfl (lv_at hl 0 rfl) ?_
      refine va_get (D := (dC, dI)) (C := R_T) (T := F_T) (N := 6) hx hb hts in_T hown hI.1 hI.2.1 0 (wdX_o0 a cA _) rfl 0 (by decide) (hts _ wA_264) (fun _ h9 => h9) rfl d_T_earliest_27 ?_
      refine lv_iload_n hx hb d_T_earliest_30 rfl (lv_at hl 1 rfl) ?_
      refine lv_iload_n hx hb d_T_earliest_31 rfl (lv_at hl 3 rfl) ?_
      refine tr_gov (w := wdX a cA) hI hA (va_runV (As := [.ref (a 1), .int x1, .int x3]) (rest := []) ⟨hx, hb, hml, hown, hts⟩ (c_Ar_find l dC dI cA a _ _ _ _ _) (cwV 3 hts (wsA_goodV wA_393 wA_394 wA_395 wA_36 wA_396) rfl rfl rfl (by decide +kernel) ⟨Nat.le_of_ble_eq_true rfl, Nat.le_of_ble_eq_true rfl⟩) (tr_preV (ci := 5) (q0 := 5) hI rfl (wdX_o5 a cA _) rfl hN hw) rfl rfl hl.1 rfl (lv_room (Nat.le_of_ble_eq_true rfl)) d_T_earliest_32 ⟨Nat.zero_le _, Nat.zero_le _⟩) (fun u32 H locs hw hI => ?_)
      refine lv_aload_n hx hb d_T_earliest_35 rfl (lv_at hl 0 rfl) ?_
      refine va_get (D := (dC, dI)) (C := R_T) (T := F_T) (N := 6) hx hb hts in_T hown hI.1 hI.2.1 0 (wdX_o0 a cA _) rfl 1 (by decide) (hts _ wA_265) (fun _ h9 => h9) rfl d_T_earliest_36 ?_
      refine lv_iload_n hx hb d_T_earliest_39 rfl (lv_at hl 2 rfl) ?_
      refine tr_goi (w := wdX a cA) hI hA (va_runV (As := [.int x2]) (rest := []) ⟨hx, hb, hml, hown, hts⟩ (c_Ar_first l dC dI cA a _ _ _ _) (cwV 1 hts (wsA_goodV wA_421 wA_422 wA_423 wA_36 wA_424) rfl rfl rfl (by decide +kernel) ⟨Nat.le_of_ble_eq_true rfl, Nat.le_of_ble_eq_true rfl⟩) (tr_preV (ci := 5) (q0 := 5) hI rfl (wdX_o5 a cA _) rfl hN hw) rfl rfl hl.1 rfl (lv_room (Nat.le_of_ble_eq_true rfl)) d_T_earliest_40 ⟨Nat.zero_le _, Nat.zero_le _⟩) (fun r40 u40 H locs hw hI => ?_)
      refine tr_goi (w := wdX a cA) hI hA (va_runS (As := [.int r40]) (rest := []) ⟨hx, hb, hml, hown, hts⟩ (c_T_orNone l dC dI cA a _ _ _ _) ⟨callB_of 1 hts (wsA_good wA_427) rfl rfl rfl (hts _ wA_30) (hts _ wA_425) (by decide +kernel) ⟨Nat.le_of_ble_eq_true rfl, Nat.le_of_ble_eq_true rfl⟩, hts _ wA_426⟩ (tr_preS hI hN hw) rfl rfl hl.1 rfl (lv_room (Nat.le_of_ble_eq_true rfl)) d_T_earliest_43 ⟨Nat.zero_le _, Nat.zero_le _⟩) (fun r43 u43 H locs hw hI => ?_)
      exact tr_iret hx hb hr hlocks hI hw d_T_earliest_46
    · have hw := hw.1 hc
      refine lv_bipush (v := (-2)) hx hb d_T_earliest_19 (by decide) ?_
      exact tr_iret hx hb hr hlocks hI hw d_T_earliest_21
def w_T_isBy (post : Int32 → tS → Prop) (x0 : Int32) (u : tS) : Prop := (w_T_within (fun r5 u5 => (narrow .boolean (.int r5) = .int r5 ∧ post r5 u5)) x0 0 20000 u)
set_option maxRecDepth 100000 in
set_option maxHeartbeats 4000000 in
theorem c_T_isBy (l : Launch) (dC : Nat → ClassId) (dI : Nat → Nat → Nat) (cA : ClassId) (a : Nat → Nat) (u : tS) (x0 : Int32) (post : Int32 → tS → Prop) (sz : Nat) : Met l y_T_isBy ws_T_isBy ({ frames := 1, cells := 0, slots := 0, locals := 22 }) (va_Pc [.int x0] (tP (dC, dI) twCl [(cA, .int)] (wdX a cA) u sz (w_T_isBy post x0 u))) (va_Qi post (tB (dC, dI) twCl [(cA, .int)] (va_A (wdX a cA u) sz) (wdX a cA)) (va_A (wdX a cA u) sz)) 0 0 (va_A (wdX a cA u) sz) := by
  refine Met.ofW (cc := b_T_isBy) (maxL := 1) (ret := (some .boolean)) (by decide) rfl ?_
  intro p e s m args below meth c s₁ B hml hv
  obtain ⟨rfl, hsz, hP, hK, hD0, hN, hw⟩ := hv
  have hx := B.exec
  have hb := B.bytes
  have hr := B.returns
  have hts : ∀ w ∈ wsA, w.before _ s = true := fun w h => atoms_spec (ws := ws_T_isBy) B.pre w (List.mem_cons_of_mem _ h)
  have hown : s.vm.findClass R_T = some m.cls := findClass_of_methodNamed B.named
  have hlocks := B.notSynchronized
  subst hsz
  have hD := hD0.self (sz := s.heap.size)
  generalize hAe : va_A (wdX a cA u) s.heap.size = A at hD ⊢
  have hA : ∀ q : Nat, s.heap.size ≤ q → A q := fun q h => by rw [← hAe]; exact Or.inr h
  have hS : va_S A s.heap s.heap [] := va_S.rf
  have hI : tX (dC, dI) twCl [(cA, .int)] A s s.heap [] (wdX a cA u) := ⟨hK, hP, hD, hS⟩
  have hC : tC p s m meth c ([.int x0] : List Value).toArray b_T_isBy 1 (some .boolean) wsA R_T A := ⟨hx, hb, hr, hml, hown, hts, hlocks, hA, hN⟩
  have hl := lv_entry ([.int x0]) (n := 1) (Nat.le_of_ble_eq_true rfl)
  rw [lg_entry_eq]
  generalize (lg_sl ([.int x0]) ++ List.replicate (1 - (lg_sl ([.int x0])).length) Slot.unset).toArray = ls at hl ⊢
  have hl : lv_has ls 1 [(0, .int x0)] := hl
  have hw : (w_T_within (fun r5 u5 => (narrow .boolean (.int r5) = .int r5 ∧ post r5 u5)) x0 0 20000 u) := hw
  refine lv_iload_n hx hb d_T_isBy_0 rfl (lv_at hl 0 rfl) ?_
  refine lv_iconst (v := 0) hx hb d_T_isBy_1 (by decide) ?_
  refine lv_sipush (v := 20000) hx hb d_T_isBy_2 (by decide) ?_
  refine tr_goi (w := wdX a cA) hI hA (va_runS (As := [.int x0, .int 0, .int 20000]) (rest := []) ⟨hx, hb, hml, hown, hts⟩ (c_T_within l dC dI cA a _ _ _ _ _ _) ⟨callB_of 3 hts (wsA_good wA_301) rfl rfl rfl (hts _ wA_30) (hts _ wA_299) (by decide +kernel) ⟨Nat.le_of_ble_eq_true rfl, Nat.le_of_ble_eq_true rfl⟩, hts _ wA_300⟩ (tr_preS hI hN hw) rfl rfl hl.1 rfl (lv_room (Nat.le_of_ble_eq_true rfl)) d_T_isBy_5 ⟨Nat.zero_le _, Nat.zero_le _⟩) (fun r5 u5 H locs hw hI => ?_)
  obtain ⟨hn, hw⟩ := hw
  exact tr_zret hx hb hr hlocks hI hn hw d_T_isBy_8
def w_Ne_gap (post : Int32 → tS → Prop) (x1 : Int32) (x2 : Int32) (u : tS) : Prop := (w_Wa_atLeastOne (fun r6 u6 => ((x1 = x2 → (vp_in x1 12 ∧ (post (if r6 < (u6.2 0 x1.toNatClampNeg) then r6 else (u6.2 0 x1.toNatClampNeg)) u6))) ∧ (¬ x1 = x2 → (post r6 u6)))) x1 x2 u)
set_option maxRecDepth 100000 in
set_option maxHeartbeats 4000000 in
theorem c_Ne_gap (l : Launch) (dC : Nat → ClassId) (dI : Nat → Nat → Nat) (cA : ClassId) (a : Nat → Nat) (u : tS) (x1 : Int32) (x2 : Int32) (post : Int32 → tS → Prop) (sz : Nat) : Met l y_Ne_gap ws_Ne_gap ({ frames := 1, cells := 0, slots := 0, locals := 22 }) (va_Pc [.ref (a 1), .int x1, .int x2] (tP (dC, dI) twCl [(cA, .int)] (wdX a cA) u sz (w_Ne_gap post x1 x2 u))) (va_Qi post (tB (dC, dI) twCl [(cA, .int)] (va_A (wdX a cA u) sz) (wdX a cA)) (va_A (wdX a cA u) sz)) 0 0 (va_A (wdX a cA u) sz) := by
  refine Met.ofW (cc := b_Ne_gap) (maxL := 4) (ret := (some .int)) (by decide) rfl ?_
  intro p e s m args below meth c s₁ B hml hv
  obtain ⟨rfl, hsz, hP, hK, hD0, hN, hw⟩ := hv
  have hx := B.exec
  have hb := B.bytes
  have hr := B.returns
  have hts : ∀ w ∈ wsA, w.before _ s = true := fun w h => atoms_spec (ws := ws_Ne_gap) B.pre w (List.mem_cons_of_mem _ h)
  have hown : s.vm.findClass R_Ne = some m.cls := findClass_of_methodNamed B.named
  have hlocks := B.notSynchronized
  subst hsz
  have hD := hD0.self (sz := s.heap.size)
  generalize hAe : va_A (wdX a cA u) s.heap.size = A at hD ⊢
  have hA : ∀ q : Nat, s.heap.size ≤ q → A q := fun q h => by rw [← hAe]; exact Or.inr h
  have hS : va_S A s.heap s.heap [] := va_S.rf
  have hI : tX (dC, dI) twCl [(cA, .int)] A s s.heap [] (wdX a cA u) := ⟨hK, hP, hD, hS⟩
  have hC : tC p s m meth c ([.ref (a 1), .int x1, .int x2] : List Value).toArray b_Ne_gap 4 (some .int) wsA R_Ne A := ⟨hx, hb, hr, hml, hown, hts, hlocks, hA, hN⟩
  have hl := lv_entry ([.ref (a 1), .int x1, .int x2]) (n := 4) (Nat.le_of_ble_eq_true rfl)
  rw [lg_entry_eq]
  generalize (lg_sl ([.ref (a 1), .int x1, .int x2]) ++ List.replicate (4 - (lg_sl ([.ref (a 1), .int x1, .int x2])).length) Slot.unset).toArray = ls at hl ⊢
  have hl : lv_has ls 4 [(0, .ref (a 1)), (1, .int x1), (2, .int x2)] := hl
  have hw : (w_Wa_atLeastOne (fun r6 u6 => ((x1 = x2 → (vp_in x1 12 ∧ (post (if r6 < (u6.2 0 x1.toNatClampNeg) then r6 else (u6.2 0 x1.toNatClampNeg)) u6))) ∧ (¬ x1 = x2 → (post r6 u6)))) x1 x2 u) := hw
  refine lv_aload_n hx hb d_Ne_gap_0 rfl (lv_at hl 0 rfl) ?_
  refine va_get (D := (dC, dI)) (C := R_Ne) (T := F_Ne) (N := 5) hx hb hts in_Ne hown hI.1 hI.2.1 1 (wdX_o1 a cA _) rfl 4 (by decide) (hts _ wA_175) (fun _ h9 => h9) rfl d_Ne_gap_1 ?_
  refine lv_iload_n hx hb d_Ne_gap_4 rfl (lv_at hl 1 rfl) ?_
  refine lv_iload_n hx hb d_Ne_gap_5 rfl (lv_at hl 2 rfl) ?_
  refine tr_goi (w := wdX a cA) hI hA (va_runV (As := [.int x1, .int x2]) (rest := []) ⟨hx, hb, hml, hown, hts⟩ (c_Wa_atLeastOne l dC dI cA a _ _ _ _ _) (cwV 2 hts (wsA_goodV wA_455 wA_365 wA_366 wA_34 wA_367) rfl rfl rfl (by decide +kernel) ⟨Nat.le_of_ble_eq_true rfl, Nat.le_of_ble_eq_true rfl⟩) (tr_preV (ci := 4) (q0 := 4) hI rfl (wdX_o4 a cA _) rfl hN hw) rfl rfl hl.1 rfl (lv_room (Nat.le_of_ble_eq_true rfl)) d_Ne_gap_6 ⟨Nat.zero_le _, Nat.zero_le _⟩) (fun r6 u6 H locs hw hI => ?_)
  refine lv_istore_n (lv' := [(3, .int r6), (0, .ref (a 1)), (1, .int x1), (2, .int x2)]) hx hb d_Ne_gap_9 rfl hl (by decide) rfl (fun ls hl => ?_)
  refine lv_iload_n hx hb d_Ne_gap_10 rfl (lv_at hl 2 rfl) ?_
  refine lv_iload_n hx hb d_Ne_gap_11 rfl (lv_at hl 3 rfl) ?_
  refine lv_icmp_ne (tgt := 28) hx hb d_Ne_gap_12 (by decide) (fun hc => ?_) (fun hc => ?_)
  · have hw := hw.2 hc
    refine lv_iload_n hx hb d_Ne_gap_28 rfl (lv_at hl 0 rfl) ?_
    exact tr_iret hx hb hr hlocks hI hw d_Ne_gap_29
  · have hw := hw.1 hc
    refine lv_aload_n hx hb d_Ne_gap_15 rfl (lv_at hl 1 rfl) ?_
    refine va_get (D := (dC, dI)) (C := R_Ne) (T := F_Ne) (N := 5) hx hb hts in_Ne hown hI.1 hI.2.1 1 (wdX_o1 a cA _) rfl 1 (by decide) (hts _ wA_163) (fun _ h9 => h9) rfl d_Ne_gap_16 ?_
    refine lv_iload_n hx hb d_Ne_gap_19 rfl (lv_at hl 2 rfl) ?_
    obtain ⟨hi, hw⟩ := hw
    refine va_iald (D := (dC, dI)) hx hb hI.1 hI.2.1 10 0 (wdX_o10 a cA _) rfl hi d_Ne_gap_20 ?_
    refine lv_iload_n hx hb d_Ne_gap_21 rfl (lv_at hl 0 rfl) ?_
    refine va_mmin hx hb (by rw [hml]; exact hl.1.symm) hown (hts _ wA_456) (hts _ wA_369) (hts _ wA_41) (hts _ wA_370) (Nat.le_of_ble_eq_true rfl) (Nat.le_of_ble_eq_true rfl) (Nat.zero_le _) (Nat.zero_le _) d_Ne_gap_22 ?_
    refine lv_goto (tgt := 29) hx hb d_Ne_gap_25 (by decide) ?_
    exact tr_iret hx hb hr hlocks hI hw d_Ne_gap_29
def w_Sp_mayFollow (post : Int32 → tS → Prop) (x1 : Int32) (x2 : Int32) (x3 : Int32) (u : tS) : Prop := (w_Bo_rideAt (fun r12 u12 => (vp_in r12 40 ∧ (vp_in x1 280 ∧ (w_Ne_gap (fun r32 u32 => (((u12.2 8 x1.toNatClampNeg) < (x3 + r32) → (post 0 u32)) ∧ (¬ (u12.2 8 x1.toNatClampNeg) < (x3 + r32) → (post 1 u32)))) x2 (u12.2 1 r12.toNatClampNeg) u12)))) x1 u)
set_option maxRecDepth 100000 in
set_option maxHeartbeats 4000000 in
theorem c_Sp_mayFollow (l : Launch) (dC : Nat → ClassId) (dI : Nat → Nat → Nat) (cA : ClassId) (a : Nat → Nat) (u : tS) (x1 : Int32) (x2 : Int32) (x3 : Int32) (post : Int32 → tS → Prop) (sz : Nat) : Met l y_Sp_mayFollow ws_Sp_mayFollow ({ frames := 2, cells := 0, slots := 0, locals := 45 }) (va_Pc [.ref (a 1), .int x1, .int x2, .int x3] (tP (dC, dI) twCl [(cA, .int)] (wdX a cA) u sz (w_Sp_mayFollow post x1 x2 x3 u))) (va_Qi post (tB (dC, dI) twCl [(cA, .int)] (va_A (wdX a cA u) sz) (wdX a cA)) (va_A (wdX a cA u) sz)) 0 0 (va_A (wdX a cA u) sz) := by
  refine Met.ofW (cc := b_Sp_mayFollow) (maxL := 5) (ret := (some .boolean)) (by decide) rfl ?_
  intro p e s m args below meth c s₁ B hml hv
  obtain ⟨rfl, hsz, hP, hK, hD0, hN, hw⟩ := hv
  have hx := B.exec
  have hb := B.bytes
  have hr := B.returns
  have hts : ∀ w ∈ wsA, w.before _ s = true := fun w h => atoms_spec (ws := ws_Sp_mayFollow) B.pre w (List.mem_cons_of_mem _ h)
  have hown : s.vm.findClass R_Sp = some m.cls := findClass_of_methodNamed B.named
  have hlocks := B.notSynchronized
  subst hsz
  have hD := hD0.self (sz := s.heap.size)
  generalize hAe : va_A (wdX a cA u) s.heap.size = A at hD ⊢
  have hA : ∀ q : Nat, s.heap.size ≤ q → A q := fun q h => by rw [← hAe]; exact Or.inr h
  have hS : va_S A s.heap s.heap [] := va_S.rf
  have hI : tX (dC, dI) twCl [(cA, .int)] A s s.heap [] (wdX a cA u) := ⟨hK, hP, hD, hS⟩
  have hC : tC p s m meth c ([.ref (a 1), .int x1, .int x2, .int x3] : List Value).toArray b_Sp_mayFollow 5 (some .boolean) wsA R_Sp A := ⟨hx, hb, hr, hml, hown, hts, hlocks, hA, hN⟩
  have hl := lv_entry ([.ref (a 1), .int x1, .int x2, .int x3]) (n := 5) (Nat.le_of_ble_eq_true rfl)
  rw [lg_entry_eq]
  generalize (lg_sl ([.ref (a 1), .int x1, .int x2, .int x3]) ++ List.replicate (5 - (lg_sl ([.ref (a 1), .int x1, .int x2, .int x3])).length) Slot.unset).toArray = ls at hl ⊢
  have hl : lv_has ls 5 [(0, .ref (a 1)), (1, .int x1), (2, .int x2), (3, .int x3)] := hl
  have hw : (w_Bo_rideAt (fun r12 u12 => (vp_in r12 40 ∧ (vp_in x1 280 ∧ (w_Ne_gap (fun r32 u32 => (((u12.2 8 x1.toNatClampNeg) < (x3 + r32) → (post 0 u32)) ∧ (¬ (u12.2 8 x1.toNatClampNeg) < (x3 + r32) → (post 1 u32)))) x2 (u12.2 1 r12.toNatClampNeg) u12)))) x1 u) := hw
  refine lv_aload_n hx hb d_Sp_mayFollow_0 rfl (lv_at hl 0 rfl) ?_
  refine va_get (D := (dC, dI)) (C := R_Ne) (T := F_Ne) (N := 5) hx hb hts in_Ne hown hI.1 hI.2.1 1 (wdX_o1 a cA _) rfl 2 (by decide) (hts _ wA_169) (fun _ h9 => h9) rfl d_Sp_mayFollow_1 ?_
  refine va_get (D := (dC, dI)) (C := R_Ri) (T := F_Ri) (N := 7) hx hb hts in_Ri hown hI.1 hI.2.1 2 (wdX_o2 a cA _) rfl 1 (by decide) (hts _ wA_69) (fun _ h9 => h9) rfl d_Sp_mayFollow_4 ?_
  refine lv_aload_n hx hb d_Sp_mayFollow_7 rfl (lv_at hl 0 rfl) ?_
  refine va_get (D := (dC, dI)) (C := R_Ne) (T := F_Ne) (N := 5) hx hb hts in_Ne hown hI.1 hI.2.1 1 (wdX_o1 a cA _) rfl 3 (by decide) (hts _ wA_172) (fun _ h9 => h9) rfl d_Sp_mayFollow_8 ?_
  refine lv_iload_n hx hb d_Sp_mayFollow_11 rfl (lv_at hl 1 rfl) ?_
  refine tr_goi (w := wdX a cA) hI hA (va_runV (As := [.int x1]) (rest := [.ref (a 11)]) ⟨hx, hb, hml, hown, hts⟩ (c_Bo_rideAt l dC dI cA a _ _ _ _) (cwV 1 hts (wsA_goodV wA_445 wA_409 wA_410 wA_33 wA_411) rfl rfl rfl (by decide +kernel) ⟨Nat.le_of_ble_eq_true rfl, Nat.le_of_ble_eq_true rfl⟩) (tr_preV (ci := 3) (q0 := 3) hI rfl (wdX_o3 a cA _) rfl hN hw) rfl rfl hl.1 rfl (lv_room (Nat.le_of_ble_eq_true rfl)) d_Sp_mayFollow_12 ⟨Nat.zero_le _, Nat.zero_le _⟩) (fun r12 u12 H locs hw hI => ?_)
  obtain ⟨hi, hw⟩ := hw
  refine va_iald (D := (dC, dI)) hx hb hI.1 hI.2.1 11 0 (wdX_o11 a cA _) rfl hi d_Sp_mayFollow_15 ?_
  refine lv_istore (lv' := [(4, .int (u12.2 1 r12.toNatClampNeg)), (0, .ref (a 1)), (1, .int x1), (2, .int x2), (3, .int x3)]) hx hb d_Sp_mayFollow_16 hl (by decide) rfl (fun ls hl => ?_)
  refine lv_aload_n hx hb d_Sp_mayFollow_18 rfl (lv_at hl 1 rfl) ?_
  refine va_get (D := (dC, dI)) (C := R_Ne) (T := F_Ne) (N := 5) hx hb hts in_Ne hown hI.1 hI.2.1 1 (wdX_o1 a cA _) rfl 3 (by decide) (hts _ wA_172) (fun _ h9 => h9) rfl d_Sp_mayFollow_19 ?_
  refine va_get (D := (dC, dI)) (C := R_Bo) (T := F_Bo) (N := 3) hx hb hts in_Bo hown hI.1 hI.2.1 3 (wdX_o3 a cA _) rfl 2 (by decide) (hts _ wA_118) (fun _ h9 => h9) rfl d_Sp_mayFollow_22 ?_
  refine lv_iload_n hx hb d_Sp_mayFollow_25 rfl (lv_at hl 2 rfl) ?_
  obtain ⟨hi, hw⟩ := hw
  refine va_iald (D := (dC, dI)) hx hb hI.1 hI.2.1 18 0 (wdX_o18 a cA _) rfl hi d_Sp_mayFollow_26 ?_
  refine lv_iload_n hx hb d_Sp_mayFollow_27 rfl (lv_at hl 4 rfl) ?_
  refine lv_aload_n hx hb d_Sp_mayFollow_28 rfl (lv_at hl 1 rfl) ?_
  refine lv_iload_n hx hb d_Sp_mayFollow_29 rfl (lv_at hl 3 rfl) ?_
  refine lv_iload hx hb d_Sp_mayFollow_30 (lv_at hl 0 rfl) ?_
  refine tr_goi (w := wdX a cA) hI hA (va_runV (As := [.int x2, .int (u12.2 1 r12.toNatClampNeg)]) (rest := [.int x3, .int (u12.2 8 x1.toNatClampNeg)]) ⟨hx, hb, hml, hown, hts⟩ (c_Ne_gap l dC dI cA a _ _ _ _ _) (cwV 2 hts (wsA_goodV wA_451 wA_452 wA_453 wA_31 wA_454) rfl rfl rfl (by decide +kernel) ⟨Nat.le_of_ble_eq_true rfl, Nat.le_of_ble_eq_true rfl⟩) (tr_preV (ci := 1) (q0 := 1) hI rfl (wdX_o1 a cA _) rfl hN hw) rfl rfl hl.1 rfl (lv_room (Nat.le_of_ble_eq_true rfl)) d_Sp_mayFollow_32 ⟨Nat.zero_le _, Nat.zero_le _⟩) (fun r32 u32 H locs hw hI => ?_)
  refine lv_iadd hx hb d_Sp_mayFollow_35 ?_
  refine lv_icmp_lt (tgt := 43) hx hb d_Sp_mayFollow_36 (by decide) (fun hc => ?_) (fun hc => ?_)
  · have hw := hw.1 hc
    refine lv_iconst (v := 0) hx hb d_Sp_mayFollow_43 (by decide) ?_
    exact tr_zret hx hb hr hlocks hI rfl hw d_Sp_mayFollow_44
  · have hw := hw.2 hc
    refine lv_iconst (v := 1) hx hb d_Sp_mayFollow_39 (by decide) ?_
    refine lv_goto (tgt := 44) hx hb d_Sp_mayFollow_40 (by decide) ?_
    exact tr_zret hx hb hr hlocks hI rfl hw d_Sp_mayFollow_44
def w_Sp_endOf_69 (post : Int32 → tS → Prop) : Nat → Int32 → Int32 → Int32 → Int32 → tS → Prop
  | 0 => fun _ _ _ _ _ => False
  | n + 1 => fun x5 x6 x7 x8 u => (((u.1 2) ≤ x8 → (post x7 u)) ∧ (¬ (u.1 2) ≤ x8 → (vp_in x8 280 ∧ ((x7 ≤ (u.2 8 x8.toNatClampNeg) → (post x7 u)) ∧ (¬ x7 ≤ (u.2 8 x8.toNatClampNeg) → (vp_in x8 280 ∧ ((x7 ≤ (u.2 17 x8.toNatClampNeg) → (w_Sp_endOf_69 post n x5 x6 x7 (x8 + 1) u)) ∧ (¬ x7 ≤ (u.2 17 x8.toNatClampNeg) → (w_Sp_mayFollow (fun r115 u115 => ((r115 = 0 → (w_Sp_endOf_69 post n x5 x6 x7 (x8 + 1) u115)) ∧ (¬ r115 = 0 → (vp_in x8 280 ∧ (w_Sp_endOf_69 post n x5 x6 (u115.2 17 x8.toNatClampNeg) (x8 + 1) u115))))) x8 x5 x6 u)))))))))
def w_Sp_endOf (post : Int32 → tS → Prop) (x2 : Int32) (x3 : Int32) (u : tS) : Prop := (w_Bo_rideAt (fun r5 u5 => (vp_in r5 40 ∧ (vp_in x2 280 ∧ (vp_in r5 40 ∧ (w_Wa_anyNumber (fun r55 u55 => (∃ k, w_Sp_endOf_69 post k (u5.2 2 r5.toNatClampNeg) ((u5.2 8 x2.toNatClampNeg) + (u5.2 4 r5.toNatClampNeg)) (if (((u5.2 8 x2.toNatClampNeg) + (u5.2 4 r5.toNatClampNeg)) + r55) < 1000000 then (((u5.2 8 x2.toNatClampNeg) + (u5.2 4 r5.toNatClampNeg)) + r55) else 1000000) (x2 + 1) u55)) (u5.2 2 r5.toNatClampNeg) x3 u5))))) x2 u)
set_option maxRecDepth 100000 in
set_option maxHeartbeats 4000000 in
theorem k_Sp_endOf_69 {p : Program} {l : Launch} {e : Env} {s : State} {m : MethodId} {args : Array Value} {below : List Frame} {meth : Method} {c : Code} {dC : Nat → ClassId} {dI : Nat → Nat → Nat} {cA : ClassId} {a : Nat → Nat} {A : Nat → Prop} (hC : tC p s m meth c args b_Sp_endOf 9 (some .int) wsA R_Sp A) (post : Int32 → tS → Prop) : ∀ n : Nat, ∀ (x5 x6 x7 x8 : Int32) (u : tS) (H : Heap) (locs : List Loc) (ls : Array Slot), w_Sp_endOf_69 post n x5 x6 x7 x8 u → tX (dC, dI) twCl [(cA, .int)] A s H locs (wdX a cA u) → lv_has ls 9 [(0, .ref (a 7)), (1, .ref (a 1)), (5, .int x5), (6, .int x6), (7, .int x7), (8, .int x8)] → W p l e ({ frames := 3, cells := 0, slots := 0, locals := 69 }) s m args below meth c H locs 0 0 (MQ below (va_Qi post (tB (dC, dI) twCl [(cA, .int)] A (wdX a cA)) A) args s 0 0 A) (F0 m 69 ls []) := by
  obtain ⟨hx, hb, hr, hml, hown, hts, hlocks, hA, hN⟩ := id hC
  intro n
  induction n with
  | zero => intro x5 x6 x7 x8 u H locs ls hw; exact False.elim hw
  | succ n ih =>
    intro x5 x6 x7 x8 u H locs ls hw hI hl
    refine lv_iload hx hb d_Sp_endOf_69 (lv_at hl 5 rfl) ?_
    refine lv_aload_n hx hb d_Sp_endOf_71 rfl (lv_at hl 1 rfl) ?_
    refine va_get (D := (dC, dI)) (C := R_Ne) (T := F_Ne) (N := 5) hx hb hts in_Ne hown hI.1 hI.2.1 1 (wdX_o1 a cA _) rfl 3 (by decide) (hts _ wA_172) (fun _ h9 => h9) rfl d_Sp_endOf_72 ?_
    refine va_get (D := (dC, dI)) (C := R_Bo) (T := F_Bo) (N := 3) hx hb hts in_Bo hown hI.1 hI.2.1 3 (wdX_o3 a cA _) rfl 0 (by decide) (hts _ wA_112) (fun _ h9 => h9) rfl d_Sp_endOf_75 ?_
    refine lv_icmp_ge (tgt := 136) hx hb d_Sp_endOf_78 (by decide) (fun hc => ?_) (fun hc => ?_)
    · have hw := hw.1 hc
      refine lv_iload hx hb d_Sp_endOf_136 (lv_at hl 4 rfl) ?_
      exact tr_iret hx hb hr hlocks hI hw d_Sp_endOf_138
    · have hw := hw.2 hc
      refine lv_aload_n hx hb d_Sp_endOf_81 rfl (lv_at hl 1 rfl) ?_
      refine va_get (D := (dC, dI)) (C := R_Ne) (T := F_Ne) (N := 5) hx hb hts in_Ne hown hI.1 hI.2.1 1 (wdX_o1 a cA _) rfl 3 (by decide) (hts _ wA_172) (fun _ h9 => h9) rfl d_Sp_endOf_82 ?_
      refine va_get (D := (dC, dI)) (C := R_Bo) (T := F_Bo) (N := 3) hx hb hts in_Bo hown hI.1 hI.2.1 3 (wdX_o3 a cA _) rfl 2 (by decide) (hts _ wA_118) (fun _ h9 => h9) rfl d_Sp_endOf_85 ?_
      refine lv_iload hx hb d_Sp_endOf_88 (lv_at hl 5 rfl) ?_
      obtain ⟨hi, hw⟩ := hw
      refine va_iald (D := (dC, dI)) hx hb hI.1 hI.2.1 18 0 (wdX_o18 a cA _) rfl hi d_Sp_endOf_90 ?_
      refine lv_iload hx hb d_Sp_endOf_91 (lv_at hl 4 rfl) ?_
      refine lv_icmp_ge (tgt := 136) hx hb d_Sp_endOf_93 (by decide) (fun hc => ?_) (fun hc => ?_)
      · have hw := hw.1 hc
        refine lv_iload hx hb d_Sp_endOf_136 (lv_at hl 4 rfl) ?_
        exact tr_iret hx hb hr hlocks hI hw d_Sp_endOf_138
      · have hw := hw.2 hc
        refine lv_aload_n hx hb d_Sp_endOf_96 rfl (lv_at hl 0 rfl) ?_
        refine va_get (D := (dC, dI)) (C := R_Sp) (T := F_Sp) (N := 2) hx hb hts in_Sp hown hI.1 hI.2.1 7 (wdX_o7 a cA _) rfl 0 (by decide) (hts _ wA_210) (fun _ h9 => h9) rfl d_Sp_endOf_97 ?_
        refine lv_iload hx hb d_Sp_endOf_100 (lv_at hl 5 rfl) ?_
        obtain ⟨hi, hw⟩ := hw
        refine va_iald (D := (dC, dI)) hx hb hI.1 hI.2.1 27 0 (wdX_o27 a cA _) rfl hi d_Sp_endOf_102 ?_
        refine lv_iload hx hb d_Sp_endOf_103 (lv_at hl 4 rfl) ?_
        refine lv_icmp_ge (tgt := 130) hx hb d_Sp_endOf_105 (by decide) (fun hc => ?_) (fun hc => ?_)
        · have hw := hw.1 hc
          refine lv_iinc (v := (x8 + 1)) (lv' := [(8, .int (x8 + 1)), (0, .ref (a 7)), (1, .ref (a 1)), (5, .int x5), (6, .int x6), (7, .int x7)]) hx hb d_Sp_endOf_130 hl (k := 5) rfl rfl (by decide) rfl (fun ls hl => ?_)
          refine lv_goto (tgt := 69) hx hb d_Sp_endOf_133 (by decide) ?_
          exact ih _ _ _ _ _ _ _ ls hw hI (lv_sub hl [1, 2, 3, 4, 5, 0] rfl)
        · have hw := hw.2 hc
          refine lv_aload_n hx hb d_Sp_endOf_108 rfl (lv_at hl 1 rfl) ?_
          refine lv_iload hx hb d_Sp_endOf_109 (lv_at hl 5 rfl) ?_
          refine lv_iload hx hb d_Sp_endOf_111 (lv_at hl 2 rfl) ?_
          refine lv_iload hx hb d_Sp_endOf_113 (lv_at hl 3 rfl) ?_
          refine tr_goi (w := wdX a cA) hI hA (va_runS (As := [.ref (a 1), .int x8, .int x5, .int x6]) (rest := []) ⟨hx, hb, hml, hown, hts⟩ (c_Sp_mayFollow l dC dI cA a _ _ _ _ _ _) ⟨callB_of 4 hts (wsA_good wA_450) rfl rfl rfl (hts _ wA_37) (hts _ wA_448) (by decide +kernel) ⟨Nat.le_of_ble_eq_true rfl, Nat.le_of_ble_eq_true rfl⟩, hts _ wA_449⟩ (tr_preS hI hN hw) rfl rfl hl.1 rfl (lv_room (Nat.le_of_ble_eq_true rfl)) d_Sp_endOf_115 ⟨Nat.zero_le _, Nat.zero_le _⟩) (fun r115 u115 H locs hw hI => ?_)
          refine lv_if_eq (tgt := 130) hx hb d_Sp_endOf_118 (by decide) (fun hc => ?_) (fun hc => ?_)
          · have hw := hw.1 hc
            refine lv_iinc (v := (x8 + 1)) (lv' := [(8, .int (x8 + 1)), (0, .ref (a 7)), (1, .ref (a 1)), (5, .int x5), (6, .int x6), (7, .int x7)]) hx hb d_Sp_endOf_130 hl (k := 5) rfl rfl (by decide) rfl (fun ls hl => ?_)
            refine lv_goto (tgt := 69) hx hb d_Sp_endOf_133 (by decide) ?_
            exact ih _ _ _ _ _ _ _ ls hw hI (lv_sub hl [1, 2, 3, 4, 5, 0] rfl)
          · have hw := hw.2 hc
            refine lv_aload_n hx hb d_Sp_endOf_121 rfl (lv_at hl 0 rfl) ?_
            refine va_get (D := (dC, dI)) (C := R_Sp) (T := F_Sp) (N := 2) hx hb hts in_Sp hown hI.1 hI.2.1 7 (wdX_o7 a cA _) rfl 0 (by decide) (hts _ wA_210) (fun _ h9 => h9) rfl d_Sp_endOf_122 ?_
            refine lv_iload hx hb d_Sp_endOf_125 (lv_at hl 5 rfl) ?_
            obtain ⟨hi, hw⟩ := hw
            refine va_iald (D := (dC, dI)) hx hb hI.1 hI.2.1 27 0 (wdX_o27 a cA _) rfl hi d_Sp_endOf_127 ?_
            refine lv_istore (lv' := [(7, .int (u115.2 17 x8.toNatClampNeg)), (0, .ref (a 7)), (1, .ref (a 1)), (5, .int x5), (6, .int x6), (8, .int x8)]) hx hb d_Sp_endOf_128 hl (by decide) rfl (fun ls hl => ?_)
            refine lv_iinc (v := (x8 + 1)) (lv' := [(8, .int (x8 + 1)), (7, .int (u115.2 17 x8.toNatClampNeg)), (0, .ref (a 7)), (1, .ref (a 1)), (5, .int x5), (6, .int x6)]) hx hb d_Sp_endOf_130 hl (k := 5) rfl rfl (by decide) rfl (fun ls hl => ?_)
            refine lv_goto (tgt := 69) hx hb d_Sp_endOf_133 (by decide) ?_
            exact ih _ _ _ _ _ _ _ ls hw hI (lv_sub hl [2, 3, 4, 5, 1, 0] rfl)
set_option maxRecDepth 100000 in
set_option maxHeartbeats 4000000 in
theorem c_Sp_endOf (l : Launch) (dC : Nat → ClassId) (dI : Nat → Nat → Nat) (cA : ClassId) (a : Nat → Nat) (u : tS) (x2 : Int32) (x3 : Int32) (post : Int32 → tS → Prop) (sz : Nat) : Met l y_Sp_endOf ws_Sp_endOf ({ frames := 3, cells := 0, slots := 0, locals := 69 }) (va_Pc [.ref (a 7), .ref (a 1), .int x2, .int x3] (tP (dC, dI) twCl [(cA, .int)] (wdX a cA) u sz (w_Sp_endOf post x2 x3 u))) (va_Qi post (tB (dC, dI) twCl [(cA, .int)] (va_A (wdX a cA u) sz) (wdX a cA)) (va_A (wdX a cA u) sz)) 0 0 (va_A (wdX a cA u) sz) := by
  refine Met.ofW (cc := b_Sp_endOf) (maxL := 9) (ret := (some .int)) (by decide) rfl ?_
  intro p e s m args below meth c s₁ B hml hv
  obtain ⟨rfl, hsz, hP, hK, hD0, hN, hw⟩ := hv
  have hx := B.exec
  have hb := B.bytes
  have hr := B.returns
  have hts : ∀ w ∈ wsA, w.before _ s = true := fun w h => atoms_spec (ws := ws_Sp_endOf) B.pre w (List.mem_cons_of_mem _ h)
  have hown : s.vm.findClass R_Sp = some m.cls := findClass_of_methodNamed B.named
  have hlocks := B.notSynchronized
  subst hsz
  have hD := hD0.self (sz := s.heap.size)
  generalize hAe : va_A (wdX a cA u) s.heap.size = A at hD ⊢
  have hA : ∀ q : Nat, s.heap.size ≤ q → A q := fun q h => by rw [← hAe]; exact Or.inr h
  have hS : va_S A s.heap s.heap [] := va_S.rf
  have hI : tX (dC, dI) twCl [(cA, .int)] A s s.heap [] (wdX a cA u) := ⟨hK, hP, hD, hS⟩
  have hC : tC p s m meth c ([.ref (a 7), .ref (a 1), .int x2, .int x3] : List Value).toArray b_Sp_endOf 9 (some .int) wsA R_Sp A := ⟨hx, hb, hr, hml, hown, hts, hlocks, hA, hN⟩
  have hl := lv_entry ([.ref (a 7), .ref (a 1), .int x2, .int x3]) (n := 9) (Nat.le_of_ble_eq_true rfl)
  rw [lg_entry_eq]
  generalize (lg_sl ([.ref (a 7), .ref (a 1), .int x2, .int x3]) ++ List.replicate (9 - (lg_sl ([.ref (a 7), .ref (a 1), .int x2, .int x3])).length) Slot.unset).toArray = ls at hl ⊢
  have hl : lv_has ls 9 [(0, .ref (a 7)), (1, .ref (a 1)), (2, .int x2), (3, .int x3)] := hl
  have hw : (w_Bo_rideAt (fun r5 u5 => (vp_in r5 40 ∧ (vp_in x2 280 ∧ (vp_in r5 40 ∧ (w_Wa_anyNumber (fun r55 u55 => (∃ k, w_Sp_endOf_69 post k (u5.2 2 r5.toNatClampNeg) ((u5.2 8 x2.toNatClampNeg) + (u5.2 4 r5.toNatClampNeg)) (if (((u5.2 8 x2.toNatClampNeg) + (u5.2 4 r5.toNatClampNeg)) + r55) < 1000000 then (((u5.2 8 x2.toNatClampNeg) + (u5.2 4 r5.toNatClampNeg)) + r55) else 1000000) (x2 + 1) u55)) (u5.2 2 r5.toNatClampNeg) x3 u5))))) x2 u) := hw
  refine lv_aload_n hx hb d_Sp_endOf_0 rfl (lv_at hl 1 rfl) ?_
  refine va_get (D := (dC, dI)) (C := R_Ne) (T := F_Ne) (N := 5) hx hb hts in_Ne hown hI.1 hI.2.1 1 (wdX_o1 a cA _) rfl 3 (by decide) (hts _ wA_172) (fun _ h9 => h9) rfl d_Sp_endOf_1 ?_
  refine lv_iload_n hx hb d_Sp_endOf_4 rfl (lv_at hl 2 rfl) ?_
  refine tr_goi (w := wdX a cA) hI hA (va_runV (As := [.int x2]) (rest := []) ⟨hx, hb, hml, hown, hts⟩ (c_Bo_rideAt l dC dI cA a _ _ _ _) (cwV 1 hts (wsA_goodV wA_445 wA_409 wA_410 wA_33 wA_411) rfl rfl rfl (by decide +kernel) ⟨Nat.le_of_ble_eq_true rfl, Nat.le_of_ble_eq_true rfl⟩) (tr_preV (ci := 3) (q0 := 3) hI rfl (wdX_o3 a cA _) rfl hN hw) rfl rfl hl.1 rfl (lv_room (Nat.le_of_ble_eq_true rfl)) d_Sp_endOf_5 ⟨Nat.zero_le _, Nat.zero_le _⟩) (fun r5 u5 H locs hw hI => ?_)
  refine lv_istore (lv' := [(4, .int r5), (0, .ref (a 7)), (1, .ref (a 1)), (2, .int x2), (3, .int x3)]) hx hb d_Sp_endOf_8 hl (by decide) rfl (fun ls hl => ?_)
  refine lv_aload_n hx hb d_Sp_endOf_10 rfl (lv_at hl 2 rfl) ?_
  refine va_get (D := (dC, dI)) (C := R_Ne) (T := F_Ne) (N := 5) hx hb hts in_Ne hown hI.1 hI.2.1 1 (wdX_o1 a cA _) rfl 2 (by decide) (hts _ wA_169) (fun _ h9 => h9) rfl d_Sp_endOf_11 ?_
  refine va_get (D := (dC, dI)) (C := R_Ri) (T := F_Ri) (N := 7) hx hb hts in_Ri hown hI.1 hI.2.1 2 (wdX_o2 a cA _) rfl 2 (by decide) (hts _ wA_74) (fun _ h9 => h9) rfl d_Sp_endOf_14 ?_
  refine lv_iload hx hb d_Sp_endOf_17 (lv_at hl 0 rfl) ?_
  obtain ⟨hi, hw⟩ := hw
  refine va_iald (D := (dC, dI)) hx hb hI.1 hI.2.1 12 0 (wdX_o12 a cA _) rfl hi d_Sp_endOf_19 ?_
  refine lv_istore (lv' := [(5, .int (u5.2 2 r5.toNatClampNeg)), (4, .int r5), (0, .ref (a 7)), (1, .ref (a 1)), (2, .int x2), (3, .int x3)]) hx hb d_Sp_endOf_20 hl (by decide) rfl (fun ls hl => ?_)
  refine lv_aload_n hx hb d_Sp_endOf_22 rfl (lv_at hl 3 rfl) ?_
  refine va_get (D := (dC, dI)) (C := R_Ne) (T := F_Ne) (N := 5) hx hb hts in_Ne hown hI.1 hI.2.1 1 (wdX_o1 a cA _) rfl 3 (by decide) (hts _ wA_172) (fun _ h9 => h9) rfl d_Sp_endOf_23 ?_
  refine va_get (D := (dC, dI)) (C := R_Bo) (T := F_Bo) (N := 3) hx hb hts in_Bo hown hI.1 hI.2.1 3 (wdX_o3 a cA _) rfl 2 (by decide) (hts _ wA_118) (fun _ h9 => h9) rfl d_Sp_endOf_26 ?_
  refine lv_iload_n hx hb d_Sp_endOf_29 rfl (lv_at hl 4 rfl) ?_
  obtain ⟨hi, hw⟩ := hw
  refine va_iald (D := (dC, dI)) hx hb hI.1 hI.2.1 18 0 (wdX_o18 a cA _) rfl hi d_Sp_endOf_30 ?_
  refine lv_aload_n hx hb d_Sp_endOf_31 rfl (lv_at hl 3 rfl) ?_
  refine va_get (D := (dC, dI)) (C := R_Ne) (T := F_Ne) (N := 5) hx hb hts in_Ne hown hI.1 hI.2.1 1 (wdX_o1 a cA _) rfl 2 (by decide) (hts _ wA_169) (fun _ h9 => h9) rfl d_Sp_endOf_32 ?_
  refine va_get (D := (dC, dI)) (C := R_Ri) (T := F_Ri) (N := 7) hx hb hts in_Ri hown hI.1 hI.2.1 2 (wdX_o2 a cA _) rfl 4 (by decide) (hts _ wA_81) (fun _ h9 => h9) rfl d_Sp_endOf_35 ?_
  refine lv_iload hx hb d_Sp_endOf_38 (lv_at hl 1 rfl) ?_
  obtain ⟨hi, hw⟩ := hw
  refine va_iald (D := (dC, dI)) hx hb hI.1 hI.2.1 14 0 (wdX_o14 a cA _) rfl hi d_Sp_endOf_40 ?_
  refine lv_iadd hx hb d_Sp_endOf_41 ?_
  refine lv_istore (lv' := [(6, .int ((u5.2 8 x2.toNatClampNeg) + (u5.2 4 r5.toNatClampNeg))), (5, .int (u5.2 2 r5.toNatClampNeg)), (4, .int r5), (0, .ref (a 7)), (1, .ref (a 1)), (2, .int x2), (3, .int x3)]) hx hb d_Sp_endOf_42 hl (by decide) rfl (fun ls hl => ?_)
  refine lv_ldc (v := 1000000) hx hb hown (hts _ wA_446) d_Sp_endOf_44 ?_
  refine lv_iload hx hb d_Sp_endOf_46 (lv_at hl 0 rfl) ?_
  refine lv_aload_n hx hb d_Sp_endOf_48 rfl (lv_at hl 4 rfl) ?_
  refine va_get (D := (dC, dI)) (C := R_Ne) (T := F_Ne) (N := 5) hx hb hts in_Ne hown hI.1 hI.2.1 1 (wdX_o1 a cA _) rfl 4 (by decide) (hts _ wA_176) (fun _ h9 => h9) rfl d_Sp_endOf_49 ?_
  refine lv_iload hx hb d_Sp_endOf_52 (lv_at hl 1 rfl) ?_
  refine lv_iload_n hx hb d_Sp_endOf_54 rfl (lv_at hl 6 rfl) ?_
  refine tr_goi (w := wdX a cA) hI hA (va_runV (As := [.int (u5.2 2 r5.toNatClampNeg), .int x3]) (rest := [.int ((u5.2 8 x2.toNatClampNeg) + (u5.2 4 r5.toNatClampNeg)), .int 1000000]) ⟨hx, hb, hml, hown, hts⟩ (c_Wa_anyNumber l dC dI cA a _ _ _ _ _) (cwV 2 hts (wsA_goodV wA_440 wA_361 wA_362 wA_34 wA_363) rfl rfl rfl (by decide +kernel) ⟨Nat.le_of_ble_eq_true rfl, Nat.le_of_ble_eq_true rfl⟩) (tr_preV (ci := 4) (q0 := 4) hI rfl (wdX_o4 a cA _) rfl hN hw) rfl rfl hl.1 rfl (lv_room (Nat.le_of_ble_eq_true rfl)) d_Sp_endOf_55 ⟨Nat.zero_le _, Nat.zero_le _⟩) (fun r55 u55 H locs hw hI => ?_)
  refine lv_iadd hx hb d_Sp_endOf_58 ?_
  refine va_mmin hx hb (by rw [hml]; exact hl.1.symm) hown (hts _ wA_447) (hts _ wA_369) (hts _ wA_41) (hts _ wA_370) (Nat.le_of_ble_eq_true rfl) (Nat.le_of_ble_eq_true rfl) (Nat.zero_le _) (Nat.zero_le _) d_Sp_endOf_59 ?_
  refine lv_istore (lv' := [(7, .int (if (((u5.2 8 x2.toNatClampNeg) + (u5.2 4 r5.toNatClampNeg)) + r55) < 1000000 then (((u5.2 8 x2.toNatClampNeg) + (u5.2 4 r5.toNatClampNeg)) + r55) else 1000000)), (6, .int ((u5.2 8 x2.toNatClampNeg) + (u5.2 4 r5.toNatClampNeg))), (5, .int (u5.2 2 r5.toNatClampNeg)), (4, .int r5), (0, .ref (a 7)), (1, .ref (a 1)), (2, .int x2), (3, .int x3)]) hx hb d_Sp_endOf_62 hl (by decide) rfl (fun ls hl => ?_)
  refine lv_iload_n hx hb d_Sp_endOf_64 rfl (lv_at hl 6 rfl) ?_
  refine lv_iconst (v := 1) hx hb d_Sp_endOf_65 (by decide) ?_
  refine lv_iadd hx hb d_Sp_endOf_66 ?_
  refine lv_istore (lv' := [(8, .int (x2 + 1)), (7, .int (if (((u5.2 8 x2.toNatClampNeg) + (u5.2 4 r5.toNatClampNeg)) + r55) < 1000000 then (((u5.2 8 x2.toNatClampNeg) + (u5.2 4 r5.toNatClampNeg)) + r55) else 1000000)), (6, .int ((u5.2 8 x2.toNatClampNeg) + (u5.2 4 r5.toNatClampNeg))), (5, .int (u5.2 2 r5.toNatClampNeg)), (4, .int r5), (0, .ref (a 7)), (1, .ref (a 1)), (2, .int x2), (3, .int x3)]) hx hb d_Sp_endOf_67 hl (by decide) rfl (fun ls hl => ?_)
  obtain ⟨k, hw⟩ := hw
  exact k_Sp_endOf_69 hC post k _ _ _ _ _ _ _ ls hw hI (lv_sub hl [5, 6, 3, 2, 1, 0] rfl)
def w_Sp_latestFor (post : Int32 → tS → Prop) (x1 : Int32) (x2 : Int32) (u : tS) : Prop := (w_Bo_rideAt (fun r12 u12 => (vp_in r12 40 ∧ (vp_in x2 280 ∧ (w_Wa_anyNumber (fun r32 u32 => (post ((u12.2 8 x2.toNatClampNeg) - r32) u32)) x1 (u12.2 1 r12.toNatClampNeg) u12)))) x2 u)
set_option maxRecDepth 100000 in
set_option maxHeartbeats 4000000 in
theorem c_Sp_latestFor (l : Launch) (dC : Nat → ClassId) (dI : Nat → Nat → Nat) (cA : ClassId) (a : Nat → Nat) (u : tS) (x1 : Int32) (x2 : Int32) (post : Int32 → tS → Prop) (sz : Nat) : Met l y_Sp_latestFor ws_Sp_latestFor ({ frames := 2, cells := 0, slots := 0, locals := 44 }) (va_Pc [.ref (a 1), .int x1, .int x2] (tP (dC, dI) twCl [(cA, .int)] (wdX a cA) u sz (w_Sp_latestFor post x1 x2 u))) (va_Qi post (tB (dC, dI) twCl [(cA, .int)] (va_A (wdX a cA u) sz) (wdX a cA)) (va_A (wdX a cA u) sz)) 0 0 (va_A (wdX a cA u) sz) := by
  refine Met.ofW (cc := b_Sp_latestFor) (maxL := 4) (ret := (some .int)) (by decide) rfl ?_
  intro p e s m args below meth c s₁ B hml hv
  obtain ⟨rfl, hsz, hP, hK, hD0, hN, hw⟩ := hv
  have hx := B.exec
  have hb := B.bytes
  have hr := B.returns
  have hts : ∀ w ∈ wsA, w.before _ s = true := fun w h => atoms_spec (ws := ws_Sp_latestFor) B.pre w (List.mem_cons_of_mem _ h)
  have hown : s.vm.findClass R_Sp = some m.cls := findClass_of_methodNamed B.named
  have hlocks := B.notSynchronized
  subst hsz
  have hD := hD0.self (sz := s.heap.size)
  generalize hAe : va_A (wdX a cA u) s.heap.size = A at hD ⊢
  have hA : ∀ q : Nat, s.heap.size ≤ q → A q := fun q h => by rw [← hAe]; exact Or.inr h
  have hS : va_S A s.heap s.heap [] := va_S.rf
  have hI : tX (dC, dI) twCl [(cA, .int)] A s s.heap [] (wdX a cA u) := ⟨hK, hP, hD, hS⟩
  have hC : tC p s m meth c ([.ref (a 1), .int x1, .int x2] : List Value).toArray b_Sp_latestFor 4 (some .int) wsA R_Sp A := ⟨hx, hb, hr, hml, hown, hts, hlocks, hA, hN⟩
  have hl := lv_entry ([.ref (a 1), .int x1, .int x2]) (n := 4) (Nat.le_of_ble_eq_true rfl)
  rw [lg_entry_eq]
  generalize (lg_sl ([.ref (a 1), .int x1, .int x2]) ++ List.replicate (4 - (lg_sl ([.ref (a 1), .int x1, .int x2])).length) Slot.unset).toArray = ls at hl ⊢
  have hl : lv_has ls 4 [(0, .ref (a 1)), (1, .int x1), (2, .int x2)] := hl
  have hw : (w_Bo_rideAt (fun r12 u12 => (vp_in r12 40 ∧ (vp_in x2 280 ∧ (w_Wa_anyNumber (fun r32 u32 => (post ((u12.2 8 x2.toNatClampNeg) - r32) u32)) x1 (u12.2 1 r12.toNatClampNeg) u12)))) x2 u) := hw
  refine lv_aload_n hx hb d_Sp_latestFor_0 rfl (lv_at hl 0 rfl) ?_
  refine va_get (D := (dC, dI)) (C := R_Ne) (T := F_Ne) (N := 5) hx hb hts in_Ne hown hI.1 hI.2.1 1 (wdX_o1 a cA _) rfl 2 (by decide) (hts _ wA_169) (fun _ h9 => h9) rfl d_Sp_latestFor_1 ?_
  refine va_get (D := (dC, dI)) (C := R_Ri) (T := F_Ri) (N := 7) hx hb hts in_Ri hown hI.1 hI.2.1 2 (wdX_o2 a cA _) rfl 1 (by decide) (hts _ wA_69) (fun _ h9 => h9) rfl d_Sp_latestFor_4 ?_
  refine lv_aload_n hx hb d_Sp_latestFor_7 rfl (lv_at hl 0 rfl) ?_
  refine va_get (D := (dC, dI)) (C := R_Ne) (T := F_Ne) (N := 5) hx hb hts in_Ne hown hI.1 hI.2.1 1 (wdX_o1 a cA _) rfl 3 (by decide) (hts _ wA_172) (fun _ h9 => h9) rfl d_Sp_latestFor_8 ?_
  refine lv_iload_n hx hb d_Sp_latestFor_11 rfl (lv_at hl 2 rfl) ?_
  refine tr_goi (w := wdX a cA) hI hA (va_runV (As := [.int x2]) (rest := [.ref (a 11)]) ⟨hx, hb, hml, hown, hts⟩ (c_Bo_rideAt l dC dI cA a _ _ _ _) (cwV 1 hts (wsA_goodV wA_445 wA_409 wA_410 wA_33 wA_411) rfl rfl rfl (by decide +kernel) ⟨Nat.le_of_ble_eq_true rfl, Nat.le_of_ble_eq_true rfl⟩) (tr_preV (ci := 3) (q0 := 3) hI rfl (wdX_o3 a cA _) rfl hN hw) rfl rfl hl.1 rfl (lv_room (Nat.le_of_ble_eq_true rfl)) d_Sp_latestFor_12 ⟨Nat.zero_le _, Nat.zero_le _⟩) (fun r12 u12 H locs hw hI => ?_)
  obtain ⟨hi, hw⟩ := hw
  refine va_iald (D := (dC, dI)) hx hb hI.1 hI.2.1 11 0 (wdX_o11 a cA _) rfl hi d_Sp_latestFor_15 ?_
  refine lv_istore_n (lv' := [(3, .int (u12.2 1 r12.toNatClampNeg)), (0, .ref (a 1)), (1, .int x1), (2, .int x2)]) hx hb d_Sp_latestFor_16 rfl hl (by decide) rfl (fun ls hl => ?_)
  refine lv_aload_n hx hb d_Sp_latestFor_17 rfl (lv_at hl 1 rfl) ?_
  refine va_get (D := (dC, dI)) (C := R_Ne) (T := F_Ne) (N := 5) hx hb hts in_Ne hown hI.1 hI.2.1 1 (wdX_o1 a cA _) rfl 3 (by decide) (hts _ wA_172) (fun _ h9 => h9) rfl d_Sp_latestFor_18 ?_
  refine va_get (D := (dC, dI)) (C := R_Bo) (T := F_Bo) (N := 3) hx hb hts in_Bo hown hI.1 hI.2.1 3 (wdX_o3 a cA _) rfl 2 (by decide) (hts _ wA_118) (fun _ h9 => h9) rfl d_Sp_latestFor_21 ?_
  refine lv_iload_n hx hb d_Sp_latestFor_24 rfl (lv_at hl 3 rfl) ?_
  obtain ⟨hi, hw⟩ := hw
  refine va_iald (D := (dC, dI)) hx hb hI.1 hI.2.1 18 0 (wdX_o18 a cA _) rfl hi d_Sp_latestFor_25 ?_
  refine lv_aload_n hx hb d_Sp_latestFor_26 rfl (lv_at hl 1 rfl) ?_
  refine va_get (D := (dC, dI)) (C := R_Ne) (T := F_Ne) (N := 5) hx hb hts in_Ne hown hI.1 hI.2.1 1 (wdX_o1 a cA _) rfl 4 (by decide) (hts _ wA_176) (fun _ h9 => h9) rfl d_Sp_latestFor_27 ?_
  refine lv_iload_n hx hb d_Sp_latestFor_30 rfl (lv_at hl 2 rfl) ?_
  refine lv_iload_n hx hb d_Sp_latestFor_31 rfl (lv_at hl 0 rfl) ?_
  refine tr_goi (w := wdX a cA) hI hA (va_runV (As := [.int x1, .int (u12.2 1 r12.toNatClampNeg)]) (rest := [.int (u12.2 8 x2.toNatClampNeg)]) ⟨hx, hb, hml, hown, hts⟩ (c_Wa_anyNumber l dC dI cA a _ _ _ _ _) (cwV 2 hts (wsA_goodV wA_440 wA_361 wA_362 wA_34 wA_363) rfl rfl rfl (by decide +kernel) ⟨Nat.le_of_ble_eq_true rfl, Nat.le_of_ble_eq_true rfl⟩) (tr_preV (ci := 4) (q0 := 4) hI rfl (wdX_o4 a cA _) rfl hN hw) rfl rfl hl.1 rfl (lv_room (Nat.le_of_ble_eq_true rfl)) d_Sp_latestFor_32 ⟨Nat.zero_le _, Nat.zero_le _⟩) (fun r32 u32 H locs hw hI => ?_)
  refine lv_isub hx hb d_Sp_latestFor_35 ?_
  exact tr_iret hx hb hr hlocks hI hw d_Sp_latestFor_36
end
section
def w_Sp_latestBeginning_25 (post : Int32 → tS → Prop) : Nat → Int32 → Int32 → Int32 → Int32 → Int32 → tS → Prop
  | 0 => fun _ _ _ _ _ _ => False
  | n + 1 => fun x2 x3 x4 x5 x6 u => ((x6 < 0 → ((0 ≤ x5 → (post (if 10079 < x5 then 10079 else x5) u)) ∧ (¬ 0 ≤ x5 → (post (-1) u)))) ∧ (¬ x6 < 0 → (w_Sp_endOf (fun r41 u41 => (vp_in x6 280 ∧ (vp_in x6 280 ∧ ((x4 < ((tA u41 17 x6 r41).2 17 x6.toNatClampNeg) → (w_Sp_latestBeginning_25 post n x2 x3 x4 x5 (x6 + (-1)) (tA u41 17 x6 r41))) ∧ (¬ x4 < ((tA u41 17 x6 r41).2 17 x6.toNatClampNeg) → (w_Sp_latestFor (fun r63 u63 => (w_Sp_latestBeginning_25 post n x2 x3 x4 (if x5 < r63 then r63 else x5) (x6 + (-1)) u63)) x2 x6 (tA u41 17 x6 r41))))))) x6 x3 u)))
def w_Sp_latestBeginning (post : Int32 → tS → Prop) (x2 : Int32) (x3 : Int32) (x4 : Int32) (u : tS) : Prop := (w_Wa_anyNumber (fun r8 u8 => (∃ k, w_Sp_latestBeginning_25 post k x2 x3 x4 (x4 - r8) ((u8.1 2) - 1) u8)) x2 x3 u)
set_option maxRecDepth 100000 in
set_option maxHeartbeats 4000000 in
theorem k_Sp_latestBeginning_25 {p : Program} {l : Launch} {e : Env} {s : State} {m : MethodId} {args : Array Value} {below : List Frame} {meth : Method} {c : Code} {dC : Nat → ClassId} {dI : Nat → Nat → Nat} {cA : ClassId} {a : Nat → Nat} {A : Nat → Prop} (hC : tC p s m meth c args b_Sp_latestBeginning 7 (some .int) wsA R_Sp A) (post : Int32 → tS → Prop) : ∀ n : Nat, ∀ (x2 x3 x4 x5 x6 : Int32) (u : tS) (H : Heap) (locs : List Loc) (ls : Array Slot), w_Sp_latestBeginning_25 post n x2 x3 x4 x5 x6 u → tX (dC, dI) twCl [(cA, .int)] A s H locs (wdX a cA u) → lv_has ls 7 [(0, .ref (a 7)), (1, .ref (a 1)), (2, .int x2), (3, .int x3), (4, .int x4), (5, .int x5), (6, .int x6)] → W p l e ({ frames := 4, cells := 0, slots := 0, locals := 97 }) s m args below meth c H locs 0 0 (MQ below (va_Qi post (tB (dC, dI) twCl [(cA, .int)] A (wdX a cA)) A) args s 0 0 A) (F0 m 25 ls []) := by
  obtain ⟨hx, hb, hr, hml, hown, hts, hlocks, hA, hN⟩ := id hC
  intro n
  induction n with
  | zero => intro x2 x3 x4 x5 x6 u H locs ls hw; exact False.elim hw
  | succ n ih =>
    intro x2 x3 x4 x5 x6 u H locs ls hw hI hl
    refine lv_iload hx hb d_Sp_latestBeginning_25 (lv_at hl 6 rfl) ?_
    refine lv_if_lt (tgt := 77) hx hb d_Sp_latestBeginning_27 (by decide) (fun hc => ?_) (fun hc => ?_)
    · have hw := hw.1 hc
      refine lv_iload hx hb d_Sp_latestBeginning_77 (lv_at hl 5 rfl) ?_
      refine lv_if_ge (tgt := 86) hx hb d_Sp_latestBeginning_79 (by decide) (fun hc => ?_) (fun hc => ?_)
      · have hw := hw.1 hc
        refine lv_iload hx hb d_Sp_latestBeginning_86 (lv_at hl 5 rfl) ?_
        refine lv_sipush (v := 10079) hx hb d_Sp_latestBeginning_88 (by decide) ?_
        refine va_mmin hx hb (by rw [hml]; exact hl.1.symm) hown (hts _ wA_447) (hts _ wA_369) (hts _ wA_41) (hts _ wA_370) (Nat.le_of_ble_eq_true rfl) (Nat.le_of_ble_eq_true rfl) (Nat.zero_le _) (Nat.zero_le _) d_Sp_latestBeginning_91 ?_
        exact tr_iret hx hb hr hlocks hI hw d_Sp_latestBeginning_94
      · have hw := hw.2 hc
        refine lv_iconst (v := (-1)) hx hb d_Sp_latestBeginning_82 (by decide) ?_
        refine lv_goto (tgt := 94) hx hb d_Sp_latestBeginning_83 (by decide) ?_
        exact tr_iret hx hb hr hlocks hI hw d_Sp_latestBeginning_94
    · have hw := hw.2 hc
      refine lv_aload_n hx hb d_Sp_latestBeginning_30 rfl (lv_at hl 0 rfl) ?_
      refine va_get (D := (dC, dI)) (C := R_Sp) (T := F_Sp) (N := 2) hx hb hts in_Sp hown hI.1 hI.2.1 7 (wdX_o7 a cA _) rfl 0 (by decide) (hts _ wA_210) (fun _ h9 => h9) rfl d_Sp_latestBeginning_31 ?_
      refine lv_iload hx hb d_Sp_latestBeginning_34 (lv_at hl 6 rfl) ?_
      refine lv_aload_n hx hb d_Sp_latestBeginning_36 rfl (lv_at hl 0 rfl) ?_
      refine lv_aload_n hx hb d_Sp_latestBeginning_37 rfl (lv_at hl 1 rfl) ?_
      refine lv_iload hx hb d_Sp_latestBeginning_38 (lv_at hl 6 rfl) ?_
      refine lv_iload_n hx hb d_Sp_latestBeginning_40 rfl (lv_at hl 3 rfl) ?_
      refine tr_goi (w := wdX a cA) hI hA (va_runV (As := [.ref (a 1), .int x6, .int x3]) (rest := [.int x6, .ref (a 27)]) ⟨hx, hb, hml, hown, hts⟩ (c_Sp_endOf l dC dI cA a _ _ _ _ _) (cwV 3 hts (wsA_goodV wA_441 wA_443 wA_3 wA_37 wA_444) rfl rfl rfl (by decide +kernel) ⟨Nat.le_of_ble_eq_true rfl, Nat.le_of_ble_eq_true rfl⟩) (tr_preV (ci := 6) (q0 := 7) hI rfl (wdX_o7 a cA _) rfl hN hw) rfl rfl hl.1 rfl (lv_room (Nat.le_of_ble_eq_true rfl)) d_Sp_latestBeginning_41 ⟨Nat.zero_le _, Nat.zero_le _⟩) (fun r41 u41 H locs hw hI => ?_)
      obtain ⟨hi, hw⟩ := hw
      refine tr_iast (w := wdX a cA) hx hb hI 27 0 17 (wdX_o27 a cA _) rfl (wdX_a17 a cA _ _ _) hi d_Sp_latestBeginning_44 (fun H locs hI => ?_)
      refine lv_aload_n hx hb d_Sp_latestBeginning_45 rfl (lv_at hl 0 rfl) ?_
      refine va_get (D := (dC, dI)) (C := R_Sp) (T := F_Sp) (N := 2) hx hb hts in_Sp hown hI.1 hI.2.1 7 (wdX_o7 a cA _) rfl 0 (by decide) (hts _ wA_210) (fun _ h9 => h9) rfl d_Sp_latestBeginning_46 ?_
      refine lv_iload hx hb d_Sp_latestBeginning_49 (lv_at hl 6 rfl) ?_
      obtain ⟨hi, hw⟩ := hw
      refine va_iald (D := (dC, dI)) hx hb hI.1 hI.2.1 27 0 (wdX_o27 a cA _) rfl hi d_Sp_latestBeginning_51 ?_
      refine lv_iload hx hb d_Sp_latestBeginning_52 (lv_at hl 4 rfl) ?_
      refine lv_icmp_gt (tgt := 71) hx hb d_Sp_latestBeginning_54 (by decide) (fun hc => ?_) (fun hc => ?_)
      · have hw := hw.1 hc
        refine lv_iinc (v := (x6 + (-1))) (lv' := [(6, .int (x6 + (-1))), (0, .ref (a 7)), (1, .ref (a 1)), (2, .int x2), (3, .int x3), (4, .int x4), (5, .int x5)]) hx hb d_Sp_latestBeginning_71 hl (k := 6) rfl rfl (by decide) rfl (fun ls hl => ?_)
        refine lv_goto (tgt := 25) hx hb d_Sp_latestBeginning_74 (by decide) ?_
        exact ih _ _ _ _ _ _ _ _ ls hw hI (lv_sub hl [1, 2, 3, 4, 5, 6, 0] rfl)
      · have hw := hw.2 hc
        refine lv_iload hx hb d_Sp_latestBeginning_57 (lv_at hl 5 rfl) ?_
        refine lv_aload_n hx hb d_Sp_latestBeginning_59 rfl (lv_at hl 1 rfl) ?_
        refine lv_iload_n hx hb d_Sp_latestBeginning_60 rfl (lv_at hl 2 rfl) ?_
        refine lv_iload hx hb d_Sp_latestBeginning_61 (lv_at hl 6 rfl) ?_
        refine tr_goi (w := wdX a cA) hI hA (va_runS (As := [.ref (a 1), .int x2, .int x6]) (rest := [.int x5]) ⟨hx, hb, hml, hown, hts⟩ (c_Sp_latestFor l dC dI cA a _ _ _ _ _) ⟨callB_of 3 hts (wsA_good wA_459) rfl rfl rfl (hts _ wA_37) (hts _ wA_457) (by decide +kernel) ⟨Nat.le_of_ble_eq_true rfl, Nat.le_of_ble_eq_true rfl⟩, hts _ wA_458⟩ (tr_preS hI hN hw) rfl rfl hl.1 rfl (lv_room (Nat.le_of_ble_eq_true rfl)) d_Sp_latestBeginning_63 ⟨Nat.zero_le _, Nat.zero_le _⟩) (fun r63 u63 H locs hw hI => ?_)
        refine va_mmax hx hb (by rw [hml]; exact hl.1.symm) hown (hts _ wA_460) (hts _ wA_461) (hts _ wA_41) (hts _ wA_462) (Nat.le_of_ble_eq_true rfl) (Nat.le_of_ble_eq_true rfl) (Nat.zero_le _) (Nat.zero_le _) d_Sp_latestBeginning_66 ?_
        refine lv_istore (lv' := [(5, .int (if x5 < r63 then r63 else x5)), (0, .ref (a 7)), (1, .ref (a 1)), (2, .int x2), (3, .int x3), (4, .int x4), (6, .int x6)]) hx hb d_Sp_latestBeginning_69 hl (by decide) rfl (fun ls hl => ?_)
        refine lv_iinc (v := (x6 + (-1))) (lv' := [(6, .int (x6 + (-1))), (5, .int (if x5 < r63 then r63 else x5)), (0, .ref (a 7)), (1, .ref (a 1)), (2, .int x2), (3, .int x3), (4, .int x4)]) hx hb d_Sp_latestBeginning_71 hl (k := 6) rfl rfl (by decide) rfl (fun ls hl => ?_)
        refine lv_goto (tgt := 25) hx hb d_Sp_latestBeginning_74 (by decide) ?_
        exact ih _ _ _ _ _ _ _ _ ls hw hI (lv_sub hl [2, 3, 4, 5, 6, 1, 0] rfl)
set_option maxRecDepth 100000 in
set_option maxHeartbeats 4000000 in
theorem c_Sp_latestBeginning (l : Launch) (dC : Nat → ClassId) (dI : Nat → Nat → Nat) (cA : ClassId) (a : Nat → Nat) (u : tS) (x2 : Int32) (x3 : Int32) (x4 : Int32) (post : Int32 → tS → Prop) (sz : Nat) : Met l y_Sp_latestBeginning ws_Sp_latestBeginning ({ frames := 4, cells := 0, slots := 0, locals := 97 }) (va_Pc [.ref (a 7), .ref (a 1), .int x2, .int x3, .int x4] (tP (dC, dI) twCl [(cA, .int)] (wdX a cA) u sz (w_Sp_latestBeginning post x2 x3 x4 u))) (va_Qi post (tB (dC, dI) twCl [(cA, .int)] (va_A (wdX a cA u) sz) (wdX a cA)) (va_A (wdX a cA u) sz)) 0 0 (va_A (wdX a cA u) sz) := by
  refine Met.ofW (cc := b_Sp_latestBeginning) (maxL := 7) (ret := (some .int)) (by decide) rfl ?_
  intro p e s m args below meth c s₁ B hml hv
  obtain ⟨rfl, hsz, hP, hK, hD0, hN, hw⟩ := hv
  have hx := B.exec
  have hb := B.bytes
  have hr := B.returns
  have hts : ∀ w ∈ wsA, w.before _ s = true := fun w h => atoms_spec (ws := ws_Sp_latestBeginning) B.pre w (List.mem_cons_of_mem _ h)
  have hown : s.vm.findClass R_Sp = some m.cls := findClass_of_methodNamed B.named
  have hlocks := B.notSynchronized
  subst hsz
  have hD := hD0.self (sz := s.heap.size)
  generalize hAe : va_A (wdX a cA u) s.heap.size = A at hD ⊢
  have hA : ∀ q : Nat, s.heap.size ≤ q → A q := fun q h => by rw [← hAe]; exact Or.inr h
  have hS : va_S A s.heap s.heap [] := va_S.rf
  have hI : tX (dC, dI) twCl [(cA, .int)] A s s.heap [] (wdX a cA u) := ⟨hK, hP, hD, hS⟩
  have hC : tC p s m meth c ([.ref (a 7), .ref (a 1), .int x2, .int x3, .int x4] : List Value).toArray b_Sp_latestBeginning 7 (some .int) wsA R_Sp A := ⟨hx, hb, hr, hml, hown, hts, hlocks, hA, hN⟩
  have hl := lv_entry ([.ref (a 7), .ref (a 1), .int x2, .int x3, .int x4]) (n := 7) (Nat.le_of_ble_eq_true rfl)
  rw [lg_entry_eq]
  generalize (lg_sl ([.ref (a 7), .ref (a 1), .int x2, .int x3, .int x4]) ++ List.replicate (7 - (lg_sl ([.ref (a 7), .ref (a 1), .int x2, .int x3, .int x4])).length) Slot.unset).toArray = ls at hl ⊢
  have hl : lv_has ls 7 [(0, .ref (a 7)), (1, .ref (a 1)), (2, .int x2), (3, .int x3), (4, .int x4)] := hl
  have hw : (w_Wa_anyNumber (fun r8 u8 => (∃ k, w_Sp_latestBeginning_25 post k x2 x3 x4 (x4 - r8) ((u8.1 2) - 1) u8)) x2 x3 u) := hw
  refine lv_iload hx hb d_Sp_latestBeginning_0 (lv_at hl 4 rfl) ?_
  refine lv_aload_n hx hb d_Sp_latestBeginning_2 rfl (lv_at hl 1 rfl) ?_
  refine va_get (D := (dC, dI)) (C := R_Ne) (T := F_Ne) (N := 5) hx hb hts in_Ne hown hI.1 hI.2.1 1 (wdX_o1 a cA _) rfl 4 (by decide) (hts _ wA_176) (fun _ h9 => h9) rfl d_Sp_latestBeginning_3 ?_
  refine lv_iload_n hx hb d_Sp_latestBeginning_6 rfl (lv_at hl 2 rfl) ?_
  refine lv_iload_n hx hb d_Sp_latestBeginning_7 rfl (lv_at hl 3 rfl) ?_
  refine tr_goi (w := wdX a cA) hI hA (va_runV (As := [.int x2, .int x3]) (rest := [.int x4]) ⟨hx, hb, hml, hown, hts⟩ (c_Wa_anyNumber l dC dI cA a _ _ _ _ _) (cwV 2 hts (wsA_goodV wA_440 wA_361 wA_362 wA_34 wA_363) rfl rfl rfl (by decide +kernel) ⟨Nat.le_of_ble_eq_true rfl, Nat.le_of_ble_eq_true rfl⟩) (tr_preV (ci := 4) (q0 := 4) hI rfl (wdX_o4 a cA _) rfl hN hw) rfl rfl hl.1 rfl (lv_room (Nat.le_of_ble_eq_true rfl)) d_Sp_latestBeginning_8 ⟨Nat.zero_le _, Nat.zero_le _⟩) (fun r8 u8 H locs hw hI => ?_)
  refine lv_isub hx hb d_Sp_latestBeginning_11 ?_
  refine lv_istore (lv' := [(5, .int (x4 - r8)), (0, .ref (a 7)), (1, .ref (a 1)), (2, .int x2), (3, .int x3), (4, .int x4)]) hx hb d_Sp_latestBeginning_12 hl (by decide) rfl (fun ls hl => ?_)
  refine lv_aload_n hx hb d_Sp_latestBeginning_14 rfl (lv_at hl 2 rfl) ?_
  refine va_get (D := (dC, dI)) (C := R_Ne) (T := F_Ne) (N := 5) hx hb hts in_Ne hown hI.1 hI.2.1 1 (wdX_o1 a cA _) rfl 3 (by decide) (hts _ wA_172) (fun _ h9 => h9) rfl d_Sp_latestBeginning_15 ?_
  refine va_get (D := (dC, dI)) (C := R_Bo) (T := F_Bo) (N := 3) hx hb hts in_Bo hown hI.1 hI.2.1 3 (wdX_o3 a cA _) rfl 0 (by decide) (hts _ wA_112) (fun _ h9 => h9) rfl d_Sp_latestBeginning_18 ?_
  refine lv_iconst (v := 1) hx hb d_Sp_latestBeginning_21 (by decide) ?_
  refine lv_isub hx hb d_Sp_latestBeginning_22 ?_
  refine lv_istore (lv' := [(6, .int ((u8.1 2) - 1)), (5, .int (x4 - r8)), (0, .ref (a 7)), (1, .ref (a 1)), (2, .int x2), (3, .int x3), (4, .int x4)]) hx hb d_Sp_latestBeginning_23 hl (by decide) rfl (fun ls hl => ?_)
  obtain ⟨k, hw⟩ := hw
  exact k_Sp_latestBeginning_25 hC post k _ _ _ _ _ _ _ _ ls hw hI (lv_sub hl [2, 3, 4, 5, 6, 1, 0] rfl)
def w_T_latest (post : Int32 → tS → Prop) (x1 : Int32) (x2 : Int32) (x3 : Int32) (u : tS) : Prop := (w_Ne_hasStops (fun r6 u6 => ((r6 = 0 → (post (-2) u6)) ∧ (¬ r6 = 0 → (w_T_isBy (fun r13 u13 => ((r13 = 0 → (post (-2) u13)) ∧ (¬ r13 = 0 → (w_Sp_latestBeginning (fun r33 u33 => (post r33 u33)) x1 x2 x3 u13)))) x3 u6)))) x1 x2 u)
set_option maxRecDepth 100000 in
set_option maxHeartbeats 4000000 in
theorem c_T_latest (l : Launch) (dC : Nat → ClassId) (dI : Nat → Nat → Nat) (cA : ClassId) (a : Nat → Nat) (u : tS) (x1 : Int32) (x2 : Int32) (x3 : Int32) (post : Int32 → tS → Prop) (sz : Nat) : Met l y_T_latest ws_T_latest ({ frames := 5, cells := 0, slots := 0, locals := 123 }) (va_Pc [.ref (a 0), .int x1, .int x2, .int x3] (tP (dC, dI) twCl [(cA, .int)] (wdX a cA) u sz (w_T_latest post x1 x2 x3 u))) (va_Qi post (tB (dC, dI) twCl [(cA, .int)] (va_A (wdX a cA u) sz) (wdX a cA)) (va_A (wdX a cA u) sz)) 0 0 (va_A (wdX a cA u) sz) := by
  refine Met.ofW (cc := b_T_latest) (maxL := 4) (ret := (some .int)) (by decide) rfl ?_
  intro p e s m args below meth c s₁ B hml hv
  obtain ⟨rfl, hsz, hP, hK, hD0, hN, hw⟩ := hv
  have hx := B.exec
  have hb := B.bytes
  have hr := B.returns
  have hts : ∀ w ∈ wsA, w.before _ s = true := fun w h => atoms_spec (ws := ws_T_latest) B.pre w (List.mem_cons_of_mem _ h)
  have hown : s.vm.findClass R_T = some m.cls := findClass_of_methodNamed B.named
  have hlocks := B.notSynchronized
  subst hsz
  have hD := hD0.self (sz := s.heap.size)
  generalize hAe : va_A (wdX a cA u) s.heap.size = A at hD ⊢
  have hA : ∀ q : Nat, s.heap.size ≤ q → A q := fun q h => by rw [← hAe]; exact Or.inr h
  have hS : va_S A s.heap s.heap [] := va_S.rf
  have hI : tX (dC, dI) twCl [(cA, .int)] A s s.heap [] (wdX a cA u) := ⟨hK, hP, hD, hS⟩
  have hC : tC p s m meth c ([.ref (a 0), .int x1, .int x2, .int x3] : List Value).toArray b_T_latest 4 (some .int) wsA R_T A := ⟨hx, hb, hr, hml, hown, hts, hlocks, hA, hN⟩
  have hl := lv_entry ([.ref (a 0), .int x1, .int x2, .int x3]) (n := 4) (Nat.le_of_ble_eq_true rfl)
  rw [lg_entry_eq]
  generalize (lg_sl ([.ref (a 0), .int x1, .int x2, .int x3]) ++ List.replicate (4 - (lg_sl ([.ref (a 0), .int x1, .int x2, .int x3])).length) Slot.unset).toArray = ls at hl ⊢
  have hl : lv_has ls 4 [(0, .ref (a 0)), (1, .int x1), (2, .int x2), (3, .int x3)] := hl
  have hw : (w_Ne_hasStops (fun r6 u6 => ((r6 = 0 → (post (-2) u6)) ∧ (¬ r6 = 0 → (w_T_isBy (fun r13 u13 => ((r13 = 0 → (post (-2) u13)) ∧ (¬ r13 = 0 → (w_Sp_latestBeginning (fun r33 u33 => (post r33 u33)) x1 x2 x3 u13)))) x3 u6)))) x1 x2 u) := hw
  refine lv_aload_n hx hb d_T_latest_0 rfl (lv_at hl 0 rfl) ?_
  refine va_get (D := (dC, dI)) (C := R_T) (T := F_T) (N := 6) hx hb hts in_T hown hI.1 hI.2.1 0 (wdX_o0 a cA _) rfl 0 (by decide) (hts _ wA_264) (fun _ h9 => h9) rfl d_T_latest_1 ?_
  refine lv_iload_n hx hb d_T_latest_4 rfl (lv_at hl 1 rfl) ?_
  refine lv_iload_n hx hb d_T_latest_5 rfl (lv_at hl 2 rfl) ?_
  refine tr_goi (w := wdX a cA) hI hA (va_runV (As := [.int x1, .int x2]) (rest := []) ⟨hx, hb, hml, hown, hts⟩ (c_Ne_hasStops l dC dI cA a _ _ _ _ _) (cwV 2 hts (wsA_goodV wA_315 wA_316 wA_317 wA_31 wA_318) rfl rfl rfl (by decide +kernel) ⟨Nat.le_of_ble_eq_true rfl, Nat.le_of_ble_eq_true rfl⟩) (tr_preV (ci := 1) (q0 := 1) hI rfl (wdX_o1 a cA _) rfl hN hw) rfl rfl hl.1 rfl (lv_room (Nat.le_of_ble_eq_true rfl)) d_T_latest_6 ⟨Nat.zero_le _, Nat.zero_le _⟩) (fun r6 u6 H locs hw hI => ?_)
  refine lv_if_eq (tgt := 19) hx hb d_T_latest_9 (by decide) (fun hc => ?_) (fun hc => ?_)
  · have hw := hw.1 hc
    refine lv_bipush (v := (-2)) hx hb d_T_latest_19 (by decide) ?_
    exact tr_iret hx hb hr hlocks hI hw d_T_latest_21
  · have hw := hw.2 hc
    refine lv_iload_n hx hb d_T_latest_12 rfl (lv_at hl 3 rfl) ?_
    refine tr_goi (w := wdX a cA) hI hA (va_runS (As := [.int x3]) (rest := []) ⟨hx, hb, hml, hown, hts⟩ (c_T_isBy l dC dI cA a _ _ _ _) ⟨callB_of 1 hts (wsA_good wA_435) rfl rfl rfl (hts _ wA_30) (hts _ wA_433) (by decide +kernel) ⟨Nat.le_of_ble_eq_true rfl, Nat.le_of_ble_eq_true rfl⟩, hts _ wA_434⟩ (tr_preS hI hN hw) rfl rfl hl.1 rfl (lv_room (Nat.le_of_ble_eq_true rfl)) d_T_latest_13 ⟨Nat.zero_le _, Nat.zero_le _⟩) (fun r13 u13 H locs hw hI => ?_)
    refine lv_if_ne (tgt := 22) hx hb d_T_latest_16 (by decide) (fun hc => ?_) (fun hc => ?_)
    · have hw := hw.2 hc
      refine lv_aload_n hx hb d_T_latest_22 rfl (lv_at hl 0 rfl) ?_
      refine va_get (D := (dC, dI)) (C := R_T) (T := F_T) (N := 6) hx hb hts in_T hown hI.1 hI.2.1 0 (wdX_o0 a cA _) rfl 3 (by decide) (hts _ wA_267) (fun _ h9 => h9) rfl d_T_latest_23 ?_
      refine lv_aload_n hx hb d_T_latest_26 rfl (lv_at hl 0 rfl) ?_
      refine va_get (D := (dC, dI)) (C := R_T) (T := F_T) (N := 6) hx hb hts in_T hown hI.1 hI.2.1 0 (wdX_o0 a cA _) rfl 0 (by decide) (hts _ wA_264) (fun _ h9 => h9) rfl d_T_latest_27 ?_
      refine lv_iload_n hx hb d_T_latest_30 rfl (lv_at hl 1 rfl) ?_
      refine lv_iload_n hx hb d_T_latest_31 rfl (lv_at hl 2 rfl) ?_
      refine lv_iload_n hx hb d_T_latest_32 rfl (lv_at hl 3 rfl) ?_
      refine tr_goi (w := wdX a cA) hI hA (va_runV (As := [.ref (a 1), .int x1, .int x2, .int x3]) (rest := []) ⟨hx, hb, hml, hown, hts⟩ (c_Sp_latestBeginning l dC dI cA a _ _ _ _ _ _) (cwV 4 hts (wsA_goodV wA_436 wA_437 wA_438 wA_37 wA_439) rfl rfl rfl (by decide +kernel) ⟨Nat.le_of_ble_eq_true rfl, Nat.le_of_ble_eq_true rfl⟩) (tr_preV (ci := 6) (q0 := 7) hI rfl (wdX_o7 a cA _) rfl hN hw) rfl rfl hl.1 rfl (lv_room (Nat.le_of_ble_eq_true rfl)) d_T_latest_33 ⟨Nat.zero_le _, Nat.zero_le _⟩) (fun r33 u33 H locs hw hI => ?_)
      exact tr_iret hx hb hr hlocks hI hw d_T_latest_36
    · have hw := hw.1 hc
      refine lv_bipush (v := (-2)) hx hb d_T_latest_19 (by decide) ?_
      exact tr_iret hx hb hr hlocks hI hw d_T_latest_21
def w_Ar_copy (post : tS → Prop) (u : tS) : Prop := (post (tY (tY u 13 15 12) 14 16 12))
set_option maxRecDepth 100000 in
set_option maxHeartbeats 4000000 in
theorem c_Ar_copy (l : Launch) (dC : Nat → ClassId) (dI : Nat → Nat → Nat) (cA : ClassId) (a : Nat → Nat) (u : tS) (post : tS → Prop) (sz : Nat) : Met l y_Ar_copy ws_Ar_copy ({ frames := 1, cells := 0, slots := 0, locals := 18 }) (va_Pc [.ref (a 6), .ref (a 5)] (tP (dC, dI) twCl [(cA, .int)] (wdX a cA) u sz (w_Ar_copy post u))) (va_Qv post (tB (dC, dI) twCl [(cA, .int)] (va_A (wdX a cA u) sz) (wdX a cA)) (va_A (wdX a cA u) sz)) 0 0 (va_A (wdX a cA u) sz) := by
  refine Met.ofW (cc := b_Ar_copy) (maxL := 2) (ret := none) (by decide) rfl ?_
  intro p e s m args below meth c s₁ B hml hv
  obtain ⟨rfl, hsz, hP, hK, hD0, hN, hw⟩ := hv
  have hx := B.exec
  have hb := B.bytes
  have hr := B.returns
  have hts : ∀ w ∈ wsA, w.before _ s = true := fun w h => atoms_spec (ws := ws_Ar_copy) B.pre w (List.mem_cons_of_mem _ h)
  have hown : s.vm.findClass R_Ar = some m.cls := findClass_of_methodNamed B.named
  have hlocks := B.notSynchronized
  subst hsz
  have hD := hD0.self (sz := s.heap.size)
  generalize hAe : va_A (wdX a cA u) s.heap.size = A at hD ⊢
  have hA : ∀ q : Nat, s.heap.size ≤ q → A q := fun q h => by rw [← hAe]; exact Or.inr h
  have hS : va_S A s.heap s.heap [] := va_S.rf
  have hI : tX (dC, dI) twCl [(cA, .int)] A s s.heap [] (wdX a cA u) := ⟨hK, hP, hD, hS⟩
  have hC : tC p s m meth c ([.ref (a 6), .ref (a 5)] : List Value).toArray b_Ar_copy 2 none wsA R_Ar A := ⟨hx, hb, hr, hml, hown, hts, hlocks, hA, hN⟩
  have hl := lv_entry ([.ref (a 6), .ref (a 5)]) (n := 2) (Nat.le_of_ble_eq_true rfl)
  rw [lg_entry_eq]
  generalize (lg_sl ([.ref (a 6), .ref (a 5)]) ++ List.replicate (2 - (lg_sl ([.ref (a 6), .ref (a 5)])).length) Slot.unset).toArray = ls at hl ⊢
  have hl : lv_has ls 2 [(0, .ref (a 6)), (1, .ref (a 5))] := hl
  have hw : (post (tY (tY u 13 15 12) 14 16 12)) := hw
  refine lv_aload_n hx hb d_Ar_copy_0 rfl (lv_at hl 1 rfl) ?_
  refine va_get (D := (dC, dI)) (C := R_Ar) (T := F_Ar) (N := 2) hx hb hts in_Ar hown hI.1 hI.2.1 5 (wdX_o5 a cA _) rfl 0 (by decide) (hts _ wA_197) (fun _ h9 => h9) rfl d_Ar_copy_1 ?_
  refine lv_iconst (v := 0) hx hb d_Ar_copy_4 (by decide) ?_
  refine lv_aload_n hx hb d_Ar_copy_5 rfl (lv_at hl 0 rfl) ?_
  refine va_get (D := (dC, dI)) (C := R_Ar) (T := F_Ar) (N := 2) hx hb hts in_Ar hown hI.1 hI.2.1 6 (wdX_o6 a cA _) rfl 0 (by decide) (hts _ wA_197) (fun _ h9 => h9) rfl d_Ar_copy_6 ?_
  refine lv_iconst (v := 0) hx hb d_Ar_copy_9 (by decide) ?_
  refine lv_bipush (v := 12) hx hb d_Ar_copy_10 (by decide) ?_
  refine tr_copy (w := wdX a cA) (n := 12) hx hb (by rw [hml]; exact hl.1.symm) hown (hts _ wA_472) (hts _ wA_474) (hts _ wA_473) (hts _ wA_42) hI 23 25 13 15 0 (wdX_o23 a cA _) (wdX_o25 a cA _) rfl (wdX_y13_15 a cA _) (by decide) (by decide) (by decide) (by decide) (Nat.le_of_ble_eq_true rfl) (Nat.le_of_ble_eq_true rfl) d_Ar_copy_12 (fun H locs hI => ?_)
  refine lv_aload_n hx hb d_Ar_copy_15 rfl (lv_at hl 1 rfl) ?_
  refine va_get (D := (dC, dI)) (C := R_Ar) (T := F_Ar) (N := 2) hx hb hts in_Ar hown hI.1 hI.2.1 5 (wdX_o5 a cA _) rfl 1 (by decide) (hts _ wA_198) (fun _ h9 => h9) rfl d_Ar_copy_16 ?_
  refine lv_iconst (v := 0) hx hb d_Ar_copy_19 (by decide) ?_
  refine lv_aload_n hx hb d_Ar_copy_20 rfl (lv_at hl 0 rfl) ?_
  refine va_get (D := (dC, dI)) (C := R_Ar) (T := F_Ar) (N := 2) hx hb hts in_Ar hown hI.1 hI.2.1 6 (wdX_o6 a cA _) rfl 1 (by decide) (hts _ wA_198) (fun _ h9 => h9) rfl d_Ar_copy_21 ?_
  refine lv_iconst (v := 0) hx hb d_Ar_copy_24 (by decide) ?_
  refine lv_bipush (v := 12) hx hb d_Ar_copy_25 (by decide) ?_
  refine tr_copy (w := wdX a cA) (n := 12) hx hb (by rw [hml]; exact hl.1.symm) hown (hts _ wA_472) (hts _ wA_474) (hts _ wA_473) (hts _ wA_42) hI 24 26 14 16 0 (wdX_o24 a cA _) (wdX_o26 a cA _) rfl (wdX_y14_16 a cA _) (by decide) (by decide) (by decide) (by decide) (Nat.le_of_ble_eq_true rfl) (Nat.le_of_ble_eq_true rfl) d_Ar_copy_27 (fun H locs hI => ?_)
  exact tr_vret hx hb hr hlocks hI hw d_Ar_copy_30
def w_Ar_mayTake2 (post : Int32 → tS → Prop) (x2 : Int32) (x3 : Int32) (u : tS) : Prop := (vp_in x2 12 ∧ (((u.2 16 x2.toNatClampNeg) ≤ x3 → (post 1 u)) ∧ (¬ (u.2 16 x2.toNatClampNeg) ≤ x3 → (vp_in x2 12 ∧ (vp_in x2 12 ∧ ((x3 < ((u.2 15 x2.toNatClampNeg) + (u.2 0 x2.toNatClampNeg)) → (post 0 u)) ∧ (¬ x3 < ((u.2 15 x2.toNatClampNeg) + (u.2 0 x2.toNatClampNeg)) → (post 1 u))))))))
set_option maxRecDepth 100000 in
set_option maxHeartbeats 4000000 in
theorem c_Ar_mayTake2 (l : Launch) (dC : Nat → ClassId) (dI : Nat → Nat → Nat) (cA : ClassId) (a : Nat → Nat) (u : tS) (x2 : Int32) (x3 : Int32) (post : Int32 → tS → Prop) (sz : Nat) : Met l y_Ar_mayTake ws_Ar_mayTake ({ frames := 0, cells := 0, slots := 0, locals := 0 }) (va_Pc [.ref (a 6), .ref (a 1), .int x2, .int x3] (tP (dC, dI) twCl [(cA, .int)] (wdX a cA) u sz (w_Ar_mayTake2 post x2 x3 u))) (va_Qi post (tB (dC, dI) twCl [(cA, .int)] (va_A (wdX a cA u) sz) (wdX a cA)) (va_A (wdX a cA u) sz)) 0 0 (va_A (wdX a cA u) sz) := by
  refine Met.ofW (cc := b_Ar_mayTake) (maxL := 4) (ret := (some .boolean)) (by decide) rfl ?_
  intro p e s m args below meth c s₁ B hml hv
  obtain ⟨rfl, hsz, hP, hK, hD0, hN, hw⟩ := hv
  have hx := B.exec
  have hb := B.bytes
  have hr := B.returns
  have hts : ∀ w ∈ wsA, w.before _ s = true := fun w h => atoms_spec (ws := ws_Ar_mayTake) B.pre w (List.mem_cons_of_mem _ h)
  have hown : s.vm.findClass R_Ar = some m.cls := findClass_of_methodNamed B.named
  have hlocks := B.notSynchronized
  subst hsz
  have hD := hD0.self (sz := s.heap.size)
  generalize hAe : va_A (wdX a cA u) s.heap.size = A at hD ⊢
  have hA : ∀ q : Nat, s.heap.size ≤ q → A q := fun q h => by rw [← hAe]; exact Or.inr h
  have hS : va_S A s.heap s.heap [] := va_S.rf
  have hI : tX (dC, dI) twCl [(cA, .int)] A s s.heap [] (wdX a cA u) := ⟨hK, hP, hD, hS⟩
  have hC : tC p s m meth c ([.ref (a 6), .ref (a 1), .int x2, .int x3] : List Value).toArray b_Ar_mayTake 4 (some .boolean) wsA R_Ar A := ⟨hx, hb, hr, hml, hown, hts, hlocks, hA, hN⟩
  have hl := lv_entry ([.ref (a 6), .ref (a 1), .int x2, .int x3]) (n := 4) (Nat.le_of_ble_eq_true rfl)
  rw [lg_entry_eq]
  generalize (lg_sl ([.ref (a 6), .ref (a 1), .int x2, .int x3]) ++ List.replicate (4 - (lg_sl ([.ref (a 6), .ref (a 1), .int x2, .int x3])).length) Slot.unset).toArray = ls at hl ⊢
  have hl : lv_has ls 4 [(0, .ref (a 6)), (1, .ref (a 1)), (2, .int x2), (3, .int x3)] := hl
  have hw : (vp_in x2 12 ∧ (((u.2 16 x2.toNatClampNeg) ≤ x3 → (post 1 u)) ∧ (¬ (u.2 16 x2.toNatClampNeg) ≤ x3 → (vp_in x2 12 ∧ (vp_in x2 12 ∧ ((x3 < ((u.2 15 x2.toNatClampNeg) + (u.2 0 x2.toNatClampNeg)) → (post 0 u)) ∧ (¬ x3 < ((u.2 15 x2.toNatClampNeg) + (u.2 0 x2.toNatClampNeg)) → (post 1 u)))))))) := hw
  refine lv_iload_n hx hb d_Ar_mayTake_0 rfl (lv_at hl 3 rfl) ?_
  refine lv_aload_n hx hb d_Ar_mayTake_1 rfl (lv_at hl 0 rfl) ?_
  refine va_get (D := (dC, dI)) (C := R_Ar) (T := F_Ar) (N := 2) hx hb hts in_Ar hown hI.1 hI.2.1 6 (wdX_o6 a cA _) rfl 1 (by decide) (hts _ wA_198) (fun _ h9 => h9) rfl d_Ar_mayTake_2 ?_
  refine lv_iload_n hx hb d_Ar_mayTake_5 rfl (lv_at hl 2 rfl) ?_
  obtain ⟨hi, hw⟩ := hw
  refine va_iald (D := (dC, dI)) hx hb hI.1 hI.2.1 26 0 (wdX_o26 a cA _) rfl hi d_Ar_mayTake_6 ?_
  refine lv_icmp_ge (tgt := 27) hx hb d_Ar_mayTake_7 (by decide) (fun hc => ?_) (fun hc => ?_)
  · have hw := hw.1 hc
    refine lv_iconst (v := 1) hx hb d_Ar_mayTake_27 (by decide) ?_
    refine lv_goto (tgt := 32) hx hb d_Ar_mayTake_28 (by decide) ?_
    exact tr_zret hx hb hr hlocks hI rfl hw d_Ar_mayTake_32
  · have hw := hw.2 hc
    refine lv_iload_n hx hb d_Ar_mayTake_10 rfl (lv_at hl 3 rfl) ?_
    refine lv_aload_n hx hb d_Ar_mayTake_11 rfl (lv_at hl 0 rfl) ?_
    refine va_get (D := (dC, dI)) (C := R_Ar) (T := F_Ar) (N := 2) hx hb hts in_Ar hown hI.1 hI.2.1 6 (wdX_o6 a cA _) rfl 0 (by decide) (hts _ wA_197) (fun _ h9 => h9) rfl d_Ar_mayTake_12 ?_
    refine lv_iload_n hx hb d_Ar_mayTake_15 rfl (lv_at hl 2 rfl) ?_
    obtain ⟨hi, hw⟩ := hw
    refine va_iald (D := (dC, dI)) hx hb hI.1 hI.2.1 25 0 (wdX_o25 a cA _) rfl hi d_Ar_mayTake_16 ?_
    refine lv_aload_n hx hb d_Ar_mayTake_17 rfl (lv_at hl 1 rfl) ?_
    refine va_get (D := (dC, dI)) (C := R_Ne) (T := F_Ne) (N := 5) hx hb hts in_Ne hown hI.1 hI.2.1 1 (wdX_o1 a cA _) rfl 1 (by decide) (hts _ wA_165) (fun _ h9 => h9) rfl d_Ar_mayTake_18 ?_
    refine lv_iload_n hx hb d_Ar_mayTake_21 rfl (lv_at hl 2 rfl) ?_
    obtain ⟨hi, hw⟩ := hw
    refine va_iald (D := (dC, dI)) hx hb hI.1 hI.2.1 10 0 (wdX_o10 a cA _) rfl hi d_Ar_mayTake_22 ?_
    refine lv_iadd hx hb d_Ar_mayTake_23 ?_
    refine lv_icmp_lt (tgt := 31) hx hb d_Ar_mayTake_24 (by decide) (fun hc => ?_) (fun hc => ?_)
    · have hw := hw.1 hc
      refine lv_iconst (v := 0) hx hb d_Ar_mayTake_31 (by decide) ?_
      exact tr_zret hx hb hr hlocks hI rfl hw d_Ar_mayTake_32
    · have hw := hw.2 hc
      refine lv_iconst (v := 1) hx hb d_Ar_mayTake_27 (by decide) ?_
      refine lv_goto (tgt := 32) hx hb d_Ar_mayTake_28 (by decide) ?_
      exact tr_zret hx hb hr hlocks hI rfl hw d_Ar_mayTake_32
def w_Ar_addOneDeparture2_2 (post : tS → Prop) : Nat → Int32 → tS → Prop
  | 0 => fun _ _ => False
  | n + 1 => fun x3 u => (((u.1 2) ≤ x3 → (post u)) ∧ (¬ (u.1 2) ≤ x3 → (w_Bo_rideAt (fun r18 u18 => (vp_in x3 280 ∧ (vp_in r18 40 ∧ (w_Ar_mayTake2 (fun r48 u48 => ((r48 = 0 → (w_Ar_addOneDeparture2_2 post n (x3 + 1) u48)) ∧ (¬ r48 = 0 → (vp_in r18 40 ∧ (vp_in r18 40 ∧ (w_Ar_arrive (fun u79 => (w_Ar_addOneDeparture2_2 post n (x3 + 1) u79)) (u48.2 2 r18.toNatClampNeg) ((u18.2 8 x3.toNatClampNeg) + (u48.2 4 r18.toNatClampNeg)) u48)))))) (u18.2 1 r18.toNatClampNeg) (u18.2 8 x3.toNatClampNeg) u18)))) x3 u)))
def w_Ar_addOneDeparture2 (post : tS → Prop) (u : tS) : Prop := (∃ k, w_Ar_addOneDeparture2_2 post k 0 u)
set_option maxRecDepth 100000 in
set_option maxHeartbeats 4000000 in
theorem k_Ar_addOneDeparture2_2 {p : Program} {l : Launch} {e : Env} {s : State} {m : MethodId} {args : Array Value} {below : List Frame} {meth : Method} {c : Code} {dC : Nat → ClassId} {dI : Nat → Nat → Nat} {cA : ClassId} {a : Nat → Nat} {A : Nat → Prop} (hC : tC p s m meth c args b_Ar_addOneDeparture 6 none wsA R_Ar A) (post : tS → Prop) : ∀ n : Nat, ∀ (x3 : Int32) (u : tS) (H : Heap) (locs : List Loc) (ls : Array Slot), w_Ar_addOneDeparture2_2 post n x3 u → tX (dC, dI) twCl [(cA, .int)] A s H locs (wdX a cA u) → lv_has ls 6 [(0, .ref (a 5)), (1, .ref (a 1)), (2, .ref (a 6)), (3, .int x3)] → W p l e ({ frames := 2, cells := 0, slots := 0, locals := 46 }) s m args below meth c H locs 0 0 (MQ below (va_Qv post (tB (dC, dI) twCl [(cA, .int)] A (wdX a cA)) A) args s 0 0 A) (F0 m 2 ls []) := by
  obtain ⟨hx, hb, hr, hml, hown, hts, hlocks, hA, hN⟩ := id hC
  intro n
  induction n with
  | zero => intro x3 u H locs ls hw; exact False.elim hw
  | succ n ih =>
    intro x3 u H locs ls hw hI hl
    refine lv_iload_n hx hb d_Ar_addOneDeparture_2 rfl (lv_at hl 3 rfl) ?_
    refine lv_aload_n hx hb d_Ar_addOneDeparture_3 rfl (lv_at hl 1 rfl) ?_
    refine va_get (D := (dC, dI)) (C := R_Ne) (T := F_Ne) (N := 5) hx hb hts in_Ne hown hI.1 hI.2.1 1 (wdX_o1 a cA _) rfl 3 (by decide) (hts _ wA_174) (fun _ h9 => h9) rfl d_Ar_addOneDeparture_4 ?_
    refine va_get (D := (dC, dI)) (C := R_Bo) (T := F_Bo) (N := 3) hx hb hts in_Bo hown hI.1 hI.2.1 3 (wdX_o3 a cA _) rfl 0 (by decide) (hts _ wA_114) (fun _ h9 => h9) rfl d_Ar_addOneDeparture_7 ?_
    refine lv_icmp_ge (tgt := 88) hx hb d_Ar_addOneDeparture_10 (by decide) (fun hc => ?_) (fun hc => ?_)
    · have hw := hw.1 hc
      exact tr_vret hx hb hr hlocks hI hw d_Ar_addOneDeparture_88
    · have hw := hw.2 hc
      refine lv_aload_n hx hb d_Ar_addOneDeparture_13 rfl (lv_at hl 1 rfl) ?_
      refine va_get (D := (dC, dI)) (C := R_Ne) (T := F_Ne) (N := 5) hx hb hts in_Ne hown hI.1 hI.2.1 1 (wdX_o1 a cA _) rfl 3 (by decide) (hts _ wA_174) (fun _ h9 => h9) rfl d_Ar_addOneDeparture_14 ?_
      refine lv_iload_n hx hb d_Ar_addOneDeparture_17 rfl (lv_at hl 3 rfl) ?_
      refine tr_goi (w := wdX a cA) hI hA (va_runV (As := [.int x3]) (rest := []) ⟨hx, hb, hml, hown, hts⟩ (c_Bo_rideAt l dC dI cA a _ _ _ _) (cwV 1 hts (wsA_goodV wA_408 wA_409 wA_410 wA_33 wA_411) rfl rfl rfl (by decide +kernel) ⟨Nat.le_of_ble_eq_true rfl, Nat.le_of_ble_eq_true rfl⟩) (tr_preV (ci := 3) (q0 := 3) hI rfl (wdX_o3 a cA _) rfl hN hw) rfl rfl hl.1 rfl (lv_room (Nat.le_of_ble_eq_true rfl)) d_Ar_addOneDeparture_18 ⟨Nat.zero_le _, Nat.zero_le _⟩) (fun r18 u18 H locs hw hI => ?_)
      refine lv_istore (lv' := [(4, .int r18), (0, .ref (a 5)), (1, .ref (a 1)), (2, .ref (a 6)), (3, .int x3)]) hx hb d_Ar_addOneDeparture_21 hl (by decide) rfl (fun ls hl => ?_)
      refine lv_aload_n hx hb d_Ar_addOneDeparture_23 rfl (lv_at hl 2 rfl) ?_
      refine va_get (D := (dC, dI)) (C := R_Ne) (T := F_Ne) (N := 5) hx hb hts in_Ne hown hI.1 hI.2.1 1 (wdX_o1 a cA _) rfl 3 (by decide) (hts _ wA_174) (fun _ h9 => h9) rfl d_Ar_addOneDeparture_24 ?_
      refine va_get (D := (dC, dI)) (C := R_Bo) (T := F_Bo) (N := 3) hx hb hts in_Bo hown hI.1 hI.2.1 3 (wdX_o3 a cA _) rfl 2 (by decide) (hts _ wA_119) (fun _ h9 => h9) rfl d_Ar_addOneDeparture_27 ?_
      refine lv_iload_n hx hb d_Ar_addOneDeparture_30 rfl (lv_at hl 4 rfl) ?_
      obtain ⟨hi, hw⟩ := hw
      refine va_iald (D := (dC, dI)) hx hb hI.1 hI.2.1 18 0 (wdX_o18 a cA _) rfl hi d_Ar_addOneDeparture_31 ?_
      refine lv_istore (lv' := [(5, .int (u18.2 8 x3.toNatClampNeg)), (4, .int r18), (0, .ref (a 5)), (1, .ref (a 1)), (2, .ref (a 6)), (3, .int x3)]) hx hb d_Ar_addOneDeparture_32 hl (by decide) rfl (fun ls hl => ?_)
      refine lv_aload_n hx hb d_Ar_addOneDeparture_34 rfl (lv_at hl 4 rfl) ?_
      refine lv_aload_n hx hb d_Ar_addOneDeparture_35 rfl (lv_at hl 3 rfl) ?_
      refine lv_aload_n hx hb d_Ar_addOneDeparture_36 rfl (lv_at hl 3 rfl) ?_
      refine va_get (D := (dC, dI)) (C := R_Ne) (T := F_Ne) (N := 5) hx hb hts in_Ne hown hI.1 hI.2.1 1 (wdX_o1 a cA _) rfl 2 (by decide) (hts _ wA_170) (fun _ h9 => h9) rfl d_Ar_addOneDeparture_37 ?_
      refine va_get (D := (dC, dI)) (C := R_Ri) (T := F_Ri) (N := 7) hx hb hts in_Ri hown hI.1 hI.2.1 2 (wdX_o2 a cA _) rfl 1 (by decide) (hts _ wA_71) (fun _ h9 => h9) rfl d_Ar_addOneDeparture_40 ?_
      refine lv_iload hx hb d_Ar_addOneDeparture_43 (lv_at hl 1 rfl) ?_
      obtain ⟨hi, hw⟩ := hw
      refine va_iald (D := (dC, dI)) hx hb hI.1 hI.2.1 11 0 (wdX_o11 a cA _) rfl hi d_Ar_addOneDeparture_45 ?_
      refine lv_iload hx hb d_Ar_addOneDeparture_46 (lv_at hl 0 rfl) ?_
      refine tr_goi (w := wdX a cA) hI hA (va_runV (As := [.ref (a 1), .int (u18.2 1 r18.toNatClampNeg), .int (u18.2 8 x3.toNatClampNeg)]) (rest := []) ⟨hx, hb, hml, hown, hts⟩ (c_Ar_mayTake2 l dC dI cA a _ _ _ _ _) (cwV 3 hts (wsA_goodV wA_412 wA_413 wA_414 wA_36 wA_415) rfl rfl rfl (by decide +kernel) ⟨Nat.le_of_ble_eq_true rfl, Nat.le_of_ble_eq_true rfl⟩) (tr_preV (ci := 5) (q0 := 6) hI rfl (wdX_o6 a cA _) rfl hN hw) rfl rfl hl.1 rfl (lv_room (Nat.le_of_ble_eq_true rfl)) d_Ar_addOneDeparture_48 ⟨Nat.zero_le _, Nat.zero_le _⟩) (fun r48 u48 H locs hw hI => ?_)
      refine lv_if_eq (tgt := 82) hx hb d_Ar_addOneDeparture_51 (by decide) (fun hc => ?_) (fun hc => ?_)
      · have hw := hw.1 hc
        refine lv_iinc (v := (x3 + 1)) (lv' := [(3, .int (x3 + 1)), (5, .int (u18.2 8 x3.toNatClampNeg)), (4, .int r18), (0, .ref (a 5)), (1, .ref (a 1)), (2, .ref (a 6))]) hx hb d_Ar_addOneDeparture_82 hl (k := 5) rfl rfl (by decide) rfl (fun ls hl => ?_)
        refine lv_goto (tgt := 2) hx hb d_Ar_addOneDeparture_85 (by decide) ?_
        exact ih _ _ _ _ ls hw hI (lv_sub hl [3, 4, 5, 0] rfl)
      · have hw := hw.2 hc
        refine lv_aload_n hx hb d_Ar_addOneDeparture_54 rfl (lv_at hl 2 rfl) ?_
        refine lv_aload_n hx hb d_Ar_addOneDeparture_55 rfl (lv_at hl 3 rfl) ?_
        refine lv_aload_n hx hb d_Ar_addOneDeparture_56 rfl (lv_at hl 3 rfl) ?_
        refine va_get (D := (dC, dI)) (C := R_Ne) (T := F_Ne) (N := 5) hx hb hts in_Ne hown hI.1 hI.2.1 1 (wdX_o1 a cA _) rfl 2 (by decide) (hts _ wA_170) (fun _ h9 => h9) rfl d_Ar_addOneDeparture_57 ?_
        refine va_get (D := (dC, dI)) (C := R_Ri) (T := F_Ri) (N := 7) hx hb hts in_Ri hown hI.1 hI.2.1 2 (wdX_o2 a cA _) rfl 2 (by decide) (hts _ wA_75) (fun _ h9 => h9) rfl d_Ar_addOneDeparture_60 ?_
        refine lv_iload hx hb d_Ar_addOneDeparture_63 (lv_at hl 1 rfl) ?_
        obtain ⟨hi, hw⟩ := hw
        refine va_iald (D := (dC, dI)) hx hb hI.1 hI.2.1 12 0 (wdX_o12 a cA _) rfl hi d_Ar_addOneDeparture_65 ?_
        refine lv_iload hx hb d_Ar_addOneDeparture_66 (lv_at hl 0 rfl) ?_
        refine lv_aload_n hx hb d_Ar_addOneDeparture_68 rfl (lv_at hl 3 rfl) ?_
        refine va_get (D := (dC, dI)) (C := R_Ne) (T := F_Ne) (N := 5) hx hb hts in_Ne hown hI.1 hI.2.1 1 (wdX_o1 a cA _) rfl 2 (by decide) (hts _ wA_170) (fun _ h9 => h9) rfl d_Ar_addOneDeparture_69 ?_
        refine va_get (D := (dC, dI)) (C := R_Ri) (T := F_Ri) (N := 7) hx hb hts in_Ri hown hI.1 hI.2.1 2 (wdX_o2 a cA _) rfl 4 (by decide) (hts _ wA_82) (fun _ h9 => h9) rfl d_Ar_addOneDeparture_72 ?_
        refine lv_iload hx hb d_Ar_addOneDeparture_75 (lv_at hl 1 rfl) ?_
        obtain ⟨hi, hw⟩ := hw
        refine va_iald (D := (dC, dI)) hx hb hI.1 hI.2.1 14 0 (wdX_o14 a cA _) rfl hi d_Ar_addOneDeparture_77 ?_
        refine lv_iadd hx hb d_Ar_addOneDeparture_78 ?_
        refine tr_gov (w := wdX a cA) hI hA (va_runV (As := [.ref (a 1), .int (u48.2 2 r18.toNatClampNeg), .int ((u18.2 8 x3.toNatClampNeg) + (u48.2 4 r18.toNatClampNeg))]) (rest := []) ⟨hx, hb, hml, hown, hts⟩ (c_Ar_arrive l dC dI cA a _ _ _ _ _) (cwV 3 hts (wsA_goodV wA_416 wA_418 wA_2 wA_36 wA_419) rfl rfl rfl (by decide +kernel) ⟨Nat.le_of_ble_eq_true rfl, Nat.le_of_ble_eq_true rfl⟩) (tr_preV (ci := 5) (q0 := 5) hI rfl (wdX_o5 a cA _) rfl hN hw) rfl rfl hl.1 rfl (lv_room (Nat.le_of_ble_eq_true rfl)) d_Ar_addOneDeparture_79 ⟨Nat.zero_le _, Nat.zero_le _⟩) (fun u79 H locs hw hI => ?_)
        refine lv_iinc (v := (x3 + 1)) (lv' := [(3, .int (x3 + 1)), (5, .int (u18.2 8 x3.toNatClampNeg)), (4, .int r18), (0, .ref (a 5)), (1, .ref (a 1)), (2, .ref (a 6))]) hx hb d_Ar_addOneDeparture_82 hl (k := 5) rfl rfl (by decide) rfl (fun ls hl => ?_)
        refine lv_goto (tgt := 2) hx hb d_Ar_addOneDeparture_85 (by decide) ?_
        exact ih _ _ _ _ ls hw hI (lv_sub hl [3, 4, 5, 0] rfl)
set_option maxRecDepth 100000 in
set_option maxHeartbeats 4000000 in
theorem c_Ar_addOneDeparture2 (l : Launch) (dC : Nat → ClassId) (dI : Nat → Nat → Nat) (cA : ClassId) (a : Nat → Nat) (u : tS) (post : tS → Prop) (sz : Nat) : Met l y_Ar_addOneDeparture ws_Ar_addOneDeparture ({ frames := 2, cells := 0, slots := 0, locals := 46 }) (va_Pc [.ref (a 5), .ref (a 1), .ref (a 6)] (tP (dC, dI) twCl [(cA, .int)] (wdX a cA) u sz (w_Ar_addOneDeparture2 post u))) (va_Qv post (tB (dC, dI) twCl [(cA, .int)] (va_A (wdX a cA u) sz) (wdX a cA)) (va_A (wdX a cA u) sz)) 0 0 (va_A (wdX a cA u) sz) := by
  refine Met.ofW (cc := b_Ar_addOneDeparture) (maxL := 6) (ret := none) (by decide) rfl ?_
  intro p e s m args below meth c s₁ B hml hv
  obtain ⟨rfl, hsz, hP, hK, hD0, hN, hw⟩ := hv
  have hx := B.exec
  have hb := B.bytes
  have hr := B.returns
  have hts : ∀ w ∈ wsA, w.before _ s = true := fun w h => atoms_spec (ws := ws_Ar_addOneDeparture) B.pre w (List.mem_cons_of_mem _ h)
  have hown : s.vm.findClass R_Ar = some m.cls := findClass_of_methodNamed B.named
  have hlocks := B.notSynchronized
  subst hsz
  have hD := hD0.self (sz := s.heap.size)
  generalize hAe : va_A (wdX a cA u) s.heap.size = A at hD ⊢
  have hA : ∀ q : Nat, s.heap.size ≤ q → A q := fun q h => by rw [← hAe]; exact Or.inr h
  have hS : va_S A s.heap s.heap [] := va_S.rf
  have hI : tX (dC, dI) twCl [(cA, .int)] A s s.heap [] (wdX a cA u) := ⟨hK, hP, hD, hS⟩
  have hC : tC p s m meth c ([.ref (a 5), .ref (a 1), .ref (a 6)] : List Value).toArray b_Ar_addOneDeparture 6 none wsA R_Ar A := ⟨hx, hb, hr, hml, hown, hts, hlocks, hA, hN⟩
  have hl := lv_entry ([.ref (a 5), .ref (a 1), .ref (a 6)]) (n := 6) (Nat.le_of_ble_eq_true rfl)
  rw [lg_entry_eq]
  generalize (lg_sl ([.ref (a 5), .ref (a 1), .ref (a 6)]) ++ List.replicate (6 - (lg_sl ([.ref (a 5), .ref (a 1), .ref (a 6)])).length) Slot.unset).toArray = ls at hl ⊢
  have hl : lv_has ls 6 [(0, .ref (a 5)), (1, .ref (a 1)), (2, .ref (a 6))] := hl
  have hw : (∃ k, w_Ar_addOneDeparture2_2 post k 0 u) := hw
  refine lv_iconst (v := 0) hx hb d_Ar_addOneDeparture_0 (by decide) ?_
  refine lv_istore_n (lv' := [(3, .int 0), (0, .ref (a 5)), (1, .ref (a 1)), (2, .ref (a 6))]) hx hb d_Ar_addOneDeparture_1 rfl hl (by decide) rfl (fun ls hl => ?_)
  obtain ⟨k, hw⟩ := hw
  exact k_Ar_addOneDeparture2_2 hC post k _ _ _ _ ls hw hI (lv_sub hl [1, 2, 3, 0] rfl)
def w_T_fewest_46 (post : Int32 → tS → Prop) : Nat → Int32 → Int32 → Int32 → tS → Prop
  | 0 => fun _ _ _ _ => False
  | n + 1 => fun x2 x4 x5 u => ((12 < x5 → (post (-1) u)) ∧ (¬ 12 < x5 → (w_Ar_first (fun r58 u58 => ((x4 < r58 → (w_Ar_copy (fun u77 => (w_Ar_addOneDeparture2 (fun u92 => (w_T_fewest_46 post n x2 x4 (x5 + 1) u92)) u77)) u58)) ∧ (¬ x4 < r58 → (post x5 u58)))) x2 u)))
def w_T_fewest (post : Int32 → tS → Prop) (x1 : Int32) (x2 : Int32) (x3 : Int32) (x4 : Int32) (u : tS) : Prop := (w_Ne_hasStops (fun r6 u6 => ((r6 = 0 → (post (-2) u6)) ∧ (¬ r6 = 0 → (w_T_isTime (fun r13 u13 => ((r13 = 0 → (post (-2) u13)) ∧ (¬ r13 = 0 → (w_T_isBy (fun r21 u21 => ((r21 = 0 → (post (-2) u21)) ∧ (¬ r21 = 0 → (w_Ar_begin (fun u40 => (∃ k, w_T_fewest_46 post k x2 x4 0 u40)) x1 x3 u21)))) x4 u13)))) x3 u6)))) x1 x2 u)
set_option maxRecDepth 100000 in
set_option maxHeartbeats 4000000 in
theorem k_T_fewest_46 {p : Program} {l : Launch} {e : Env} {s : State} {m : MethodId} {args : Array Value} {below : List Frame} {meth : Method} {c : Code} {dC : Nat → ClassId} {dI : Nat → Nat → Nat} {cA : ClassId} {a : Nat → Nat} {A : Nat → Prop} (hC : tC p s m meth c args b_T_fewest 6 (some .int) wsA R_T A) (post : Int32 → tS → Prop) : ∀ n : Nat, ∀ (x2 x4 x5 : Int32) (u : tS) (H : Heap) (locs : List Loc) (ls : Array Slot), w_T_fewest_46 post n x2 x4 x5 u → tX (dC, dI) twCl [(cA, .int)] A s H locs (wdX a cA u) → lv_has ls 6 [(0, .ref (a 0)), (2, .int x2), (4, .int x4), (5, .int x5)] → W p l e ({ frames := 3, cells := 0, slots := 0, locals := 71 }) s m args below meth c H locs 0 0 (MQ below (va_Qi post (tB (dC, dI) twCl [(cA, .int)] A (wdX a cA)) A) args s 0 0 A) (F0 m 46 ls []) := by
  obtain ⟨hx, hb, hr, hml, hown, hts, hlocks, hA, hN⟩ := id hC
  intro n
  induction n with
  | zero => intro x2 x4 x5 u H locs ls hw; exact False.elim hw
  | succ n ih =>
    intro x2 x4 x5 u H locs ls hw hI hl
    refine lv_iload hx hb d_T_fewest_46 (lv_at hl 3 rfl) ?_
    refine lv_bipush (v := 12) hx hb d_T_fewest_48 (by decide) ?_
    refine lv_icmp_gt (tgt := 101) hx hb d_T_fewest_50 (by decide) (fun hc => ?_) (fun hc => ?_)
    · have hw := hw.1 hc
      refine lv_iconst (v := (-1)) hx hb d_T_fewest_101 (by decide) ?_
      exact tr_iret hx hb hr hlocks hI hw d_T_fewest_102
    · have hw := hw.2 hc
      refine lv_aload_n hx hb d_T_fewest_53 rfl (lv_at hl 0 rfl) ?_
      refine va_get (D := (dC, dI)) (C := R_T) (T := F_T) (N := 6) hx hb hts in_T hown hI.1 hI.2.1 0 (wdX_o0 a cA _) rfl 1 (by decide) (hts _ wA_265) (fun _ h9 => h9) rfl d_T_fewest_54 ?_
      refine lv_iload_n hx hb d_T_fewest_57 rfl (lv_at hl 1 rfl) ?_
      refine tr_goi (w := wdX a cA) hI hA (va_runV (As := [.int x2]) (rest := []) ⟨hx, hb, hml, hown, hts⟩ (c_Ar_first l dC dI cA a _ _ _ _) (cwV 1 hts (wsA_goodV wA_421 wA_422 wA_423 wA_36 wA_424) rfl rfl rfl (by decide +kernel) ⟨Nat.le_of_ble_eq_true rfl, Nat.le_of_ble_eq_true rfl⟩) (tr_preV (ci := 5) (q0 := 5) hI rfl (wdX_o5 a cA _) rfl hN hw) rfl rfl hl.1 rfl (lv_room (Nat.le_of_ble_eq_true rfl)) d_T_fewest_58 ⟨Nat.zero_le _, Nat.zero_le _⟩) (fun r58 u58 H locs hw hI => ?_)
      refine lv_iload hx hb d_T_fewest_61 (lv_at hl 2 rfl) ?_
      refine lv_icmp_gt (tgt := 69) hx hb d_T_fewest_63 (by decide) (fun hc => ?_) (fun hc => ?_)
      · have hw := hw.1 hc
        refine lv_aload_n hx hb d_T_fewest_69 rfl (lv_at hl 0 rfl) ?_
        refine va_get (D := (dC, dI)) (C := R_T) (T := F_T) (N := 6) hx hb hts in_T hown hI.1 hI.2.1 0 (wdX_o0 a cA _) rfl 2 (by decide) (hts _ wA_266) (fun _ h9 => h9) rfl d_T_fewest_70 ?_
        refine lv_aload_n hx hb d_T_fewest_73 rfl (lv_at hl 0 rfl) ?_
        refine va_get (D := (dC, dI)) (C := R_T) (T := F_T) (N := 6) hx hb hts in_T hown hI.1 hI.2.1 0 (wdX_o0 a cA _) rfl 1 (by decide) (hts _ wA_265) (fun _ h9 => h9) rfl d_T_fewest_74 ?_
        refine tr_gov (w := wdX a cA) hI hA (va_runV (As := [.ref (a 5)]) (rest := []) ⟨hx, hb, hml, hown, hts⟩ (c_Ar_copy l dC dI cA a _ _ _) (cwV 1 hts (wsA_goodV wA_468 wA_469 wA_470 wA_36 wA_471) rfl rfl rfl (by decide +kernel) ⟨Nat.le_of_ble_eq_true rfl, Nat.le_of_ble_eq_true rfl⟩) (tr_preV (ci := 5) (q0 := 6) hI rfl (wdX_o6 a cA _) rfl hN hw) rfl rfl hl.1 rfl (lv_room (Nat.le_of_ble_eq_true rfl)) d_T_fewest_77 ⟨Nat.zero_le _, Nat.zero_le _⟩) (fun u77 H locs hw hI => ?_)
        refine lv_aload_n hx hb d_T_fewest_80 rfl (lv_at hl 0 rfl) ?_
        refine va_get (D := (dC, dI)) (C := R_T) (T := F_T) (N := 6) hx hb hts in_T hown hI.1 hI.2.1 0 (wdX_o0 a cA _) rfl 1 (by decide) (hts _ wA_265) (fun _ h9 => h9) rfl d_T_fewest_81 ?_
        refine lv_aload_n hx hb d_T_fewest_84 rfl (lv_at hl 0 rfl) ?_
        refine va_get (D := (dC, dI)) (C := R_T) (T := F_T) (N := 6) hx hb hts in_T hown hI.1 hI.2.1 0 (wdX_o0 a cA _) rfl 0 (by decide) (hts _ wA_264) (fun _ h9 => h9) rfl d_T_fewest_85 ?_
        refine lv_aload_n hx hb d_T_fewest_88 rfl (lv_at hl 0 rfl) ?_
        refine va_get (D := (dC, dI)) (C := R_T) (T := F_T) (N := 6) hx hb hts in_T hown hI.1 hI.2.1 0 (wdX_o0 a cA _) rfl 2 (by decide) (hts _ wA_266) (fun _ h9 => h9) rfl d_T_fewest_89 ?_
        refine tr_gov (w := wdX a cA) hI hA (va_runV (As := [.ref (a 1), .ref (a 6)]) (rest := []) ⟨hx, hb, hml, hown, hts⟩ (c_Ar_addOneDeparture2 l dC dI cA a _ _ _) (cwV 2 hts (wsA_goodV wA_475 wA_405 wA_406 wA_36 wA_407) rfl rfl rfl (by decide +kernel) ⟨Nat.le_of_ble_eq_true rfl, Nat.le_of_ble_eq_true rfl⟩) (tr_preV (ci := 5) (q0 := 5) hI rfl (wdX_o5 a cA _) rfl hN hw) rfl rfl hl.1 rfl (lv_room (Nat.le_of_ble_eq_true rfl)) d_T_fewest_92 ⟨Nat.zero_le _, Nat.zero_le _⟩) (fun u92 H locs hw hI => ?_)
        refine lv_iinc (v := (x5 + 1)) (lv' := [(5, .int (x5 + 1)), (0, .ref (a 0)), (2, .int x2), (4, .int x4)]) hx hb d_T_fewest_95 hl (k := 3) rfl rfl (by decide) rfl (fun ls hl => ?_)
        refine lv_goto (tgt := 46) hx hb d_T_fewest_98 (by decide) ?_
        exact ih _ _ _ _ _ _ ls hw hI (lv_sub hl [1, 2, 3, 0] rfl)
      · have hw := hw.2 hc
        refine lv_iload hx hb d_T_fewest_66 (lv_at hl 3 rfl) ?_
        exact tr_iret hx hb hr hlocks hI hw d_T_fewest_68
set_option maxRecDepth 100000 in
set_option maxHeartbeats 4000000 in
theorem c_T_fewest (l : Launch) (dC : Nat → ClassId) (dI : Nat → Nat → Nat) (cA : ClassId) (a : Nat → Nat) (u : tS) (x1 : Int32) (x2 : Int32) (x3 : Int32) (x4 : Int32) (post : Int32 → tS → Prop) (sz : Nat) : Met l y_T_fewest ws_T_fewest ({ frames := 3, cells := 0, slots := 0, locals := 71 }) (va_Pc [.ref (a 0), .int x1, .int x2, .int x3, .int x4] (tP (dC, dI) twCl [(cA, .int)] (wdX a cA) u sz (w_T_fewest post x1 x2 x3 x4 u))) (va_Qi post (tB (dC, dI) twCl [(cA, .int)] (va_A (wdX a cA u) sz) (wdX a cA)) (va_A (wdX a cA u) sz)) 0 0 (va_A (wdX a cA u) sz) := by
  refine Met.ofW (cc := b_T_fewest) (maxL := 6) (ret := (some .int)) (by decide) rfl ?_
  intro p e s m args below meth c s₁ B hml hv
  obtain ⟨rfl, hsz, hP, hK, hD0, hN, hw⟩ := hv
  have hx := B.exec
  have hb := B.bytes
  have hr := B.returns
  have hts : ∀ w ∈ wsA, w.before _ s = true := fun w h => atoms_spec (ws := ws_T_fewest) B.pre w (List.mem_cons_of_mem _ h)
  have hown : s.vm.findClass R_T = some m.cls := findClass_of_methodNamed B.named
  have hlocks := B.notSynchronized
  subst hsz
  have hD := hD0.self (sz := s.heap.size)
  generalize hAe : va_A (wdX a cA u) s.heap.size = A at hD ⊢
  have hA : ∀ q : Nat, s.heap.size ≤ q → A q := fun q h => by rw [← hAe]; exact Or.inr h
  have hS : va_S A s.heap s.heap [] := va_S.rf
  have hI : tX (dC, dI) twCl [(cA, .int)] A s s.heap [] (wdX a cA u) := ⟨hK, hP, hD, hS⟩
  have hC : tC p s m meth c ([.ref (a 0), .int x1, .int x2, .int x3, .int x4] : List Value).toArray b_T_fewest 6 (some .int) wsA R_T A := ⟨hx, hb, hr, hml, hown, hts, hlocks, hA, hN⟩
  have hl := lv_entry ([.ref (a 0), .int x1, .int x2, .int x3, .int x4]) (n := 6) (Nat.le_of_ble_eq_true rfl)
  rw [lg_entry_eq]
  generalize (lg_sl ([.ref (a 0), .int x1, .int x2, .int x3, .int x4]) ++ List.replicate (6 - (lg_sl ([.ref (a 0), .int x1, .int x2, .int x3, .int x4])).length) Slot.unset).toArray = ls at hl ⊢
  have hl : lv_has ls 6 [(0, .ref (a 0)), (1, .int x1), (2, .int x2), (3, .int x3), (4, .int x4)] := hl
  have hw : (w_Ne_hasStops (fun r6 u6 => ((r6 = 0 → (post (-2) u6)) ∧ (¬ r6 = 0 → (w_T_isTime (fun r13 u13 => ((r13 = 0 → (post (-2) u13)) ∧ (¬ r13 = 0 → (w_T_isBy (fun r21 u21 => ((r21 = 0 → (post (-2) u21)) ∧ (¬ r21 = 0 → (w_Ar_begin (fun u40 => (∃ k, w_T_fewest_46 post k x2 x4 0 u40)) x1 x3 u21)))) x4 u13)))) x3 u6)))) x1 x2 u) := hw
  refine lv_aload_n hx hb d_T_fewest_0 rfl (lv_at hl 0 rfl) ?_
  refine va_get (D := (dC, dI)) (C := R_T) (T := F_T) (N := 6) hx hb hts in_T hown hI.1 hI.2.1 0 (wdX_o0 a cA _) rfl 0 (by decide) (hts _ wA_264) (fun _ h9 => h9) rfl d_T_fewest_1 ?_
  refine lv_iload_n hx hb d_T_fewest_4 rfl (lv_at hl 1 rfl) ?_
  refine lv_iload_n hx hb d_T_fewest_5 rfl (lv_at hl 2 rfl) ?_
  refine tr_goi (w := wdX a cA) hI hA (va_runV (As := [.int x1, .int x2]) (rest := []) ⟨hx, hb, hml, hown, hts⟩ (c_Ne_hasStops l dC dI cA a _ _ _ _ _) (cwV 2 hts (wsA_goodV wA_315 wA_316 wA_317 wA_31 wA_318) rfl rfl rfl (by decide +kernel) ⟨Nat.le_of_ble_eq_true rfl, Nat.le_of_ble_eq_true rfl⟩) (tr_preV (ci := 1) (q0 := 1) hI rfl (wdX_o1 a cA _) rfl hN hw) rfl rfl hl.1 rfl (lv_room (Nat.le_of_ble_eq_true rfl)) d_T_fewest_6 ⟨Nat.zero_le _, Nat.zero_le _⟩) (fun r6 u6 H locs hw hI => ?_)
  refine lv_if_eq (tgt := 27) hx hb d_T_fewest_9 (by decide) (fun hc => ?_) (fun hc => ?_)
  · have hw := hw.1 hc
    refine lv_bipush (v := (-2)) hx hb d_T_fewest_27 (by decide) ?_
    exact tr_iret hx hb hr hlocks hI hw d_T_fewest_29
  · have hw := hw.2 hc
    refine lv_iload_n hx hb d_T_fewest_12 rfl (lv_at hl 3 rfl) ?_
    refine tr_goi (w := wdX a cA) hI hA (va_runS (As := [.int x3]) (rest := []) ⟨hx, hb, hml, hown, hts⟩ (c_T_isTime l dC dI cA a _ _ _ _) ⟨callB_of 1 hts (wsA_good wA_392) rfl rfl rfl (hts _ wA_30) (hts _ wA_390) (by decide +kernel) ⟨Nat.le_of_ble_eq_true rfl, Nat.le_of_ble_eq_true rfl⟩, hts _ wA_391⟩ (tr_preS hI hN hw) rfl rfl hl.1 rfl (lv_room (Nat.le_of_ble_eq_true rfl)) d_T_fewest_13 ⟨Nat.zero_le _, Nat.zero_le _⟩) (fun r13 u13 H locs hw hI => ?_)
    refine lv_if_eq (tgt := 27) hx hb d_T_fewest_16 (by decide) (fun hc => ?_) (fun hc => ?_)
    · have hw := hw.1 hc
      refine lv_bipush (v := (-2)) hx hb d_T_fewest_27 (by decide) ?_
      exact tr_iret hx hb hr hlocks hI hw d_T_fewest_29
    · have hw := hw.2 hc
      refine lv_iload hx hb d_T_fewest_19 (lv_at hl 4 rfl) ?_
      refine tr_goi (w := wdX a cA) hI hA (va_runS (As := [.int x4]) (rest := []) ⟨hx, hb, hml, hown, hts⟩ (c_T_isBy l dC dI cA a _ _ _ _) ⟨callB_of 1 hts (wsA_good wA_435) rfl rfl rfl (hts _ wA_30) (hts _ wA_433) (by decide +kernel) ⟨Nat.le_of_ble_eq_true rfl, Nat.le_of_ble_eq_true rfl⟩, hts _ wA_434⟩ (tr_preS hI hN hw) rfl rfl hl.1 rfl (lv_room (Nat.le_of_ble_eq_true rfl)) d_T_fewest_21 ⟨Nat.zero_le _, Nat.zero_le _⟩) (fun r21 u21 H locs hw hI => ?_)
      refine lv_if_ne (tgt := 30) hx hb d_T_fewest_24 (by decide) (fun hc => ?_) (fun hc => ?_)
      · have hw := hw.2 hc
        refine lv_aload_n hx hb d_T_fewest_30 rfl (lv_at hl 0 rfl) ?_
        refine va_get (D := (dC, dI)) (C := R_T) (T := F_T) (N := 6) hx hb hts in_T hown hI.1 hI.2.1 0 (wdX_o0 a cA _) rfl 1 (by decide) (hts _ wA_265) (fun _ h9 => h9) rfl d_T_fewest_31 ?_
        refine lv_aload_n hx hb d_T_fewest_34 rfl (lv_at hl 0 rfl) ?_
        refine va_get (D := (dC, dI)) (C := R_T) (T := F_T) (N := 6) hx hb hts in_T hown hI.1 hI.2.1 0 (wdX_o0 a cA _) rfl 0 (by decide) (hts _ wA_264) (fun _ h9 => h9) rfl d_T_fewest_35 ?_
        refine lv_iload_n hx hb d_T_fewest_38 rfl (lv_at hl 1 rfl) ?_
        refine lv_iload_n hx hb d_T_fewest_39 rfl (lv_at hl 3 rfl) ?_
        refine tr_gov (w := wdX a cA) hI hA (va_runV (As := [.ref (a 1), .int x1, .int x3]) (rest := []) ⟨hx, hb, hml, hown, hts⟩ (c_Ar_begin l dC dI cA a _ _ _ _ _) (cwV 3 hts (wsA_goodV wA_467 wA_398 wA_399 wA_36 wA_400) rfl rfl rfl (by decide +kernel) ⟨Nat.le_of_ble_eq_true rfl, Nat.le_of_ble_eq_true rfl⟩) (tr_preV (ci := 5) (q0 := 5) hI rfl (wdX_o5 a cA _) rfl hN hw) rfl rfl hl.1 rfl (lv_room (Nat.le_of_ble_eq_true rfl)) d_T_fewest_40 ⟨Nat.zero_le _, Nat.zero_le _⟩) (fun u40 H locs hw hI => ?_)
        refine lv_iconst (v := 0) hx hb d_T_fewest_43 (by decide) ?_
        refine lv_istore (lv' := [(5, .int 0), (0, .ref (a 0)), (1, .int x1), (2, .int x2), (3, .int x3), (4, .int x4)]) hx hb d_T_fewest_44 hl (by decide) rfl (fun ls hl => ?_)
        obtain ⟨k, hw⟩ := hw
        exact k_T_fewest_46 hC post k _ _ _ _ _ _ ls hw hI (lv_sub hl [1, 3, 5, 0] rfl)
      · have hw := hw.1 hc
        refine lv_bipush (v := (-2)) hx hb d_T_fewest_27 (by decide) ?_
        exact tr_iret hx hb hr hlocks hI hw d_T_fewest_29
end
section
def w_T_isSpan (post : Int32 → tS → Prop) (x0 : Int32) (x1 : Int32) (u : tS) : Prop := (w_T_isTime (fun r1 u1 => ((r1 = 0 → (post 0 u1)) ∧ (¬ r1 = 0 → (w_T_isTime (fun r8 u8 => ((r8 = 0 → (post 0 u8)) ∧ (¬ r8 = 0 → (w_T_within (fun r21 u21 => ((r21 = 0 → (post 0 u21)) ∧ (¬ r21 = 0 → (post 1 u21)))) (x1 - x0) 0 600 u8)))) x1 u1)))) x0 u)
set_option maxRecDepth 100000 in
set_option maxHeartbeats 4000000 in
theorem c_T_isSpan (l : Launch) (dC : Nat → ClassId) (dI : Nat → Nat → Nat) (cA : ClassId) (a : Nat → Nat) (u : tS) (x0 : Int32) (x1 : Int32) (post : Int32 → tS → Prop) (sz : Nat) : Met l y_T_isSpan ws_T_isSpan ({ frames := 2, cells := 0, slots := 0, locals := 42 }) (va_Pc [.int x0, .int x1] (tP (dC, dI) twCl [(cA, .int)] (wdX a cA) u sz (w_T_isSpan post x0 x1 u))) (va_Qi post (tB (dC, dI) twCl [(cA, .int)] (va_A (wdX a cA u) sz) (wdX a cA)) (va_A (wdX a cA u) sz)) 0 0 (va_A (wdX a cA u) sz) := by
  refine Met.ofW (cc := b_T_isSpan) (maxL := 2) (ret := (some .boolean)) (by decide) rfl ?_
  intro p e s m args below meth c s₁ B hml hv
  obtain ⟨rfl, hsz, hP, hK, hD0, hN, hw⟩ := hv
  have hx := B.exec
  have hb := B.bytes
  have hr := B.returns
  have hts : ∀ w ∈ wsA, w.before _ s = true := fun w h => atoms_spec (ws := ws_T_isSpan) B.pre w (List.mem_cons_of_mem _ h)
  have hown : s.vm.findClass R_T = some m.cls := findClass_of_methodNamed B.named
  have hlocks := B.notSynchronized
  subst hsz
  have hD := hD0.self (sz := s.heap.size)
  generalize hAe : va_A (wdX a cA u) s.heap.size = A at hD ⊢
  have hA : ∀ q : Nat, s.heap.size ≤ q → A q := fun q h => by rw [← hAe]; exact Or.inr h
  have hS : va_S A s.heap s.heap [] := va_S.rf
  have hI : tX (dC, dI) twCl [(cA, .int)] A s s.heap [] (wdX a cA u) := ⟨hK, hP, hD, hS⟩
  have hC : tC p s m meth c ([.int x0, .int x1] : List Value).toArray b_T_isSpan 2 (some .boolean) wsA R_T A := ⟨hx, hb, hr, hml, hown, hts, hlocks, hA, hN⟩
  have hl := lv_entry ([.int x0, .int x1]) (n := 2) (Nat.le_of_ble_eq_true rfl)
  rw [lg_entry_eq]
  generalize (lg_sl ([.int x0, .int x1]) ++ List.replicate (2 - (lg_sl ([.int x0, .int x1])).length) Slot.unset).toArray = ls at hl ⊢
  have hl : lv_has ls 2 [(0, .int x0), (1, .int x1)] := hl
  have hw : (w_T_isTime (fun r1 u1 => ((r1 = 0 → (post 0 u1)) ∧ (¬ r1 = 0 → (w_T_isTime (fun r8 u8 => ((r8 = 0 → (post 0 u8)) ∧ (¬ r8 = 0 → (w_T_within (fun r21 u21 => ((r21 = 0 → (post 0 u21)) ∧ (¬ r21 = 0 → (post 1 u21)))) (x1 - x0) 0 600 u8)))) x1 u1)))) x0 u) := hw
  refine lv_iload_n hx hb d_T_isSpan_0 rfl (lv_at hl 0 rfl) ?_
  refine tr_goi (w := wdX a cA) hI hA (va_runS (As := [.int x0]) (rest := []) ⟨hx, hb, hml, hown, hts⟩ (c_T_isTime l dC dI cA a _ _ _ _) ⟨callB_of 1 hts (wsA_good wA_392) rfl rfl rfl (hts _ wA_30) (hts _ wA_390) (by decide +kernel) ⟨Nat.le_of_ble_eq_true rfl, Nat.le_of_ble_eq_true rfl⟩, hts _ wA_391⟩ (tr_preS hI hN hw) rfl rfl hl.1 rfl (lv_room (Nat.le_of_ble_eq_true rfl)) d_T_isSpan_1 ⟨Nat.zero_le _, Nat.zero_le _⟩) (fun r1 u1 H locs hw hI => ?_)
  refine lv_if_eq (tgt := 31) hx hb d_T_isSpan_4 (by decide) (fun hc => ?_) (fun hc => ?_)
  · have hw := hw.1 hc
    refine lv_iconst (v := 0) hx hb d_T_isSpan_31 (by decide) ?_
    exact tr_zret hx hb hr hlocks hI rfl hw d_T_isSpan_32
  · have hw := hw.2 hc
    refine lv_iload_n hx hb d_T_isSpan_7 rfl (lv_at hl 1 rfl) ?_
    refine tr_goi (w := wdX a cA) hI hA (va_runS (As := [.int x1]) (rest := []) ⟨hx, hb, hml, hown, hts⟩ (c_T_isTime l dC dI cA a _ _ _ _) ⟨callB_of 1 hts (wsA_good wA_392) rfl rfl rfl (hts _ wA_30) (hts _ wA_390) (by decide +kernel) ⟨Nat.le_of_ble_eq_true rfl, Nat.le_of_ble_eq_true rfl⟩, hts _ wA_391⟩ (tr_preS hI hN hw) rfl rfl hl.1 rfl (lv_room (Nat.le_of_ble_eq_true rfl)) d_T_isSpan_8 ⟨Nat.zero_le _, Nat.zero_le _⟩) (fun r8 u8 H locs hw hI => ?_)
    refine lv_if_eq (tgt := 31) hx hb d_T_isSpan_11 (by decide) (fun hc => ?_) (fun hc => ?_)
    · have hw := hw.1 hc
      refine lv_iconst (v := 0) hx hb d_T_isSpan_31 (by decide) ?_
      exact tr_zret hx hb hr hlocks hI rfl hw d_T_isSpan_32
    · have hw := hw.2 hc
      refine lv_iload_n hx hb d_T_isSpan_14 rfl (lv_at hl 1 rfl) ?_
      refine lv_iload_n hx hb d_T_isSpan_15 rfl (lv_at hl 0 rfl) ?_
      refine lv_isub hx hb d_T_isSpan_16 ?_
      refine lv_iconst (v := 0) hx hb d_T_isSpan_17 (by decide) ?_
      refine lv_sipush (v := 600) hx hb d_T_isSpan_18 (by decide) ?_
      refine tr_goi (w := wdX a cA) hI hA (va_runS (As := [.int (x1 - x0), .int 0, .int 600]) (rest := []) ⟨hx, hb, hml, hown, hts⟩ (c_T_within l dC dI cA a _ _ _ _ _ _) ⟨callB_of 3 hts (wsA_good wA_301) rfl rfl rfl (hts _ wA_30) (hts _ wA_299) (by decide +kernel) ⟨Nat.le_of_ble_eq_true rfl, Nat.le_of_ble_eq_true rfl⟩, hts _ wA_300⟩ (tr_preS hI hN hw) rfl rfl hl.1 rfl (lv_room (Nat.le_of_ble_eq_true rfl)) d_T_isSpan_21 ⟨Nat.zero_le _, Nat.zero_le _⟩) (fun r21 u21 H locs hw hI => ?_)
      refine lv_if_eq (tgt := 31) hx hb d_T_isSpan_24 (by decide) (fun hc => ?_) (fun hc => ?_)
      · have hw := hw.1 hc
        refine lv_iconst (v := 0) hx hb d_T_isSpan_31 (by decide) ?_
        exact tr_zret hx hb hr hlocks hI rfl hw d_T_isSpan_32
      · have hw := hw.2 hc
        refine lv_iconst (v := 1) hx hb d_T_isSpan_27 (by decide) ?_
        refine lv_goto (tgt := 32) hx hb d_T_isSpan_28 (by decide) ?_
        exact tr_zret hx hb hr hlocks hI rfl hw d_T_isSpan_32
def w_J_fill2_5 (post : tS → Prop) : Nat → Int32 → Int32 → Int32 → tS → Prop
  | 0 => fun _ _ _ _ => False
  | n + 1 => fun x1 x2 x3 u => ((x3 ≤ x2 → (post u)) ∧ (¬ x3 ≤ x2 → (vp_in x2 601 ∧ (w_J_fill2_5 post n x1 (x2 + 1) x3 (tA u 18 x2 x1)))))
def w_J_fill2 (post : tS → Prop) (x1 : Int32) (u : tS) : Prop := (∃ k, w_J_fill2_5 post k x1 0 601 u)
set_option maxRecDepth 100000 in
set_option maxHeartbeats 4000000 in
theorem k_J_fill2_5 {p : Program} {l : Launch} {e : Env} {s : State} {m : MethodId} {args : Array Value} {below : List Frame} {meth : Method} {c : Code} {dC : Nat → ClassId} {dI : Nat → Nat → Nat} {cA : ClassId} {a : Nat → Nat} {A : Nat → Prop} (hC : tC p s m meth c args b_J_fill 4 none wsA R_J A) (post : tS → Prop) : ∀ n : Nat, ∀ (x1 x2 x3 : Int32) (u : tS) (H : Heap) (locs : List Loc) (ls : Array Slot), w_J_fill2_5 post n x1 x2 x3 u → tX (dC, dI) twCl [(cA, .int)] A s H locs (wdX a cA u) → lv_has ls 4 [(0, .ref (a 28)), (1, .int x1), (2, .int x2), (3, .int x3)] → W p l e ({ frames := 0, cells := 0, slots := 0, locals := 0 }) s m args below meth c H locs 0 0 (MQ below (va_Qv post (tB (dC, dI) twCl [(cA, .int)] A (wdX a cA)) A) args s 0 0 A) (F0 m 5 ls []) := by
  obtain ⟨hx, hb, hr, hml, hown, hts, hlocks, hA, hN⟩ := id hC
  intro n
  induction n with
  | zero => intro x1 x2 x3 u H locs ls hw; exact False.elim hw
  | succ n ih =>
    intro x1 x2 x3 u H locs ls hw hI hl
    refine lv_iload_n hx hb d_J_fill_5 rfl (lv_at hl 2 rfl) ?_
    refine lv_iload_n hx hb d_J_fill_6 rfl (lv_at hl 3 rfl) ?_
    refine lv_icmp_ge (tgt := 20) hx hb d_J_fill_7 (by decide) (fun hc => ?_) (fun hc => ?_)
    · have hw := hw.1 hc
      exact tr_vret hx hb hr hlocks hI hw d_J_fill_20
    · have hw := hw.2 hc
      refine lv_aload_n hx hb d_J_fill_10 rfl (lv_at hl 0 rfl) ?_
      refine lv_iload_n hx hb d_J_fill_11 rfl (lv_at hl 2 rfl) ?_
      refine lv_iload_n hx hb d_J_fill_12 rfl (lv_at hl 1 rfl) ?_
      obtain ⟨hi, hw⟩ := hw
      refine tr_iast (w := wdX a cA) hx hb hI 28 0 18 (wdX_o28 a cA _) rfl (wdX_a18 a cA _ _ _) hi d_J_fill_13 (fun H locs hI => ?_)
      refine lv_iinc (v := (x2 + 1)) (lv' := [(2, .int (x2 + 1)), (0, .ref (a 28)), (1, .int x1), (3, .int x3)]) hx hb d_J_fill_14 hl (k := 2) rfl rfl (by decide) rfl (fun ls hl => ?_)
      refine lv_goto (tgt := 5) hx hb d_J_fill_17 (by decide) ?_
      exact ih _ _ _ _ _ _ ls hw hI (lv_sub hl [1, 2, 0, 3] rfl)
set_option maxRecDepth 100000 in
set_option maxHeartbeats 4000000 in
theorem c_J_fill2 (l : Launch) (dC : Nat → ClassId) (dI : Nat → Nat → Nat) (cA : ClassId) (a : Nat → Nat) (u : tS) (x1 : Int32) (post : tS → Prop) (sz : Nat) : Met l y_J_fill ws_J_fill ({ frames := 0, cells := 0, slots := 0, locals := 0 }) (va_Pc [.ref (a 28), .int x1] (tP (dC, dI) twCl [(cA, .int)] (wdX a cA) u sz (w_J_fill2 post x1 u))) (va_Qv post (tB (dC, dI) twCl [(cA, .int)] (va_A (wdX a cA u) sz) (wdX a cA)) (va_A (wdX a cA u) sz)) 0 0 (va_A (wdX a cA u) sz) := by
  refine Met.ofW (cc := b_J_fill) (maxL := 4) (ret := none) (by decide) rfl ?_
  intro p e s m args below meth c s₁ B hml hv
  obtain ⟨rfl, hsz, hP, hK, hD0, hN, hw⟩ := hv
  have hx := B.exec
  have hb := B.bytes
  have hr := B.returns
  have hts : ∀ w ∈ wsA, w.before _ s = true := fun w h => atoms_spec (ws := ws_J_fill) B.pre w (List.mem_cons_of_mem _ h)
  have hown : s.vm.findClass R_J = some m.cls := findClass_of_methodNamed B.named
  have hlocks := B.notSynchronized
  subst hsz
  have hD := hD0.self (sz := s.heap.size)
  generalize hAe : va_A (wdX a cA u) s.heap.size = A at hD ⊢
  have hA : ∀ q : Nat, s.heap.size ≤ q → A q := fun q h => by rw [← hAe]; exact Or.inr h
  have hS : va_S A s.heap s.heap [] := va_S.rf
  have hI : tX (dC, dI) twCl [(cA, .int)] A s s.heap [] (wdX a cA u) := ⟨hK, hP, hD, hS⟩
  have hC : tC p s m meth c ([.ref (a 28), .int x1] : List Value).toArray b_J_fill 4 none wsA R_J A := ⟨hx, hb, hr, hml, hown, hts, hlocks, hA, hN⟩
  have hl := lv_entry ([.ref (a 28), .int x1]) (n := 4) (Nat.le_of_ble_eq_true rfl)
  rw [lg_entry_eq]
  generalize (lg_sl ([.ref (a 28), .int x1]) ++ List.replicate (4 - (lg_sl ([.ref (a 28), .int x1])).length) Slot.unset).toArray = ls at hl ⊢
  have hl : lv_has ls 4 [(0, .ref (a 28)), (1, .int x1)] := hl
  have hw : (∃ k, w_J_fill2_5 post k x1 0 601 u) := hw
  refine lv_iconst (v := 0) hx hb d_J_fill_0 (by decide) ?_
  refine lv_istore_n (lv' := [(2, .int 0), (0, .ref (a 28)), (1, .int x1)]) hx hb d_J_fill_1 rfl hl (by decide) rfl (fun ls hl => ?_)
  refine lv_aload_n hx hb d_J_fill_2 rfl (lv_at hl 1 rfl) ?_
  refine va_alen (D := (dC, dI)) (v := 601) hx hb hI.1 hI.2.1 28 0 (wdX_o28 a cA _) rfl rfl d_J_fill_3 ?_
  refine lv_istore_n (lv' := [(3, .int 601), (2, .int 0), (0, .ref (a 28)), (1, .int x1)]) hx hb d_J_fill_4 rfl hl (by decide) rfl (fun ls hl => ?_)
  obtain ⟨k, hw⟩ := hw
  exact k_J_fill2_5 hC post k _ _ _ _ _ _ ls hw hI (lv_sub hl [2, 3, 1, 0] rfl)
def w_Sp_spread_7 (post : tS → Prop) : Nat → Int32 → Int32 → Int32 → Int32 → tS → Prop
  | 0 => fun _ _ _ _ _ => False
  | n + 1 => fun x1 x3 x4 x5 u => ((x5 < x1 → (post u)) ∧ (¬ x5 < x1 → (vp_in (x5 - x1) 601 ∧ (vp_in (x5 - x1) 601 ∧ (w_Sp_spread_7 post n x1 x3 (if (u.2 18 (x5 - x1).toNatClampNeg) < x4 then (u.2 18 (x5 - x1).toNatClampNeg) else x4) (x5 + (-1)) (tA u 18 (x5 - x1) (if (x5 + x3) < (if (u.2 18 (x5 - x1).toNatClampNeg) < x4 then (u.2 18 (x5 - x1).toNatClampNeg) else x4) then (x5 + x3) else (if (u.2 18 (x5 - x1).toNatClampNeg) < x4 then (u.2 18 (x5 - x1).toNatClampNeg) else x4))))))))
def w_Sp_spread (post : tS → Prop) (x1 : Int32) (x2 : Int32) (x3 : Int32) (u : tS) : Prop := (∃ k, w_Sp_spread_7 post k x1 x3 1000000 x2 u)
set_option maxRecDepth 100000 in
set_option maxHeartbeats 4000000 in
theorem k_Sp_spread_7 {p : Program} {l : Launch} {e : Env} {s : State} {m : MethodId} {args : Array Value} {below : List Frame} {meth : Method} {c : Code} {dC : Nat → ClassId} {dI : Nat → Nat → Nat} {cA : ClassId} {a : Nat → Nat} {A : Nat → Prop} (hC : tC p s m meth c args b_Sp_spread 6 none wsA R_Sp A) (post : tS → Prop) : ∀ n : Nat, ∀ (x1 x3 x4 x5 : Int32) (u : tS) (H : Heap) (locs : List Loc) (ls : Array Slot), w_Sp_spread_7 post n x1 x3 x4 x5 u → tX (dC, dI) twCl [(cA, .int)] A s H locs (wdX a cA u) → lv_has ls 6 [(0, .ref (a 7)), (1, .int x1), (3, .int x3), (4, .int x4), (5, .int x5)] → W p l e ({ frames := 1, cells := 0, slots := 0, locals := 15 }) s m args below meth c H locs 0 0 (MQ below (va_Qv post (tB (dC, dI) twCl [(cA, .int)] A (wdX a cA)) A) args s 0 0 A) (F0 m 7 ls []) := by
  obtain ⟨hx, hb, hr, hml, hown, hts, hlocks, hA, hN⟩ := id hC
  intro n
  induction n with
  | zero => intro x1 x3 x4 x5 u H locs ls hw; exact False.elim hw
  | succ n ih =>
    intro x1 x3 x4 x5 u H locs ls hw hI hl
    refine lv_iload hx hb d_Sp_spread_7 (lv_at hl 4 rfl) ?_
    refine lv_iload_n hx hb d_Sp_spread_9 rfl (lv_at hl 1 rfl) ?_
    refine lv_icmp_lt (tgt := 53) hx hb d_Sp_spread_10 (by decide) (fun hc => ?_) (fun hc => ?_)
    · have hw := hw.1 hc
      exact tr_vret hx hb hr hlocks hI hw d_Sp_spread_53
    · have hw := hw.2 hc
      refine lv_iload hx hb d_Sp_spread_13 (lv_at hl 3 rfl) ?_
      refine lv_aload_n hx hb d_Sp_spread_15 rfl (lv_at hl 0 rfl) ?_
      refine va_get (D := (dC, dI)) (C := R_Sp) (T := F_Sp) (N := 2) hx hb hts in_Sp hown hI.1 hI.2.1 7 (wdX_o7 a cA _) rfl 1 (by decide) (hts _ wA_211) (fun _ h9 => h9) rfl d_Sp_spread_16 ?_
      refine lv_iload hx hb d_Sp_spread_19 (lv_at hl 4 rfl) ?_
      refine lv_iload_n hx hb d_Sp_spread_21 rfl (lv_at hl 1 rfl) ?_
      refine lv_isub hx hb d_Sp_spread_22 ?_
      obtain ⟨hi, hw⟩ := hw
      refine va_iald (D := (dC, dI)) hx hb hI.1 hI.2.1 28 0 (wdX_o28 a cA _) rfl hi d_Sp_spread_23 ?_
      refine va_mmin hx hb (by rw [hml]; exact hl.1.symm) hown (hts _ wA_447) (hts _ wA_369) (hts _ wA_41) (hts _ wA_370) (Nat.le_of_ble_eq_true rfl) (Nat.le_of_ble_eq_true rfl) (Nat.zero_le _) (Nat.zero_le _) d_Sp_spread_24 ?_
      refine lv_istore (lv' := [(4, .int (if (u.2 18 (x5 - x1).toNatClampNeg) < x4 then (u.2 18 (x5 - x1).toNatClampNeg) else x4)), (0, .ref (a 7)), (1, .int x1), (3, .int x3), (5, .int x5)]) hx hb d_Sp_spread_27 hl (by decide) rfl (fun ls hl => ?_)
      refine lv_aload_n hx hb d_Sp_spread_29 rfl (lv_at hl 1 rfl) ?_
      refine va_get (D := (dC, dI)) (C := R_Sp) (T := F_Sp) (N := 2) hx hb hts in_Sp hown hI.1 hI.2.1 7 (wdX_o7 a cA _) rfl 1 (by decide) (hts _ wA_211) (fun _ h9 => h9) rfl d_Sp_spread_30 ?_
      refine lv_iload hx hb d_Sp_spread_33 (lv_at hl 4 rfl) ?_
      refine lv_iload_n hx hb d_Sp_spread_35 rfl (lv_at hl 2 rfl) ?_
      refine lv_isub hx hb d_Sp_spread_36 ?_
      refine lv_iload hx hb d_Sp_spread_37 (lv_at hl 0 rfl) ?_
      refine lv_iload hx hb d_Sp_spread_39 (lv_at hl 4 rfl) ?_
      refine lv_iload_n hx hb d_Sp_spread_41 rfl (lv_at hl 3 rfl) ?_
      refine lv_iadd hx hb d_Sp_spread_42 ?_
      refine va_mmin hx hb (by rw [hml]; exact hl.1.symm) hown (hts _ wA_447) (hts _ wA_369) (hts _ wA_41) (hts _ wA_370) (Nat.le_of_ble_eq_true rfl) (Nat.le_of_ble_eq_true rfl) (Nat.zero_le _) (Nat.zero_le _) d_Sp_spread_43 ?_
      obtain ⟨hi, hw⟩ := hw
      refine tr_iast (w := wdX a cA) hx hb hI 28 0 18 (wdX_o28 a cA _) rfl (wdX_a18 a cA _ _ _) hi d_Sp_spread_46 (fun H locs hI => ?_)
      refine lv_iinc (v := (x5 + (-1))) (lv' := [(5, .int (x5 + (-1))), (4, .int (if (u.2 18 (x5 - x1).toNatClampNeg) < x4 then (u.2 18 (x5 - x1).toNatClampNeg) else x4)), (0, .ref (a 7)), (1, .int x1), (3, .int x3)]) hx hb d_Sp_spread_47 hl (k := 4) rfl rfl (by decide) rfl (fun ls hl => ?_)
      refine lv_goto (tgt := 7) hx hb d_Sp_spread_50 (by decide) ?_
      exact ih _ _ _ _ _ _ _ ls hw hI (lv_sub hl [2, 3, 4, 1, 0] rfl)
set_option maxRecDepth 100000 in
set_option maxHeartbeats 4000000 in
theorem c_Sp_spread (l : Launch) (dC : Nat → ClassId) (dI : Nat → Nat → Nat) (cA : ClassId) (a : Nat → Nat) (u : tS) (x1 : Int32) (x2 : Int32) (x3 : Int32) (post : tS → Prop) (sz : Nat) : Met l y_Sp_spread ws_Sp_spread ({ frames := 1, cells := 0, slots := 0, locals := 15 }) (va_Pc [.ref (a 7), .int x1, .int x2, .int x3] (tP (dC, dI) twCl [(cA, .int)] (wdX a cA) u sz (w_Sp_spread post x1 x2 x3 u))) (va_Qv post (tB (dC, dI) twCl [(cA, .int)] (va_A (wdX a cA u) sz) (wdX a cA)) (va_A (wdX a cA u) sz)) 0 0 (va_A (wdX a cA u) sz) := by
  refine Met.ofW (cc := b_Sp_spread) (maxL := 6) (ret := none) (by decide) rfl ?_
  intro p e s m args below meth c s₁ B hml hv
  obtain ⟨rfl, hsz, hP, hK, hD0, hN, hw⟩ := hv
  have hx := B.exec
  have hb := B.bytes
  have hr := B.returns
  have hts : ∀ w ∈ wsA, w.before _ s = true := fun w h => atoms_spec (ws := ws_Sp_spread) B.pre w (List.mem_cons_of_mem _ h)
  have hown : s.vm.findClass R_Sp = some m.cls := findClass_of_methodNamed B.named
  have hlocks := B.notSynchronized
  subst hsz
  have hD := hD0.self (sz := s.heap.size)
  generalize hAe : va_A (wdX a cA u) s.heap.size = A at hD ⊢
  have hA : ∀ q : Nat, s.heap.size ≤ q → A q := fun q h => by rw [← hAe]; exact Or.inr h
  have hS : va_S A s.heap s.heap [] := va_S.rf
  have hI : tX (dC, dI) twCl [(cA, .int)] A s s.heap [] (wdX a cA u) := ⟨hK, hP, hD, hS⟩
  have hC : tC p s m meth c ([.ref (a 7), .int x1, .int x2, .int x3] : List Value).toArray b_Sp_spread 6 none wsA R_Sp A := ⟨hx, hb, hr, hml, hown, hts, hlocks, hA, hN⟩
  have hl := lv_entry ([.ref (a 7), .int x1, .int x2, .int x3]) (n := 6) (Nat.le_of_ble_eq_true rfl)
  rw [lg_entry_eq]
  generalize (lg_sl ([.ref (a 7), .int x1, .int x2, .int x3]) ++ List.replicate (6 - (lg_sl ([.ref (a 7), .int x1, .int x2, .int x3])).length) Slot.unset).toArray = ls at hl ⊢
  have hl : lv_has ls 6 [(0, .ref (a 7)), (1, .int x1), (2, .int x2), (3, .int x3)] := hl
  have hw : (∃ k, w_Sp_spread_7 post k x1 x3 1000000 x2 u) := hw
  refine lv_ldc (v := 1000000) hx hb hown (hts _ wA_446) d_Sp_spread_0 ?_
  refine lv_istore (lv' := [(4, .int 1000000), (0, .ref (a 7)), (1, .int x1), (2, .int x2), (3, .int x3)]) hx hb d_Sp_spread_2 hl (by decide) rfl (fun ls hl => ?_)
  refine lv_iload_n hx hb d_Sp_spread_4 rfl (lv_at hl 3 rfl) ?_
  refine lv_istore (lv' := [(5, .int x2), (4, .int 1000000), (0, .ref (a 7)), (1, .int x1), (2, .int x2), (3, .int x3)]) hx hb d_Sp_spread_5 hl (by decide) rfl (fun ls hl => ?_)
  obtain ⟨k, hw⟩ := hw
  exact k_Sp_spread_7 hC post k _ _ _ _ _ _ _ ls hw hI (lv_sub hl [2, 3, 5, 1, 0] rfl)
def w_Sp_find_112 (post : tS → Prop) (x2 : Int32) (x3 : Int32) (x4 : Int32) (x5 : Int32) (u : tS) : Prop := (w_Wa_anyNumber (fun r123 u123 => (w_Sp_spread (fun u126 => (post u126)) x4 x5 r123 u123)) x2 x3 u)
def w_Sp_find_20 (post : tS → Prop) : Nat → Int32 → Int32 → Int32 → Int32 → Int32 → tS → Prop
  | 0 => fun _ _ _ _ _ _ => False
  | n + 1 => fun x2 x3 x4 x5 x6 u => ((x6 < 0 → (w_Sp_find_112 post x2 x3 x4 x5 u)) ∧ (¬ x6 < 0 → (vp_in x6 280 ∧ (((u.2 8 x6.toNatClampNeg) < x4 → (w_Sp_find_112 post x2 x3 x4 x5 u)) ∧ (¬ (u.2 8 x6.toNatClampNeg) < x4 → (w_Sp_endOf (fun r51 u51 => (vp_in x6 280 ∧ (w_Sp_latestFor (fun r61 u61 => (((if r61 < x5 then r61 else x5) < x4 → (w_Sp_find_20 post n x2 x3 x4 x5 (x6 + (-1)) u61)) ∧ (¬ (if r61 < x5 then r61 else x5) < x4 → (vp_in ((if r61 < x5 then r61 else x5) - x4) 601 ∧ (vp_in x6 280 ∧ (vp_in ((if r61 < x5 then r61 else x5) - x4) 601 ∧ (w_Sp_find_20 post n x2 x3 x4 x5 (x6 + (-1)) (tA u61 18 ((if r61 < x5 then r61 else x5) - x4) (if (u61.2 17 x6.toNatClampNeg) < (u61.2 18 ((if r61 < x5 then r61 else x5) - x4).toNatClampNeg) then (u61.2 17 x6.toNatClampNeg) else (u61.2 18 ((if r61 < x5 then r61 else x5) - x4).toNatClampNeg)))))))))) x2 x6 (tA u51 17 x6 r51)))) x6 x3 u))))))
def w_Sp_find (post : tS → Prop) (x2 : Int32) (x3 : Int32) (x4 : Int32) (x5 : Int32) (u : tS) : Prop := (w_J_fill2 (fun u6 => (∃ k, w_Sp_find_20 post k x2 x3 x4 x5 ((u6.1 2) - 1) u6)) 1000000 u)
set_option maxRecDepth 100000 in
set_option maxHeartbeats 4000000 in
theorem k_Sp_find_112 {p : Program} {l : Launch} {e : Env} {s : State} {m : MethodId} {args : Array Value} {below : List Frame} {meth : Method} {c : Code} {dC : Nat → ClassId} {dI : Nat → Nat → Nat} {cA : ClassId} {a : Nat → Nat} {A : Nat → Prop} (hC : tC p s m meth c args b_Sp_find 8 none wsA R_Sp A) (post : tS → Prop) : ∀ (x2 x3 x4 x5 : Int32) (u : tS) (H : Heap) (locs : List Loc) (ls : Array Slot), w_Sp_find_112 post x2 x3 x4 x5 u → tX (dC, dI) twCl [(cA, .int)] A s H locs (wdX a cA u) → lv_has ls 8 [(0, .ref (a 7)), (1, .ref (a 1)), (2, .int x2), (3, .int x3), (4, .int x4), (5, .int x5)] → W p l e ({ frames := 4, cells := 0, slots := 0, locals := 97 }) s m args below meth c H locs 0 0 (MQ below (va_Qv post (tB (dC, dI) twCl [(cA, .int)] A (wdX a cA)) A) args s 0 0 A) (F0 m 112 ls []) := by
  obtain ⟨hx, hb, hr, hml, hown, hts, hlocks, hA, hN⟩ := id hC
  intro x2 x3 x4 x5 u H locs ls hw hI hl
  refine lv_aload_n hx hb d_Sp_find_112 rfl (lv_at hl 0 rfl) ?_
  refine lv_iload hx hb d_Sp_find_113 (lv_at hl 4 rfl) ?_
  refine lv_iload hx hb d_Sp_find_115 (lv_at hl 5 rfl) ?_
  refine lv_aload_n hx hb d_Sp_find_117 rfl (lv_at hl 1 rfl) ?_
  refine va_get (D := (dC, dI)) (C := R_Ne) (T := F_Ne) (N := 5) hx hb hts in_Ne hown hI.1 hI.2.1 1 (wdX_o1 a cA _) rfl 4 (by decide) (hts _ wA_176) (fun _ h9 => h9) rfl d_Sp_find_118 ?_
  refine lv_iload_n hx hb d_Sp_find_121 rfl (lv_at hl 2 rfl) ?_
  refine lv_iload_n hx hb d_Sp_find_122 rfl (lv_at hl 3 rfl) ?_
  refine tr_goi (w := wdX a cA) hI hA (va_runV (As := [.int x2, .int x3]) (rest := [.int x5, .int x4, .ref (a 7)]) ⟨hx, hb, hml, hown, hts⟩ (c_Wa_anyNumber l dC dI cA a _ _ _ _ _) (cwV 2 hts (wsA_goodV wA_440 wA_361 wA_362 wA_34 wA_363) rfl rfl rfl (by decide +kernel) ⟨Nat.le_of_ble_eq_true rfl, Nat.le_of_ble_eq_true rfl⟩) (tr_preV (ci := 4) (q0 := 4) hI rfl (wdX_o4 a cA _) rfl hN hw) rfl rfl hl.1 rfl (lv_room (Nat.le_of_ble_eq_true rfl)) d_Sp_find_123 ⟨Nat.zero_le _, Nat.zero_le _⟩) (fun r123 u123 H locs hw hI => ?_)
  refine tr_gov (w := wdX a cA) hI hA (va_runV (As := [.int x4, .int x5, .int r123]) (rest := []) ⟨hx, hb, hml, hown, hts⟩ (c_Sp_spread l dC dI cA a _ _ _ _ _ _) (cwV 3 hts (wsA_goodV wA_488 wA_490 wA_4 wA_37 wA_491) rfl rfl rfl (by decide +kernel) ⟨Nat.le_of_ble_eq_true rfl, Nat.le_of_ble_eq_true rfl⟩) (tr_preV (ci := 6) (q0 := 7) hI rfl (wdX_o7 a cA _) rfl hN hw) rfl rfl hl.1 rfl (lv_room (Nat.le_of_ble_eq_true rfl)) d_Sp_find_126 ⟨Nat.zero_le _, Nat.zero_le _⟩) (fun u126 H locs hw hI => ?_)
  exact tr_vret hx hb hr hlocks hI hw d_Sp_find_129
set_option maxRecDepth 100000 in
set_option maxHeartbeats 4000000 in
theorem k_Sp_find_20 {p : Program} {l : Launch} {e : Env} {s : State} {m : MethodId} {args : Array Value} {below : List Frame} {meth : Method} {c : Code} {dC : Nat → ClassId} {dI : Nat → Nat → Nat} {cA : ClassId} {a : Nat → Nat} {A : Nat → Prop} (hC : tC p s m meth c args b_Sp_find 8 none wsA R_Sp A) (post : tS → Prop) : ∀ n : Nat, ∀ (x2 x3 x4 x5 x6 : Int32) (u : tS) (H : Heap) (locs : List Loc) (ls : Array Slot), w_Sp_find_20 post n x2 x3 x4 x5 x6 u → tX (dC, dI) twCl [(cA, .int)] A s H locs (wdX a cA u) → lv_has ls 8 [(0, .ref (a 7)), (1, .ref (a 1)), (2, .int x2), (3, .int x3), (4, .int x4), (5, .int x5), (6, .int x6)] → W p l e ({ frames := 4, cells := 0, slots := 0, locals := 97 }) s m args below meth c H locs 0 0 (MQ below (va_Qv post (tB (dC, dI) twCl [(cA, .int)] A (wdX a cA)) A) args s 0 0 A) (F0 m 20 ls []) := by
  obtain ⟨hx, hb, hr, hml, hown, hts, hlocks, hA, hN⟩ := id hC
  intro n
  induction n with
  | zero => intro x2 x3 x4 x5 x6 u H locs ls hw; exact False.elim hw
  | succ n ih =>
    intro x2 x3 x4 x5 x6 u H locs ls hw hI hl
    refine lv_iload hx hb d_Sp_find_20 (lv_at hl 6 rfl) ?_
    refine lv_if_lt (tgt := 112) hx hb d_Sp_find_22 (by decide) (fun hc => ?_) (fun hc => ?_)
    · have hw := hw.1 hc
      exact k_Sp_find_112 hC post _ _ _ _ _ _ _ ls hw hI (lv_sub hl [0, 1, 2, 3, 4, 5] rfl)
    · have hw := hw.2 hc
      refine lv_aload_n hx hb d_Sp_find_25 rfl (lv_at hl 1 rfl) ?_
      refine va_get (D := (dC, dI)) (C := R_Ne) (T := F_Ne) (N := 5) hx hb hts in_Ne hown hI.1 hI.2.1 1 (wdX_o1 a cA _) rfl 3 (by decide) (hts _ wA_172) (fun _ h9 => h9) rfl d_Sp_find_26 ?_
      refine va_get (D := (dC, dI)) (C := R_Bo) (T := F_Bo) (N := 3) hx hb hts in_Bo hown hI.1 hI.2.1 3 (wdX_o3 a cA _) rfl 2 (by decide) (hts _ wA_118) (fun _ h9 => h9) rfl d_Sp_find_29 ?_
      refine lv_iload hx hb d_Sp_find_32 (lv_at hl 6 rfl) ?_
      obtain ⟨hi, hw⟩ := hw
      refine va_iald (D := (dC, dI)) hx hb hI.1 hI.2.1 18 0 (wdX_o18 a cA _) rfl hi d_Sp_find_34 ?_
      refine lv_iload hx hb d_Sp_find_35 (lv_at hl 4 rfl) ?_
      refine lv_icmp_lt (tgt := 112) hx hb d_Sp_find_37 (by decide) (fun hc => ?_) (fun hc => ?_)
      · have hw := hw.1 hc
        exact k_Sp_find_112 hC post _ _ _ _ _ _ _ ls hw hI (lv_sub hl [0, 1, 2, 3, 4, 5] rfl)
      · have hw := hw.2 hc
        refine lv_aload_n hx hb d_Sp_find_40 rfl (lv_at hl 0 rfl) ?_
        refine va_get (D := (dC, dI)) (C := R_Sp) (T := F_Sp) (N := 2) hx hb hts in_Sp hown hI.1 hI.2.1 7 (wdX_o7 a cA _) rfl 0 (by decide) (hts _ wA_210) (fun _ h9 => h9) rfl d_Sp_find_41 ?_
        refine lv_iload hx hb d_Sp_find_44 (lv_at hl 6 rfl) ?_
        refine lv_aload_n hx hb d_Sp_find_46 rfl (lv_at hl 0 rfl) ?_
        refine lv_aload_n hx hb d_Sp_find_47 rfl (lv_at hl 1 rfl) ?_
        refine lv_iload hx hb d_Sp_find_48 (lv_at hl 6 rfl) ?_
        refine lv_iload_n hx hb d_Sp_find_50 rfl (lv_at hl 3 rfl) ?_
        refine tr_goi (w := wdX a cA) hI hA (va_runV (As := [.ref (a 1), .int x6, .int x3]) (rest := [.int x6, .ref (a 27)]) ⟨hx, hb, hml, hown, hts⟩ (c_Sp_endOf l dC dI cA a _ _ _ _ _) (cwV 3 hts (wsA_goodV wA_441 wA_443 wA_3 wA_37 wA_444) rfl rfl rfl (by decide +kernel) ⟨Nat.le_of_ble_eq_true rfl, Nat.le_of_ble_eq_true rfl⟩) (tr_preV (ci := 6) (q0 := 7) hI rfl (wdX_o7 a cA _) rfl hN hw) rfl rfl hl.1 rfl (lv_room (Nat.le_of_ble_eq_true rfl)) d_Sp_find_51 ⟨Nat.zero_le _, Nat.zero_le _⟩) (fun r51 u51 H locs hw hI => ?_)
        obtain ⟨hi, hw⟩ := hw
        refine tr_iast (w := wdX a cA) hx hb hI 27 0 17 (wdX_o27 a cA _) rfl (wdX_a17 a cA _ _ _) hi d_Sp_find_54 (fun H locs hI => ?_)
        refine lv_iload hx hb d_Sp_find_55 (lv_at hl 5 rfl) ?_
        refine lv_aload_n hx hb d_Sp_find_57 rfl (lv_at hl 1 rfl) ?_
        refine lv_iload_n hx hb d_Sp_find_58 rfl (lv_at hl 2 rfl) ?_
        refine lv_iload hx hb d_Sp_find_59 (lv_at hl 6 rfl) ?_
        refine tr_goi (w := wdX a cA) hI hA (va_runS (As := [.ref (a 1), .int x2, .int x6]) (rest := [.int x5]) ⟨hx, hb, hml, hown, hts⟩ (c_Sp_latestFor l dC dI cA a _ _ _ _ _) ⟨callB_of 3 hts (wsA_good wA_459) rfl rfl rfl (hts _ wA_37) (hts _ wA_457) (by decide +kernel) ⟨Nat.le_of_ble_eq_true rfl, Nat.le_of_ble_eq_true rfl⟩, hts _ wA_458⟩ (tr_preS hI hN hw) rfl rfl hl.1 rfl (lv_room (Nat.le_of_ble_eq_true rfl)) d_Sp_find_61 ⟨Nat.zero_le _, Nat.zero_le _⟩) (fun r61 u61 H locs hw hI => ?_)
        refine va_mmin hx hb (by rw [hml]; exact hl.1.symm) hown (hts _ wA_447) (hts _ wA_369) (hts _ wA_41) (hts _ wA_370) (Nat.le_of_ble_eq_true rfl) (Nat.le_of_ble_eq_true rfl) (Nat.zero_le _) (Nat.zero_le _) d_Sp_find_64 ?_
        refine lv_istore (lv' := [(7, .int (if r61 < x5 then r61 else x5)), (0, .ref (a 7)), (1, .ref (a 1)), (2, .int x2), (3, .int x3), (4, .int x4), (5, .int x5), (6, .int x6)]) hx hb d_Sp_find_67 hl (by decide) rfl (fun ls hl => ?_)
        refine lv_iload hx hb d_Sp_find_69 (lv_at hl 0 rfl) ?_
        refine lv_iload hx hb d_Sp_find_71 (lv_at hl 5 rfl) ?_
        refine lv_icmp_lt (tgt := 106) hx hb d_Sp_find_73 (by decide) (fun hc => ?_) (fun hc => ?_)
        · have hw := hw.1 hc
          refine lv_iinc (v := (x6 + (-1))) (lv' := [(6, .int (x6 + (-1))), (7, .int (if r61 < x5 then r61 else x5)), (0, .ref (a 7)), (1, .ref (a 1)), (2, .int x2), (3, .int x3), (4, .int x4), (5, .int x5)]) hx hb d_Sp_find_106 hl (k := 7) rfl rfl (by decide) rfl (fun ls hl => ?_)
          refine lv_goto (tgt := 20) hx hb d_Sp_find_109 (by decide) ?_
          exact ih _ _ _ _ _ _ _ _ ls hw hI (lv_sub hl [2, 3, 4, 5, 6, 7, 0] rfl)
        · have hw := hw.2 hc
          refine lv_aload_n hx hb d_Sp_find_76 rfl (lv_at hl 1 rfl) ?_
          refine va_get (D := (dC, dI)) (C := R_Sp) (T := F_Sp) (N := 2) hx hb hts in_Sp hown hI.1 hI.2.1 7 (wdX_o7 a cA _) rfl 1 (by decide) (hts _ wA_211) (fun _ h9 => h9) rfl d_Sp_find_77 ?_
          refine lv_iload hx hb d_Sp_find_80 (lv_at hl 0 rfl) ?_
          refine lv_iload hx hb d_Sp_find_82 (lv_at hl 5 rfl) ?_
          refine lv_isub hx hb d_Sp_find_84 ?_
          refine lv_aload_n hx hb d_Sp_find_85 rfl (lv_at hl 1 rfl) ?_
          refine va_get (D := (dC, dI)) (C := R_Sp) (T := F_Sp) (N := 2) hx hb hts in_Sp hown hI.1 hI.2.1 7 (wdX_o7 a cA _) rfl 1 (by decide) (hts _ wA_211) (fun _ h9 => h9) rfl d_Sp_find_86 ?_
          refine lv_iload hx hb d_Sp_find_89 (lv_at hl 0 rfl) ?_
          refine lv_iload hx hb d_Sp_find_91 (lv_at hl 5 rfl) ?_
          refine lv_isub hx hb d_Sp_find_93 ?_
          obtain ⟨hi, hw⟩ := hw
          refine va_iald (D := (dC, dI)) hx hb hI.1 hI.2.1 28 0 (wdX_o28 a cA _) rfl hi d_Sp_find_94 ?_
          refine lv_aload_n hx hb d_Sp_find_95 rfl (lv_at hl 1 rfl) ?_
          refine va_get (D := (dC, dI)) (C := R_Sp) (T := F_Sp) (N := 2) hx hb hts in_Sp hown hI.1 hI.2.1 7 (wdX_o7 a cA _) rfl 0 (by decide) (hts _ wA_210) (fun _ h9 => h9) rfl d_Sp_find_96 ?_
          refine lv_iload hx hb d_Sp_find_99 (lv_at hl 7 rfl) ?_
          obtain ⟨hi, hw⟩ := hw
          refine va_iald (D := (dC, dI)) hx hb hI.1 hI.2.1 27 0 (wdX_o27 a cA _) rfl hi d_Sp_find_101 ?_
          refine va_mmin hx hb (by rw [hml]; exact hl.1.symm) hown (hts _ wA_447) (hts _ wA_369) (hts _ wA_41) (hts _ wA_370) (Nat.le_of_ble_eq_true rfl) (Nat.le_of_ble_eq_true rfl) (Nat.zero_le _) (Nat.zero_le _) d_Sp_find_102 ?_
          obtain ⟨hi, hw⟩ := hw
          refine tr_iast (w := wdX a cA) hx hb hI 28 0 18 (wdX_o28 a cA _) rfl (wdX_a18 a cA _ _ _) hi d_Sp_find_105 (fun H locs hI => ?_)
          refine lv_iinc (v := (x6 + (-1))) (lv' := [(6, .int (x6 + (-1))), (7, .int (if r61 < x5 then r61 else x5)), (0, .ref (a 7)), (1, .ref (a 1)), (2, .int x2), (3, .int x3), (4, .int x4), (5, .int x5)]) hx hb d_Sp_find_106 hl (k := 7) rfl rfl (by decide) rfl (fun ls hl => ?_)
          refine lv_goto (tgt := 20) hx hb d_Sp_find_109 (by decide) ?_
          exact ih _ _ _ _ _ _ _ _ ls hw hI (lv_sub hl [2, 3, 4, 5, 6, 7, 0] rfl)
set_option maxRecDepth 100000 in
set_option maxHeartbeats 4000000 in
theorem c_Sp_find (l : Launch) (dC : Nat → ClassId) (dI : Nat → Nat → Nat) (cA : ClassId) (a : Nat → Nat) (u : tS) (x2 : Int32) (x3 : Int32) (x4 : Int32) (x5 : Int32) (post : tS → Prop) (sz : Nat) : Met l y_Sp_find ws_Sp_find ({ frames := 4, cells := 0, slots := 0, locals := 97 }) (va_Pc [.ref (a 7), .ref (a 1), .int x2, .int x3, .int x4, .int x5] (tP (dC, dI) twCl [(cA, .int)] (wdX a cA) u sz (w_Sp_find post x2 x3 x4 x5 u))) (va_Qv post (tB (dC, dI) twCl [(cA, .int)] (va_A (wdX a cA u) sz) (wdX a cA)) (va_A (wdX a cA u) sz)) 0 0 (va_A (wdX a cA u) sz) := by
  refine Met.ofW (cc := b_Sp_find) (maxL := 8) (ret := none) (by decide) rfl ?_
  intro p e s m args below meth c s₁ B hml hv
  obtain ⟨rfl, hsz, hP, hK, hD0, hN, hw⟩ := hv
  have hx := B.exec
  have hb := B.bytes
  have hr := B.returns
  have hts : ∀ w ∈ wsA, w.before _ s = true := fun w h => atoms_spec (ws := ws_Sp_find) B.pre w (List.mem_cons_of_mem _ h)
  have hown : s.vm.findClass R_Sp = some m.cls := findClass_of_methodNamed B.named
  have hlocks := B.notSynchronized
  subst hsz
  have hD := hD0.self (sz := s.heap.size)
  generalize hAe : va_A (wdX a cA u) s.heap.size = A at hD ⊢
  have hA : ∀ q : Nat, s.heap.size ≤ q → A q := fun q h => by rw [← hAe]; exact Or.inr h
  have hS : va_S A s.heap s.heap [] := va_S.rf
  have hI : tX (dC, dI) twCl [(cA, .int)] A s s.heap [] (wdX a cA u) := ⟨hK, hP, hD, hS⟩
  have hC : tC p s m meth c ([.ref (a 7), .ref (a 1), .int x2, .int x3, .int x4, .int x5] : List Value).toArray b_Sp_find 8 none wsA R_Sp A := ⟨hx, hb, hr, hml, hown, hts, hlocks, hA, hN⟩
  have hl := lv_entry ([.ref (a 7), .ref (a 1), .int x2, .int x3, .int x4, .int x5]) (n := 8) (Nat.le_of_ble_eq_true rfl)
  rw [lg_entry_eq]
  generalize (lg_sl ([.ref (a 7), .ref (a 1), .int x2, .int x3, .int x4, .int x5]) ++ List.replicate (8 - (lg_sl ([.ref (a 7), .ref (a 1), .int x2, .int x3, .int x4, .int x5])).length) Slot.unset).toArray = ls at hl ⊢
  have hl : lv_has ls 8 [(0, .ref (a 7)), (1, .ref (a 1)), (2, .int x2), (3, .int x3), (4, .int x4), (5, .int x5)] := hl
  have hw : (w_J_fill2 (fun u6 => (∃ k, w_Sp_find_20 post k x2 x3 x4 x5 ((u6.1 2) - 1) u6)) 1000000 u) := hw
  refine lv_aload_n hx hb d_Sp_find_0 rfl (lv_at hl 0 rfl) ?_
  refine va_get (D := (dC, dI)) (C := R_Sp) (T := F_Sp) (N := 2) hx hb hts in_Sp hown hI.1 hI.2.1 7 (wdX_o7 a cA _) rfl 1 (by decide) (hts _ wA_211) (fun _ h9 => h9) rfl d_Sp_find_1 ?_
  refine lv_ldc (v := 1000000) hx hb hown (hts _ wA_446) d_Sp_find_4 ?_
  refine tr_gov (w := wdX a cA) hI hA (va_runS (As := [.ref (a 28), .int 1000000]) (rest := []) ⟨hx, hb, hml, hown, hts⟩ (c_J_fill2 l dC dI cA a _ _ _ _) ⟨callB_of 2 hts (wsA_good wA_136) rfl rfl rfl (hts _ wA_35) (hts _ wA_487) (by decide +kernel) ⟨Nat.le_of_ble_eq_true rfl, Nat.le_of_ble_eq_true rfl⟩, hts _ wA_135⟩ (tr_preS hI hN hw) rfl rfl hl.1 rfl (lv_room (Nat.le_of_ble_eq_true rfl)) d_Sp_find_6 ⟨Nat.zero_le _, Nat.zero_le _⟩) (fun u6 H locs hw hI => ?_)
  refine lv_aload_n hx hb d_Sp_find_9 rfl (lv_at hl 1 rfl) ?_
  refine va_get (D := (dC, dI)) (C := R_Ne) (T := F_Ne) (N := 5) hx hb hts in_Ne hown hI.1 hI.2.1 1 (wdX_o1 a cA _) rfl 3 (by decide) (hts _ wA_172) (fun _ h9 => h9) rfl d_Sp_find_10 ?_
  refine va_get (D := (dC, dI)) (C := R_Bo) (T := F_Bo) (N := 3) hx hb hts in_Bo hown hI.1 hI.2.1 3 (wdX_o3 a cA _) rfl 0 (by decide) (hts _ wA_112) (fun _ h9 => h9) rfl d_Sp_find_13 ?_
  refine lv_iconst (v := 1) hx hb d_Sp_find_16 (by decide) ?_
  refine lv_isub hx hb d_Sp_find_17 ?_
  refine lv_istore (lv' := [(6, .int ((u6.1 2) - 1)), (0, .ref (a 7)), (1, .ref (a 1)), (2, .int x2), (3, .int x3), (4, .int x4), (5, .int x5)]) hx hb d_Sp_find_18 hl (by decide) rfl (fun ls hl => ?_)
  obtain ⟨k, hw⟩ := hw
  exact k_Sp_find_20 hC post k _ _ _ _ _ _ _ _ ls hw hI (lv_sub hl [1, 2, 3, 4, 5, 6, 0] rfl)
def w_Sp_leastMinutes_6 (post : Int32 → tS → Prop) : Nat → Int32 → Int32 → Int32 → Int32 → tS → Prop
  | 0 => fun _ _ _ _ _ => False
  | n + 1 => fun x1 x2 x3 x4 u => ((x2 < x4 → (post x3 u)) ∧ (¬ x2 < x4 → (vp_in (x4 - x1) 601 ∧ ((1000000 ≤ (u.2 18 (x4 - x1).toNatClampNeg) → (w_Sp_leastMinutes_6 post n x1 x2 x3 (x4 + 1) u)) ∧ (¬ 1000000 ≤ (u.2 18 (x4 - x1).toNatClampNeg) → (w_Sp_leastMinutes_6 post n x1 x2 (if ((u.2 18 (x4 - x1).toNatClampNeg) - x4) < x3 then ((u.2 18 (x4 - x1).toNatClampNeg) - x4) else x3) (x4 + 1) u))))))
def w_Sp_leastMinutes (post : Int32 → tS → Prop) (x1 : Int32) (x2 : Int32) (u : tS) : Prop := (∃ k, w_Sp_leastMinutes_6 post k x1 x2 1000000 x1 u)
set_option maxRecDepth 100000 in
set_option maxHeartbeats 4000000 in
theorem k_Sp_leastMinutes_6 {p : Program} {l : Launch} {e : Env} {s : State} {m : MethodId} {args : Array Value} {below : List Frame} {meth : Method} {c : Code} {dC : Nat → ClassId} {dI : Nat → Nat → Nat} {cA : ClassId} {a : Nat → Nat} {A : Nat → Prop} (hC : tC p s m meth c args b_Sp_leastMinutes 6 (some .int) wsA R_Sp A) (post : Int32 → tS → Prop) : ∀ n : Nat, ∀ (x1 x2 x3 x4 : Int32) (u : tS) (H : Heap) (locs : List Loc) (ls : Array Slot), w_Sp_leastMinutes_6 post n x1 x2 x3 x4 u → tX (dC, dI) twCl [(cA, .int)] A s H locs (wdX a cA u) → lv_has ls 6 [(0, .ref (a 7)), (1, .int x1), (2, .int x2), (3, .int x3), (4, .int x4)] → W p l e ({ frames := 1, cells := 0, slots := 0, locals := 13 }) s m args below meth c H locs 0 0 (MQ below (va_Qi post (tB (dC, dI) twCl [(cA, .int)] A (wdX a cA)) A) args s 0 0 A) (F0 m 6 ls []) := by
  obtain ⟨hx, hb, hr, hml, hown, hts, hlocks, hA, hN⟩ := id hC
  intro n
  induction n with
  | zero => intro x1 x2 x3 x4 u H locs ls hw; exact False.elim hw
  | succ n ih =>
    intro x1 x2 x3 x4 u H locs ls hw hI hl
    refine lv_iload hx hb d_Sp_leastMinutes_6 (lv_at hl 4 rfl) ?_
    refine lv_iload_n hx hb d_Sp_leastMinutes_8 rfl (lv_at hl 2 rfl) ?_
    refine lv_icmp_gt (tgt := 46) hx hb d_Sp_leastMinutes_9 (by decide) (fun hc => ?_) (fun hc => ?_)
    · have hw := hw.1 hc
      refine lv_iload_n hx hb d_Sp_leastMinutes_46 rfl (lv_at hl 3 rfl) ?_
      exact tr_iret hx hb hr hlocks hI hw d_Sp_leastMinutes_47
    · have hw := hw.2 hc
      refine lv_aload_n hx hb d_Sp_leastMinutes_12 rfl (lv_at hl 0 rfl) ?_
      refine va_get (D := (dC, dI)) (C := R_Sp) (T := F_Sp) (N := 2) hx hb hts in_Sp hown hI.1 hI.2.1 7 (wdX_o7 a cA _) rfl 1 (by decide) (hts _ wA_211) (fun _ h9 => h9) rfl d_Sp_leastMinutes_13 ?_
      refine lv_iload hx hb d_Sp_leastMinutes_16 (lv_at hl 4 rfl) ?_
      refine lv_iload_n hx hb d_Sp_leastMinutes_18 rfl (lv_at hl 1 rfl) ?_
      refine lv_isub hx hb d_Sp_leastMinutes_19 ?_
      obtain ⟨hi, hw⟩ := hw
      refine va_iald (D := (dC, dI)) hx hb hI.1 hI.2.1 28 0 (wdX_o28 a cA _) rfl hi d_Sp_leastMinutes_20 ?_
      refine lv_istore (lv' := [(5, .int (u.2 18 (x4 - x1).toNatClampNeg)), (0, .ref (a 7)), (1, .int x1), (2, .int x2), (3, .int x3), (4, .int x4)]) hx hb d_Sp_leastMinutes_21 hl (by decide) rfl (fun ls hl => ?_)
      refine lv_iload hx hb d_Sp_leastMinutes_23 (lv_at hl 0 rfl) ?_
      refine lv_ldc (v := 1000000) hx hb hown (hts _ wA_446) d_Sp_leastMinutes_25 ?_
      refine lv_icmp_ge (tgt := 40) hx hb d_Sp_leastMinutes_27 (by decide) (fun hc => ?_) (fun hc => ?_)
      · have hw := hw.1 hc
        refine lv_iinc (v := (x4 + 1)) (lv' := [(4, .int (x4 + 1)), (5, .int (u.2 18 (x4 - x1).toNatClampNeg)), (0, .ref (a 7)), (1, .int x1), (2, .int x2), (3, .int x3)]) hx hb d_Sp_leastMinutes_40 hl (k := 5) rfl rfl (by decide) rfl (fun ls hl => ?_)
        refine lv_goto (tgt := 6) hx hb d_Sp_leastMinutes_43 (by decide) ?_
        exact ih _ _ _ _ _ _ _ ls hw hI (lv_sub hl [2, 3, 4, 5, 0] rfl)
      · have hw := hw.2 hc
        refine lv_iload_n hx hb d_Sp_leastMinutes_30 rfl (lv_at hl 4 rfl) ?_
        refine lv_iload hx hb d_Sp_leastMinutes_31 (lv_at hl 0 rfl) ?_
        refine lv_iload hx hb d_Sp_leastMinutes_33 (lv_at hl 5 rfl) ?_
        refine lv_isub hx hb d_Sp_leastMinutes_35 ?_
        refine va_mmin hx hb (by rw [hml]; exact hl.1.symm) hown (hts _ wA_447) (hts _ wA_369) (hts _ wA_41) (hts _ wA_370) (Nat.le_of_ble_eq_true rfl) (Nat.le_of_ble_eq_true rfl) (Nat.zero_le _) (Nat.zero_le _) d_Sp_leastMinutes_36 ?_
        refine lv_istore_n (lv' := [(3, .int (if ((u.2 18 (x4 - x1).toNatClampNeg) - x4) < x3 then ((u.2 18 (x4 - x1).toNatClampNeg) - x4) else x3)), (5, .int (u.2 18 (x4 - x1).toNatClampNeg)), (0, .ref (a 7)), (1, .int x1), (2, .int x2), (4, .int x4)]) hx hb d_Sp_leastMinutes_39 rfl hl (by decide) rfl (fun ls hl => ?_)
        refine lv_iinc (v := (x4 + 1)) (lv' := [(4, .int (x4 + 1)), (3, .int (if ((u.2 18 (x4 - x1).toNatClampNeg) - x4) < x3 then ((u.2 18 (x4 - x1).toNatClampNeg) - x4) else x3)), (5, .int (u.2 18 (x4 - x1).toNatClampNeg)), (0, .ref (a 7)), (1, .int x1), (2, .int x2)]) hx hb d_Sp_leastMinutes_40 hl (k := 5) rfl rfl (by decide) rfl (fun ls hl => ?_)
        refine lv_goto (tgt := 6) hx hb d_Sp_leastMinutes_43 (by decide) ?_
        exact ih _ _ _ _ _ _ _ ls hw hI (lv_sub hl [3, 4, 5, 1, 0] rfl)
set_option maxRecDepth 100000 in
set_option maxHeartbeats 4000000 in
theorem c_Sp_leastMinutes (l : Launch) (dC : Nat → ClassId) (dI : Nat → Nat → Nat) (cA : ClassId) (a : Nat → Nat) (u : tS) (x1 : Int32) (x2 : Int32) (post : Int32 → tS → Prop) (sz : Nat) : Met l y_Sp_leastMinutes ws_Sp_leastMinutes ({ frames := 1, cells := 0, slots := 0, locals := 13 }) (va_Pc [.ref (a 7), .int x1, .int x2] (tP (dC, dI) twCl [(cA, .int)] (wdX a cA) u sz (w_Sp_leastMinutes post x1 x2 u))) (va_Qi post (tB (dC, dI) twCl [(cA, .int)] (va_A (wdX a cA u) sz) (wdX a cA)) (va_A (wdX a cA u) sz)) 0 0 (va_A (wdX a cA u) sz) := by
  refine Met.ofW (cc := b_Sp_leastMinutes) (maxL := 6) (ret := (some .int)) (by decide) rfl ?_
  intro p e s m args below meth c s₁ B hml hv
  obtain ⟨rfl, hsz, hP, hK, hD0, hN, hw⟩ := hv
  have hx := B.exec
  have hb := B.bytes
  have hr := B.returns
  have hts : ∀ w ∈ wsA, w.before _ s = true := fun w h => atoms_spec (ws := ws_Sp_leastMinutes) B.pre w (List.mem_cons_of_mem _ h)
  have hown : s.vm.findClass R_Sp = some m.cls := findClass_of_methodNamed B.named
  have hlocks := B.notSynchronized
  subst hsz
  have hD := hD0.self (sz := s.heap.size)
  generalize hAe : va_A (wdX a cA u) s.heap.size = A at hD ⊢
  have hA : ∀ q : Nat, s.heap.size ≤ q → A q := fun q h => by rw [← hAe]; exact Or.inr h
  have hS : va_S A s.heap s.heap [] := va_S.rf
  have hI : tX (dC, dI) twCl [(cA, .int)] A s s.heap [] (wdX a cA u) := ⟨hK, hP, hD, hS⟩
  have hC : tC p s m meth c ([.ref (a 7), .int x1, .int x2] : List Value).toArray b_Sp_leastMinutes 6 (some .int) wsA R_Sp A := ⟨hx, hb, hr, hml, hown, hts, hlocks, hA, hN⟩
  have hl := lv_entry ([.ref (a 7), .int x1, .int x2]) (n := 6) (Nat.le_of_ble_eq_true rfl)
  rw [lg_entry_eq]
  generalize (lg_sl ([.ref (a 7), .int x1, .int x2]) ++ List.replicate (6 - (lg_sl ([.ref (a 7), .int x1, .int x2])).length) Slot.unset).toArray = ls at hl ⊢
  have hl : lv_has ls 6 [(0, .ref (a 7)), (1, .int x1), (2, .int x2)] := hl
  have hw : (∃ k, w_Sp_leastMinutes_6 post k x1 x2 1000000 x1 u) := hw
  refine lv_ldc (v := 1000000) hx hb hown (hts _ wA_446) d_Sp_leastMinutes_0 ?_
  refine lv_istore_n (lv' := [(3, .int 1000000), (0, .ref (a 7)), (1, .int x1), (2, .int x2)]) hx hb d_Sp_leastMinutes_2 rfl hl (by decide) rfl (fun ls hl => ?_)
  refine lv_iload_n hx hb d_Sp_leastMinutes_3 rfl (lv_at hl 2 rfl) ?_
  refine lv_istore (lv' := [(4, .int x1), (3, .int 1000000), (0, .ref (a 7)), (1, .int x1), (2, .int x2)]) hx hb d_Sp_leastMinutes_4 hl (by decide) rfl (fun ls hl => ?_)
  obtain ⟨k, hw⟩ := hw
  exact k_Sp_leastMinutes_6 hC post k _ _ _ _ _ _ _ ls hw hI (lv_sub hl [2, 3, 4, 1, 0] rfl)
end
section
def w_T_fastest (post : Int32 → tS → Prop) (x1 : Int32) (x2 : Int32) (x3 : Int32) (x4 : Int32) (u : tS) : Prop := (w_Ne_hasStops (fun r6 u6 => ((r6 = 0 → (post (-2) u6)) ∧ (¬ r6 = 0 → (w_T_isSpan (fun r15 u15 => ((r15 = 0 → (post (-2) u15)) ∧ (¬ r15 = 0 → (w_Sp_find (fun u37 => (w_Sp_leastMinutes (fun r47 u47 => (w_T_orNone (fun r50 u50 => (post r50 u50)) r47 u47)) x3 x4 u37)) x1 x2 x3 x4 u15)))) x3 x4 u6)))) x1 x2 u)
set_option maxRecDepth 100000 in
set_option maxHeartbeats 4000000 in
theorem c_T_fastest (l : Launch) (dC : Nat → ClassId) (dI : Nat → Nat → Nat) (cA : ClassId) (a : Nat → Nat) (u : tS) (x1 : Int32) (x2 : Int32) (x3 : Int32) (x4 : Int32) (post : Int32 → tS → Prop) (sz : Nat) : Met l y_T_fastest ws_T_fastest ({ frames := 5, cells := 0, slots := 0, locals := 124 }) (va_Pc [.ref (a 0), .int x1, .int x2, .int x3, .int x4] (tP (dC, dI) twCl [(cA, .int)] (wdX a cA) u sz (w_T_fastest post x1 x2 x3 x4 u))) (va_Qi post (tB (dC, dI) twCl [(cA, .int)] (va_A (wdX a cA u) sz) (wdX a cA)) (va_A (wdX a cA u) sz)) 0 0 (va_A (wdX a cA u) sz) := by
  refine Met.ofW (cc := b_T_fastest) (maxL := 5) (ret := (some .int)) (by decide) rfl ?_
  intro p e s m args below meth c s₁ B hml hv
  obtain ⟨rfl, hsz, hP, hK, hD0, hN, hw⟩ := hv
  have hx := B.exec
  have hb := B.bytes
  have hr := B.returns
  have hts : ∀ w ∈ wsA, w.before _ s = true := fun w h => atoms_spec (ws := ws_T_fastest) B.pre w (List.mem_cons_of_mem _ h)
  have hown : s.vm.findClass R_T = some m.cls := findClass_of_methodNamed B.named
  have hlocks := B.notSynchronized
  subst hsz
  have hD := hD0.self (sz := s.heap.size)
  generalize hAe : va_A (wdX a cA u) s.heap.size = A at hD ⊢
  have hA : ∀ q : Nat, s.heap.size ≤ q → A q := fun q h => by rw [← hAe]; exact Or.inr h
  have hS : va_S A s.heap s.heap [] := va_S.rf
  have hI : tX (dC, dI) twCl [(cA, .int)] A s s.heap [] (wdX a cA u) := ⟨hK, hP, hD, hS⟩
  have hC : tC p s m meth c ([.ref (a 0), .int x1, .int x2, .int x3, .int x4] : List Value).toArray b_T_fastest 5 (some .int) wsA R_T A := ⟨hx, hb, hr, hml, hown, hts, hlocks, hA, hN⟩
  have hl := lv_entry ([.ref (a 0), .int x1, .int x2, .int x3, .int x4]) (n := 5) (Nat.le_of_ble_eq_true rfl)
  rw [lg_entry_eq]
  generalize (lg_sl ([.ref (a 0), .int x1, .int x2, .int x3, .int x4]) ++ List.replicate (5 - (lg_sl ([.ref (a 0), .int x1, .int x2, .int x3, .int x4])).length) Slot.unset).toArray = ls at hl ⊢
  have hl : lv_has ls 5 [(0, .ref (a 0)), (1, .int x1), (2, .int x2), (3, .int x3), (4, .int x4)] := hl
  have hw : (w_Ne_hasStops (fun r6 u6 => ((r6 = 0 → (post (-2) u6)) ∧ (¬ r6 = 0 → (w_T_isSpan (fun r15 u15 => ((r15 = 0 → (post (-2) u15)) ∧ (¬ r15 = 0 → (w_Sp_find (fun u37 => (w_Sp_leastMinutes (fun r47 u47 => (w_T_orNone (fun r50 u50 => (post r50 u50)) r47 u47)) x3 x4 u37)) x1 x2 x3 x4 u15)))) x3 x4 u6)))) x1 x2 u) := hw
  refine lv_aload_n hx hb d_T_fastest_0 rfl (lv_at hl 0 rfl) ?_
  refine va_get (D := (dC, dI)) (C := R_T) (T := F_T) (N := 6) hx hb hts in_T hown hI.1 hI.2.1 0 (wdX_o0 a cA _) rfl 0 (by decide) (hts _ wA_264) (fun _ h9 => h9) rfl d_T_fastest_1 ?_
  refine lv_iload_n hx hb d_T_fastest_4 rfl (lv_at hl 1 rfl) ?_
  refine lv_iload_n hx hb d_T_fastest_5 rfl (lv_at hl 2 rfl) ?_
  refine tr_goi (w := wdX a cA) hI hA (va_runV (As := [.int x1, .int x2]) (rest := []) ⟨hx, hb, hml, hown, hts⟩ (c_Ne_hasStops l dC dI cA a _ _ _ _ _) (cwV 2 hts (wsA_goodV wA_315 wA_316 wA_317 wA_31 wA_318) rfl rfl rfl (by decide +kernel) ⟨Nat.le_of_ble_eq_true rfl, Nat.le_of_ble_eq_true rfl⟩) (tr_preV (ci := 1) (q0 := 1) hI rfl (wdX_o1 a cA _) rfl hN hw) rfl rfl hl.1 rfl (lv_room (Nat.le_of_ble_eq_true rfl)) d_T_fastest_6 ⟨Nat.zero_le _, Nat.zero_le _⟩) (fun r6 u6 H locs hw hI => ?_)
  refine lv_if_eq (tgt := 21) hx hb d_T_fastest_9 (by decide) (fun hc => ?_) (fun hc => ?_)
  · have hw := hw.1 hc
    refine lv_bipush (v := (-2)) hx hb d_T_fastest_21 (by decide) ?_
    exact tr_iret hx hb hr hlocks hI hw d_T_fastest_23
  · have hw := hw.2 hc
    refine lv_iload_n hx hb d_T_fastest_12 rfl (lv_at hl 3 rfl) ?_
    refine lv_iload hx hb d_T_fastest_13 (lv_at hl 4 rfl) ?_
    refine tr_goi (w := wdX a cA) hI hA (va_runS (As := [.int x3, .int x4]) (rest := []) ⟨hx, hb, hml, hown, hts⟩ (c_T_isSpan l dC dI cA a _ _ _ _ _) ⟨callB_of 2 hts (wsA_good wA_482) rfl rfl rfl (hts _ wA_30) (hts _ wA_480) (by decide +kernel) ⟨Nat.le_of_ble_eq_true rfl, Nat.le_of_ble_eq_true rfl⟩, hts _ wA_481⟩ (tr_preS hI hN hw) rfl rfl hl.1 rfl (lv_room (Nat.le_of_ble_eq_true rfl)) d_T_fastest_15 ⟨Nat.zero_le _, Nat.zero_le _⟩) (fun r15 u15 H locs hw hI => ?_)
    refine lv_if_ne (tgt := 24) hx hb d_T_fastest_18 (by decide) (fun hc => ?_) (fun hc => ?_)
    · have hw := hw.2 hc
      refine lv_aload_n hx hb d_T_fastest_24 rfl (lv_at hl 0 rfl) ?_
      refine va_get (D := (dC, dI)) (C := R_T) (T := F_T) (N := 6) hx hb hts in_T hown hI.1 hI.2.1 0 (wdX_o0 a cA _) rfl 3 (by decide) (hts _ wA_267) (fun _ h9 => h9) rfl d_T_fastest_25 ?_
      refine lv_aload_n hx hb d_T_fastest_28 rfl (lv_at hl 0 rfl) ?_
      refine va_get (D := (dC, dI)) (C := R_T) (T := F_T) (N := 6) hx hb hts in_T hown hI.1 hI.2.1 0 (wdX_o0 a cA _) rfl 0 (by decide) (hts _ wA_264) (fun _ h9 => h9) rfl d_T_fastest_29 ?_
      refine lv_iload_n hx hb d_T_fastest_32 rfl (lv_at hl 1 rfl) ?_
      refine lv_iload_n hx hb d_T_fastest_33 rfl (lv_at hl 2 rfl) ?_
      refine lv_iload_n hx hb d_T_fastest_34 rfl (lv_at hl 3 rfl) ?_
      refine lv_iload hx hb d_T_fastest_35 (lv_at hl 4 rfl) ?_
      refine tr_gov (w := wdX a cA) hI hA (va_runV (As := [.ref (a 1), .int x1, .int x2, .int x3, .int x4]) (rest := []) ⟨hx, hb, hml, hown, hts⟩ (c_Sp_find l dC dI cA a _ _ _ _ _ _ _) (cwV 5 hts (wsA_goodV wA_483 wA_484 wA_485 wA_37 wA_486) rfl rfl rfl (by decide +kernel) ⟨Nat.le_of_ble_eq_true rfl, Nat.le_of_ble_eq_true rfl⟩) (tr_preV (ci := 6) (q0 := 7) hI rfl (wdX_o7 a cA _) rfl hN hw) rfl rfl hl.1 rfl (lv_room (Nat.le_of_ble_eq_true rfl)) d_T_fastest_37 ⟨Nat.zero_le _, Nat.zero_le _⟩) (fun u37 H locs hw hI => ?_)
      refine lv_aload_n hx hb d_T_fastest_40 rfl (lv_at hl 0 rfl) ?_
      refine va_get (D := (dC, dI)) (C := R_T) (T := F_T) (N := 6) hx hb hts in_T hown hI.1 hI.2.1 0 (wdX_o0 a cA _) rfl 3 (by decide) (hts _ wA_267) (fun _ h9 => h9) rfl d_T_fastest_41 ?_
      refine lv_iload_n hx hb d_T_fastest_44 rfl (lv_at hl 3 rfl) ?_
      refine lv_iload hx hb d_T_fastest_45 (lv_at hl 4 rfl) ?_
      refine tr_goi (w := wdX a cA) hI hA (va_runV (As := [.int x3, .int x4]) (rest := []) ⟨hx, hb, hml, hown, hts⟩ (c_Sp_leastMinutes l dC dI cA a _ _ _ _ _) (cwV 2 hts (wsA_goodV wA_492 wA_493 wA_494 wA_37 wA_495) rfl rfl rfl (by decide +kernel) ⟨Nat.le_of_ble_eq_true rfl, Nat.le_of_ble_eq_true rfl⟩) (tr_preV (ci := 6) (q0 := 7) hI rfl (wdX_o7 a cA _) rfl hN hw) rfl rfl hl.1 rfl (lv_room (Nat.le_of_ble_eq_true rfl)) d_T_fastest_47 ⟨Nat.zero_le _, Nat.zero_le _⟩) (fun r47 u47 H locs hw hI => ?_)
      refine tr_goi (w := wdX a cA) hI hA (va_runS (As := [.int r47]) (rest := []) ⟨hx, hb, hml, hown, hts⟩ (c_T_orNone l dC dI cA a _ _ _ _) ⟨callB_of 1 hts (wsA_good wA_427) rfl rfl rfl (hts _ wA_30) (hts _ wA_425) (by decide +kernel) ⟨Nat.le_of_ble_eq_true rfl, Nat.le_of_ble_eq_true rfl⟩, hts _ wA_426⟩ (tr_preS hI hN hw) rfl rfl hl.1 rfl (lv_room (Nat.le_of_ble_eq_true rfl)) d_T_fastest_50 ⟨Nat.zero_le _, Nat.zero_le _⟩) (fun r50 u50 H locs hw hI => ?_)
      exact tr_iret hx hb hr hlocks hI hw d_T_fastest_53
    · have hw := hw.1 hc
      refine lv_bipush (v := (-2)) hx hb d_T_fastest_21 (by decide) ?_
      exact tr_iret hx hb hr hlocks hI hw d_T_fastest_23
def w_St_take_40 (post : tS → Prop) (K8 : Int32 → Int32 → Int32 → tS → Prop) (x2 : Int32) (x3 : Int32) (x4 : Int32) (u : tS) : Prop := (vp_in (u.1 4) 601 ∧ (vp_in x4 601 ∧ (vp_in ((tA u 19 (u.1 4) (x2 + x4)).1 4) 601 ∧ (K8 x2 x3 (x4 + 1) (tI (tA (tA u 19 (u.1 4) (x2 + x4)) 20 ((tA u 19 (u.1 4) (x2 + x4)).1 4) ((tA u 19 (u.1 4) (x2 + x4)).2 18 x4.toNatClampNeg)) 4 (((tA (tA u 19 (u.1 4) (x2 + x4)) 20 ((tA u 19 (u.1 4) (x2 + x4)).1 4) ((tA u 19 (u.1 4) (x2 + x4)).2 18 x4.toNatClampNeg)).1 4) + 1))))))
def w_St_take_8 (post : tS → Prop) : Nat → Int32 → Int32 → Int32 → tS → Prop
  | 0 => fun _ _ _ _ => False
  | n + 1 => fun x2 x3 x4 u => (((x3 - x2) < x4 → (post u)) ∧ (¬ (x3 - x2) < x4 → ((x4 = 0 → (w_St_take_40 post (w_St_take_8 post n) x2 x3 x4 u)) ∧ (¬ x4 = 0 → (vp_in x4 601 ∧ (vp_in (x4 - 1) 601 ∧ (((u.2 18 x4.toNatClampNeg) = (u.2 18 (x4 - 1).toNatClampNeg) → (w_St_take_8 post n x2 x3 (x4 + 1) u)) ∧ (¬ (u.2 18 x4.toNatClampNeg) = (u.2 18 (x4 - 1).toNatClampNeg) → (w_St_take_40 post (w_St_take_8 post n) x2 x3 x4 u)))))))))
def w_St_take (post : tS → Prop) (x2 : Int32) (x3 : Int32) (u : tS) : Prop := (∃ k, w_St_take_8 post k x2 x3 0 (tI u 4 0))
set_option maxRecDepth 100000 in
set_option maxHeartbeats 4000000 in
theorem k_St_take_40 {p : Program} {l : Launch} {e : Env} {s : State} {m : MethodId} {args : Array Value} {below : List Frame} {meth : Method} {c : Code} {dC : Nat → ClassId} {dI : Nat → Nat → Nat} {cA : ClassId} {a : Nat → Nat} {A : Nat → Prop} (hC : tC p s m meth c args b_St_take 5 none wsA R_St A) (post : tS → Prop) (K8 : Int32 → Int32 → Int32 → tS → Prop) (hK8 : ∀ (x2 x3 x4 : Int32) (u : tS) (H : Heap) (locs : List Loc) (ls : Array Slot), K8 x2 x3 x4 u → tX (dC, dI) twCl [(cA, .int)] A s H locs (wdX a cA u) → lv_has ls 5 [(0, .ref (a 8)), (1, .ref (a 7)), (2, .int x2), (3, .int x3), (4, .int x4)] → W p l e ({ frames := 0, cells := 0, slots := 0, locals := 0 }) s m args below meth c H locs 0 0 (MQ below (va_Qv post (tB (dC, dI) twCl [(cA, .int)] A (wdX a cA)) A) args s 0 0 A) (F0 m 8 ls [])) : ∀ (x2 x3 x4 : Int32) (u : tS) (H : Heap) (locs : List Loc) (ls : Array Slot), w_St_take_40 post K8 x2 x3 x4 u → tX (dC, dI) twCl [(cA, .int)] A s H locs (wdX a cA u) → lv_has ls 5 [(0, .ref (a 8)), (1, .ref (a 7)), (2, .int x2), (3, .int x3), (4, .int x4)] → W p l e ({ frames := 0, cells := 0, slots := 0, locals := 0 }) s m args below meth c H locs 0 0 (MQ below (va_Qv post (tB (dC, dI) twCl [(cA, .int)] A (wdX a cA)) A) args s 0 0 A) (F0 m 40 ls []) := by
  obtain ⟨hx, hb, hr, hml, hown, hts, hlocks, hA, hN⟩ := id hC
  intro x2 x3 x4 u H locs ls hw hI hl
  refine lv_aload_n hx hb d_St_take_40 rfl (lv_at hl 0 rfl) ?_
  refine va_get (D := (dC, dI)) (C := R_St) (T := F_St) (N := 3) hx hb hts in_St hown hI.1 hI.2.1 8 (wdX_o8 a cA _) rfl 1 (by decide) (hts _ wA_226) (fun _ h9 => h9) rfl d_St_take_41 ?_
  refine lv_aload_n hx hb d_St_take_44 rfl (lv_at hl 0 rfl) ?_
  refine va_get (D := (dC, dI)) (C := R_St) (T := F_St) (N := 3) hx hb hts in_St hown hI.1 hI.2.1 8 (wdX_o8 a cA _) rfl 0 (by decide) (hts _ wA_224) (fun _ h9 => h9) rfl d_St_take_45 ?_
  refine lv_iload_n hx hb d_St_take_48 rfl (lv_at hl 2 rfl) ?_
  refine lv_iload hx hb d_St_take_49 (lv_at hl 4 rfl) ?_
  refine lv_iadd hx hb d_St_take_51 ?_
  obtain ⟨hi, hw⟩ := hw
  refine tr_iast (w := wdX a cA) hx hb hI 29 0 19 (wdX_o29 a cA _) rfl (wdX_a19 a cA _ _ _) hi d_St_take_52 (fun H locs hI => ?_)
  refine lv_aload_n hx hb d_St_take_53 rfl (lv_at hl 0 rfl) ?_
  refine va_get (D := (dC, dI)) (C := R_St) (T := F_St) (N := 3) hx hb hts in_St hown hI.1 hI.2.1 8 (wdX_o8 a cA _) rfl 2 (by decide) (hts _ wA_228) (fun _ h9 => h9) rfl d_St_take_54 ?_
  refine lv_aload_n hx hb d_St_take_57 rfl (lv_at hl 0 rfl) ?_
  refine va_get (D := (dC, dI)) (C := R_St) (T := F_St) (N := 3) hx hb hts in_St hown hI.1 hI.2.1 8 (wdX_o8 a cA _) rfl 0 (by decide) (hts _ wA_224) (fun _ h9 => h9) rfl d_St_take_58 ?_
  refine lv_aload_n hx hb d_St_take_61 rfl (lv_at hl 1 rfl) ?_
  refine va_get (D := (dC, dI)) (C := R_Sp) (T := F_Sp) (N := 2) hx hb hts in_Sp hown hI.1 hI.2.1 7 (wdX_o7 a cA _) rfl 1 (by decide) (hts _ wA_212) (fun _ h9 => h9) rfl d_St_take_62 ?_
  refine lv_iload hx hb d_St_take_65 (lv_at hl 4 rfl) ?_
  obtain ⟨hi, hw⟩ := hw
  refine va_iald (D := (dC, dI)) hx hb hI.1 hI.2.1 28 0 (wdX_o28 a cA _) rfl hi d_St_take_67 ?_
  obtain ⟨hi, hw⟩ := hw
  refine tr_iast (w := wdX a cA) hx hb hI 30 0 20 (wdX_o30 a cA _) rfl (wdX_a20 a cA _ _ _) hi d_St_take_68 (fun H locs hI => ?_)
  refine lv_aload_n hx hb d_St_take_69 rfl (lv_at hl 0 rfl) ?_
  refine lv_dup hx hb d_St_take_70 rfl ?_
  refine va_get (D := (dC, dI)) (C := R_St) (T := F_St) (N := 3) hx hb hts in_St hown hI.1 hI.2.1 8 (wdX_o8 a cA _) rfl 0 (by decide) (hts _ wA_224) (fun _ h9 => h9) rfl d_St_take_71 ?_
  refine lv_iconst (v := 1) hx hb d_St_take_74 (by decide) ?_
  refine lv_iadd hx hb d_St_take_75 ?_
  refine tr_put (C := R_St) (T := F_St) (N := 3) (w := wdX a cA) hx hb hts in_St ft_St ft_St_ok fn_St hown hI 8 4 (wdX_o8 a cA _) rfl 0 (by decide) (hts _ wA_224) rfl (by decide +kernel) (Nat.le_of_ble_eq_true rfl) (wdX_i4 a cA _ _) d_St_take_76 (fun H locs hI => ?_)
  refine lv_iinc (v := (x4 + 1)) (lv' := [(4, .int (x4 + 1)), (0, .ref (a 8)), (1, .ref (a 7)), (2, .int x2), (3, .int x3)]) hx hb d_St_take_79 hl (k := 4) rfl rfl (by decide) rfl (fun ls hl => ?_)
  refine lv_goto (tgt := 8) hx hb d_St_take_82 (by decide) ?_
  exact hK8 _ _ _ _ _ _ ls hw hI (lv_sub hl [1, 2, 3, 4, 0] rfl)
set_option maxRecDepth 100000 in
set_option maxHeartbeats 4000000 in
theorem k_St_take_8 {p : Program} {l : Launch} {e : Env} {s : State} {m : MethodId} {args : Array Value} {below : List Frame} {meth : Method} {c : Code} {dC : Nat → ClassId} {dI : Nat → Nat → Nat} {cA : ClassId} {a : Nat → Nat} {A : Nat → Prop} (hC : tC p s m meth c args b_St_take 5 none wsA R_St A) (post : tS → Prop) : ∀ n : Nat, ∀ (x2 x3 x4 : Int32) (u : tS) (H : Heap) (locs : List Loc) (ls : Array Slot), w_St_take_8 post n x2 x3 x4 u → tX (dC, dI) twCl [(cA, .int)] A s H locs (wdX a cA u) → lv_has ls 5 [(0, .ref (a 8)), (1, .ref (a 7)), (2, .int x2), (3, .int x3), (4, .int x4)] → W p l e ({ frames := 0, cells := 0, slots := 0, locals := 0 }) s m args below meth c H locs 0 0 (MQ below (va_Qv post (tB (dC, dI) twCl [(cA, .int)] A (wdX a cA)) A) args s 0 0 A) (F0 m 8 ls []) := by
  obtain ⟨hx, hb, hr, hml, hown, hts, hlocks, hA, hN⟩ := id hC
  intro n
  induction n with
  | zero => intro x2 x3 x4 u H locs ls hw; exact False.elim hw
  | succ n ih =>
    intro x2 x3 x4 u H locs ls hw hI hl
    refine lv_iload hx hb d_St_take_8 (lv_at hl 4 rfl) ?_
    refine lv_iload_n hx hb d_St_take_10 rfl (lv_at hl 3 rfl) ?_
    refine lv_iload_n hx hb d_St_take_11 rfl (lv_at hl 2 rfl) ?_
    refine lv_isub hx hb d_St_take_12 ?_
    refine lv_icmp_gt (tgt := 85) hx hb d_St_take_13 (by decide) (fun hc => ?_) (fun hc => ?_)
    · have hw := hw.1 hc
      exact tr_vret hx hb hr hlocks hI hw d_St_take_85
    · have hw := hw.2 hc
      refine lv_iload hx hb d_St_take_16 (lv_at hl 4 rfl) ?_
      refine lv_if_eq (tgt := 40) hx hb d_St_take_18 (by decide) (fun hc => ?_) (fun hc => ?_)
      · have hw := hw.1 hc
        exact k_St_take_40 hC post _ ih _ _ _ _ _ _ ls hw hI (lv_sub hl [0, 1, 2, 3, 4] rfl)
      · have hw := hw.2 hc
        refine lv_aload_n hx hb d_St_take_21 rfl (lv_at hl 1 rfl) ?_
        refine va_get (D := (dC, dI)) (C := R_Sp) (T := F_Sp) (N := 2) hx hb hts in_Sp hown hI.1 hI.2.1 7 (wdX_o7 a cA _) rfl 1 (by decide) (hts _ wA_212) (fun _ h9 => h9) rfl d_St_take_22 ?_
        refine lv_iload hx hb d_St_take_25 (lv_at hl 4 rfl) ?_
        obtain ⟨hi, hw⟩ := hw
        refine va_iald (D := (dC, dI)) hx hb hI.1 hI.2.1 28 0 (wdX_o28 a cA _) rfl hi d_St_take_27 ?_
        refine lv_aload_n hx hb d_St_take_28 rfl (lv_at hl 1 rfl) ?_
        refine va_get (D := (dC, dI)) (C := R_Sp) (T := F_Sp) (N := 2) hx hb hts in_Sp hown hI.1 hI.2.1 7 (wdX_o7 a cA _) rfl 1 (by decide) (hts _ wA_212) (fun _ h9 => h9) rfl d_St_take_29 ?_
        refine lv_iload hx hb d_St_take_32 (lv_at hl 4 rfl) ?_
        refine lv_iconst (v := 1) hx hb d_St_take_34 (by decide) ?_
        refine lv_isub hx hb d_St_take_35 ?_
        obtain ⟨hi, hw⟩ := hw
        refine va_iald (D := (dC, dI)) hx hb hI.1 hI.2.1 28 0 (wdX_o28 a cA _) rfl hi d_St_take_36 ?_
        refine lv_icmp_eq (tgt := 79) hx hb d_St_take_37 (by decide) (fun hc => ?_) (fun hc => ?_)
        · have hw := hw.1 hc
          refine lv_iinc (v := (x4 + 1)) (lv' := [(4, .int (x4 + 1)), (0, .ref (a 8)), (1, .ref (a 7)), (2, .int x2), (3, .int x3)]) hx hb d_St_take_79 hl (k := 4) rfl rfl (by decide) rfl (fun ls hl => ?_)
          refine lv_goto (tgt := 8) hx hb d_St_take_82 (by decide) ?_
          exact ih _ _ _ _ _ _ ls hw hI (lv_sub hl [1, 2, 3, 4, 0] rfl)
        · have hw := hw.2 hc
          exact k_St_take_40 hC post _ ih _ _ _ _ _ _ ls hw hI (lv_sub hl [0, 1, 2, 3, 4] rfl)
set_option maxRecDepth 100000 in
set_option maxHeartbeats 4000000 in
theorem c_St_take (l : Launch) (dC : Nat → ClassId) (dI : Nat → Nat → Nat) (cA : ClassId) (a : Nat → Nat) (u : tS) (x2 : Int32) (x3 : Int32) (post : tS → Prop) (sz : Nat) : Met l y_St_take ws_St_take ({ frames := 0, cells := 0, slots := 0, locals := 0 }) (va_Pc [.ref (a 8), .ref (a 7), .int x2, .int x3] (tP (dC, dI) twCl [(cA, .int)] (wdX a cA) u sz (w_St_take post x2 x3 u))) (va_Qv post (tB (dC, dI) twCl [(cA, .int)] (va_A (wdX a cA u) sz) (wdX a cA)) (va_A (wdX a cA u) sz)) 0 0 (va_A (wdX a cA u) sz) := by
  refine Met.ofW (cc := b_St_take) (maxL := 5) (ret := none) (by decide) rfl ?_
  intro p e s m args below meth c s₁ B hml hv
  obtain ⟨rfl, hsz, hP, hK, hD0, hN, hw⟩ := hv
  have hx := B.exec
  have hb := B.bytes
  have hr := B.returns
  have hts : ∀ w ∈ wsA, w.before _ s = true := fun w h => atoms_spec (ws := ws_St_take) B.pre w (List.mem_cons_of_mem _ h)
  have hown : s.vm.findClass R_St = some m.cls := findClass_of_methodNamed B.named
  have hlocks := B.notSynchronized
  subst hsz
  have hD := hD0.self (sz := s.heap.size)
  generalize hAe : va_A (wdX a cA u) s.heap.size = A at hD ⊢
  have hA : ∀ q : Nat, s.heap.size ≤ q → A q := fun q h => by rw [← hAe]; exact Or.inr h
  have hS : va_S A s.heap s.heap [] := va_S.rf
  have hI : tX (dC, dI) twCl [(cA, .int)] A s s.heap [] (wdX a cA u) := ⟨hK, hP, hD, hS⟩
  have hC : tC p s m meth c ([.ref (a 8), .ref (a 7), .int x2, .int x3] : List Value).toArray b_St_take 5 none wsA R_St A := ⟨hx, hb, hr, hml, hown, hts, hlocks, hA, hN⟩
  have hl := lv_entry ([.ref (a 8), .ref (a 7), .int x2, .int x3]) (n := 5) (Nat.le_of_ble_eq_true rfl)
  rw [lg_entry_eq]
  generalize (lg_sl ([.ref (a 8), .ref (a 7), .int x2, .int x3]) ++ List.replicate (5 - (lg_sl ([.ref (a 8), .ref (a 7), .int x2, .int x3])).length) Slot.unset).toArray = ls at hl ⊢
  have hl : lv_has ls 5 [(0, .ref (a 8)), (1, .ref (a 7)), (2, .int x2), (3, .int x3)] := hl
  have hw : (∃ k, w_St_take_8 post k x2 x3 0 (tI u 4 0)) := hw
  refine lv_aload_n hx hb d_St_take_0 rfl (lv_at hl 0 rfl) ?_
  refine lv_iconst (v := 0) hx hb d_St_take_1 (by decide) ?_
  refine tr_put (C := R_St) (T := F_St) (N := 3) (w := wdX a cA) hx hb hts in_St ft_St ft_St_ok fn_St hown hI 8 4 (wdX_o8 a cA _) rfl 0 (by decide) (hts _ wA_224) rfl (by decide +kernel) (Nat.le_of_ble_eq_true rfl) (wdX_i4 a cA _ _) d_St_take_2 (fun H locs hI => ?_)
  refine lv_iconst (v := 0) hx hb d_St_take_5 (by decide) ?_
  refine lv_istore (lv' := [(4, .int 0), (0, .ref (a 8)), (1, .ref (a 7)), (2, .int x2), (3, .int x3)]) hx hb d_St_take_6 hl (by decide) rfl (fun ls hl => ?_)
  obtain ⟨k, hw⟩ := hw
  exact k_St_take_8 hC post k _ _ _ _ _ _ ls hw hI (lv_sub hl [1, 2, 3, 4, 0] rfl)
def w_T_profile (post : Int32 → tS → Prop) (x1 : Int32) (x2 : Int32) (x3 : Int32) (x4 : Int32) (u : tS) : Prop := (w_Ne_hasStops (fun r6 u6 => ((r6 = 0 → (post (-2) u6)) ∧ (¬ r6 = 0 → (w_T_isSpan (fun r15 u15 => ((r15 = 0 → (post (-2) u15)) ∧ (¬ r15 = 0 → (w_Sp_find (fun u37 => (w_St_take (fun u51 => (post (u51.1 4) u51)) x3 x4 u37)) x1 x2 x3 x4 u15)))) x3 x4 u6)))) x1 x2 u)
set_option maxRecDepth 100000 in
set_option maxHeartbeats 4000000 in
theorem c_T_profile (l : Launch) (dC : Nat → ClassId) (dI : Nat → Nat → Nat) (cA : ClassId) (a : Nat → Nat) (u : tS) (x1 : Int32) (x2 : Int32) (x3 : Int32) (x4 : Int32) (post : Int32 → tS → Prop) (sz : Nat) : Met l y_T_profile ws_T_profile ({ frames := 5, cells := 0, slots := 0, locals := 124 }) (va_Pc [.ref (a 0), .int x1, .int x2, .int x3, .int x4] (tP (dC, dI) twCl [(cA, .int)] (wdX a cA) u sz (w_T_profile post x1 x2 x3 x4 u))) (va_Qi post (tB (dC, dI) twCl [(cA, .int)] (va_A (wdX a cA u) sz) (wdX a cA)) (va_A (wdX a cA u) sz)) 0 0 (va_A (wdX a cA u) sz) := by
  refine Met.ofW (cc := b_T_profile) (maxL := 5) (ret := (some .int)) (by decide) rfl ?_
  intro p e s m args below meth c s₁ B hml hv
  obtain ⟨rfl, hsz, hP, hK, hD0, hN, hw⟩ := hv
  have hx := B.exec
  have hb := B.bytes
  have hr := B.returns
  have hts : ∀ w ∈ wsA, w.before _ s = true := fun w h => atoms_spec (ws := ws_T_profile) B.pre w (List.mem_cons_of_mem _ h)
  have hown : s.vm.findClass R_T = some m.cls := findClass_of_methodNamed B.named
  have hlocks := B.notSynchronized
  subst hsz
  have hD := hD0.self (sz := s.heap.size)
  generalize hAe : va_A (wdX a cA u) s.heap.size = A at hD ⊢
  have hA : ∀ q : Nat, s.heap.size ≤ q → A q := fun q h => by rw [← hAe]; exact Or.inr h
  have hS : va_S A s.heap s.heap [] := va_S.rf
  have hI : tX (dC, dI) twCl [(cA, .int)] A s s.heap [] (wdX a cA u) := ⟨hK, hP, hD, hS⟩
  have hC : tC p s m meth c ([.ref (a 0), .int x1, .int x2, .int x3, .int x4] : List Value).toArray b_T_profile 5 (some .int) wsA R_T A := ⟨hx, hb, hr, hml, hown, hts, hlocks, hA, hN⟩
  have hl := lv_entry ([.ref (a 0), .int x1, .int x2, .int x3, .int x4]) (n := 5) (Nat.le_of_ble_eq_true rfl)
  rw [lg_entry_eq]
  generalize (lg_sl ([.ref (a 0), .int x1, .int x2, .int x3, .int x4]) ++ List.replicate (5 - (lg_sl ([.ref (a 0), .int x1, .int x2, .int x3, .int x4])).length) Slot.unset).toArray = ls at hl ⊢
  have hl : lv_has ls 5 [(0, .ref (a 0)), (1, .int x1), (2, .int x2), (3, .int x3), (4, .int x4)] := hl
  have hw : (w_Ne_hasStops (fun r6 u6 => ((r6 = 0 → (post (-2) u6)) ∧ (¬ r6 = 0 → (w_T_isSpan (fun r15 u15 => ((r15 = 0 → (post (-2) u15)) ∧ (¬ r15 = 0 → (w_Sp_find (fun u37 => (w_St_take (fun u51 => (post (u51.1 4) u51)) x3 x4 u37)) x1 x2 x3 x4 u15)))) x3 x4 u6)))) x1 x2 u) := hw
  refine lv_aload_n hx hb d_T_profile_0 rfl (lv_at hl 0 rfl) ?_
  refine va_get (D := (dC, dI)) (C := R_T) (T := F_T) (N := 6) hx hb hts in_T hown hI.1 hI.2.1 0 (wdX_o0 a cA _) rfl 0 (by decide) (hts _ wA_264) (fun _ h9 => h9) rfl d_T_profile_1 ?_
  refine lv_iload_n hx hb d_T_profile_4 rfl (lv_at hl 1 rfl) ?_
  refine lv_iload_n hx hb d_T_profile_5 rfl (lv_at hl 2 rfl) ?_
  refine tr_goi (w := wdX a cA) hI hA (va_runV (As := [.int x1, .int x2]) (rest := []) ⟨hx, hb, hml, hown, hts⟩ (c_Ne_hasStops l dC dI cA a _ _ _ _ _) (cwV 2 hts (wsA_goodV wA_315 wA_316 wA_317 wA_31 wA_318) rfl rfl rfl (by decide +kernel) ⟨Nat.le_of_ble_eq_true rfl, Nat.le_of_ble_eq_true rfl⟩) (tr_preV (ci := 1) (q0 := 1) hI rfl (wdX_o1 a cA _) rfl hN hw) rfl rfl hl.1 rfl (lv_room (Nat.le_of_ble_eq_true rfl)) d_T_profile_6 ⟨Nat.zero_le _, Nat.zero_le _⟩) (fun r6 u6 H locs hw hI => ?_)
  refine lv_if_eq (tgt := 21) hx hb d_T_profile_9 (by decide) (fun hc => ?_) (fun hc => ?_)
  · have hw := hw.1 hc
    refine lv_bipush (v := (-2)) hx hb d_T_profile_21 (by decide) ?_
    exact tr_iret hx hb hr hlocks hI hw d_T_profile_23
  · have hw := hw.2 hc
    refine lv_iload_n hx hb d_T_profile_12 rfl (lv_at hl 3 rfl) ?_
    refine lv_iload hx hb d_T_profile_13 (lv_at hl 4 rfl) ?_
    refine tr_goi (w := wdX a cA) hI hA (va_runS (As := [.int x3, .int x4]) (rest := []) ⟨hx, hb, hml, hown, hts⟩ (c_T_isSpan l dC dI cA a _ _ _ _ _) ⟨callB_of 2 hts (wsA_good wA_482) rfl rfl rfl (hts _ wA_30) (hts _ wA_480) (by decide +kernel) ⟨Nat.le_of_ble_eq_true rfl, Nat.le_of_ble_eq_true rfl⟩, hts _ wA_481⟩ (tr_preS hI hN hw) rfl rfl hl.1 rfl (lv_room (Nat.le_of_ble_eq_true rfl)) d_T_profile_15 ⟨Nat.zero_le _, Nat.zero_le _⟩) (fun r15 u15 H locs hw hI => ?_)
    refine lv_if_ne (tgt := 24) hx hb d_T_profile_18 (by decide) (fun hc => ?_) (fun hc => ?_)
    · have hw := hw.2 hc
      refine lv_aload_n hx hb d_T_profile_24 rfl (lv_at hl 0 rfl) ?_
      refine va_get (D := (dC, dI)) (C := R_T) (T := F_T) (N := 6) hx hb hts in_T hown hI.1 hI.2.1 0 (wdX_o0 a cA _) rfl 3 (by decide) (hts _ wA_267) (fun _ h9 => h9) rfl d_T_profile_25 ?_
      refine lv_aload_n hx hb d_T_profile_28 rfl (lv_at hl 0 rfl) ?_
      refine va_get (D := (dC, dI)) (C := R_T) (T := F_T) (N := 6) hx hb hts in_T hown hI.1 hI.2.1 0 (wdX_o0 a cA _) rfl 0 (by decide) (hts _ wA_264) (fun _ h9 => h9) rfl d_T_profile_29 ?_
      refine lv_iload_n hx hb d_T_profile_32 rfl (lv_at hl 1 rfl) ?_
      refine lv_iload_n hx hb d_T_profile_33 rfl (lv_at hl 2 rfl) ?_
      refine lv_iload_n hx hb d_T_profile_34 rfl (lv_at hl 3 rfl) ?_
      refine lv_iload hx hb d_T_profile_35 (lv_at hl 4 rfl) ?_
      refine tr_gov (w := wdX a cA) hI hA (va_runV (As := [.ref (a 1), .int x1, .int x2, .int x3, .int x4]) (rest := []) ⟨hx, hb, hml, hown, hts⟩ (c_Sp_find l dC dI cA a _ _ _ _ _ _ _) (cwV 5 hts (wsA_goodV wA_483 wA_484 wA_485 wA_37 wA_486) rfl rfl rfl (by decide +kernel) ⟨Nat.le_of_ble_eq_true rfl, Nat.le_of_ble_eq_true rfl⟩) (tr_preV (ci := 6) (q0 := 7) hI rfl (wdX_o7 a cA _) rfl hN hw) rfl rfl hl.1 rfl (lv_room (Nat.le_of_ble_eq_true rfl)) d_T_profile_37 ⟨Nat.zero_le _, Nat.zero_le _⟩) (fun u37 H locs hw hI => ?_)
      refine lv_aload_n hx hb d_T_profile_40 rfl (lv_at hl 0 rfl) ?_
      refine va_get (D := (dC, dI)) (C := R_T) (T := F_T) (N := 6) hx hb hts in_T hown hI.1 hI.2.1 0 (wdX_o0 a cA _) rfl 4 (by decide) (hts _ wA_268) (fun _ h9 => h9) rfl d_T_profile_41 ?_
      refine lv_aload_n hx hb d_T_profile_44 rfl (lv_at hl 0 rfl) ?_
      refine va_get (D := (dC, dI)) (C := R_T) (T := F_T) (N := 6) hx hb hts in_T hown hI.1 hI.2.1 0 (wdX_o0 a cA _) rfl 3 (by decide) (hts _ wA_267) (fun _ h9 => h9) rfl d_T_profile_45 ?_
      refine lv_iload_n hx hb d_T_profile_48 rfl (lv_at hl 3 rfl) ?_
      refine lv_iload hx hb d_T_profile_49 (lv_at hl 4 rfl) ?_
      refine tr_gov (w := wdX a cA) hI hA (va_runV (As := [.ref (a 7), .int x3, .int x4]) (rest := []) ⟨hx, hb, hml, hown, hts⟩ (c_St_take l dC dI cA a _ _ _ _ _) (cwV 3 hts (wsA_goodV wA_500 wA_501 wA_502 wA_38 wA_503) rfl rfl rfl (by decide +kernel) ⟨Nat.le_of_ble_eq_true rfl, Nat.le_of_ble_eq_true rfl⟩) (tr_preV (ci := 7) (q0 := 8) hI rfl (wdX_o8 a cA _) rfl hN hw) rfl rfl hl.1 rfl (lv_room (Nat.le_of_ble_eq_true rfl)) d_T_profile_51 ⟨Nat.zero_le _, Nat.zero_le _⟩) (fun u51 H locs hw hI => ?_)
      refine lv_aload_n hx hb d_T_profile_54 rfl (lv_at hl 0 rfl) ?_
      refine va_get (D := (dC, dI)) (C := R_T) (T := F_T) (N := 6) hx hb hts in_T hown hI.1 hI.2.1 0 (wdX_o0 a cA _) rfl 4 (by decide) (hts _ wA_268) (fun _ h9 => h9) rfl d_T_profile_55 ?_
      refine va_get (D := (dC, dI)) (C := R_St) (T := F_St) (N := 3) hx hb hts in_St hown hI.1 hI.2.1 8 (wdX_o8 a cA _) rfl 0 (by decide) (hts _ wA_225) (fun _ h9 => h9) rfl d_T_profile_58 ?_
      exact tr_iret hx hb hr hlocks hI hw d_T_profile_61
    · have hw := hw.1 hc
      refine lv_bipush (v := (-2)) hx hb d_T_profile_21 (by decide) ?_
      exact tr_iret hx hb hr hlocks hI hw d_T_profile_23
def w_T_step (post : Int32 → tS → Prop) (x1 : Int32) (x2 : Int32) (u : tS) : Prop := (w_T_within (fun r11 u11 => ((r11 = 0 → (post (-2) u11)) ∧ (¬ r11 = 0 → ((x2 = 0 → (vp_in x1 601 ∧ (post (u11.2 19 x1.toNatClampNeg) u11))) ∧ (¬ x2 = 0 → ((x2 = 1 → (vp_in x1 601 ∧ (w_T_orNone (fun r67 u67 => (post r67 u67)) (u11.2 20 x1.toNatClampNeg) u11))) ∧ (¬ x2 = 1 → (post (-2) u11)))))))) x1 0 ((u.1 4) - 1) u)
set_option maxRecDepth 100000 in
set_option maxHeartbeats 4000000 in
theorem c_T_step (l : Launch) (dC : Nat → ClassId) (dI : Nat → Nat → Nat) (cA : ClassId) (a : Nat → Nat) (u : tS) (x1 : Int32) (x2 : Int32) (post : Int32 → tS → Prop) (sz : Nat) : Met l y_T_step ws_T_step ({ frames := 1, cells := 0, slots := 0, locals := 22 }) (va_Pc [.ref (a 0), .int x1, .int x2] (tP (dC, dI) twCl [(cA, .int)] (wdX a cA) u sz (w_T_step post x1 x2 u))) (va_Qi post (tB (dC, dI) twCl [(cA, .int)] (va_A (wdX a cA u) sz) (wdX a cA)) (va_A (wdX a cA u) sz)) 0 0 (va_A (wdX a cA u) sz) := by
  refine Met.ofW (cc := b_T_step) (maxL := 3) (ret := (some .int)) (by decide) rfl ?_
  intro p e s m args below meth c s₁ B hml hv
  obtain ⟨rfl, hsz, hP, hK, hD0, hN, hw⟩ := hv
  have hx := B.exec
  have hb := B.bytes
  have hr := B.returns
  have hts : ∀ w ∈ wsA, w.before _ s = true := fun w h => atoms_spec (ws := ws_T_step) B.pre w (List.mem_cons_of_mem _ h)
  have hown : s.vm.findClass R_T = some m.cls := findClass_of_methodNamed B.named
  have hlocks := B.notSynchronized
  subst hsz
  have hD := hD0.self (sz := s.heap.size)
  generalize hAe : va_A (wdX a cA u) s.heap.size = A at hD ⊢
  have hA : ∀ q : Nat, s.heap.size ≤ q → A q := fun q h => by rw [← hAe]; exact Or.inr h
  have hS : va_S A s.heap s.heap [] := va_S.rf
  have hI : tX (dC, dI) twCl [(cA, .int)] A s s.heap [] (wdX a cA u) := ⟨hK, hP, hD, hS⟩
  have hC : tC p s m meth c ([.ref (a 0), .int x1, .int x2] : List Value).toArray b_T_step 3 (some .int) wsA R_T A := ⟨hx, hb, hr, hml, hown, hts, hlocks, hA, hN⟩
  have hl := lv_entry ([.ref (a 0), .int x1, .int x2]) (n := 3) (Nat.le_of_ble_eq_true rfl)
  rw [lg_entry_eq]
  generalize (lg_sl ([.ref (a 0), .int x1, .int x2]) ++ List.replicate (3 - (lg_sl ([.ref (a 0), .int x1, .int x2])).length) Slot.unset).toArray = ls at hl ⊢
  have hl : lv_has ls 3 [(0, .ref (a 0)), (1, .int x1), (2, .int x2)] := hl
  have hw : (w_T_within (fun r11 u11 => ((r11 = 0 → (post (-2) u11)) ∧ (¬ r11 = 0 → ((x2 = 0 → (vp_in x1 601 ∧ (post (u11.2 19 x1.toNatClampNeg) u11))) ∧ (¬ x2 = 0 → ((x2 = 1 → (vp_in x1 601 ∧ (w_T_orNone (fun r67 u67 => (post r67 u67)) (u11.2 20 x1.toNatClampNeg) u11))) ∧ (¬ x2 = 1 → (post (-2) u11)))))))) x1 0 ((u.1 4) - 1) u) := hw
  refine lv_iload_n hx hb d_T_step_0 rfl (lv_at hl 1 rfl) ?_
  refine lv_iconst (v := 0) hx hb d_T_step_1 (by decide) ?_
  refine lv_aload_n hx hb d_T_step_2 rfl (lv_at hl 0 rfl) ?_
  refine va_get (D := (dC, dI)) (C := R_T) (T := F_T) (N := 6) hx hb hts in_T hown hI.1 hI.2.1 0 (wdX_o0 a cA _) rfl 4 (by decide) (hts _ wA_268) (fun _ h9 => h9) rfl d_T_step_3 ?_
  refine va_get (D := (dC, dI)) (C := R_St) (T := F_St) (N := 3) hx hb hts in_St hown hI.1 hI.2.1 8 (wdX_o8 a cA _) rfl 0 (by decide) (hts _ wA_225) (fun _ h9 => h9) rfl d_T_step_6 ?_
  refine lv_iconst (v := 1) hx hb d_T_step_9 (by decide) ?_
  refine lv_isub hx hb d_T_step_10 ?_
  refine tr_goi (w := wdX a cA) hI hA (va_runS (As := [.int x1, .int 0, .int ((u.1 4) - 1)]) (rest := []) ⟨hx, hb, hml, hown, hts⟩ (c_T_within l dC dI cA a _ _ _ _ _ _) ⟨callB_of 3 hts (wsA_good wA_301) rfl rfl rfl (hts _ wA_30) (hts _ wA_299) (by decide +kernel) ⟨Nat.le_of_ble_eq_true rfl, Nat.le_of_ble_eq_true rfl⟩, hts _ wA_300⟩ (tr_preS hI hN hw) rfl rfl hl.1 rfl (lv_room (Nat.le_of_ble_eq_true rfl)) d_T_step_11 ⟨Nat.zero_le _, Nat.zero_le _⟩) (fun r11 u11 H locs hw hI => ?_)
  refine lv_if_ne (tgt := 20) hx hb d_T_step_14 (by decide) (fun hc => ?_) (fun hc => ?_)
  · have hw := hw.2 hc
    refine lv_iload_n hx hb d_T_step_20 rfl (lv_at hl 2 rfl) ?_
    by_cases hc0 : x2 = 0
    · have hw := hw.1 hc0
      refine lv_lookup (off := 27) (tgt := 48) hx hb d_T_step_21 (by decide) (by rw [hc0]; first | done | rfl) (by decide) ?_
      refine lv_aload_n hx hb d_T_step_48 rfl (lv_at hl 0 rfl) ?_
      refine va_get (D := (dC, dI)) (C := R_T) (T := F_T) (N := 6) hx hb hts in_T hown hI.1 hI.2.1 0 (wdX_o0 a cA _) rfl 4 (by decide) (hts _ wA_268) (fun _ h9 => h9) rfl d_T_step_49 ?_
      refine va_get (D := (dC, dI)) (C := R_St) (T := F_St) (N := 3) hx hb hts in_St hown hI.1 hI.2.1 8 (wdX_o8 a cA _) rfl 1 (by decide) (hts _ wA_227) (fun _ h9 => h9) rfl d_T_step_52 ?_
      refine lv_iload_n hx hb d_T_step_55 rfl (lv_at hl 1 rfl) ?_
      obtain ⟨hi, hw⟩ := hw
      refine va_iald (D := (dC, dI)) hx hb hI.1 hI.2.1 29 0 (wdX_o29 a cA _) rfl hi d_T_step_56 ?_
      exact tr_iret hx hb hr hlocks hI hw d_T_step_57
    · have hw := hw.2 hc0
      by_cases hc1 : x2 = 1
      · have hw := hw.1 hc1
        refine lv_lookup (off := 37) (tgt := 58) hx hb d_T_step_21 (by decide) (by rw [hc1]; first | done | rfl) (by decide) ?_
        refine lv_aload_n hx hb d_T_step_58 rfl (lv_at hl 0 rfl) ?_
        refine va_get (D := (dC, dI)) (C := R_T) (T := F_T) (N := 6) hx hb hts in_T hown hI.1 hI.2.1 0 (wdX_o0 a cA _) rfl 4 (by decide) (hts _ wA_268) (fun _ h9 => h9) rfl d_T_step_59 ?_
        refine va_get (D := (dC, dI)) (C := R_St) (T := F_St) (N := 3) hx hb hts in_St hown hI.1 hI.2.1 8 (wdX_o8 a cA _) rfl 2 (by decide) (hts _ wA_229) (fun _ h9 => h9) rfl d_T_step_62 ?_
        refine lv_iload_n hx hb d_T_step_65 rfl (lv_at hl 1 rfl) ?_
        obtain ⟨hi, hw⟩ := hw
        refine va_iald (D := (dC, dI)) hx hb hI.1 hI.2.1 30 0 (wdX_o30 a cA _) rfl hi d_T_step_66 ?_
        refine tr_goi (w := wdX a cA) hI hA (va_runS (As := [.int (u11.2 20 x1.toNatClampNeg)]) (rest := []) ⟨hx, hb, hml, hown, hts⟩ (c_T_orNone l dC dI cA a _ _ _ _) ⟨callB_of 1 hts (wsA_good wA_427) rfl rfl rfl (hts _ wA_30) (hts _ wA_425) (by decide +kernel) ⟨Nat.le_of_ble_eq_true rfl, Nat.le_of_ble_eq_true rfl⟩, hts _ wA_426⟩ (tr_preS hI hN hw) rfl rfl hl.1 rfl (lv_room (Nat.le_of_ble_eq_true rfl)) d_T_step_67 ⟨Nat.zero_le _, Nat.zero_le _⟩) (fun r67 u67 H locs hw hI => ?_)
        exact tr_iret hx hb hr hlocks hI hw d_T_step_70
      · have hw := hw.2 hc1
        refine lv_lookup (off := 50) (tgt := 71) hx hb d_T_step_21 (by decide) ((lv_osw (a := 0) (o := 27) (r := [(1, 37)]) (d := 50) hc0 rfl).trans ((lv_osw (a := 1) (o := 37) (r := []) (d := 50) hc1 rfl).trans rfl)) (by decide) ?_
        refine lv_bipush (v := (-2)) hx hb d_T_step_71 (by decide) ?_
        exact tr_iret hx hb hr hlocks hI hw d_T_step_73
  · have hw := hw.1 hc
    refine lv_bipush (v := (-2)) hx hb d_T_step_17 (by decide) ?_
    exact tr_iret hx hb hr hlocks hI hw d_T_step_19
def w_T_reach_47 (post : Int32 → tS → Prop) : Nat → Int32 → Int32 → Int32 → tS → Prop
  | 0 => fun _ _ _ _ => False
  | n + 1 => fun x3 x4 x5 u => (((u.1 0) ≤ x5 → (post x4 u)) ∧ (¬ (u.1 0) ≤ x5 → (w_Ar_first (fun r65 u65 => ((x3 < r65 → (w_T_reach_47 post n x3 x4 (x5 + 1) u65)) ∧ (¬ x3 < r65 → (w_T_reach_47 post n x3 (x4 ||| (1 <<< (x5 &&& 31))) (x5 + 1) u65)))) x5 u)))
def w_T_reach (post : Int32 → tS → Prop) (x1 : Int32) (x2 : Int32) (x3 : Int32) (u : tS) : Prop := (w_Ne_hasStop (fun r5 u5 => ((r5 = 0 → (post (-2) u5)) ∧ (¬ r5 = 0 → (w_T_isTime (fun r12 u12 => ((r12 = 0 → (post (-2) u12)) ∧ (¬ r12 = 0 → (w_T_isBy (fun r19 u19 => ((r19 = 0 → (post (-2) u19)) ∧ (¬ r19 = 0 → (w_Ar_find (fun u38 => (∃ k, w_T_reach_47 post k x3 0 0 u38)) x1 x2 u19)))) x3 u12)))) x2 u5)))) x1 u)
set_option maxRecDepth 100000 in
set_option maxHeartbeats 4000000 in
theorem k_T_reach_47 {p : Program} {l : Launch} {e : Env} {s : State} {m : MethodId} {args : Array Value} {below : List Frame} {meth : Method} {c : Code} {dC : Nat → ClassId} {dI : Nat → Nat → Nat} {cA : ClassId} {a : Nat → Nat} {A : Nat → Prop} (hC : tC p s m meth c args b_T_reach 6 (some .int) wsA R_T A) (post : Int32 → tS → Prop) : ∀ n : Nat, ∀ (x3 x4 x5 : Int32) (u : tS) (H : Heap) (locs : List Loc) (ls : Array Slot), w_T_reach_47 post n x3 x4 x5 u → tX (dC, dI) twCl [(cA, .int)] A s H locs (wdX a cA u) → lv_has ls 6 [(0, .ref (a 0)), (3, .int x3), (4, .int x4), (5, .int x5)] → W p l e ({ frames := 4, cells := 0, slots := 0, locals := 94 }) s m args below meth c H locs 0 0 (MQ below (va_Qi post (tB (dC, dI) twCl [(cA, .int)] A (wdX a cA)) A) args s 0 0 A) (F0 m 47 ls []) := by
  obtain ⟨hx, hb, hr, hml, hown, hts, hlocks, hA, hN⟩ := id hC
  intro n
  induction n with
  | zero => intro x3 x4 x5 u H locs ls hw; exact False.elim hw
  | succ n ih =>
    intro x3 x4 x5 u H locs ls hw hI hl
    refine lv_iload hx hb d_T_reach_47 (lv_at hl 3 rfl) ?_
    refine lv_aload_n hx hb d_T_reach_49 rfl (lv_at hl 0 rfl) ?_
    refine va_get (D := (dC, dI)) (C := R_T) (T := F_T) (N := 6) hx hb hts in_T hown hI.1 hI.2.1 0 (wdX_o0 a cA _) rfl 0 (by decide) (hts _ wA_264) (fun _ h9 => h9) rfl d_T_reach_50 ?_
    refine va_get (D := (dC, dI)) (C := R_Ne) (T := F_Ne) (N := 5) hx hb hts in_Ne hown hI.1 hI.2.1 1 (wdX_o1 a cA _) rfl 0 (by decide) (hts _ wA_161) (fun _ h9 => h9) rfl d_T_reach_53 ?_
    refine lv_icmp_ge (tgt := 87) hx hb d_T_reach_56 (by decide) (fun hc => ?_) (fun hc => ?_)
    · have hw := hw.1 hc
      refine lv_iload hx hb d_T_reach_87 (lv_at hl 2 rfl) ?_
      exact tr_iret hx hb hr hlocks hI hw d_T_reach_89
    · have hw := hw.2 hc
      refine lv_aload_n hx hb d_T_reach_59 rfl (lv_at hl 0 rfl) ?_
      refine va_get (D := (dC, dI)) (C := R_T) (T := F_T) (N := 6) hx hb hts in_T hown hI.1 hI.2.1 0 (wdX_o0 a cA _) rfl 1 (by decide) (hts _ wA_265) (fun _ h9 => h9) rfl d_T_reach_60 ?_
      refine lv_iload hx hb d_T_reach_63 (lv_at hl 3 rfl) ?_
      refine tr_goi (w := wdX a cA) hI hA (va_runV (As := [.int x5]) (rest := []) ⟨hx, hb, hml, hown, hts⟩ (c_Ar_first l dC dI cA a _ _ _ _) (cwV 1 hts (wsA_goodV wA_421 wA_422 wA_423 wA_36 wA_424) rfl rfl rfl (by decide +kernel) ⟨Nat.le_of_ble_eq_true rfl, Nat.le_of_ble_eq_true rfl⟩) (tr_preV (ci := 5) (q0 := 5) hI rfl (wdX_o5 a cA _) rfl hN hw) rfl rfl hl.1 rfl (lv_room (Nat.le_of_ble_eq_true rfl)) d_T_reach_65 ⟨Nat.zero_le _, Nat.zero_le _⟩) (fun r65 u65 H locs hw hI => ?_)
      refine lv_iload_n hx hb d_T_reach_68 rfl (lv_at hl 1 rfl) ?_
      refine lv_icmp_gt (tgt := 81) hx hb d_T_reach_69 (by decide) (fun hc => ?_) (fun hc => ?_)
      · have hw := hw.1 hc
        refine lv_iinc (v := (x5 + 1)) (lv' := [(5, .int (x5 + 1)), (0, .ref (a 0)), (3, .int x3), (4, .int x4)]) hx hb d_T_reach_81 hl (k := 3) rfl rfl (by decide) rfl (fun ls hl => ?_)
        refine lv_goto (tgt := 47) hx hb d_T_reach_84 (by decide) ?_
        exact ih _ _ _ _ _ _ ls hw hI (lv_sub hl [1, 2, 3, 0] rfl)
      · have hw := hw.2 hc
        refine lv_iload hx hb d_T_reach_72 (lv_at hl 2 rfl) ?_
        refine lv_iconst (v := 1) hx hb d_T_reach_74 (by decide) ?_
        refine lv_iload hx hb d_T_reach_75 (lv_at hl 3 rfl) ?_
        refine lv_ishl hx hb d_T_reach_77 ?_
        refine lv_ior hx hb d_T_reach_78 ?_
        refine lv_istore (lv' := [(4, .int (x4 ||| (1 <<< (x5 &&& 31)))), (0, .ref (a 0)), (3, .int x3), (5, .int x5)]) hx hb d_T_reach_79 hl (by decide) rfl (fun ls hl => ?_)
        refine lv_iinc (v := (x5 + 1)) (lv' := [(5, .int (x5 + 1)), (4, .int (x4 ||| (1 <<< (x5 &&& 31)))), (0, .ref (a 0)), (3, .int x3)]) hx hb d_T_reach_81 hl (k := 3) rfl rfl (by decide) rfl (fun ls hl => ?_)
        refine lv_goto (tgt := 47) hx hb d_T_reach_84 (by decide) ?_
        exact ih _ _ _ _ _ _ ls hw hI (lv_sub hl [2, 3, 1, 0] rfl)
set_option maxRecDepth 100000 in
set_option maxHeartbeats 4000000 in
theorem c_T_reach (l : Launch) (dC : Nat → ClassId) (dI : Nat → Nat → Nat) (cA : ClassId) (a : Nat → Nat) (u : tS) (x1 : Int32) (x2 : Int32) (x3 : Int32) (post : Int32 → tS → Prop) (sz : Nat) : Met l y_T_reach ws_T_reach ({ frames := 4, cells := 0, slots := 0, locals := 94 }) (va_Pc [.ref (a 0), .int x1, .int x2, .int x3] (tP (dC, dI) twCl [(cA, .int)] (wdX a cA) u sz (w_T_reach post x1 x2 x3 u))) (va_Qi post (tB (dC, dI) twCl [(cA, .int)] (va_A (wdX a cA u) sz) (wdX a cA)) (va_A (wdX a cA u) sz)) 0 0 (va_A (wdX a cA u) sz) := by
  refine Met.ofW (cc := b_T_reach) (maxL := 6) (ret := (some .int)) (by decide) rfl ?_
  intro p e s m args below meth c s₁ B hml hv
  obtain ⟨rfl, hsz, hP, hK, hD0, hN, hw⟩ := hv
  have hx := B.exec
  have hb := B.bytes
  have hr := B.returns
  have hts : ∀ w ∈ wsA, w.before _ s = true := fun w h => atoms_spec (ws := ws_T_reach) B.pre w (List.mem_cons_of_mem _ h)
  have hown : s.vm.findClass R_T = some m.cls := findClass_of_methodNamed B.named
  have hlocks := B.notSynchronized
  subst hsz
  have hD := hD0.self (sz := s.heap.size)
  generalize hAe : va_A (wdX a cA u) s.heap.size = A at hD ⊢
  have hA : ∀ q : Nat, s.heap.size ≤ q → A q := fun q h => by rw [← hAe]; exact Or.inr h
  have hS : va_S A s.heap s.heap [] := va_S.rf
  have hI : tX (dC, dI) twCl [(cA, .int)] A s s.heap [] (wdX a cA u) := ⟨hK, hP, hD, hS⟩
  have hC : tC p s m meth c ([.ref (a 0), .int x1, .int x2, .int x3] : List Value).toArray b_T_reach 6 (some .int) wsA R_T A := ⟨hx, hb, hr, hml, hown, hts, hlocks, hA, hN⟩
  have hl := lv_entry ([.ref (a 0), .int x1, .int x2, .int x3]) (n := 6) (Nat.le_of_ble_eq_true rfl)
  rw [lg_entry_eq]
  generalize (lg_sl ([.ref (a 0), .int x1, .int x2, .int x3]) ++ List.replicate (6 - (lg_sl ([.ref (a 0), .int x1, .int x2, .int x3])).length) Slot.unset).toArray = ls at hl ⊢
  have hl : lv_has ls 6 [(0, .ref (a 0)), (1, .int x1), (2, .int x2), (3, .int x3)] := hl
  have hw : (w_Ne_hasStop (fun r5 u5 => ((r5 = 0 → (post (-2) u5)) ∧ (¬ r5 = 0 → (w_T_isTime (fun r12 u12 => ((r12 = 0 → (post (-2) u12)) ∧ (¬ r12 = 0 → (w_T_isBy (fun r19 u19 => ((r19 = 0 → (post (-2) u19)) ∧ (¬ r19 = 0 → (w_Ar_find (fun u38 => (∃ k, w_T_reach_47 post k x3 0 0 u38)) x1 x2 u19)))) x3 u12)))) x2 u5)))) x1 u) := hw
  refine lv_aload_n hx hb d_T_reach_0 rfl (lv_at hl 0 rfl) ?_
  refine va_get (D := (dC, dI)) (C := R_T) (T := F_T) (N := 6) hx hb hts in_T hown hI.1 hI.2.1 0 (wdX_o0 a cA _) rfl 0 (by decide) (hts _ wA_264) (fun _ h9 => h9) rfl d_T_reach_1 ?_
  refine lv_iload_n hx hb d_T_reach_4 rfl (lv_at hl 1 rfl) ?_
  refine tr_goi (w := wdX a cA) hI hA (va_runV (As := [.int x1]) (rest := []) ⟨hx, hb, hml, hown, hts⟩ (c_Ne_hasStop l dC dI cA a _ _ _ _) (cwV 1 hts (wsA_goodV wA_306 wA_307 wA_308 wA_31 wA_309) rfl rfl rfl (by decide +kernel) ⟨Nat.le_of_ble_eq_true rfl, Nat.le_of_ble_eq_true rfl⟩) (tr_preV (ci := 1) (q0 := 1) hI rfl (wdX_o1 a cA _) rfl hN hw) rfl rfl hl.1 rfl (lv_room (Nat.le_of_ble_eq_true rfl)) d_T_reach_5 ⟨Nat.zero_le _, Nat.zero_le _⟩) (fun r5 u5 H locs hw hI => ?_)
  refine lv_if_eq (tgt := 25) hx hb d_T_reach_8 (by decide) (fun hc => ?_) (fun hc => ?_)
  · have hw := hw.1 hc
    refine lv_bipush (v := (-2)) hx hb d_T_reach_25 (by decide) ?_
    exact tr_iret hx hb hr hlocks hI hw d_T_reach_27
  · have hw := hw.2 hc
    refine lv_iload_n hx hb d_T_reach_11 rfl (lv_at hl 2 rfl) ?_
    refine tr_goi (w := wdX a cA) hI hA (va_runS (As := [.int x2]) (rest := []) ⟨hx, hb, hml, hown, hts⟩ (c_T_isTime l dC dI cA a _ _ _ _) ⟨callB_of 1 hts (wsA_good wA_392) rfl rfl rfl (hts _ wA_30) (hts _ wA_390) (by decide +kernel) ⟨Nat.le_of_ble_eq_true rfl, Nat.le_of_ble_eq_true rfl⟩, hts _ wA_391⟩ (tr_preS hI hN hw) rfl rfl hl.1 rfl (lv_room (Nat.le_of_ble_eq_true rfl)) d_T_reach_12 ⟨Nat.zero_le _, Nat.zero_le _⟩) (fun r12 u12 H locs hw hI => ?_)
    refine lv_if_eq (tgt := 25) hx hb d_T_reach_15 (by decide) (fun hc => ?_) (fun hc => ?_)
    · have hw := hw.1 hc
      refine lv_bipush (v := (-2)) hx hb d_T_reach_25 (by decide) ?_
      exact tr_iret hx hb hr hlocks hI hw d_T_reach_27
    · have hw := hw.2 hc
      refine lv_iload_n hx hb d_T_reach_18 rfl (lv_at hl 3 rfl) ?_
      refine tr_goi (w := wdX a cA) hI hA (va_runS (As := [.int x3]) (rest := []) ⟨hx, hb, hml, hown, hts⟩ (c_T_isBy l dC dI cA a _ _ _ _) ⟨callB_of 1 hts (wsA_good wA_435) rfl rfl rfl (hts _ wA_30) (hts _ wA_433) (by decide +kernel) ⟨Nat.le_of_ble_eq_true rfl, Nat.le_of_ble_eq_true rfl⟩, hts _ wA_434⟩ (tr_preS hI hN hw) rfl rfl hl.1 rfl (lv_room (Nat.le_of_ble_eq_true rfl)) d_T_reach_19 ⟨Nat.zero_le _, Nat.zero_le _⟩) (fun r19 u19 H locs hw hI => ?_)
      refine lv_if_ne (tgt := 28) hx hb d_T_reach_22 (by decide) (fun hc => ?_) (fun hc => ?_)
      · have hw := hw.2 hc
        refine lv_aload_n hx hb d_T_reach_28 rfl (lv_at hl 0 rfl) ?_
        refine va_get (D := (dC, dI)) (C := R_T) (T := F_T) (N := 6) hx hb hts in_T hown hI.1 hI.2.1 0 (wdX_o0 a cA _) rfl 1 (by decide) (hts _ wA_265) (fun _ h9 => h9) rfl d_T_reach_29 ?_
        refine lv_aload_n hx hb d_T_reach_32 rfl (lv_at hl 0 rfl) ?_
        refine va_get (D := (dC, dI)) (C := R_T) (T := F_T) (N := 6) hx hb hts in_T hown hI.1 hI.2.1 0 (wdX_o0 a cA _) rfl 0 (by decide) (hts _ wA_264) (fun _ h9 => h9) rfl d_T_reach_33 ?_
        refine lv_iload_n hx hb d_T_reach_36 rfl (lv_at hl 1 rfl) ?_
        refine lv_iload_n hx hb d_T_reach_37 rfl (lv_at hl 2 rfl) ?_
        refine tr_gov (w := wdX a cA) hI hA (va_runV (As := [.ref (a 1), .int x1, .int x2]) (rest := []) ⟨hx, hb, hml, hown, hts⟩ (c_Ar_find l dC dI cA a _ _ _ _ _) (cwV 3 hts (wsA_goodV wA_393 wA_394 wA_395 wA_36 wA_396) rfl rfl rfl (by decide +kernel) ⟨Nat.le_of_ble_eq_true rfl, Nat.le_of_ble_eq_true rfl⟩) (tr_preV (ci := 5) (q0 := 5) hI rfl (wdX_o5 a cA _) rfl hN hw) rfl rfl hl.1 rfl (lv_room (Nat.le_of_ble_eq_true rfl)) d_T_reach_38 ⟨Nat.zero_le _, Nat.zero_le _⟩) (fun u38 H locs hw hI => ?_)
        refine lv_iconst (v := 0) hx hb d_T_reach_41 (by decide) ?_
        refine lv_istore (lv' := [(4, .int 0), (0, .ref (a 0)), (1, .int x1), (2, .int x2), (3, .int x3)]) hx hb d_T_reach_42 hl (by decide) rfl (fun ls hl => ?_)
        refine lv_iconst (v := 0) hx hb d_T_reach_44 (by decide) ?_
        refine lv_istore (lv' := [(5, .int 0), (4, .int 0), (0, .ref (a 0)), (1, .int x1), (2, .int x2), (3, .int x3)]) hx hb d_T_reach_45 hl (by decide) rfl (fun ls hl => ?_)
        obtain ⟨k, hw⟩ := hw
        exact k_T_reach_47 hC post k _ _ _ _ _ _ ls hw hI (lv_sub hl [2, 5, 1, 0] rfl)
      · have hw := hw.1 hc
        refine lv_bipush (v := (-2)) hx hb d_T_reach_25 (by decide) ?_
        exact tr_iret hx hb hr hlocks hI hw d_T_reach_27
end
section
def w_Ar_isByWalk (post : Int32 → tS → Prop) (x1 : Int32) (x2 : Int32) (u : tS) : Prop := (vp_in x1 12 ∧ ((x2 < (u.2 14 x1.toNatClampNeg) → (post 0 u)) ∧ (¬ x2 < (u.2 14 x1.toNatClampNeg) → (post 1 u))))
set_option maxRecDepth 100000 in
set_option maxHeartbeats 4000000 in
theorem c_Ar_isByWalk (l : Launch) (dC : Nat → ClassId) (dI : Nat → Nat → Nat) (cA : ClassId) (a : Nat → Nat) (u : tS) (x1 : Int32) (x2 : Int32) (post : Int32 → tS → Prop) (sz : Nat) : Met l y_Ar_isByWalk ws_Ar_isByWalk ({ frames := 0, cells := 0, slots := 0, locals := 0 }) (va_Pc [.ref (a 5), .int x1, .int x2] (tP (dC, dI) twCl [(cA, .int)] (wdX a cA) u sz (w_Ar_isByWalk post x1 x2 u))) (va_Qi post (tB (dC, dI) twCl [(cA, .int)] (va_A (wdX a cA u) sz) (wdX a cA)) (va_A (wdX a cA u) sz)) 0 0 (va_A (wdX a cA u) sz) := by
  refine Met.ofW (cc := b_Ar_isByWalk) (maxL := 3) (ret := (some .boolean)) (by decide) rfl ?_
  intro p e s m args below meth c s₁ B hml hv
  obtain ⟨rfl, hsz, hP, hK, hD0, hN, hw⟩ := hv
  have hx := B.exec
  have hb := B.bytes
  have hr := B.returns
  have hts : ∀ w ∈ wsA, w.before _ s = true := fun w h => atoms_spec (ws := ws_Ar_isByWalk) B.pre w (List.mem_cons_of_mem _ h)
  have hown : s.vm.findClass R_Ar = some m.cls := findClass_of_methodNamed B.named
  have hlocks := B.notSynchronized
  subst hsz
  have hD := hD0.self (sz := s.heap.size)
  generalize hAe : va_A (wdX a cA u) s.heap.size = A at hD ⊢
  have hA : ∀ q : Nat, s.heap.size ≤ q → A q := fun q h => by rw [← hAe]; exact Or.inr h
  have hS : va_S A s.heap s.heap [] := va_S.rf
  have hI : tX (dC, dI) twCl [(cA, .int)] A s s.heap [] (wdX a cA u) := ⟨hK, hP, hD, hS⟩
  have hC : tC p s m meth c ([.ref (a 5), .int x1, .int x2] : List Value).toArray b_Ar_isByWalk 3 (some .boolean) wsA R_Ar A := ⟨hx, hb, hr, hml, hown, hts, hlocks, hA, hN⟩
  have hl := lv_entry ([.ref (a 5), .int x1, .int x2]) (n := 3) (Nat.le_of_ble_eq_true rfl)
  rw [lg_entry_eq]
  generalize (lg_sl ([.ref (a 5), .int x1, .int x2]) ++ List.replicate (3 - (lg_sl ([.ref (a 5), .int x1, .int x2])).length) Slot.unset).toArray = ls at hl ⊢
  have hl : lv_has ls 3 [(0, .ref (a 5)), (1, .int x1), (2, .int x2)] := hl
  have hw : (vp_in x1 12 ∧ ((x2 < (u.2 14 x1.toNatClampNeg) → (post 0 u)) ∧ (¬ x2 < (u.2 14 x1.toNatClampNeg) → (post 1 u)))) := hw
  refine lv_iload_n hx hb d_Ar_isByWalk_0 rfl (lv_at hl 2 rfl) ?_
  refine lv_aload_n hx hb d_Ar_isByWalk_1 rfl (lv_at hl 0 rfl) ?_
  refine va_get (D := (dC, dI)) (C := R_Ar) (T := F_Ar) (N := 2) hx hb hts in_Ar hown hI.1 hI.2.1 5 (wdX_o5 a cA _) rfl 1 (by decide) (hts _ wA_198) (fun _ h9 => h9) rfl d_Ar_isByWalk_2 ?_
  refine lv_iload_n hx hb d_Ar_isByWalk_5 rfl (lv_at hl 1 rfl) ?_
  obtain ⟨hi, hw⟩ := hw
  refine va_iald (D := (dC, dI)) hx hb hI.1 hI.2.1 24 0 (wdX_o24 a cA _) rfl hi d_Ar_isByWalk_6 ?_
  refine lv_icmp_lt (tgt := 14) hx hb d_Ar_isByWalk_7 (by decide) (fun hc => ?_) (fun hc => ?_)
  · have hw := hw.1 hc
    refine lv_iconst (v := 0) hx hb d_Ar_isByWalk_14 (by decide) ?_
    exact tr_zret hx hb hr hlocks hI rfl hw d_Ar_isByWalk_15
  · have hw := hw.2 hc
    refine lv_iconst (v := 1) hx hb d_Ar_isByWalk_10 (by decide) ?_
    refine lv_goto (tgt := 15) hx hb d_Ar_isByWalk_11 (by decide) ?_
    exact tr_zret hx hb hr hlocks hI rfl hw d_Ar_isByWalk_15
def w_Ar_endsByRide (post : Int32 → tS → Prop) (x2 : Int32) (x3 : Int32) (u : tS) : Prop := (w_Ri_goes (fun r14 u14 => ((r14 = 0 → (post 0 u14)) ∧ (¬ r14 = 0 → (w_Ri_leaves (fun r28 u28 => (vp_in x2 40 ∧ (vp_in x2 40 ∧ (vp_in (u28.2 2 x2.toNatClampNeg) 12 ∧ (((r28 + (u28.2 4 x2.toNatClampNeg)) = (u28.2 13 (u28.2 2 x2.toNatClampNeg).toNatClampNeg) → (vp_in x2 40 ∧ (w_Ar_mayTake (fun r75 u75 => ((r75 = 0 → (post 0 u75)) ∧ (¬ r75 = 0 → (post 1 u75)))) (u28.2 1 x2.toNatClampNeg) r28 u28))) ∧ (¬ (r28 + (u28.2 4 x2.toNatClampNeg)) = (u28.2 13 (u28.2 2 x2.toNatClampNeg).toNatClampNeg) → (post 0 u28))))))) ((x2 * 7) + x3) u14)))) ((x2 * 7) + x3) u)
set_option maxRecDepth 100000 in
set_option maxHeartbeats 4000000 in
theorem c_Ar_endsByRide (l : Launch) (dC : Nat → ClassId) (dI : Nat → Nat → Nat) (cA : ClassId) (a : Nat → Nat) (u : tS) (x2 : Int32) (x3 : Int32) (post : Int32 → tS → Prop) (sz : Nat) : Met l y_Ar_endsByRide ws_Ar_endsByRide ({ frames := 1, cells := 0, slots := 0, locals := 23 }) (va_Pc [.ref (a 5), .ref (a 1), .int x2, .int x3] (tP (dC, dI) twCl [(cA, .int)] (wdX a cA) u sz (w_Ar_endsByRide post x2 x3 u))) (va_Qi post (tB (dC, dI) twCl [(cA, .int)] (va_A (wdX a cA u) sz) (wdX a cA)) (va_A (wdX a cA u) sz)) 0 0 (va_A (wdX a cA u) sz) := by
  refine Met.ofW (cc := b_Ar_endsByRide) (maxL := 6) (ret := (some .boolean)) (by decide) rfl ?_
  intro p e s m args below meth c s₁ B hml hv
  obtain ⟨rfl, hsz, hP, hK, hD0, hN, hw⟩ := hv
  have hx := B.exec
  have hb := B.bytes
  have hr := B.returns
  have hts : ∀ w ∈ wsA, w.before _ s = true := fun w h => atoms_spec (ws := ws_Ar_endsByRide) B.pre w (List.mem_cons_of_mem _ h)
  have hown : s.vm.findClass R_Ar = some m.cls := findClass_of_methodNamed B.named
  have hlocks := B.notSynchronized
  subst hsz
  have hD := hD0.self (sz := s.heap.size)
  generalize hAe : va_A (wdX a cA u) s.heap.size = A at hD ⊢
  have hA : ∀ q : Nat, s.heap.size ≤ q → A q := fun q h => by rw [← hAe]; exact Or.inr h
  have hS : va_S A s.heap s.heap [] := va_S.rf
  have hI : tX (dC, dI) twCl [(cA, .int)] A s s.heap [] (wdX a cA u) := ⟨hK, hP, hD, hS⟩
  have hC : tC p s m meth c ([.ref (a 5), .ref (a 1), .int x2, .int x3] : List Value).toArray b_Ar_endsByRide 6 (some .boolean) wsA R_Ar A := ⟨hx, hb, hr, hml, hown, hts, hlocks, hA, hN⟩
  have hl := lv_entry ([.ref (a 5), .ref (a 1), .int x2, .int x3]) (n := 6) (Nat.le_of_ble_eq_true rfl)
  rw [lg_entry_eq]
  generalize (lg_sl ([.ref (a 5), .ref (a 1), .int x2, .int x3]) ++ List.replicate (6 - (lg_sl ([.ref (a 5), .ref (a 1), .int x2, .int x3])).length) Slot.unset).toArray = ls at hl ⊢
  have hl : lv_has ls 6 [(0, .ref (a 5)), (1, .ref (a 1)), (2, .int x2), (3, .int x3)] := hl
  have hw : (w_Ri_goes (fun r14 u14 => ((r14 = 0 → (post 0 u14)) ∧ (¬ r14 = 0 → (w_Ri_leaves (fun r28 u28 => (vp_in x2 40 ∧ (vp_in x2 40 ∧ (vp_in (u28.2 2 x2.toNatClampNeg) 12 ∧ (((r28 + (u28.2 4 x2.toNatClampNeg)) = (u28.2 13 (u28.2 2 x2.toNatClampNeg).toNatClampNeg) → (vp_in x2 40 ∧ (w_Ar_mayTake (fun r75 u75 => ((r75 = 0 → (post 0 u75)) ∧ (¬ r75 = 0 → (post 1 u75)))) (u28.2 1 x2.toNatClampNeg) r28 u28))) ∧ (¬ (r28 + (u28.2 4 x2.toNatClampNeg)) = (u28.2 13 (u28.2 2 x2.toNatClampNeg).toNatClampNeg) → (post 0 u28))))))) ((x2 * 7) + x3) u14)))) ((x2 * 7) + x3) u) := hw
  refine lv_iload_n hx hb d_Ar_endsByRide_0 rfl (lv_at hl 2 rfl) ?_
  refine lv_bipush (v := 7) hx hb d_Ar_endsByRide_1 (by decide) ?_
  refine lv_imul hx hb d_Ar_endsByRide_3 ?_
  refine lv_iload_n hx hb d_Ar_endsByRide_4 rfl (lv_at hl 3 rfl) ?_
  refine lv_iadd hx hb d_Ar_endsByRide_5 ?_
  refine lv_istore (lv' := [(4, .int ((x2 * 7) + x3)), (0, .ref (a 5)), (1, .ref (a 1)), (2, .int x2), (3, .int x3)]) hx hb d_Ar_endsByRide_6 hl (by decide) rfl (fun ls hl => ?_)
  refine lv_aload_n hx hb d_Ar_endsByRide_8 rfl (lv_at hl 2 rfl) ?_
  refine va_get (D := (dC, dI)) (C := R_Ne) (T := F_Ne) (N := 5) hx hb hts in_Ne hown hI.1 hI.2.1 1 (wdX_o1 a cA _) rfl 2 (by decide) (hts _ wA_170) (fun _ h9 => h9) rfl d_Ar_endsByRide_9 ?_
  refine lv_iload hx hb d_Ar_endsByRide_12 (lv_at hl 0 rfl) ?_
  refine tr_goi (w := wdX a cA) hI hA (va_runV (As := [.int ((x2 * 7) + x3)]) (rest := []) ⟨hx, hb, hml, hown, hts⟩ (c_Ri_goes l dC dI cA a _ _ _ _) (cwV 1 hts (wsA_goodV wA_550 wA_337 wA_338 wA_32 wA_339) rfl rfl rfl (by decide +kernel) ⟨Nat.le_of_ble_eq_true rfl, Nat.le_of_ble_eq_true rfl⟩) (tr_preV (ci := 2) (q0 := 2) hI rfl (wdX_o2 a cA _) rfl hN hw) rfl rfl hl.1 rfl (lv_room (Nat.le_of_ble_eq_true rfl)) d_Ar_endsByRide_14 ⟨Nat.zero_le _, Nat.zero_le _⟩) (fun r14 u14 H locs hw hI => ?_)
  refine lv_if_ne (tgt := 22) hx hb d_Ar_endsByRide_17 (by decide) (fun hc => ?_) (fun hc => ?_)
  · have hw := hw.2 hc
    refine lv_aload_n hx hb d_Ar_endsByRide_22 rfl (lv_at hl 2 rfl) ?_
    refine va_get (D := (dC, dI)) (C := R_Ne) (T := F_Ne) (N := 5) hx hb hts in_Ne hown hI.1 hI.2.1 1 (wdX_o1 a cA _) rfl 2 (by decide) (hts _ wA_170) (fun _ h9 => h9) rfl d_Ar_endsByRide_23 ?_
    refine lv_iload hx hb d_Ar_endsByRide_26 (lv_at hl 0 rfl) ?_
    refine tr_goi (w := wdX a cA) hI hA (va_runV (As := [.int ((x2 * 7) + x3)]) (rest := []) ⟨hx, hb, hml, hown, hts⟩ (c_Ri_leaves l dC dI cA a _ _ _ _) (cwV 1 hts (wsA_goodV wA_551 wA_341 wA_342 wA_32 wA_343) rfl rfl rfl (by decide +kernel) ⟨Nat.le_of_ble_eq_true rfl, Nat.le_of_ble_eq_true rfl⟩) (tr_preV (ci := 2) (q0 := 2) hI rfl (wdX_o2 a cA _) rfl hN hw) rfl rfl hl.1 rfl (lv_room (Nat.le_of_ble_eq_true rfl)) d_Ar_endsByRide_28 ⟨Nat.zero_le _, Nat.zero_le _⟩) (fun r28 u28 H locs hw hI => ?_)
    refine lv_istore (lv' := [(5, .int r28), (4, .int ((x2 * 7) + x3)), (0, .ref (a 5)), (1, .ref (a 1)), (2, .int x2), (3, .int x3)]) hx hb d_Ar_endsByRide_31 hl (by decide) rfl (fun ls hl => ?_)
    refine lv_iload hx hb d_Ar_endsByRide_33 (lv_at hl 0 rfl) ?_
    refine lv_aload_n hx hb d_Ar_endsByRide_35 rfl (lv_at hl 3 rfl) ?_
    refine va_get (D := (dC, dI)) (C := R_Ne) (T := F_Ne) (N := 5) hx hb hts in_Ne hown hI.1 hI.2.1 1 (wdX_o1 a cA _) rfl 2 (by decide) (hts _ wA_170) (fun _ h9 => h9) rfl d_Ar_endsByRide_36 ?_
    refine va_get (D := (dC, dI)) (C := R_Ri) (T := F_Ri) (N := 7) hx hb hts in_Ri hown hI.1 hI.2.1 2 (wdX_o2 a cA _) rfl 4 (by decide) (hts _ wA_82) (fun _ h9 => h9) rfl d_Ar_endsByRide_39 ?_
    refine lv_iload_n hx hb d_Ar_endsByRide_42 rfl (lv_at hl 4 rfl) ?_
    obtain ⟨hi, hw⟩ := hw
    refine va_iald (D := (dC, dI)) hx hb hI.1 hI.2.1 14 0 (wdX_o14 a cA _) rfl hi d_Ar_endsByRide_43 ?_
    refine lv_iadd hx hb d_Ar_endsByRide_44 ?_
    refine lv_aload_n hx hb d_Ar_endsByRide_45 rfl (lv_at hl 2 rfl) ?_
    refine va_get (D := (dC, dI)) (C := R_Ar) (T := F_Ar) (N := 2) hx hb hts in_Ar hown hI.1 hI.2.1 5 (wdX_o5 a cA _) rfl 0 (by decide) (hts _ wA_197) (fun _ h9 => h9) rfl d_Ar_endsByRide_46 ?_
    refine lv_aload_n hx hb d_Ar_endsByRide_49 rfl (lv_at hl 3 rfl) ?_
    refine va_get (D := (dC, dI)) (C := R_Ne) (T := F_Ne) (N := 5) hx hb hts in_Ne hown hI.1 hI.2.1 1 (wdX_o1 a cA _) rfl 2 (by decide) (hts _ wA_170) (fun _ h9 => h9) rfl d_Ar_endsByRide_50 ?_
    refine va_get (D := (dC, dI)) (C := R_Ri) (T := F_Ri) (N := 7) hx hb hts in_Ri hown hI.1 hI.2.1 2 (wdX_o2 a cA _) rfl 2 (by decide) (hts _ wA_75) (fun _ h9 => h9) rfl d_Ar_endsByRide_53 ?_
    refine lv_iload_n hx hb d_Ar_endsByRide_56 rfl (lv_at hl 4 rfl) ?_
    obtain ⟨hi, hw⟩ := hw
    refine va_iald (D := (dC, dI)) hx hb hI.1 hI.2.1 12 0 (wdX_o12 a cA _) rfl hi d_Ar_endsByRide_57 ?_
    obtain ⟨hi, hw⟩ := hw
    refine va_iald (D := (dC, dI)) hx hb hI.1 hI.2.1 23 0 (wdX_o23 a cA _) rfl hi d_Ar_endsByRide_58 ?_
    refine lv_icmp_ne (tgt := 85) hx hb d_Ar_endsByRide_59 (by decide) (fun hc => ?_) (fun hc => ?_)
    · have hw := hw.2 hc
      refine lv_iconst (v := 0) hx hb d_Ar_endsByRide_85 (by decide) ?_
      exact tr_zret hx hb hr hlocks hI rfl hw d_Ar_endsByRide_86
    · have hw := hw.1 hc
      refine lv_aload_n hx hb d_Ar_endsByRide_62 rfl (lv_at hl 2 rfl) ?_
      refine lv_aload_n hx hb d_Ar_endsByRide_63 rfl (lv_at hl 3 rfl) ?_
      refine lv_aload_n hx hb d_Ar_endsByRide_64 rfl (lv_at hl 3 rfl) ?_
      refine va_get (D := (dC, dI)) (C := R_Ne) (T := F_Ne) (N := 5) hx hb hts in_Ne hown hI.1 hI.2.1 1 (wdX_o1 a cA _) rfl 2 (by decide) (hts _ wA_170) (fun _ h9 => h9) rfl d_Ar_endsByRide_65 ?_
      refine va_get (D := (dC, dI)) (C := R_Ri) (T := F_Ri) (N := 7) hx hb hts in_Ri hown hI.1 hI.2.1 2 (wdX_o2 a cA _) rfl 1 (by decide) (hts _ wA_71) (fun _ h9 => h9) rfl d_Ar_endsByRide_68 ?_
      refine lv_iload_n hx hb d_Ar_endsByRide_71 rfl (lv_at hl 4 rfl) ?_
      obtain ⟨hi, hw⟩ := hw
      refine va_iald (D := (dC, dI)) hx hb hI.1 hI.2.1 11 0 (wdX_o11 a cA _) rfl hi d_Ar_endsByRide_72 ?_
      refine lv_iload hx hb d_Ar_endsByRide_73 (lv_at hl 0 rfl) ?_
      refine tr_goi (w := wdX a cA) hI hA (va_runV (As := [.ref (a 1), .int (u28.2 1 x2.toNatClampNeg), .int r28]) (rest := []) ⟨hx, hb, hml, hown, hts⟩ (c_Ar_mayTake l dC dI cA a _ _ _ _ _) (cwV 3 hts (wsA_goodV wA_412 wA_413 wA_414 wA_36 wA_415) rfl rfl rfl (by decide +kernel) ⟨Nat.le_of_ble_eq_true rfl, Nat.le_of_ble_eq_true rfl⟩) (tr_preV (ci := 5) (q0 := 5) hI rfl (wdX_o5 a cA _) rfl hN hw) rfl rfl hl.1 rfl (lv_room (Nat.le_of_ble_eq_true rfl)) d_Ar_endsByRide_75 ⟨Nat.zero_le _, Nat.zero_le _⟩) (fun r75 u75 H locs hw hI => ?_)
      refine lv_if_eq (tgt := 85) hx hb d_Ar_endsByRide_78 (by decide) (fun hc => ?_) (fun hc => ?_)
      · have hw := hw.1 hc
        refine lv_iconst (v := 0) hx hb d_Ar_endsByRide_85 (by decide) ?_
        exact tr_zret hx hb hr hlocks hI rfl hw d_Ar_endsByRide_86
      · have hw := hw.2 hc
        refine lv_iconst (v := 1) hx hb d_Ar_endsByRide_81 (by decide) ?_
        refine lv_goto (tgt := 86) hx hb d_Ar_endsByRide_82 (by decide) ?_
        exact tr_zret hx hb hr hlocks hI rfl hw d_Ar_endsByRide_86
  · have hw := hw.1 hc
    refine lv_iconst (v := 0) hx hb d_Ar_endsByRide_20 (by decide) ?_
    exact tr_zret hx hb hr hlocks hI rfl hw d_Ar_endsByRide_21
def w_Ar_lastDeparture_32 (post : Int32 → tS → Prop) (K2 : Int32 → Int32 → tS → Prop) : Nat → Int32 → Int32 → Int32 → tS → Prop
  | 0 => fun _ _ _ _ => False
  | n + 1 => fun x2 x3 x4 u => ((7 ≤ x4 → (K2 x2 (x3 + 1) u)) ∧ (¬ 7 ≤ x4 → (w_Ar_endsByRide (fun r44 u44 => ((r44 = 0 → (w_Ar_lastDeparture_32 post K2 n x2 x3 (x4 + 1) u44)) ∧ (¬ r44 = 0 → (post ((x3 * 7) + x4) u44)))) x3 x4 u)))
def w_Ar_lastDeparture_2 (post : Int32 → tS → Prop) : Nat → Int32 → Int32 → tS → Prop
  | 0 => fun _ _ _ => False
  | n + 1 => fun x2 x3 u => (((u.1 1) ≤ x3 → (post (-1) u)) ∧ (¬ (u.1 1) ≤ x3 → (vp_in x3 40 ∧ (((u.2 2 x3.toNatClampNeg) = x2 → (∃ k, w_Ar_lastDeparture_32 post (w_Ar_lastDeparture_2 post n) k x2 x3 0 u)) ∧ (¬ (u.2 2 x3.toNatClampNeg) = x2 → (w_Ar_lastDeparture_2 post n x2 (x3 + 1) u))))))
def w_Ar_lastDeparture (post : Int32 → tS → Prop) (x2 : Int32) (u : tS) : Prop := (∃ k, w_Ar_lastDeparture_2 post k x2 0 u)
set_option maxRecDepth 100000 in
set_option maxHeartbeats 4000000 in
theorem k_Ar_lastDeparture_32 {p : Program} {l : Launch} {e : Env} {s : State} {m : MethodId} {args : Array Value} {below : List Frame} {meth : Method} {c : Code} {dC : Nat → ClassId} {dI : Nat → Nat → Nat} {cA : ClassId} {a : Nat → Nat} {A : Nat → Prop} (hC : tC p s m meth c args b_Ar_lastDeparture 5 (some .int) wsA R_Ar A) (post : Int32 → tS → Prop) (K2 : Int32 → Int32 → tS → Prop) (hK2 : ∀ (x2 x3 : Int32) (u : tS) (H : Heap) (locs : List Loc) (ls : Array Slot), K2 x2 x3 u → tX (dC, dI) twCl [(cA, .int)] A s H locs (wdX a cA u) → lv_has ls 5 [(0, .ref (a 5)), (1, .ref (a 1)), (2, .int x2), (3, .int x3)] → W p l e ({ frames := 2, cells := 0, slots := 0, locals := 48 }) s m args below meth c H locs 0 0 (MQ below (va_Qi post (tB (dC, dI) twCl [(cA, .int)] A (wdX a cA)) A) args s 0 0 A) (F0 m 2 ls [])) : ∀ n : Nat, ∀ (x2 x3 x4 : Int32) (u : tS) (H : Heap) (locs : List Loc) (ls : Array Slot), w_Ar_lastDeparture_32 post K2 n x2 x3 x4 u → tX (dC, dI) twCl [(cA, .int)] A s H locs (wdX a cA u) → lv_has ls 5 [(0, .ref (a 5)), (1, .ref (a 1)), (2, .int x2), (3, .int x3), (4, .int x4)] → W p l e ({ frames := 2, cells := 0, slots := 0, locals := 48 }) s m args below meth c H locs 0 0 (MQ below (va_Qi post (tB (dC, dI) twCl [(cA, .int)] A (wdX a cA)) A) args s 0 0 A) (F0 m 32 ls []) := by
  obtain ⟨hx, hb, hr, hml, hown, hts, hlocks, hA, hN⟩ := id hC
  intro n
  induction n with
  | zero => intro x2 x3 x4 u H locs ls hw; exact False.elim hw
  | succ n ih =>
    intro x2 x3 x4 u H locs ls hw hI hl
    refine lv_iload hx hb d_Ar_lastDeparture_32 (lv_at hl 4 rfl) ?_
    refine lv_bipush (v := 7) hx hb d_Ar_lastDeparture_34 (by decide) ?_
    refine lv_icmp_ge (tgt := 64) hx hb d_Ar_lastDeparture_36 (by decide) (fun hc => ?_) (fun hc => ?_)
    · have hw := hw.1 hc
      refine lv_iinc (v := (x3 + 1)) (lv' := [(3, .int (x3 + 1)), (0, .ref (a 5)), (1, .ref (a 1)), (2, .int x2), (4, .int x4)]) hx hb d_Ar_lastDeparture_64 hl (k := 3) rfl rfl (by decide) rfl (fun ls hl => ?_)
      refine lv_goto (tgt := 2) hx hb d_Ar_lastDeparture_67 (by decide) ?_
      exact hK2 _ _ _ _ _ ls hw hI (lv_sub hl [1, 2, 3, 0] rfl)
    · have hw := hw.2 hc
      refine lv_aload_n hx hb d_Ar_lastDeparture_39 rfl (lv_at hl 0 rfl) ?_
      refine lv_aload_n hx hb d_Ar_lastDeparture_40 rfl (lv_at hl 1 rfl) ?_
      refine lv_iload_n hx hb d_Ar_lastDeparture_41 rfl (lv_at hl 3 rfl) ?_
      refine lv_iload hx hb d_Ar_lastDeparture_42 (lv_at hl 4 rfl) ?_
      refine tr_goi (w := wdX a cA) hI hA (va_runV (As := [.ref (a 1), .int x3, .int x4]) (rest := []) ⟨hx, hb, hml, hown, hts⟩ (c_Ar_endsByRide l dC dI cA a _ _ _ _ _) (cwV 3 hts (wsA_goodV wA_546 wA_548 wA_8 wA_36 wA_549) rfl rfl rfl (by decide +kernel) ⟨Nat.le_of_ble_eq_true rfl, Nat.le_of_ble_eq_true rfl⟩) (tr_preV (ci := 5) (q0 := 5) hI rfl (wdX_o5 a cA _) rfl hN hw) rfl rfl hl.1 rfl (lv_room (Nat.le_of_ble_eq_true rfl)) d_Ar_lastDeparture_44 ⟨Nat.zero_le _, Nat.zero_le _⟩) (fun r44 u44 H locs hw hI => ?_)
      refine lv_if_eq (tgt := 58) hx hb d_Ar_lastDeparture_47 (by decide) (fun hc => ?_) (fun hc => ?_)
      · have hw := hw.1 hc
        refine lv_iinc (v := (x4 + 1)) (lv' := [(4, .int (x4 + 1)), (0, .ref (a 5)), (1, .ref (a 1)), (2, .int x2), (3, .int x3)]) hx hb d_Ar_lastDeparture_58 hl (k := 4) rfl rfl (by decide) rfl (fun ls hl => ?_)
        refine lv_goto (tgt := 32) hx hb d_Ar_lastDeparture_61 (by decide) ?_
        exact ih _ _ _ _ _ _ ls hw hI (lv_sub hl [1, 2, 3, 4, 0] rfl)
      · have hw := hw.2 hc
        refine lv_iload_n hx hb d_Ar_lastDeparture_50 rfl (lv_at hl 3 rfl) ?_
        refine lv_bipush (v := 7) hx hb d_Ar_lastDeparture_51 (by decide) ?_
        refine lv_imul hx hb d_Ar_lastDeparture_53 ?_
        refine lv_iload hx hb d_Ar_lastDeparture_54 (lv_at hl 4 rfl) ?_
        refine lv_iadd hx hb d_Ar_lastDeparture_56 ?_
        exact tr_iret hx hb hr hlocks hI hw d_Ar_lastDeparture_57
set_option maxRecDepth 100000 in
set_option maxHeartbeats 4000000 in
theorem k_Ar_lastDeparture_2 {p : Program} {l : Launch} {e : Env} {s : State} {m : MethodId} {args : Array Value} {below : List Frame} {meth : Method} {c : Code} {dC : Nat → ClassId} {dI : Nat → Nat → Nat} {cA : ClassId} {a : Nat → Nat} {A : Nat → Prop} (hC : tC p s m meth c args b_Ar_lastDeparture 5 (some .int) wsA R_Ar A) (post : Int32 → tS → Prop) : ∀ n : Nat, ∀ (x2 x3 : Int32) (u : tS) (H : Heap) (locs : List Loc) (ls : Array Slot), w_Ar_lastDeparture_2 post n x2 x3 u → tX (dC, dI) twCl [(cA, .int)] A s H locs (wdX a cA u) → lv_has ls 5 [(0, .ref (a 5)), (1, .ref (a 1)), (2, .int x2), (3, .int x3)] → W p l e ({ frames := 2, cells := 0, slots := 0, locals := 48 }) s m args below meth c H locs 0 0 (MQ below (va_Qi post (tB (dC, dI) twCl [(cA, .int)] A (wdX a cA)) A) args s 0 0 A) (F0 m 2 ls []) := by
  obtain ⟨hx, hb, hr, hml, hown, hts, hlocks, hA, hN⟩ := id hC
  intro n
  induction n with
  | zero => intro x2 x3 u H locs ls hw; exact False.elim hw
  | succ n ih =>
    intro x2 x3 u H locs ls hw hI hl
    refine lv_iload_n hx hb d_Ar_lastDeparture_2 rfl (lv_at hl 3 rfl) ?_
    refine lv_aload_n hx hb d_Ar_lastDeparture_3 rfl (lv_at hl 1 rfl) ?_
    refine va_get (D := (dC, dI)) (C := R_Ne) (T := F_Ne) (N := 5) hx hb hts in_Ne hown hI.1 hI.2.1 1 (wdX_o1 a cA _) rfl 2 (by decide) (hts _ wA_170) (fun _ h9 => h9) rfl d_Ar_lastDeparture_4 ?_
    refine va_get (D := (dC, dI)) (C := R_Ri) (T := F_Ri) (N := 7) hx hb hts in_Ri hown hI.1 hI.2.1 2 (wdX_o2 a cA _) rfl 0 (by decide) (hts _ wA_66) (fun _ h9 => h9) rfl d_Ar_lastDeparture_7 ?_
    refine lv_icmp_ge (tgt := 70) hx hb d_Ar_lastDeparture_10 (by decide) (fun hc => ?_) (fun hc => ?_)
    · have hw := hw.1 hc
      refine lv_iconst (v := (-1)) hx hb d_Ar_lastDeparture_70 (by decide) ?_
      exact tr_iret hx hb hr hlocks hI hw d_Ar_lastDeparture_71
    · have hw := hw.2 hc
      refine lv_aload_n hx hb d_Ar_lastDeparture_13 rfl (lv_at hl 1 rfl) ?_
      refine va_get (D := (dC, dI)) (C := R_Ne) (T := F_Ne) (N := 5) hx hb hts in_Ne hown hI.1 hI.2.1 1 (wdX_o1 a cA _) rfl 2 (by decide) (hts _ wA_170) (fun _ h9 => h9) rfl d_Ar_lastDeparture_14 ?_
      refine va_get (D := (dC, dI)) (C := R_Ri) (T := F_Ri) (N := 7) hx hb hts in_Ri hown hI.1 hI.2.1 2 (wdX_o2 a cA _) rfl 2 (by decide) (hts _ wA_75) (fun _ h9 => h9) rfl d_Ar_lastDeparture_17 ?_
      refine lv_iload_n hx hb d_Ar_lastDeparture_20 rfl (lv_at hl 3 rfl) ?_
      obtain ⟨hi, hw⟩ := hw
      refine va_iald (D := (dC, dI)) hx hb hI.1 hI.2.1 12 0 (wdX_o12 a cA _) rfl hi d_Ar_lastDeparture_21 ?_
      refine lv_iload_n hx hb d_Ar_lastDeparture_22 rfl (lv_at hl 2 rfl) ?_
      refine lv_icmp_eq (tgt := 29) hx hb d_Ar_lastDeparture_23 (by decide) (fun hc => ?_) (fun hc => ?_)
      · have hw := hw.1 hc
        refine lv_iconst (v := 0) hx hb d_Ar_lastDeparture_29 (by decide) ?_
        refine lv_istore (lv' := [(4, .int 0), (0, .ref (a 5)), (1, .ref (a 1)), (2, .int x2), (3, .int x3)]) hx hb d_Ar_lastDeparture_30 hl (by decide) rfl (fun ls hl => ?_)
        obtain ⟨k, hw⟩ := hw
        exact k_Ar_lastDeparture_32 hC post _ ih k _ _ _ _ _ _ ls hw hI (lv_sub hl [1, 2, 3, 4, 0] rfl)
      · have hw := hw.2 hc
        refine lv_goto (tgt := 64) hx hb d_Ar_lastDeparture_26 (by decide) ?_
        refine lv_iinc (v := (x3 + 1)) (lv' := [(3, .int (x3 + 1)), (0, .ref (a 5)), (1, .ref (a 1)), (2, .int x2)]) hx hb d_Ar_lastDeparture_64 hl (k := 3) rfl rfl (by decide) rfl (fun ls hl => ?_)
        refine lv_goto (tgt := 2) hx hb d_Ar_lastDeparture_67 (by decide) ?_
        exact ih _ _ _ _ _ ls hw hI (lv_sub hl [1, 2, 3, 0] rfl)
set_option maxRecDepth 100000 in
set_option maxHeartbeats 4000000 in
theorem c_Ar_lastDeparture (l : Launch) (dC : Nat → ClassId) (dI : Nat → Nat → Nat) (cA : ClassId) (a : Nat → Nat) (u : tS) (x2 : Int32) (post : Int32 → tS → Prop) (sz : Nat) : Met l y_Ar_lastDeparture ws_Ar_lastDeparture ({ frames := 2, cells := 0, slots := 0, locals := 48 }) (va_Pc [.ref (a 5), .ref (a 1), .int x2] (tP (dC, dI) twCl [(cA, .int)] (wdX a cA) u sz (w_Ar_lastDeparture post x2 u))) (va_Qi post (tB (dC, dI) twCl [(cA, .int)] (va_A (wdX a cA u) sz) (wdX a cA)) (va_A (wdX a cA u) sz)) 0 0 (va_A (wdX a cA u) sz) := by
  refine Met.ofW (cc := b_Ar_lastDeparture) (maxL := 5) (ret := (some .int)) (by decide) rfl ?_
  intro p e s m args below meth c s₁ B hml hv
  obtain ⟨rfl, hsz, hP, hK, hD0, hN, hw⟩ := hv
  have hx := B.exec
  have hb := B.bytes
  have hr := B.returns
  have hts : ∀ w ∈ wsA, w.before _ s = true := fun w h => atoms_spec (ws := ws_Ar_lastDeparture) B.pre w (List.mem_cons_of_mem _ h)
  have hown : s.vm.findClass R_Ar = some m.cls := findClass_of_methodNamed B.named
  have hlocks := B.notSynchronized
  subst hsz
  have hD := hD0.self (sz := s.heap.size)
  generalize hAe : va_A (wdX a cA u) s.heap.size = A at hD ⊢
  have hA : ∀ q : Nat, s.heap.size ≤ q → A q := fun q h => by rw [← hAe]; exact Or.inr h
  have hS : va_S A s.heap s.heap [] := va_S.rf
  have hI : tX (dC, dI) twCl [(cA, .int)] A s s.heap [] (wdX a cA u) := ⟨hK, hP, hD, hS⟩
  have hC : tC p s m meth c ([.ref (a 5), .ref (a 1), .int x2] : List Value).toArray b_Ar_lastDeparture 5 (some .int) wsA R_Ar A := ⟨hx, hb, hr, hml, hown, hts, hlocks, hA, hN⟩
  have hl := lv_entry ([.ref (a 5), .ref (a 1), .int x2]) (n := 5) (Nat.le_of_ble_eq_true rfl)
  rw [lg_entry_eq]
  generalize (lg_sl ([.ref (a 5), .ref (a 1), .int x2]) ++ List.replicate (5 - (lg_sl ([.ref (a 5), .ref (a 1), .int x2])).length) Slot.unset).toArray = ls at hl ⊢
  have hl : lv_has ls 5 [(0, .ref (a 5)), (1, .ref (a 1)), (2, .int x2)] := hl
  have hw : (∃ k, w_Ar_lastDeparture_2 post k x2 0 u) := hw
  refine lv_iconst (v := 0) hx hb d_Ar_lastDeparture_0 (by decide) ?_
  refine lv_istore_n (lv' := [(3, .int 0), (0, .ref (a 5)), (1, .ref (a 1)), (2, .int x2)]) hx hb d_Ar_lastDeparture_1 rfl hl (by decide) rfl (fun ls hl => ?_)
  obtain ⟨k, hw⟩ := hw
  exact k_Ar_lastDeparture_2 hC post k _ _ _ _ _ ls hw hI (lv_sub hl [1, 2, 3, 0] rfl)
def w_Ac_put (post : tS → Prop) (x1 : Int32) (x2 : Int32) (x3 : Int32) (x4 : Int32) (u : tS) : Prop := (vp_in (u.1 5) 24 ∧ (vp_in ((tA u 21 (u.1 5) x1).1 5) 24 ∧ (vp_in ((tA (tA u 21 (u.1 5) x1) 22 ((tA u 21 (u.1 5) x1).1 5) x2).1 5) 24 ∧ (vp_in ((tA (tA (tA u 21 (u.1 5) x1) 22 ((tA u 21 (u.1 5) x1).1 5) x2) 23 ((tA (tA u 21 (u.1 5) x1) 22 ((tA u 21 (u.1 5) x1).1 5) x2).1 5) x3).1 5) 24 ∧ (post (tI (tA (tA (tA (tA u 21 (u.1 5) x1) 22 ((tA u 21 (u.1 5) x1).1 5) x2) 23 ((tA (tA u 21 (u.1 5) x1) 22 ((tA u 21 (u.1 5) x1).1 5) x2).1 5) x3) 24 ((tA (tA (tA u 21 (u.1 5) x1) 22 ((tA u 21 (u.1 5) x1).1 5) x2) 23 ((tA (tA u 21 (u.1 5) x1) 22 ((tA u 21 (u.1 5) x1).1 5) x2).1 5) x3).1 5) (x3 + x4)) 5 (((tA (tA (tA (tA u 21 (u.1 5) x1) 22 ((tA u 21 (u.1 5) x1).1 5) x2) 23 ((tA (tA u 21 (u.1 5) x1) 22 ((tA u 21 (u.1 5) x1).1 5) x2).1 5) x3) 24 ((tA (tA (tA u 21 (u.1 5) x1) 22 ((tA u 21 (u.1 5) x1).1 5) x2) 23 ((tA (tA u 21 (u.1 5) x1) 22 ((tA u 21 (u.1 5) x1).1 5) x2).1 5) x3).1 5) (x3 + x4)).1 5) + 1)))))))
set_option maxRecDepth 100000 in
set_option maxHeartbeats 4000000 in
theorem c_Ac_put (l : Launch) (dC : Nat → ClassId) (dI : Nat → Nat → Nat) (cA : ClassId) (a : Nat → Nat) (u : tS) (x1 : Int32) (x2 : Int32) (x3 : Int32) (x4 : Int32) (post : tS → Prop) (sz : Nat) : Met l y_Ac_put ws_Ac_put ({ frames := 0, cells := 0, slots := 0, locals := 0 }) (va_Pc [.ref (a 9), .int x1, .int x2, .int x3, .int x4] (tP (dC, dI) twCl [(cA, .int)] (wdX a cA) u sz (w_Ac_put post x1 x2 x3 x4 u))) (va_Qv post (tB (dC, dI) twCl [(cA, .int)] (va_A (wdX a cA u) sz) (wdX a cA)) (va_A (wdX a cA u) sz)) 0 0 (va_A (wdX a cA u) sz) := by
  refine Met.ofW (cc := b_Ac_put) (maxL := 5) (ret := none) (by decide) rfl ?_
  intro p e s m args below meth c s₁ B hml hv
  obtain ⟨rfl, hsz, hP, hK, hD0, hN, hw⟩ := hv
  have hx := B.exec
  have hb := B.bytes
  have hr := B.returns
  have hts : ∀ w ∈ wsA, w.before _ s = true := fun w h => atoms_spec (ws := ws_Ac_put) B.pre w (List.mem_cons_of_mem _ h)
  have hown : s.vm.findClass R_Ac = some m.cls := findClass_of_methodNamed B.named
  have hlocks := B.notSynchronized
  subst hsz
  have hD := hD0.self (sz := s.heap.size)
  generalize hAe : va_A (wdX a cA u) s.heap.size = A at hD ⊢
  have hA : ∀ q : Nat, s.heap.size ≤ q → A q := fun q h => by rw [← hAe]; exact Or.inr h
  have hS : va_S A s.heap s.heap [] := va_S.rf
  have hI : tX (dC, dI) twCl [(cA, .int)] A s s.heap [] (wdX a cA u) := ⟨hK, hP, hD, hS⟩
  have hC : tC p s m meth c ([.ref (a 9), .int x1, .int x2, .int x3, .int x4] : List Value).toArray b_Ac_put 5 none wsA R_Ac A := ⟨hx, hb, hr, hml, hown, hts, hlocks, hA, hN⟩
  have hl := lv_entry ([.ref (a 9), .int x1, .int x2, .int x3, .int x4]) (n := 5) (Nat.le_of_ble_eq_true rfl)
  rw [lg_entry_eq]
  generalize (lg_sl ([.ref (a 9), .int x1, .int x2, .int x3, .int x4]) ++ List.replicate (5 - (lg_sl ([.ref (a 9), .int x1, .int x2, .int x3, .int x4])).length) Slot.unset).toArray = ls at hl ⊢
  have hl : lv_has ls 5 [(0, .ref (a 9)), (1, .int x1), (2, .int x2), (3, .int x3), (4, .int x4)] := hl
  have hw : (vp_in (u.1 5) 24 ∧ (vp_in ((tA u 21 (u.1 5) x1).1 5) 24 ∧ (vp_in ((tA (tA u 21 (u.1 5) x1) 22 ((tA u 21 (u.1 5) x1).1 5) x2).1 5) 24 ∧ (vp_in ((tA (tA (tA u 21 (u.1 5) x1) 22 ((tA u 21 (u.1 5) x1).1 5) x2) 23 ((tA (tA u 21 (u.1 5) x1) 22 ((tA u 21 (u.1 5) x1).1 5) x2).1 5) x3).1 5) 24 ∧ (post (tI (tA (tA (tA (tA u 21 (u.1 5) x1) 22 ((tA u 21 (u.1 5) x1).1 5) x2) 23 ((tA (tA u 21 (u.1 5) x1) 22 ((tA u 21 (u.1 5) x1).1 5) x2).1 5) x3) 24 ((tA (tA (tA u 21 (u.1 5) x1) 22 ((tA u 21 (u.1 5) x1).1 5) x2) 23 ((tA (tA u 21 (u.1 5) x1) 22 ((tA u 21 (u.1 5) x1).1 5) x2).1 5) x3).1 5) (x3 + x4)) 5 (((tA (tA (tA (tA u 21 (u.1 5) x1) 22 ((tA u 21 (u.1 5) x1).1 5) x2) 23 ((tA (tA u 21 (u.1 5) x1) 22 ((tA u 21 (u.1 5) x1).1 5) x2).1 5) x3) 24 ((tA (tA (tA u 21 (u.1 5) x1) 22 ((tA u 21 (u.1 5) x1).1 5) x2) 23 ((tA (tA u 21 (u.1 5) x1) 22 ((tA u 21 (u.1 5) x1).1 5) x2).1 5) x3).1 5) (x3 + x4)).1 5) + 1))))))) := hw
  refine lv_aload_n hx hb d_Ac_put_0 rfl (lv_at hl 0 rfl) ?_
  refine va_get (D := (dC, dI)) (C := R_Ac) (T := F_Ac) (N := 5) hx hb hts in_Ac hown hI.1 hI.2.1 9 (wdX_o9 a cA _) rfl 1 (by decide) (hts _ wA_245) (fun _ h9 => h9) rfl d_Ac_put_1 ?_
  refine lv_aload_n hx hb d_Ac_put_4 rfl (lv_at hl 0 rfl) ?_
  refine va_get (D := (dC, dI)) (C := R_Ac) (T := F_Ac) (N := 5) hx hb hts in_Ac hown hI.1 hI.2.1 9 (wdX_o9 a cA _) rfl 0 (by decide) (hts _ wA_243) (fun _ h9 => h9) rfl d_Ac_put_5 ?_
  refine lv_iload_n hx hb d_Ac_put_8 rfl (lv_at hl 1 rfl) ?_
  obtain ⟨hi, hw⟩ := hw
  refine tr_iast (w := wdX a cA) hx hb hI 31 0 21 (wdX_o31 a cA _) rfl (wdX_a21 a cA _ _ _) hi d_Ac_put_9 (fun H locs hI => ?_)
  refine lv_aload_n hx hb d_Ac_put_10 rfl (lv_at hl 0 rfl) ?_
  refine va_get (D := (dC, dI)) (C := R_Ac) (T := F_Ac) (N := 5) hx hb hts in_Ac hown hI.1 hI.2.1 9 (wdX_o9 a cA _) rfl 2 (by decide) (hts _ wA_247) (fun _ h9 => h9) rfl d_Ac_put_11 ?_
  refine lv_aload_n hx hb d_Ac_put_14 rfl (lv_at hl 0 rfl) ?_
  refine va_get (D := (dC, dI)) (C := R_Ac) (T := F_Ac) (N := 5) hx hb hts in_Ac hown hI.1 hI.2.1 9 (wdX_o9 a cA _) rfl 0 (by decide) (hts _ wA_243) (fun _ h9 => h9) rfl d_Ac_put_15 ?_
  refine lv_iload_n hx hb d_Ac_put_18 rfl (lv_at hl 2 rfl) ?_
  obtain ⟨hi, hw⟩ := hw
  refine tr_iast (w := wdX a cA) hx hb hI 32 0 22 (wdX_o32 a cA _) rfl (wdX_a22 a cA _ _ _) hi d_Ac_put_19 (fun H locs hI => ?_)
  refine lv_aload_n hx hb d_Ac_put_20 rfl (lv_at hl 0 rfl) ?_
  refine va_get (D := (dC, dI)) (C := R_Ac) (T := F_Ac) (N := 5) hx hb hts in_Ac hown hI.1 hI.2.1 9 (wdX_o9 a cA _) rfl 3 (by decide) (hts _ wA_249) (fun _ h9 => h9) rfl d_Ac_put_21 ?_
  refine lv_aload_n hx hb d_Ac_put_24 rfl (lv_at hl 0 rfl) ?_
  refine va_get (D := (dC, dI)) (C := R_Ac) (T := F_Ac) (N := 5) hx hb hts in_Ac hown hI.1 hI.2.1 9 (wdX_o9 a cA _) rfl 0 (by decide) (hts _ wA_243) (fun _ h9 => h9) rfl d_Ac_put_25 ?_
  refine lv_iload_n hx hb d_Ac_put_28 rfl (lv_at hl 3 rfl) ?_
  obtain ⟨hi, hw⟩ := hw
  refine tr_iast (w := wdX a cA) hx hb hI 33 0 23 (wdX_o33 a cA _) rfl (wdX_a23 a cA _ _ _) hi d_Ac_put_29 (fun H locs hI => ?_)
  refine lv_aload_n hx hb d_Ac_put_30 rfl (lv_at hl 0 rfl) ?_
  refine va_get (D := (dC, dI)) (C := R_Ac) (T := F_Ac) (N := 5) hx hb hts in_Ac hown hI.1 hI.2.1 9 (wdX_o9 a cA _) rfl 4 (by decide) (hts _ wA_251) (fun _ h9 => h9) rfl d_Ac_put_31 ?_
  refine lv_aload_n hx hb d_Ac_put_34 rfl (lv_at hl 0 rfl) ?_
  refine va_get (D := (dC, dI)) (C := R_Ac) (T := F_Ac) (N := 5) hx hb hts in_Ac hown hI.1 hI.2.1 9 (wdX_o9 a cA _) rfl 0 (by decide) (hts _ wA_243) (fun _ h9 => h9) rfl d_Ac_put_35 ?_
  refine lv_iload_n hx hb d_Ac_put_38 rfl (lv_at hl 3 rfl) ?_
  refine lv_iload hx hb d_Ac_put_39 (lv_at hl 4 rfl) ?_
  refine lv_iadd hx hb d_Ac_put_41 ?_
  obtain ⟨hi, hw⟩ := hw
  refine tr_iast (w := wdX a cA) hx hb hI 34 0 24 (wdX_o34 a cA _) rfl (wdX_a24 a cA _ _ _) hi d_Ac_put_42 (fun H locs hI => ?_)
  refine lv_aload_n hx hb d_Ac_put_43 rfl (lv_at hl 0 rfl) ?_
  refine lv_dup hx hb d_Ac_put_44 rfl ?_
  refine va_get (D := (dC, dI)) (C := R_Ac) (T := F_Ac) (N := 5) hx hb hts in_Ac hown hI.1 hI.2.1 9 (wdX_o9 a cA _) rfl 0 (by decide) (hts _ wA_243) (fun _ h9 => h9) rfl d_Ac_put_45 ?_
  refine lv_iconst (v := 1) hx hb d_Ac_put_48 (by decide) ?_
  refine lv_iadd hx hb d_Ac_put_49 ?_
  refine tr_put (C := R_Ac) (T := F_Ac) (N := 5) (w := wdX a cA) hx hb hts in_Ac ft_Ac ft_Ac_ok fn_Ac hown hI 9 5 (wdX_o9 a cA _) rfl 0 (by decide) (hts _ wA_243) rfl (by decide +kernel) (Nat.le_of_ble_eq_true rfl) (wdX_i5 a cA _ _) d_Ac_put_50 (fun H locs hI => ?_)
  exact tr_vret hx hb hr hlocks hI hw d_Ac_put_53
def w_Ac_addDeparture (post : Int32 → tS → Prop) (x3 : Int32) (u : tS) : Prop := (w_Ar_lastDeparture (fun r3 u3 => ((r3 = (-1) → (post (-1) u3)) ∧ (¬ r3 = (-1) → (w_Ri_leaves (fun r37 u37 => (vp_in (r3 / 7) 40 ∧ (w_Ac_put (fun u50 => (vp_in (r3 / 7) 40 ∧ (post (u50.2 1 (r3 / 7).toNatClampNeg) u50))) (r3 / 7) (r3 - r3 / 7 * 7) r37 (u37.2 4 (r3 / 7).toNatClampNeg) u37))) r3 u3)))) x3 u)
set_option maxRecDepth 100000 in
set_option maxHeartbeats 4000000 in
theorem c_Ac_addDeparture (l : Launch) (dC : Nat → ClassId) (dI : Nat → Nat → Nat) (cA : ClassId) (a : Nat → Nat) (u : tS) (x3 : Int32) (post : Int32 → tS → Prop) (sz : Nat) : Met l y_Ac_addDeparture ws_Ac_addDeparture ({ frames := 3, cells := 0, slots := 0, locals := 72 }) (va_Pc [.ref (a 9), .ref (a 1), .ref (a 5), .int x3] (tP (dC, dI) twCl [(cA, .int)] (wdX a cA) u sz (w_Ac_addDeparture post x3 u))) (va_Qi post (tB (dC, dI) twCl [(cA, .int)] (va_A (wdX a cA u) sz) (wdX a cA)) (va_A (wdX a cA u) sz)) 0 0 (va_A (wdX a cA u) sz) := by
  refine Met.ofW (cc := b_Ac_addDeparture) (maxL := 6) (ret := (some .int)) (by decide) rfl ?_
  intro p e s m args below meth c s₁ B hml hv
  obtain ⟨rfl, hsz, hP, hK, hD0, hN, hw⟩ := hv
  have hx := B.exec
  have hb := B.bytes
  have hr := B.returns
  have hts : ∀ w ∈ wsA, w.before _ s = true := fun w h => atoms_spec (ws := ws_Ac_addDeparture) B.pre w (List.mem_cons_of_mem _ h)
  have hown : s.vm.findClass R_Ac = some m.cls := findClass_of_methodNamed B.named
  have hlocks := B.notSynchronized
  subst hsz
  have hD := hD0.self (sz := s.heap.size)
  generalize hAe : va_A (wdX a cA u) s.heap.size = A at hD ⊢
  have hA : ∀ q : Nat, s.heap.size ≤ q → A q := fun q h => by rw [← hAe]; exact Or.inr h
  have hS : va_S A s.heap s.heap [] := va_S.rf
  have hI : tX (dC, dI) twCl [(cA, .int)] A s s.heap [] (wdX a cA u) := ⟨hK, hP, hD, hS⟩
  have hC : tC p s m meth c ([.ref (a 9), .ref (a 1), .ref (a 5), .int x3] : List Value).toArray b_Ac_addDeparture 6 (some .int) wsA R_Ac A := ⟨hx, hb, hr, hml, hown, hts, hlocks, hA, hN⟩
  have hl := lv_entry ([.ref (a 9), .ref (a 1), .ref (a 5), .int x3]) (n := 6) (Nat.le_of_ble_eq_true rfl)
  rw [lg_entry_eq]
  generalize (lg_sl ([.ref (a 9), .ref (a 1), .ref (a 5), .int x3]) ++ List.replicate (6 - (lg_sl ([.ref (a 9), .ref (a 1), .ref (a 5), .int x3])).length) Slot.unset).toArray = ls at hl ⊢
  have hl : lv_has ls 6 [(0, .ref (a 9)), (1, .ref (a 1)), (2, .ref (a 5)), (3, .int x3)] := hl
  have hw : (w_Ar_lastDeparture (fun r3 u3 => ((r3 = (-1) → (post (-1) u3)) ∧ (¬ r3 = (-1) → (w_Ri_leaves (fun r37 u37 => (vp_in (r3 / 7) 40 ∧ (w_Ac_put (fun u50 => (vp_in (r3 / 7) 40 ∧ (post (u50.2 1 (r3 / 7).toNatClampNeg) u50))) (r3 / 7) (r3 - r3 / 7 * 7) r37 (u37.2 4 (r3 / 7).toNatClampNeg) u37))) r3 u3)))) x3 u) := hw
  refine lv_aload_n hx hb d_Ac_addDeparture_0 rfl (lv_at hl 2 rfl) ?_
  refine lv_aload_n hx hb d_Ac_addDeparture_1 rfl (lv_at hl 1 rfl) ?_
  refine lv_iload_n hx hb d_Ac_addDeparture_2 rfl (lv_at hl 3 rfl) ?_
  refine tr_goi (w := wdX a cA) hI hA (va_runV (As := [.ref (a 1), .int x3]) (rest := []) ⟨hx, hb, hml, hown, hts⟩ (c_Ar_lastDeparture l dC dI cA a _ _ _ _) (cwV 2 hts (wsA_goodV wA_542 wA_543 wA_544 wA_36 wA_545) rfl rfl rfl (by decide +kernel) ⟨Nat.le_of_ble_eq_true rfl, Nat.le_of_ble_eq_true rfl⟩) (tr_preV (ci := 5) (q0 := 5) hI rfl (wdX_o5 a cA _) rfl hN hw) rfl rfl hl.1 rfl (lv_room (Nat.le_of_ble_eq_true rfl)) d_Ac_addDeparture_3 ⟨Nat.zero_le _, Nat.zero_le _⟩) (fun r3 u3 H locs hw hI => ?_)
  refine lv_istore (lv' := [(4, .int r3), (0, .ref (a 9)), (1, .ref (a 1)), (2, .ref (a 5)), (3, .int x3)]) hx hb d_Ac_addDeparture_6 hl (by decide) rfl (fun ls hl => ?_)
  refine lv_iload hx hb d_Ac_addDeparture_8 (lv_at hl 0 rfl) ?_
  refine lv_iconst (v := (-1)) hx hb d_Ac_addDeparture_10 (by decide) ?_
  refine lv_icmp_ne (tgt := 16) hx hb d_Ac_addDeparture_11 (by decide) (fun hc => ?_) (fun hc => ?_)
  · have hw := hw.2 hc
    refine lv_iload hx hb d_Ac_addDeparture_16 (lv_at hl 0 rfl) ?_
    refine lv_bipush (v := 7) hx hb d_Ac_addDeparture_18 (by decide) ?_
    refine lv_idiv hx hb d_Ac_addDeparture_20 (by decide) ?_
    refine lv_istore (lv' := [(5, .int (r3 / 7)), (4, .int r3), (0, .ref (a 9)), (1, .ref (a 1)), (2, .ref (a 5)), (3, .int x3)]) hx hb d_Ac_addDeparture_21 hl (by decide) rfl (fun ls hl => ?_)
    refine lv_aload_n hx hb d_Ac_addDeparture_23 rfl (lv_at hl 2 rfl) ?_
    refine lv_iload hx hb d_Ac_addDeparture_24 (lv_at hl 0 rfl) ?_
    refine lv_iload hx hb d_Ac_addDeparture_26 (lv_at hl 1 rfl) ?_
    refine lv_bipush (v := 7) hx hb d_Ac_addDeparture_28 (by decide) ?_
    refine lv_irem hx hb d_Ac_addDeparture_30 (by decide) ?_
    refine lv_aload_n hx hb d_Ac_addDeparture_31 rfl (lv_at hl 3 rfl) ?_
    refine va_get (D := (dC, dI)) (C := R_Ne) (T := F_Ne) (N := 5) hx hb hts in_Ne hown hI.1 hI.2.1 1 (wdX_o1 a cA _) rfl 2 (by decide) (hts _ wA_168) (fun _ h9 => h9) rfl d_Ac_addDeparture_32 ?_
    refine lv_iload hx hb d_Ac_addDeparture_35 (lv_at hl 1 rfl) ?_
    refine tr_goi (w := wdX a cA) hI hA (va_runV (As := [.int r3]) (rest := [.int (r3 - r3 / 7 * 7), .int (r3 / 7), .ref (a 9)]) ⟨hx, hb, hml, hown, hts⟩ (c_Ri_leaves l dC dI cA a _ _ _ _) (cwV 1 hts (wsA_goodV wA_552 wA_341 wA_342 wA_32 wA_343) rfl rfl rfl (by decide +kernel) ⟨Nat.le_of_ble_eq_true rfl, Nat.le_of_ble_eq_true rfl⟩) (tr_preV (ci := 2) (q0 := 2) hI rfl (wdX_o2 a cA _) rfl hN hw) rfl rfl hl.1 rfl (lv_room (Nat.le_of_ble_eq_true rfl)) d_Ac_addDeparture_37 ⟨Nat.zero_le _, Nat.zero_le _⟩) (fun r37 u37 H locs hw hI => ?_)
    refine lv_aload_n hx hb d_Ac_addDeparture_40 rfl (lv_at hl 3 rfl) ?_
    refine va_get (D := (dC, dI)) (C := R_Ne) (T := F_Ne) (N := 5) hx hb hts in_Ne hown hI.1 hI.2.1 1 (wdX_o1 a cA _) rfl 2 (by decide) (hts _ wA_168) (fun _ h9 => h9) rfl d_Ac_addDeparture_41 ?_
    refine va_get (D := (dC, dI)) (C := R_Ri) (T := F_Ri) (N := 7) hx hb hts in_Ri hown hI.1 hI.2.1 2 (wdX_o2 a cA _) rfl 4 (by decide) (hts _ wA_80) (fun _ h9 => h9) rfl d_Ac_addDeparture_44 ?_
    refine lv_iload hx hb d_Ac_addDeparture_47 (lv_at hl 0 rfl) ?_
    obtain ⟨hi, hw⟩ := hw
    refine va_iald (D := (dC, dI)) hx hb hI.1 hI.2.1 14 0 (wdX_o14 a cA _) rfl hi d_Ac_addDeparture_49 ?_
    refine tr_gov (w := wdX a cA) hI hA (va_runV (As := [.int (r3 / 7), .int (r3 - r3 / 7 * 7), .int r37, .int (u37.2 4 (r3 / 7).toNatClampNeg)]) (rest := []) ⟨hx, hb, hml, hown, hts⟩ (c_Ac_put l dC dI cA a _ _ _ _ _ _ _) (cwV 4 hts (wsA_goodV wA_534 wA_536 wA_6 wA_39 wA_537) rfl rfl rfl (by decide +kernel) ⟨Nat.le_of_ble_eq_true rfl, Nat.le_of_ble_eq_true rfl⟩) (tr_preV (ci := 8) (q0 := 9) hI rfl (wdX_o9 a cA _) rfl hN hw) rfl rfl hl.1 rfl (lv_room (Nat.le_of_ble_eq_true rfl)) d_Ac_addDeparture_50 ⟨Nat.zero_le _, Nat.zero_le _⟩) (fun u50 H locs hw hI => ?_)
    refine lv_aload_n hx hb d_Ac_addDeparture_53 rfl (lv_at hl 3 rfl) ?_
    refine va_get (D := (dC, dI)) (C := R_Ne) (T := F_Ne) (N := 5) hx hb hts in_Ne hown hI.1 hI.2.1 1 (wdX_o1 a cA _) rfl 2 (by decide) (hts _ wA_168) (fun _ h9 => h9) rfl d_Ac_addDeparture_54 ?_
    refine va_get (D := (dC, dI)) (C := R_Ri) (T := F_Ri) (N := 7) hx hb hts in_Ri hown hI.1 hI.2.1 2 (wdX_o2 a cA _) rfl 1 (by decide) (hts _ wA_68) (fun _ h9 => h9) rfl d_Ac_addDeparture_57 ?_
    refine lv_iload hx hb d_Ac_addDeparture_60 (lv_at hl 0 rfl) ?_
    obtain ⟨hi, hw⟩ := hw
    refine va_iald (D := (dC, dI)) hx hb hI.1 hI.2.1 11 0 (wdX_o11 a cA _) rfl hi d_Ac_addDeparture_62 ?_
    exact tr_iret hx hb hr hlocks hI hw d_Ac_addDeparture_63
  · have hw := hw.1 hc
    refine lv_iconst (v := (-1)) hx hb d_Ac_addDeparture_14 (by decide) ?_
    exact tr_iret hx hb hr hlocks hI hw d_Ac_addDeparture_15
end
section
def w_Ar_lastWalk_2 (post : Int32 → tS → Prop) : Nat → Int32 → Int32 → tS → Prop
  | 0 => fun _ _ _ => False
  | n + 1 => fun x2 x3 u => (((u.1 3) ≤ x3 → (post (-1) u)) ∧ (¬ (u.1 3) ≤ x3 → (vp_in x3 30 ∧ (w_Ar_first (fun r23 u23 => (vp_in x3 30 ∧ (vp_in x3 30 ∧ (((u23.2 10 x3.toNatClampNeg) = x2 → (vp_in x2 12 ∧ (((r23 + (u23.2 11 x3.toNatClampNeg)) = (u23.2 14 x2.toNatClampNeg) → (post x3 u23)) ∧ (¬ (r23 + (u23.2 11 x3.toNatClampNeg)) = (u23.2 14 x2.toNatClampNeg) → (w_Ar_lastWalk_2 post n x2 (x3 + 1) u23))))) ∧ (¬ (u23.2 10 x3.toNatClampNeg) = x2 → (w_Ar_lastWalk_2 post n x2 (x3 + 1) u23)))))) (u.2 9 x3.toNatClampNeg) u))))
def w_Ar_lastWalk (post : Int32 → tS → Prop) (x2 : Int32) (u : tS) : Prop := (∃ k, w_Ar_lastWalk_2 post k x2 0 u)
set_option maxRecDepth 100000 in
set_option maxHeartbeats 4000000 in
theorem k_Ar_lastWalk_2 {p : Program} {l : Launch} {e : Env} {s : State} {m : MethodId} {args : Array Value} {below : List Frame} {meth : Method} {c : Code} {dC : Nat → ClassId} {dI : Nat → Nat → Nat} {cA : ClassId} {a : Nat → Nat} {A : Nat → Prop} (hC : tC p s m meth c args b_Ar_lastWalk 5 (some .int) wsA R_Ar A) (post : Int32 → tS → Prop) : ∀ n : Nat, ∀ (x2 x3 : Int32) (u : tS) (H : Heap) (locs : List Loc) (ls : Array Slot), w_Ar_lastWalk_2 post n x2 x3 u → tX (dC, dI) twCl [(cA, .int)] A s H locs (wdX a cA u) → lv_has ls 5 [(0, .ref (a 5)), (1, .ref (a 1)), (2, .int x2), (3, .int x3)] → W p l e ({ frames := 2, cells := 0, slots := 0, locals := 34 }) s m args below meth c H locs 0 0 (MQ below (va_Qi post (tB (dC, dI) twCl [(cA, .int)] A (wdX a cA)) A) args s 0 0 A) (F0 m 2 ls []) := by
  obtain ⟨hx, hb, hr, hml, hown, hts, hlocks, hA, hN⟩ := id hC
  intro n
  induction n with
  | zero => intro x2 x3 u H locs ls hw; exact False.elim hw
  | succ n ih =>
    intro x2 x3 u H locs ls hw hI hl
    refine lv_iload_n hx hb d_Ar_lastWalk_2 rfl (lv_at hl 3 rfl) ?_
    refine lv_aload_n hx hb d_Ar_lastWalk_3 rfl (lv_at hl 1 rfl) ?_
    refine va_get (D := (dC, dI)) (C := R_Ne) (T := F_Ne) (N := 5) hx hb hts in_Ne hown hI.1 hI.2.1 1 (wdX_o1 a cA _) rfl 4 (by decide) (hts _ wA_178) (fun _ h9 => h9) rfl d_Ar_lastWalk_4 ?_
    refine va_get (D := (dC, dI)) (C := R_Wa) (T := F_Wa) (N := 5) hx hb hts in_Wa hown hI.1 hI.2.1 4 (wdX_o4 a cA _) rfl 0 (by decide) (hts _ wA_139) (fun _ h9 => h9) rfl d_Ar_lastWalk_7 ?_
    refine lv_icmp_ge (tgt := 70) hx hb d_Ar_lastWalk_10 (by decide) (fun hc => ?_) (fun hc => ?_)
    · have hw := hw.1 hc
      refine lv_iconst (v := (-1)) hx hb d_Ar_lastWalk_70 (by decide) ?_
      exact tr_iret hx hb hr hlocks hI hw d_Ar_lastWalk_71
    · have hw := hw.2 hc
      refine lv_aload_n hx hb d_Ar_lastWalk_13 rfl (lv_at hl 0 rfl) ?_
      refine lv_aload_n hx hb d_Ar_lastWalk_14 rfl (lv_at hl 1 rfl) ?_
      refine va_get (D := (dC, dI)) (C := R_Ne) (T := F_Ne) (N := 5) hx hb hts in_Ne hown hI.1 hI.2.1 1 (wdX_o1 a cA _) rfl 4 (by decide) (hts _ wA_178) (fun _ h9 => h9) rfl d_Ar_lastWalk_15 ?_
      refine va_get (D := (dC, dI)) (C := R_Wa) (T := F_Wa) (N := 5) hx hb hts in_Wa hown hI.1 hI.2.1 4 (wdX_o4 a cA _) rfl 1 (by decide) (hts _ wA_142) (fun _ h9 => h9) rfl d_Ar_lastWalk_18 ?_
      refine lv_iload_n hx hb d_Ar_lastWalk_21 rfl (lv_at hl 3 rfl) ?_
      obtain ⟨hi, hw⟩ := hw
      refine va_iald (D := (dC, dI)) hx hb hI.1 hI.2.1 19 0 (wdX_o19 a cA _) rfl hi d_Ar_lastWalk_22 ?_
      refine tr_goi (w := wdX a cA) hI hA (va_runV (As := [.int (u.2 9 x3.toNatClampNeg)]) (rest := []) ⟨hx, hb, hml, hown, hts⟩ (c_Ar_first l dC dI cA a _ _ _ _) (cwV 1 hts (wsA_goodV wA_533 wA_422 wA_423 wA_36 wA_424) rfl rfl rfl (by decide +kernel) ⟨Nat.le_of_ble_eq_true rfl, Nat.le_of_ble_eq_true rfl⟩) (tr_preV (ci := 5) (q0 := 5) hI rfl (wdX_o5 a cA _) rfl hN hw) rfl rfl hl.1 rfl (lv_room (Nat.le_of_ble_eq_true rfl)) d_Ar_lastWalk_23 ⟨Nat.zero_le _, Nat.zero_le _⟩) (fun r23 u23 H locs hw hI => ?_)
      refine lv_aload_n hx hb d_Ar_lastWalk_26 rfl (lv_at hl 1 rfl) ?_
      refine va_get (D := (dC, dI)) (C := R_Ne) (T := F_Ne) (N := 5) hx hb hts in_Ne hown hI.1 hI.2.1 1 (wdX_o1 a cA _) rfl 4 (by decide) (hts _ wA_178) (fun _ h9 => h9) rfl d_Ar_lastWalk_27 ?_
      refine va_get (D := (dC, dI)) (C := R_Wa) (T := F_Wa) (N := 5) hx hb hts in_Wa hown hI.1 hI.2.1 4 (wdX_o4 a cA _) rfl 3 (by decide) (hts _ wA_147) (fun _ h9 => h9) rfl d_Ar_lastWalk_30 ?_
      refine lv_iload_n hx hb d_Ar_lastWalk_33 rfl (lv_at hl 3 rfl) ?_
      obtain ⟨hi, hw⟩ := hw
      refine va_iald (D := (dC, dI)) hx hb hI.1 hI.2.1 21 0 (wdX_o21 a cA _) rfl hi d_Ar_lastWalk_34 ?_
      refine lv_iadd hx hb d_Ar_lastWalk_35 ?_
      refine lv_istore (lv' := [(4, .int (r23 + (u23.2 11 x3.toNatClampNeg))), (0, .ref (a 5)), (1, .ref (a 1)), (2, .int x2), (3, .int x3)]) hx hb d_Ar_lastWalk_36 hl (by decide) rfl (fun ls hl => ?_)
      refine lv_aload_n hx hb d_Ar_lastWalk_38 rfl (lv_at hl 2 rfl) ?_
      refine va_get (D := (dC, dI)) (C := R_Ne) (T := F_Ne) (N := 5) hx hb hts in_Ne hown hI.1 hI.2.1 1 (wdX_o1 a cA _) rfl 4 (by decide) (hts _ wA_178) (fun _ h9 => h9) rfl d_Ar_lastWalk_39 ?_
      refine va_get (D := (dC, dI)) (C := R_Wa) (T := F_Wa) (N := 5) hx hb hts in_Wa hown hI.1 hI.2.1 4 (wdX_o4 a cA _) rfl 2 (by decide) (hts _ wA_144) (fun _ h9 => h9) rfl d_Ar_lastWalk_42 ?_
      refine lv_iload_n hx hb d_Ar_lastWalk_45 rfl (lv_at hl 4 rfl) ?_
      obtain ⟨hi, hw⟩ := hw
      refine va_iald (D := (dC, dI)) hx hb hI.1 hI.2.1 20 0 (wdX_o20 a cA _) rfl hi d_Ar_lastWalk_46 ?_
      refine lv_iload_n hx hb d_Ar_lastWalk_47 rfl (lv_at hl 3 rfl) ?_
      refine lv_icmp_ne (tgt := 64) hx hb d_Ar_lastWalk_48 (by decide) (fun hc => ?_) (fun hc => ?_)
      · have hw := hw.2 hc
        refine lv_iinc (v := (x3 + 1)) (lv' := [(3, .int (x3 + 1)), (4, .int (r23 + (u23.2 11 x3.toNatClampNeg))), (0, .ref (a 5)), (1, .ref (a 1)), (2, .int x2)]) hx hb d_Ar_lastWalk_64 hl (k := 4) rfl rfl (by decide) rfl (fun ls hl => ?_)
        refine lv_goto (tgt := 2) hx hb d_Ar_lastWalk_67 (by decide) ?_
        exact ih _ _ _ _ _ ls hw hI (lv_sub hl [2, 3, 4, 0] rfl)
      · have hw := hw.1 hc
        refine lv_iload hx hb d_Ar_lastWalk_51 (lv_at hl 0 rfl) ?_
        refine lv_aload_n hx hb d_Ar_lastWalk_53 rfl (lv_at hl 1 rfl) ?_
        refine va_get (D := (dC, dI)) (C := R_Ar) (T := F_Ar) (N := 2) hx hb hts in_Ar hown hI.1 hI.2.1 5 (wdX_o5 a cA _) rfl 1 (by decide) (hts _ wA_198) (fun _ h9 => h9) rfl d_Ar_lastWalk_54 ?_
        refine lv_iload_n hx hb d_Ar_lastWalk_57 rfl (lv_at hl 3 rfl) ?_
        obtain ⟨hi, hw⟩ := hw
        refine va_iald (D := (dC, dI)) hx hb hI.1 hI.2.1 24 0 (wdX_o24 a cA _) rfl hi d_Ar_lastWalk_58 ?_
        refine lv_icmp_ne (tgt := 64) hx hb d_Ar_lastWalk_59 (by decide) (fun hc => ?_) (fun hc => ?_)
        · have hw := hw.2 hc
          refine lv_iinc (v := (x3 + 1)) (lv' := [(3, .int (x3 + 1)), (4, .int (r23 + (u23.2 11 x3.toNatClampNeg))), (0, .ref (a 5)), (1, .ref (a 1)), (2, .int x2)]) hx hb d_Ar_lastWalk_64 hl (k := 4) rfl rfl (by decide) rfl (fun ls hl => ?_)
          refine lv_goto (tgt := 2) hx hb d_Ar_lastWalk_67 (by decide) ?_
          exact ih _ _ _ _ _ ls hw hI (lv_sub hl [2, 3, 4, 0] rfl)
        · have hw := hw.1 hc
          refine lv_iload_n hx hb d_Ar_lastWalk_62 rfl (lv_at hl 4 rfl) ?_
          exact tr_iret hx hb hr hlocks hI hw d_Ar_lastWalk_63
set_option maxRecDepth 100000 in
set_option maxHeartbeats 4000000 in
theorem c_Ar_lastWalk (l : Launch) (dC : Nat → ClassId) (dI : Nat → Nat → Nat) (cA : ClassId) (a : Nat → Nat) (u : tS) (x2 : Int32) (post : Int32 → tS → Prop) (sz : Nat) : Met l y_Ar_lastWalk ws_Ar_lastWalk ({ frames := 2, cells := 0, slots := 0, locals := 34 }) (va_Pc [.ref (a 5), .ref (a 1), .int x2] (tP (dC, dI) twCl [(cA, .int)] (wdX a cA) u sz (w_Ar_lastWalk post x2 u))) (va_Qi post (tB (dC, dI) twCl [(cA, .int)] (va_A (wdX a cA u) sz) (wdX a cA)) (va_A (wdX a cA u) sz)) 0 0 (va_A (wdX a cA u) sz) := by
  refine Met.ofW (cc := b_Ar_lastWalk) (maxL := 5) (ret := (some .int)) (by decide) rfl ?_
  intro p e s m args below meth c s₁ B hml hv
  obtain ⟨rfl, hsz, hP, hK, hD0, hN, hw⟩ := hv
  have hx := B.exec
  have hb := B.bytes
  have hr := B.returns
  have hts : ∀ w ∈ wsA, w.before _ s = true := fun w h => atoms_spec (ws := ws_Ar_lastWalk) B.pre w (List.mem_cons_of_mem _ h)
  have hown : s.vm.findClass R_Ar = some m.cls := findClass_of_methodNamed B.named
  have hlocks := B.notSynchronized
  subst hsz
  have hD := hD0.self (sz := s.heap.size)
  generalize hAe : va_A (wdX a cA u) s.heap.size = A at hD ⊢
  have hA : ∀ q : Nat, s.heap.size ≤ q → A q := fun q h => by rw [← hAe]; exact Or.inr h
  have hS : va_S A s.heap s.heap [] := va_S.rf
  have hI : tX (dC, dI) twCl [(cA, .int)] A s s.heap [] (wdX a cA u) := ⟨hK, hP, hD, hS⟩
  have hC : tC p s m meth c ([.ref (a 5), .ref (a 1), .int x2] : List Value).toArray b_Ar_lastWalk 5 (some .int) wsA R_Ar A := ⟨hx, hb, hr, hml, hown, hts, hlocks, hA, hN⟩
  have hl := lv_entry ([.ref (a 5), .ref (a 1), .int x2]) (n := 5) (Nat.le_of_ble_eq_true rfl)
  rw [lg_entry_eq]
  generalize (lg_sl ([.ref (a 5), .ref (a 1), .int x2]) ++ List.replicate (5 - (lg_sl ([.ref (a 5), .ref (a 1), .int x2])).length) Slot.unset).toArray = ls at hl ⊢
  have hl : lv_has ls 5 [(0, .ref (a 5)), (1, .ref (a 1)), (2, .int x2)] := hl
  have hw : (∃ k, w_Ar_lastWalk_2 post k x2 0 u) := hw
  refine lv_iconst (v := 0) hx hb d_Ar_lastWalk_0 (by decide) ?_
  refine lv_istore_n (lv' := [(3, .int 0), (0, .ref (a 5)), (1, .ref (a 1)), (2, .int x2)]) hx hb d_Ar_lastWalk_1 rfl hl (by decide) rfl (fun ls hl => ?_)
  obtain ⟨k, hw⟩ := hw
  exact k_Ar_lastWalk_2 hC post k _ _ _ _ _ ls hw hI (lv_sub hl [1, 2, 3, 0] rfl)
def w_Ac_addWalk (post : Int32 → tS → Prop) (x3 : Int32) (u : tS) : Prop := (w_Ar_lastWalk (fun r3 u3 => ((r3 = (-1) → (post (-1) u3)) ∧ (¬ r3 = (-1) → (vp_in r3 30 ∧ (w_Ar_first (fun r35 u35 => (vp_in r3 30 ∧ (w_Ac_put (fun u48 => (post (u3.2 9 r3.toNatClampNeg) u48)) r3 (-1) r35 (u35.2 11 r3.toNatClampNeg) u35))) (u3.2 9 r3.toNatClampNeg) u3))))) x3 u)
set_option maxRecDepth 100000 in
set_option maxHeartbeats 4000000 in
theorem c_Ac_addWalk (l : Launch) (dC : Nat → ClassId) (dI : Nat → Nat → Nat) (cA : ClassId) (a : Nat → Nat) (u : tS) (x3 : Int32) (post : Int32 → tS → Prop) (sz : Nat) : Met l y_Ac_addWalk ws_Ac_addWalk ({ frames := 3, cells := 0, slots := 0, locals := 58 }) (va_Pc [.ref (a 9), .ref (a 1), .ref (a 5), .int x3] (tP (dC, dI) twCl [(cA, .int)] (wdX a cA) u sz (w_Ac_addWalk post x3 u))) (va_Qi post (tB (dC, dI) twCl [(cA, .int)] (va_A (wdX a cA u) sz) (wdX a cA)) (va_A (wdX a cA u) sz)) 0 0 (va_A (wdX a cA u) sz) := by
  refine Met.ofW (cc := b_Ac_addWalk) (maxL := 6) (ret := (some .int)) (by decide) rfl ?_
  intro p e s m args below meth c s₁ B hml hv
  obtain ⟨rfl, hsz, hP, hK, hD0, hN, hw⟩ := hv
  have hx := B.exec
  have hb := B.bytes
  have hr := B.returns
  have hts : ∀ w ∈ wsA, w.before _ s = true := fun w h => atoms_spec (ws := ws_Ac_addWalk) B.pre w (List.mem_cons_of_mem _ h)
  have hown : s.vm.findClass R_Ac = some m.cls := findClass_of_methodNamed B.named
  have hlocks := B.notSynchronized
  subst hsz
  have hD := hD0.self (sz := s.heap.size)
  generalize hAe : va_A (wdX a cA u) s.heap.size = A at hD ⊢
  have hA : ∀ q : Nat, s.heap.size ≤ q → A q := fun q h => by rw [← hAe]; exact Or.inr h
  have hS : va_S A s.heap s.heap [] := va_S.rf
  have hI : tX (dC, dI) twCl [(cA, .int)] A s s.heap [] (wdX a cA u) := ⟨hK, hP, hD, hS⟩
  have hC : tC p s m meth c ([.ref (a 9), .ref (a 1), .ref (a 5), .int x3] : List Value).toArray b_Ac_addWalk 6 (some .int) wsA R_Ac A := ⟨hx, hb, hr, hml, hown, hts, hlocks, hA, hN⟩
  have hl := lv_entry ([.ref (a 9), .ref (a 1), .ref (a 5), .int x3]) (n := 6) (Nat.le_of_ble_eq_true rfl)
  rw [lg_entry_eq]
  generalize (lg_sl ([.ref (a 9), .ref (a 1), .ref (a 5), .int x3]) ++ List.replicate (6 - (lg_sl ([.ref (a 9), .ref (a 1), .ref (a 5), .int x3])).length) Slot.unset).toArray = ls at hl ⊢
  have hl : lv_has ls 6 [(0, .ref (a 9)), (1, .ref (a 1)), (2, .ref (a 5)), (3, .int x3)] := hl
  have hw : (w_Ar_lastWalk (fun r3 u3 => ((r3 = (-1) → (post (-1) u3)) ∧ (¬ r3 = (-1) → (vp_in r3 30 ∧ (w_Ar_first (fun r35 u35 => (vp_in r3 30 ∧ (w_Ac_put (fun u48 => (post (u3.2 9 r3.toNatClampNeg) u48)) r3 (-1) r35 (u35.2 11 r3.toNatClampNeg) u35))) (u3.2 9 r3.toNatClampNeg) u3))))) x3 u) := hw
  refine lv_aload_n hx hb d_Ac_addWalk_0 rfl (lv_at hl 2 rfl) ?_
  refine lv_aload_n hx hb d_Ac_addWalk_1 rfl (lv_at hl 1 rfl) ?_
  refine lv_iload_n hx hb d_Ac_addWalk_2 rfl (lv_at hl 3 rfl) ?_
  refine tr_goi (w := wdX a cA) hI hA (va_runV (As := [.ref (a 1), .int x3]) (rest := []) ⟨hx, hb, hml, hown, hts⟩ (c_Ar_lastWalk l dC dI cA a _ _ _ _) (cwV 2 hts (wsA_goodV wA_529 wA_530 wA_531 wA_36 wA_532) rfl rfl rfl (by decide +kernel) ⟨Nat.le_of_ble_eq_true rfl, Nat.le_of_ble_eq_true rfl⟩) (tr_preV (ci := 5) (q0 := 5) hI rfl (wdX_o5 a cA _) rfl hN hw) rfl rfl hl.1 rfl (lv_room (Nat.le_of_ble_eq_true rfl)) d_Ac_addWalk_3 ⟨Nat.zero_le _, Nat.zero_le _⟩) (fun r3 u3 H locs hw hI => ?_)
  refine lv_istore (lv' := [(4, .int r3), (0, .ref (a 9)), (1, .ref (a 1)), (2, .ref (a 5)), (3, .int x3)]) hx hb d_Ac_addWalk_6 hl (by decide) rfl (fun ls hl => ?_)
  refine lv_iload hx hb d_Ac_addWalk_8 (lv_at hl 0 rfl) ?_
  refine lv_iconst (v := (-1)) hx hb d_Ac_addWalk_10 (by decide) ?_
  refine lv_icmp_ne (tgt := 16) hx hb d_Ac_addWalk_11 (by decide) (fun hc => ?_) (fun hc => ?_)
  · have hw := hw.2 hc
    refine lv_aload_n hx hb d_Ac_addWalk_16 rfl (lv_at hl 2 rfl) ?_
    refine va_get (D := (dC, dI)) (C := R_Ne) (T := F_Ne) (N := 5) hx hb hts in_Ne hown hI.1 hI.2.1 1 (wdX_o1 a cA _) rfl 4 (by decide) (hts _ wA_177) (fun _ h9 => h9) rfl d_Ac_addWalk_17 ?_
    refine va_get (D := (dC, dI)) (C := R_Wa) (T := F_Wa) (N := 5) hx hb hts in_Wa hown hI.1 hI.2.1 4 (wdX_o4 a cA _) rfl 1 (by decide) (hts _ wA_141) (fun _ h9 => h9) rfl d_Ac_addWalk_20 ?_
    refine lv_iload hx hb d_Ac_addWalk_23 (lv_at hl 0 rfl) ?_
    obtain ⟨hi, hw⟩ := hw
    refine va_iald (D := (dC, dI)) hx hb hI.1 hI.2.1 19 0 (wdX_o19 a cA _) rfl hi d_Ac_addWalk_25 ?_
    refine lv_istore (lv' := [(5, .int (u3.2 9 r3.toNatClampNeg)), (4, .int r3), (0, .ref (a 9)), (1, .ref (a 1)), (2, .ref (a 5)), (3, .int x3)]) hx hb d_Ac_addWalk_26 hl (by decide) rfl (fun ls hl => ?_)
    refine lv_aload_n hx hb d_Ac_addWalk_28 rfl (lv_at hl 2 rfl) ?_
    refine lv_iload hx hb d_Ac_addWalk_29 (lv_at hl 1 rfl) ?_
    refine lv_iconst (v := (-1)) hx hb d_Ac_addWalk_31 (by decide) ?_
    refine lv_aload_n hx hb d_Ac_addWalk_32 rfl (lv_at hl 4 rfl) ?_
    refine lv_iload hx hb d_Ac_addWalk_33 (lv_at hl 0 rfl) ?_
    refine tr_goi (w := wdX a cA) hI hA (va_runV (As := [.int (u3.2 9 r3.toNatClampNeg)]) (rest := [.int (-1), .int r3, .ref (a 9)]) ⟨hx, hb, hml, hown, hts⟩ (c_Ar_first l dC dI cA a _ _ _ _) (cwV 1 hts (wsA_goodV wA_520 wA_422 wA_423 wA_36 wA_424) rfl rfl rfl (by decide +kernel) ⟨Nat.le_of_ble_eq_true rfl, Nat.le_of_ble_eq_true rfl⟩) (tr_preV (ci := 5) (q0 := 5) hI rfl (wdX_o5 a cA _) rfl hN hw) rfl rfl hl.1 rfl (lv_room (Nat.le_of_ble_eq_true rfl)) d_Ac_addWalk_35 ⟨Nat.zero_le _, Nat.zero_le _⟩) (fun r35 u35 H locs hw hI => ?_)
    refine lv_aload_n hx hb d_Ac_addWalk_38 rfl (lv_at hl 3 rfl) ?_
    refine va_get (D := (dC, dI)) (C := R_Ne) (T := F_Ne) (N := 5) hx hb hts in_Ne hown hI.1 hI.2.1 1 (wdX_o1 a cA _) rfl 4 (by decide) (hts _ wA_177) (fun _ h9 => h9) rfl d_Ac_addWalk_39 ?_
    refine va_get (D := (dC, dI)) (C := R_Wa) (T := F_Wa) (N := 5) hx hb hts in_Wa hown hI.1 hI.2.1 4 (wdX_o4 a cA _) rfl 3 (by decide) (hts _ wA_146) (fun _ h9 => h9) rfl d_Ac_addWalk_42 ?_
    refine lv_iload hx hb d_Ac_addWalk_45 (lv_at hl 1 rfl) ?_
    obtain ⟨hi, hw⟩ := hw
    refine va_iald (D := (dC, dI)) hx hb hI.1 hI.2.1 21 0 (wdX_o21 a cA _) rfl hi d_Ac_addWalk_47 ?_
    refine tr_gov (w := wdX a cA) hI hA (va_runV (As := [.int r3, .int (-1), .int r35, .int (u35.2 11 r3.toNatClampNeg)]) (rest := []) ⟨hx, hb, hml, hown, hts⟩ (c_Ac_put l dC dI cA a _ _ _ _ _ _ _) (cwV 4 hts (wsA_goodV wA_534 wA_536 wA_6 wA_39 wA_537) rfl rfl rfl (by decide +kernel) ⟨Nat.le_of_ble_eq_true rfl, Nat.le_of_ble_eq_true rfl⟩) (tr_preV (ci := 8) (q0 := 9) hI rfl (wdX_o9 a cA _) rfl hN hw) rfl rfl hl.1 rfl (lv_room (Nat.le_of_ble_eq_true rfl)) d_Ac_addWalk_48 ⟨Nat.zero_le _, Nat.zero_le _⟩) (fun u48 H locs hw hI => ?_)
    refine lv_iload hx hb d_Ac_addWalk_51 (lv_at hl 0 rfl) ?_
    exact tr_iret hx hb hr hlocks hI hw d_Ac_addWalk_53
  · have hw := hw.1 hc
    refine lv_iconst (v := (-1)) hx hb d_Ac_addWalk_14 (by decide) ?_
    exact tr_iret hx hb hr hlocks hI hw d_Ac_addWalk_15
def w_Ac_trace_68 (post : tS → Prop) (K26 : Int32 → Int32 → Int32 → Int32 → tS → Prop) (x3 : Int32) (x7 : Int32) (y0 : Int32) (u : tS) : Prop := ((y0 = (-1) → (post u)) ∧ (¬ y0 = (-1) → (vp_in ((u.1 5) - 1) 24 ∧ (w_Ar_isByWalk (fun r91 u91 => (K26 x3 y0 r91 (x7 + 1) u91)) y0 (u.2 23 ((u.1 5) - 1).toNatClampNeg) u))))
def w_Ac_trace_44 (post : tS → Prop) (K26 : Int32 → Int32 → Int32 → Int32 → tS → Prop) (x3 : Int32) (x5 : Int32) (x6 : Int32) (x7 : Int32) (u : tS) : Prop := ((x6 = 0 → (w_Ac_addDeparture (fun r65 u65 => (w_Ac_trace_68 post K26 x3 x7 r65 u65)) x5 u)) ∧ (¬ x6 = 0 → (w_Ac_addWalk (fun r54 u54 => (w_Ac_trace_68 post K26 x3 x7 r54 u54)) x5 u)))
def w_Ac_trace_26 (post : tS → Prop) : Nat → Int32 → Int32 → Int32 → Int32 → tS → Prop
  | 0 => fun _ _ _ _ _ => False
  | n + 1 => fun x3 x5 x6 x7 u => ((24 ≤ x7 → (post u)) ∧ (¬ 24 ≤ x7 → ((x6 = 0 → (w_Ac_trace_44 post (w_Ac_trace_26 post n) x3 x5 x6 x7 u)) ∧ (¬ x6 = 0 → ((x5 = x3 → (post u)) ∧ (¬ x5 = x3 → (w_Ac_trace_44 post (w_Ac_trace_26 post n) x3 x5 x6 x7 u)))))))
def w_Ac_trace (post : tS → Prop) (x3 : Int32) (x4 : Int32) (u : tS) : Prop := (w_Ar_first (fun r15 u15 => (w_Ar_isByWalk (fun r18 u18 => (∃ k, w_Ac_trace_26 post k x3 x4 r18 0 u18)) x4 r15 u15)) x4 (tI u 5 0))
set_option maxRecDepth 100000 in
set_option maxHeartbeats 4000000 in
theorem k_Ac_trace_68 {p : Program} {l : Launch} {e : Env} {s : State} {m : MethodId} {args : Array Value} {below : List Frame} {meth : Method} {c : Code} {dC : Nat → ClassId} {dI : Nat → Nat → Nat} {cA : ClassId} {a : Nat → Nat} {A : Nat → Prop} (hC : tC p s m meth c args b_Ac_trace 8 none wsA R_Ac A) (post : tS → Prop) (K26 : Int32 → Int32 → Int32 → Int32 → tS → Prop) (hK26 : ∀ (x3 x5 x6 x7 : Int32) (u : tS) (H : Heap) (locs : List Loc) (ls : Array Slot), K26 x3 x5 x6 x7 u → tX (dC, dI) twCl [(cA, .int)] A s H locs (wdX a cA u) → lv_has ls 8 [(0, .ref (a 9)), (1, .ref (a 1)), (2, .ref (a 5)), (3, .int x3), (5, .int x5), (6, .int x6), (7, .int x7)] → W p l e ({ frames := 4, cells := 0, slots := 0, locals := 97 }) s m args below meth c H locs 0 0 (MQ below (va_Qv post (tB (dC, dI) twCl [(cA, .int)] A (wdX a cA)) A) args s 0 0 A) (F0 m 26 ls [])) : ∀ (x3 x7 y0 : Int32) (u : tS) (H : Heap) (locs : List Loc) (ls : Array Slot), w_Ac_trace_68 post K26 x3 x7 y0 u → tX (dC, dI) twCl [(cA, .int)] A s H locs (wdX a cA u) → lv_has ls 8 [(0, .ref (a 9)), (1, .ref (a 1)), (2, .ref (a 5)), (3, .int x3), (7, .int x7)] → W p l e ({ frames := 4, cells := 0, slots := 0, locals := 97 }) s m args below meth c H locs 0 0 (MQ below (va_Qv post (tB (dC, dI) twCl [(cA, .int)] A (wdX a cA)) A) args s 0 0 A) (F0 m 68 ls [.int y0]) := by
  obtain ⟨hx, hb, hr, hml, hown, hts, hlocks, hA, hN⟩ := id hC
  intro x3 x7 y0 u H locs ls hw hI hl
  refine lv_istore (lv' := [(5, .int y0), (0, .ref (a 9)), (1, .ref (a 1)), (2, .ref (a 5)), (3, .int x3), (7, .int x7)]) hx hb d_Ac_trace_68 hl (by decide) rfl (fun ls hl => ?_)
  refine lv_iload hx hb d_Ac_trace_70 (lv_at hl 0 rfl) ?_
  refine lv_iconst (v := (-1)) hx hb d_Ac_trace_72 (by decide) ?_
  refine lv_icmp_ne (tgt := 77) hx hb d_Ac_trace_73 (by decide) (fun hc => ?_) (fun hc => ?_)
  · have hw := hw.2 hc
    refine lv_aload_n hx hb d_Ac_trace_77 rfl (lv_at hl 3 rfl) ?_
    refine lv_iload hx hb d_Ac_trace_78 (lv_at hl 0 rfl) ?_
    refine lv_aload_n hx hb d_Ac_trace_80 rfl (lv_at hl 1 rfl) ?_
    refine va_get (D := (dC, dI)) (C := R_Ac) (T := F_Ac) (N := 5) hx hb hts in_Ac hown hI.1 hI.2.1 9 (wdX_o9 a cA _) rfl 3 (by decide) (hts _ wA_249) (fun _ h9 => h9) rfl d_Ac_trace_81 ?_
    refine lv_aload_n hx hb d_Ac_trace_84 rfl (lv_at hl 1 rfl) ?_
    refine va_get (D := (dC, dI)) (C := R_Ac) (T := F_Ac) (N := 5) hx hb hts in_Ac hown hI.1 hI.2.1 9 (wdX_o9 a cA _) rfl 0 (by decide) (hts _ wA_243) (fun _ h9 => h9) rfl d_Ac_trace_85 ?_
    refine lv_iconst (v := 1) hx hb d_Ac_trace_88 (by decide) ?_
    refine lv_isub hx hb d_Ac_trace_89 ?_
    obtain ⟨hi, hw⟩ := hw
    refine va_iald (D := (dC, dI)) hx hb hI.1 hI.2.1 33 0 (wdX_o33 a cA _) rfl hi d_Ac_trace_90 ?_
    refine tr_goi (w := wdX a cA) hI hA (va_runV (As := [.int y0, .int (u.2 23 ((u.1 5) - 1).toNatClampNeg)]) (rest := []) ⟨hx, hb, hml, hown, hts⟩ (c_Ar_isByWalk l dC dI cA a _ _ _ _ _) (cwV 2 hts (wsA_goodV wA_521 wA_522 wA_523 wA_36 wA_524) rfl rfl rfl (by decide +kernel) ⟨Nat.le_of_ble_eq_true rfl, Nat.le_of_ble_eq_true rfl⟩) (tr_preV (ci := 5) (q0 := 5) hI rfl (wdX_o5 a cA _) rfl hN hw) rfl rfl hl.1 rfl (lv_room (Nat.le_of_ble_eq_true rfl)) d_Ac_trace_91 ⟨Nat.zero_le _, Nat.zero_le _⟩) (fun r91 u91 H locs hw hI => ?_)
    refine lv_istore (lv' := [(6, .int r91), (5, .int y0), (0, .ref (a 9)), (1, .ref (a 1)), (2, .ref (a 5)), (3, .int x3), (7, .int x7)]) hx hb d_Ac_trace_94 hl (by decide) rfl (fun ls hl => ?_)
    refine lv_iinc (v := (x7 + 1)) (lv' := [(7, .int (x7 + 1)), (6, .int r91), (5, .int y0), (0, .ref (a 9)), (1, .ref (a 1)), (2, .ref (a 5)), (3, .int x3)]) hx hb d_Ac_trace_96 hl (k := 6) rfl rfl (by decide) rfl (fun ls hl => ?_)
    refine lv_goto (tgt := 26) hx hb d_Ac_trace_99 (by decide) ?_
    exact hK26 _ _ _ _ _ _ _ ls hw hI (lv_sub hl [3, 4, 5, 6, 2, 1, 0] rfl)
  · have hw := hw.1 hc
    exact tr_vret hx hb hr hlocks hI hw d_Ac_trace_76
set_option maxRecDepth 100000 in
set_option maxHeartbeats 4000000 in
theorem k_Ac_trace_44 {p : Program} {l : Launch} {e : Env} {s : State} {m : MethodId} {args : Array Value} {below : List Frame} {meth : Method} {c : Code} {dC : Nat → ClassId} {dI : Nat → Nat → Nat} {cA : ClassId} {a : Nat → Nat} {A : Nat → Prop} (hC : tC p s m meth c args b_Ac_trace 8 none wsA R_Ac A) (post : tS → Prop) (K26 : Int32 → Int32 → Int32 → Int32 → tS → Prop) (hK26 : ∀ (x3 x5 x6 x7 : Int32) (u : tS) (H : Heap) (locs : List Loc) (ls : Array Slot), K26 x3 x5 x6 x7 u → tX (dC, dI) twCl [(cA, .int)] A s H locs (wdX a cA u) → lv_has ls 8 [(0, .ref (a 9)), (1, .ref (a 1)), (2, .ref (a 5)), (3, .int x3), (5, .int x5), (6, .int x6), (7, .int x7)] → W p l e ({ frames := 4, cells := 0, slots := 0, locals := 97 }) s m args below meth c H locs 0 0 (MQ below (va_Qv post (tB (dC, dI) twCl [(cA, .int)] A (wdX a cA)) A) args s 0 0 A) (F0 m 26 ls [])) : ∀ (x3 x5 x6 x7 : Int32) (u : tS) (H : Heap) (locs : List Loc) (ls : Array Slot), w_Ac_trace_44 post K26 x3 x5 x6 x7 u → tX (dC, dI) twCl [(cA, .int)] A s H locs (wdX a cA u) → lv_has ls 8 [(0, .ref (a 9)), (1, .ref (a 1)), (2, .ref (a 5)), (3, .int x3), (5, .int x5), (6, .int x6), (7, .int x7)] → W p l e ({ frames := 4, cells := 0, slots := 0, locals := 97 }) s m args below meth c H locs 0 0 (MQ below (va_Qv post (tB (dC, dI) twCl [(cA, .int)] A (wdX a cA)) A) args s 0 0 A) (F0 m 44 ls []) := by
  obtain ⟨hx, hb, hr, hml, hown, hts, hlocks, hA, hN⟩ := id hC
  intro x3 x5 x6 x7 u H locs ls hw hI hl
  refine lv_iload hx hb d_Ac_trace_44 (lv_at hl 5 rfl) ?_
  refine lv_if_eq (tgt := 60) hx hb d_Ac_trace_46 (by decide) (fun hc => ?_) (fun hc => ?_)
  · have hw := hw.1 hc
    refine lv_aload_n hx hb d_Ac_trace_60 rfl (lv_at hl 0 rfl) ?_
    refine lv_aload_n hx hb d_Ac_trace_61 rfl (lv_at hl 1 rfl) ?_
    refine lv_aload_n hx hb d_Ac_trace_62 rfl (lv_at hl 2 rfl) ?_
    refine lv_iload hx hb d_Ac_trace_63 (lv_at hl 4 rfl) ?_
    refine tr_goi (w := wdX a cA) hI hA (va_runV (As := [.ref (a 1), .ref (a 5), .int x5]) (rest := []) ⟨hx, hb, hml, hown, hts⟩ (c_Ac_addDeparture l dC dI cA a _ _ _ _) (cwV 3 hts (wsA_goodV wA_538 wA_540 wA_7 wA_39 wA_541) rfl rfl rfl (by decide +kernel) ⟨Nat.le_of_ble_eq_true rfl, Nat.le_of_ble_eq_true rfl⟩) (tr_preV (ci := 8) (q0 := 9) hI rfl (wdX_o9 a cA _) rfl hN hw) rfl rfl hl.1 rfl (lv_room (Nat.le_of_ble_eq_true rfl)) d_Ac_trace_65 ⟨Nat.zero_le _, Nat.zero_le _⟩) (fun r65 u65 H locs hw hI => ?_)
    exact k_Ac_trace_68 hC post _ hK26 _ _ _ _ _ _ ls hw hI (lv_sub hl [0, 1, 2, 3, 6] rfl)
  · have hw := hw.2 hc
    refine lv_aload_n hx hb d_Ac_trace_49 rfl (lv_at hl 0 rfl) ?_
    refine lv_aload_n hx hb d_Ac_trace_50 rfl (lv_at hl 1 rfl) ?_
    refine lv_aload_n hx hb d_Ac_trace_51 rfl (lv_at hl 2 rfl) ?_
    refine lv_iload hx hb d_Ac_trace_52 (lv_at hl 4 rfl) ?_
    refine tr_goi (w := wdX a cA) hI hA (va_runV (As := [.ref (a 1), .ref (a 5), .int x5]) (rest := []) ⟨hx, hb, hml, hown, hts⟩ (c_Ac_addWalk l dC dI cA a _ _ _ _) (cwV 3 hts (wsA_goodV wA_525 wA_527 wA_5 wA_39 wA_528) rfl rfl rfl (by decide +kernel) ⟨Nat.le_of_ble_eq_true rfl, Nat.le_of_ble_eq_true rfl⟩) (tr_preV (ci := 8) (q0 := 9) hI rfl (wdX_o9 a cA _) rfl hN hw) rfl rfl hl.1 rfl (lv_room (Nat.le_of_ble_eq_true rfl)) d_Ac_trace_54 ⟨Nat.zero_le _, Nat.zero_le _⟩) (fun r54 u54 H locs hw hI => ?_)
    refine lv_goto (tgt := 68) hx hb d_Ac_trace_57 (by decide) ?_
    exact k_Ac_trace_68 hC post _ hK26 _ _ _ _ _ _ ls hw hI (lv_sub hl [0, 1, 2, 3, 6] rfl)
set_option maxRecDepth 100000 in
set_option maxHeartbeats 4000000 in
theorem k_Ac_trace_26 {p : Program} {l : Launch} {e : Env} {s : State} {m : MethodId} {args : Array Value} {below : List Frame} {meth : Method} {c : Code} {dC : Nat → ClassId} {dI : Nat → Nat → Nat} {cA : ClassId} {a : Nat → Nat} {A : Nat → Prop} (hC : tC p s m meth c args b_Ac_trace 8 none wsA R_Ac A) (post : tS → Prop) : ∀ n : Nat, ∀ (x3 x5 x6 x7 : Int32) (u : tS) (H : Heap) (locs : List Loc) (ls : Array Slot), w_Ac_trace_26 post n x3 x5 x6 x7 u → tX (dC, dI) twCl [(cA, .int)] A s H locs (wdX a cA u) → lv_has ls 8 [(0, .ref (a 9)), (1, .ref (a 1)), (2, .ref (a 5)), (3, .int x3), (5, .int x5), (6, .int x6), (7, .int x7)] → W p l e ({ frames := 4, cells := 0, slots := 0, locals := 97 }) s m args below meth c H locs 0 0 (MQ below (va_Qv post (tB (dC, dI) twCl [(cA, .int)] A (wdX a cA)) A) args s 0 0 A) (F0 m 26 ls []) := by
  obtain ⟨hx, hb, hr, hml, hown, hts, hlocks, hA, hN⟩ := id hC
  intro n
  induction n with
  | zero => intro x3 x5 x6 x7 u H locs ls hw; exact False.elim hw
  | succ n ih =>
    intro x3 x5 x6 x7 u H locs ls hw hI hl
    refine lv_iload hx hb d_Ac_trace_26 (lv_at hl 6 rfl) ?_
    refine lv_bipush (v := 24) hx hb d_Ac_trace_28 (by decide) ?_
    refine lv_icmp_ge (tgt := 102) hx hb d_Ac_trace_30 (by decide) (fun hc => ?_) (fun hc => ?_)
    · have hw := hw.1 hc
      exact tr_vret hx hb hr hlocks hI hw d_Ac_trace_102
    · have hw := hw.2 hc
      refine lv_iload hx hb d_Ac_trace_33 (lv_at hl 5 rfl) ?_
      refine lv_if_eq (tgt := 44) hx hb d_Ac_trace_35 (by decide) (fun hc => ?_) (fun hc => ?_)
      · have hw := hw.1 hc
        exact k_Ac_trace_44 hC post _ ih _ _ _ _ _ _ _ ls hw hI (lv_sub hl [0, 1, 2, 3, 4, 5, 6] rfl)
      · have hw := hw.2 hc
        refine lv_iload hx hb d_Ac_trace_38 (lv_at hl 4 rfl) ?_
        refine lv_iload_n hx hb d_Ac_trace_40 rfl (lv_at hl 3 rfl) ?_
        refine lv_icmp_eq (tgt := 102) hx hb d_Ac_trace_41 (by decide) (fun hc => ?_) (fun hc => ?_)
        · have hw := hw.1 hc
          exact tr_vret hx hb hr hlocks hI hw d_Ac_trace_102
        · have hw := hw.2 hc
          exact k_Ac_trace_44 hC post _ ih _ _ _ _ _ _ _ ls hw hI (lv_sub hl [0, 1, 2, 3, 4, 5, 6] rfl)
set_option maxRecDepth 100000 in
set_option maxHeartbeats 4000000 in
theorem c_Ac_trace (l : Launch) (dC : Nat → ClassId) (dI : Nat → Nat → Nat) (cA : ClassId) (a : Nat → Nat) (u : tS) (x3 : Int32) (x4 : Int32) (post : tS → Prop) (sz : Nat) : Met l y_Ac_trace ws_Ac_trace ({ frames := 4, cells := 0, slots := 0, locals := 97 }) (va_Pc [.ref (a 9), .ref (a 1), .ref (a 5), .int x3, .int x4] (tP (dC, dI) twCl [(cA, .int)] (wdX a cA) u sz (w_Ac_trace post x3 x4 u))) (va_Qv post (tB (dC, dI) twCl [(cA, .int)] (va_A (wdX a cA u) sz) (wdX a cA)) (va_A (wdX a cA u) sz)) 0 0 (va_A (wdX a cA u) sz) := by
  refine Met.ofW (cc := b_Ac_trace) (maxL := 8) (ret := none) (by decide) rfl ?_
  intro p e s m args below meth c s₁ B hml hv
  obtain ⟨rfl, hsz, hP, hK, hD0, hN, hw⟩ := hv
  have hx := B.exec
  have hb := B.bytes
  have hr := B.returns
  have hts : ∀ w ∈ wsA, w.before _ s = true := fun w h => atoms_spec (ws := ws_Ac_trace) B.pre w (List.mem_cons_of_mem _ h)
  have hown : s.vm.findClass R_Ac = some m.cls := findClass_of_methodNamed B.named
  have hlocks := B.notSynchronized
  subst hsz
  have hD := hD0.self (sz := s.heap.size)
  generalize hAe : va_A (wdX a cA u) s.heap.size = A at hD ⊢
  have hA : ∀ q : Nat, s.heap.size ≤ q → A q := fun q h => by rw [← hAe]; exact Or.inr h
  have hS : va_S A s.heap s.heap [] := va_S.rf
  have hI : tX (dC, dI) twCl [(cA, .int)] A s s.heap [] (wdX a cA u) := ⟨hK, hP, hD, hS⟩
  have hC : tC p s m meth c ([.ref (a 9), .ref (a 1), .ref (a 5), .int x3, .int x4] : List Value).toArray b_Ac_trace 8 none wsA R_Ac A := ⟨hx, hb, hr, hml, hown, hts, hlocks, hA, hN⟩
  have hl := lv_entry ([.ref (a 9), .ref (a 1), .ref (a 5), .int x3, .int x4]) (n := 8) (Nat.le_of_ble_eq_true rfl)
  rw [lg_entry_eq]
  generalize (lg_sl ([.ref (a 9), .ref (a 1), .ref (a 5), .int x3, .int x4]) ++ List.replicate (8 - (lg_sl ([.ref (a 9), .ref (a 1), .ref (a 5), .int x3, .int x4])).length) Slot.unset).toArray = ls at hl ⊢
  have hl : lv_has ls 8 [(0, .ref (a 9)), (1, .ref (a 1)), (2, .ref (a 5)), (3, .int x3), (4, .int x4)] := hl
  have hw : (w_Ar_first (fun r15 u15 => (w_Ar_isByWalk (fun r18 u18 => (∃ k, w_Ac_trace_26 post k x3 x4 r18 0 u18)) x4 r15 u15)) x4 (tI u 5 0)) := hw
  refine lv_aload_n hx hb d_Ac_trace_0 rfl (lv_at hl 0 rfl) ?_
  refine lv_iconst (v := 0) hx hb d_Ac_trace_1 (by decide) ?_
  refine tr_put (C := R_Ac) (T := F_Ac) (N := 5) (w := wdX a cA) hx hb hts in_Ac ft_Ac ft_Ac_ok fn_Ac hown hI 9 5 (wdX_o9 a cA _) rfl 0 (by decide) (hts _ wA_243) rfl (by decide +kernel) (Nat.le_of_ble_eq_true rfl) (wdX_i5 a cA _ _) d_Ac_trace_2 (fun H locs hI => ?_)
  refine lv_iload hx hb d_Ac_trace_5 (lv_at hl 4 rfl) ?_
  refine lv_istore (lv' := [(5, .int x4), (0, .ref (a 9)), (1, .ref (a 1)), (2, .ref (a 5)), (3, .int x3), (4, .int x4)]) hx hb d_Ac_trace_7 hl (by decide) rfl (fun ls hl => ?_)
  refine lv_aload_n hx hb d_Ac_trace_9 rfl (lv_at hl 3 rfl) ?_
  refine lv_iload hx hb d_Ac_trace_10 (lv_at hl 5 rfl) ?_
  refine lv_aload_n hx hb d_Ac_trace_12 rfl (lv_at hl 3 rfl) ?_
  refine lv_iload hx hb d_Ac_trace_13 (lv_at hl 5 rfl) ?_
  refine tr_goi (w := wdX a cA) hI hA (va_runV (As := [.int x4]) (rest := [.int x4, .ref (a 5)]) ⟨hx, hb, hml, hown, hts⟩ (c_Ar_first l dC dI cA a _ _ _ _) (cwV 1 hts (wsA_goodV wA_520 wA_422 wA_423 wA_36 wA_424) rfl rfl rfl (by decide +kernel) ⟨Nat.le_of_ble_eq_true rfl, Nat.le_of_ble_eq_true rfl⟩) (tr_preV (ci := 5) (q0 := 5) hI rfl (wdX_o5 a cA _) rfl hN hw) rfl rfl hl.1 rfl (lv_room (Nat.le_of_ble_eq_true rfl)) d_Ac_trace_15 ⟨Nat.zero_le _, Nat.zero_le _⟩) (fun r15 u15 H locs hw hI => ?_)
  refine tr_goi (w := wdX a cA) hI hA (va_runV (As := [.int x4, .int r15]) (rest := []) ⟨hx, hb, hml, hown, hts⟩ (c_Ar_isByWalk l dC dI cA a _ _ _ _ _) (cwV 2 hts (wsA_goodV wA_521 wA_522 wA_523 wA_36 wA_524) rfl rfl rfl (by decide +kernel) ⟨Nat.le_of_ble_eq_true rfl, Nat.le_of_ble_eq_true rfl⟩) (tr_preV (ci := 5) (q0 := 5) hI rfl (wdX_o5 a cA _) rfl hN hw) rfl rfl hl.1 rfl (lv_room (Nat.le_of_ble_eq_true rfl)) d_Ac_trace_18 ⟨Nat.zero_le _, Nat.zero_le _⟩) (fun r18 u18 H locs hw hI => ?_)
  refine lv_istore (lv' := [(6, .int r18), (5, .int x4), (0, .ref (a 9)), (1, .ref (a 1)), (2, .ref (a 5)), (3, .int x3), (4, .int x4)]) hx hb d_Ac_trace_21 hl (by decide) rfl (fun ls hl => ?_)
  refine lv_iconst (v := 0) hx hb d_Ac_trace_23 (by decide) ?_
  refine lv_istore (lv' := [(7, .int 0), (6, .int r18), (5, .int x4), (0, .ref (a 9)), (1, .ref (a 1)), (2, .ref (a 5)), (3, .int x3), (4, .int x4)]) hx hb d_Ac_trace_24 hl (by decide) rfl (fun ls hl => ?_)
  obtain ⟨k, hw⟩ := hw
  exact k_Ac_trace_26 hC post k _ _ _ _ _ _ _ ls hw hI (lv_sub hl [3, 4, 5, 6, 2, 1, 0] rfl)
def w_T_way (post : Int32 → tS → Prop) (x1 : Int32) (x2 : Int32) (x3 : Int32) (u : tS) : Prop := (w_Ne_hasStops (fun r6 u6 => ((r6 = 0 → (post (-2) u6)) ∧ (¬ r6 = 0 → (w_T_isTime (fun r13 u13 => ((r13 = 0 → (post (-2) u13)) ∧ (¬ r13 = 0 → (w_Ar_find (fun u32 => (w_Ar_first (fun r40 u40 => ((r40 < 1000000 → (w_Ac_trace (fun u64 => (post (u64.1 5) u64)) x1 x2 u40)) ∧ (¬ r40 < 1000000 → (post (-1) u40)))) x2 u32)) x1 x3 u13)))) x3 u6)))) x1 x2 u)
set_option maxRecDepth 100000 in
set_option maxHeartbeats 4000000 in
theorem c_T_way (l : Launch) (dC : Nat → ClassId) (dI : Nat → Nat → Nat) (cA : ClassId) (a : Nat → Nat) (u : tS) (x1 : Int32) (x2 : Int32) (x3 : Int32) (post : Int32 → tS → Prop) (sz : Nat) : Met l y_T_way ws_T_way ({ frames := 5, cells := 0, slots := 0, locals := 124 }) (va_Pc [.ref (a 0), .int x1, .int x2, .int x3] (tP (dC, dI) twCl [(cA, .int)] (wdX a cA) u sz (w_T_way post x1 x2 x3 u))) (va_Qi post (tB (dC, dI) twCl [(cA, .int)] (va_A (wdX a cA u) sz) (wdX a cA)) (va_A (wdX a cA u) sz)) 0 0 (va_A (wdX a cA u) sz) := by
  refine Met.ofW (cc := b_T_way) (maxL := 4) (ret := (some .int)) (by decide) rfl ?_
  intro p e s m args below meth c s₁ B hml hv
  obtain ⟨rfl, hsz, hP, hK, hD0, hN, hw⟩ := hv
  have hx := B.exec
  have hb := B.bytes
  have hr := B.returns
  have hts : ∀ w ∈ wsA, w.before _ s = true := fun w h => atoms_spec (ws := ws_T_way) B.pre w (List.mem_cons_of_mem _ h)
  have hown : s.vm.findClass R_T = some m.cls := findClass_of_methodNamed B.named
  have hlocks := B.notSynchronized
  subst hsz
  have hD := hD0.self (sz := s.heap.size)
  generalize hAe : va_A (wdX a cA u) s.heap.size = A at hD ⊢
  have hA : ∀ q : Nat, s.heap.size ≤ q → A q := fun q h => by rw [← hAe]; exact Or.inr h
  have hS : va_S A s.heap s.heap [] := va_S.rf
  have hI : tX (dC, dI) twCl [(cA, .int)] A s s.heap [] (wdX a cA u) := ⟨hK, hP, hD, hS⟩
  have hC : tC p s m meth c ([.ref (a 0), .int x1, .int x2, .int x3] : List Value).toArray b_T_way 4 (some .int) wsA R_T A := ⟨hx, hb, hr, hml, hown, hts, hlocks, hA, hN⟩
  have hl := lv_entry ([.ref (a 0), .int x1, .int x2, .int x3]) (n := 4) (Nat.le_of_ble_eq_true rfl)
  rw [lg_entry_eq]
  generalize (lg_sl ([.ref (a 0), .int x1, .int x2, .int x3]) ++ List.replicate (4 - (lg_sl ([.ref (a 0), .int x1, .int x2, .int x3])).length) Slot.unset).toArray = ls at hl ⊢
  have hl : lv_has ls 4 [(0, .ref (a 0)), (1, .int x1), (2, .int x2), (3, .int x3)] := hl
  have hw : (w_Ne_hasStops (fun r6 u6 => ((r6 = 0 → (post (-2) u6)) ∧ (¬ r6 = 0 → (w_T_isTime (fun r13 u13 => ((r13 = 0 → (post (-2) u13)) ∧ (¬ r13 = 0 → (w_Ar_find (fun u32 => (w_Ar_first (fun r40 u40 => ((r40 < 1000000 → (w_Ac_trace (fun u64 => (post (u64.1 5) u64)) x1 x2 u40)) ∧ (¬ r40 < 1000000 → (post (-1) u40)))) x2 u32)) x1 x3 u13)))) x3 u6)))) x1 x2 u) := hw
  refine lv_aload_n hx hb d_T_way_0 rfl (lv_at hl 0 rfl) ?_
  refine va_get (D := (dC, dI)) (C := R_T) (T := F_T) (N := 6) hx hb hts in_T hown hI.1 hI.2.1 0 (wdX_o0 a cA _) rfl 0 (by decide) (hts _ wA_264) (fun _ h9 => h9) rfl d_T_way_1 ?_
  refine lv_iload_n hx hb d_T_way_4 rfl (lv_at hl 1 rfl) ?_
  refine lv_iload_n hx hb d_T_way_5 rfl (lv_at hl 2 rfl) ?_
  refine tr_goi (w := wdX a cA) hI hA (va_runV (As := [.int x1, .int x2]) (rest := []) ⟨hx, hb, hml, hown, hts⟩ (c_Ne_hasStops l dC dI cA a _ _ _ _ _) (cwV 2 hts (wsA_goodV wA_315 wA_316 wA_317 wA_31 wA_318) rfl rfl rfl (by decide +kernel) ⟨Nat.le_of_ble_eq_true rfl, Nat.le_of_ble_eq_true rfl⟩) (tr_preV (ci := 1) (q0 := 1) hI rfl (wdX_o1 a cA _) rfl hN hw) rfl rfl hl.1 rfl (lv_room (Nat.le_of_ble_eq_true rfl)) d_T_way_6 ⟨Nat.zero_le _, Nat.zero_le _⟩) (fun r6 u6 H locs hw hI => ?_)
  refine lv_if_eq (tgt := 19) hx hb d_T_way_9 (by decide) (fun hc => ?_) (fun hc => ?_)
  · have hw := hw.1 hc
    refine lv_bipush (v := (-2)) hx hb d_T_way_19 (by decide) ?_
    exact tr_iret hx hb hr hlocks hI hw d_T_way_21
  · have hw := hw.2 hc
    refine lv_iload_n hx hb d_T_way_12 rfl (lv_at hl 3 rfl) ?_
    refine tr_goi (w := wdX a cA) hI hA (va_runS (As := [.int x3]) (rest := []) ⟨hx, hb, hml, hown, hts⟩ (c_T_isTime l dC dI cA a _ _ _ _) ⟨callB_of 1 hts (wsA_good wA_392) rfl rfl rfl (hts _ wA_30) (hts _ wA_390) (by decide +kernel) ⟨Nat.le_of_ble_eq_true rfl, Nat.le_of_ble_eq_true rfl⟩, hts _ wA_391⟩ (tr_preS hI hN hw) rfl rfl hl.1 rfl (lv_room (Nat.le_of_ble_eq_true rfl)) d_T_way_13 ⟨Nat.zero_le _, Nat.zero_le _⟩) (fun r13 u13 H locs hw hI => ?_)
    refine lv_if_ne (tgt := 22) hx hb d_T_way_16 (by decide) (fun hc => ?_) (fun hc => ?_)
    · have hw := hw.2 hc
      refine lv_aload_n hx hb d_T_way_22 rfl (lv_at hl 0 rfl) ?_
      refine va_get (D := (dC, dI)) (C := R_T) (T := F_T) (N := 6) hx hb hts in_T hown hI.1 hI.2.1 0 (wdX_o0 a cA _) rfl 1 (by decide) (hts _ wA_265) (fun _ h9 => h9) rfl d_T_way_23 ?_
      refine lv_aload_n hx hb d_T_way_26 rfl (lv_at hl 0 rfl) ?_
      refine va_get (D := (dC, dI)) (C := R_T) (T := F_T) (N := 6) hx hb hts in_T hown hI.1 hI.2.1 0 (wdX_o0 a cA _) rfl 0 (by decide) (hts _ wA_264) (fun _ h9 => h9) rfl d_T_way_27 ?_
      refine lv_iload_n hx hb d_T_way_30 rfl (lv_at hl 1 rfl) ?_
      refine lv_iload_n hx hb d_T_way_31 rfl (lv_at hl 3 rfl) ?_
      refine tr_gov (w := wdX a cA) hI hA (va_runV (As := [.ref (a 1), .int x1, .int x3]) (rest := []) ⟨hx, hb, hml, hown, hts⟩ (c_Ar_find l dC dI cA a _ _ _ _ _) (cwV 3 hts (wsA_goodV wA_393 wA_394 wA_395 wA_36 wA_396) rfl rfl rfl (by decide +kernel) ⟨Nat.le_of_ble_eq_true rfl, Nat.le_of_ble_eq_true rfl⟩) (tr_preV (ci := 5) (q0 := 5) hI rfl (wdX_o5 a cA _) rfl hN hw) rfl rfl hl.1 rfl (lv_room (Nat.le_of_ble_eq_true rfl)) d_T_way_32 ⟨Nat.zero_le _, Nat.zero_le _⟩) (fun u32 H locs hw hI => ?_)
      refine lv_aload_n hx hb d_T_way_35 rfl (lv_at hl 0 rfl) ?_
      refine va_get (D := (dC, dI)) (C := R_T) (T := F_T) (N := 6) hx hb hts in_T hown hI.1 hI.2.1 0 (wdX_o0 a cA _) rfl 1 (by decide) (hts _ wA_265) (fun _ h9 => h9) rfl d_T_way_36 ?_
      refine lv_iload_n hx hb d_T_way_39 rfl (lv_at hl 2 rfl) ?_
      refine tr_goi (w := wdX a cA) hI hA (va_runV (As := [.int x2]) (rest := []) ⟨hx, hb, hml, hown, hts⟩ (c_Ar_first l dC dI cA a _ _ _ _) (cwV 1 hts (wsA_goodV wA_421 wA_422 wA_423 wA_36 wA_424) rfl rfl rfl (by decide +kernel) ⟨Nat.le_of_ble_eq_true rfl, Nat.le_of_ble_eq_true rfl⟩) (tr_preV (ci := 5) (q0 := 5) hI rfl (wdX_o5 a cA _) rfl hN hw) rfl rfl hl.1 rfl (lv_room (Nat.le_of_ble_eq_true rfl)) d_T_way_40 ⟨Nat.zero_le _, Nat.zero_le _⟩) (fun r40 u40 H locs hw hI => ?_)
      refine lv_ldc (v := 1000000) hx hb hown (hts _ wA_428) d_T_way_43 ?_
      refine lv_icmp_lt (tgt := 50) hx hb d_T_way_45 (by decide) (fun hc => ?_) (fun hc => ?_)
      · have hw := hw.1 hc
        refine lv_aload_n hx hb d_T_way_50 rfl (lv_at hl 0 rfl) ?_
        refine va_get (D := (dC, dI)) (C := R_T) (T := F_T) (N := 6) hx hb hts in_T hown hI.1 hI.2.1 0 (wdX_o0 a cA _) rfl 5 (by decide) (hts _ wA_269) (fun _ h9 => h9) rfl d_T_way_51 ?_
        refine lv_aload_n hx hb d_T_way_54 rfl (lv_at hl 0 rfl) ?_
        refine va_get (D := (dC, dI)) (C := R_T) (T := F_T) (N := 6) hx hb hts in_T hown hI.1 hI.2.1 0 (wdX_o0 a cA _) rfl 0 (by decide) (hts _ wA_264) (fun _ h9 => h9) rfl d_T_way_55 ?_
        refine lv_aload_n hx hb d_T_way_58 rfl (lv_at hl 0 rfl) ?_
        refine va_get (D := (dC, dI)) (C := R_T) (T := F_T) (N := 6) hx hb hts in_T hown hI.1 hI.2.1 0 (wdX_o0 a cA _) rfl 1 (by decide) (hts _ wA_265) (fun _ h9 => h9) rfl d_T_way_59 ?_
        refine lv_iload_n hx hb d_T_way_62 rfl (lv_at hl 1 rfl) ?_
        refine lv_iload_n hx hb d_T_way_63 rfl (lv_at hl 2 rfl) ?_
        refine tr_gov (w := wdX a cA) hI hA (va_runV (As := [.ref (a 1), .ref (a 5), .int x1, .int x2]) (rest := []) ⟨hx, hb, hml, hown, hts⟩ (c_Ac_trace l dC dI cA a _ _ _ _ _) (cwV 4 hts (wsA_goodV wA_516 wA_517 wA_518 wA_39 wA_519) rfl rfl rfl (by decide +kernel) ⟨Nat.le_of_ble_eq_true rfl, Nat.le_of_ble_eq_true rfl⟩) (tr_preV (ci := 8) (q0 := 9) hI rfl (wdX_o9 a cA _) rfl hN hw) rfl rfl hl.1 rfl (lv_room (Nat.le_of_ble_eq_true rfl)) d_T_way_64 ⟨Nat.zero_le _, Nat.zero_le _⟩) (fun u64 H locs hw hI => ?_)
        refine lv_aload_n hx hb d_T_way_67 rfl (lv_at hl 0 rfl) ?_
        refine va_get (D := (dC, dI)) (C := R_T) (T := F_T) (N := 6) hx hb hts in_T hown hI.1 hI.2.1 0 (wdX_o0 a cA _) rfl 5 (by decide) (hts _ wA_269) (fun _ h9 => h9) rfl d_T_way_68 ?_
        refine va_get (D := (dC, dI)) (C := R_Ac) (T := F_Ac) (N := 5) hx hb hts in_Ac hown hI.1 hI.2.1 9 (wdX_o9 a cA _) rfl 0 (by decide) (hts _ wA_244) (fun _ h9 => h9) rfl d_T_way_71 ?_
        exact tr_iret hx hb hr hlocks hI hw d_T_way_74
      · have hw := hw.2 hc
        refine lv_iconst (v := (-1)) hx hb d_T_way_48 (by decide) ?_
        exact tr_iret hx hb hr hlocks hI hw d_T_way_49
    · have hw := hw.1 hc
      refine lv_bipush (v := (-2)) hx hb d_T_way_19 (by decide) ?_
      exact tr_iret hx hb hr hlocks hI hw d_T_way_21
def w_T_act (post : Int32 → tS → Prop) (x1 : Int32) (x2 : Int32) (u : tS) : Prop := (w_T_within (fun r11 u11 => ((r11 = 0 → (post (-2) u11)) ∧ (¬ r11 = 0 → ((x2 = 0 → (vp_in (((u11.1 5) - 1) - x1) 24 ∧ (((u11.2 22 (((u11.1 5) - 1) - x1).toNatClampNeg) = (-1) → (post 0 u11)) ∧ (¬ (u11.2 22 (((u11.1 5) - 1) - x1).toNatClampNeg) = (-1) → (post 1 u11))))) ∧ (¬ x2 = 0 → ((x2 = 1 → (vp_in (((u11.1 5) - 1) - x1) 24 ∧ (post (u11.2 21 (((u11.1 5) - 1) - x1).toNatClampNeg) u11))) ∧ (¬ x2 = 1 → ((x2 = 2 → (vp_in (((u11.1 5) - 1) - x1) 24 ∧ (post (u11.2 22 (((u11.1 5) - 1) - x1).toNatClampNeg) u11))) ∧ (¬ x2 = 2 → ((x2 = 3 → (vp_in (((u11.1 5) - 1) - x1) 24 ∧ (post (u11.2 23 (((u11.1 5) - 1) - x1).toNatClampNeg) u11))) ∧ (¬ x2 = 3 → ((x2 = 4 → (vp_in (((u11.1 5) - 1) - x1) 24 ∧ (post (u11.2 24 (((u11.1 5) - 1) - x1).toNatClampNeg) u11))) ∧ (¬ x2 = 4 → (post (-2) u11)))))))))))))) x1 0 ((u.1 5) - 1) u)
set_option maxRecDepth 100000 in
set_option maxHeartbeats 4000000 in
theorem c_T_act (l : Launch) (dC : Nat → ClassId) (dI : Nat → Nat → Nat) (cA : ClassId) (a : Nat → Nat) (u : tS) (x1 : Int32) (x2 : Int32) (post : Int32 → tS → Prop) (sz : Nat) : Met l y_T_act ws_T_act ({ frames := 1, cells := 0, slots := 0, locals := 22 }) (va_Pc [.ref (a 0), .int x1, .int x2] (tP (dC, dI) twCl [(cA, .int)] (wdX a cA) u sz (w_T_act post x1 x2 u))) (va_Qi post (tB (dC, dI) twCl [(cA, .int)] (va_A (wdX a cA u) sz) (wdX a cA)) (va_A (wdX a cA u) sz)) 0 0 (va_A (wdX a cA u) sz) := by
  refine Met.ofW (cc := b_T_act) (maxL := 4) (ret := (some .int)) (by decide) rfl ?_
  intro p e s m args below meth c s₁ B hml hv
  obtain ⟨rfl, hsz, hP, hK, hD0, hN, hw⟩ := hv
  have hx := B.exec
  have hb := B.bytes
  have hr := B.returns
  have hts : ∀ w ∈ wsA, w.before _ s = true := fun w h => atoms_spec (ws := ws_T_act) B.pre w (List.mem_cons_of_mem _ h)
  have hown : s.vm.findClass R_T = some m.cls := findClass_of_methodNamed B.named
  have hlocks := B.notSynchronized
  subst hsz
  have hD := hD0.self (sz := s.heap.size)
  generalize hAe : va_A (wdX a cA u) s.heap.size = A at hD ⊢
  have hA : ∀ q : Nat, s.heap.size ≤ q → A q := fun q h => by rw [← hAe]; exact Or.inr h
  have hS : va_S A s.heap s.heap [] := va_S.rf
  have hI : tX (dC, dI) twCl [(cA, .int)] A s s.heap [] (wdX a cA u) := ⟨hK, hP, hD, hS⟩
  have hC : tC p s m meth c ([.ref (a 0), .int x1, .int x2] : List Value).toArray b_T_act 4 (some .int) wsA R_T A := ⟨hx, hb, hr, hml, hown, hts, hlocks, hA, hN⟩
  have hl := lv_entry ([.ref (a 0), .int x1, .int x2]) (n := 4) (Nat.le_of_ble_eq_true rfl)
  rw [lg_entry_eq]
  generalize (lg_sl ([.ref (a 0), .int x1, .int x2]) ++ List.replicate (4 - (lg_sl ([.ref (a 0), .int x1, .int x2])).length) Slot.unset).toArray = ls at hl ⊢
  have hl : lv_has ls 4 [(0, .ref (a 0)), (1, .int x1), (2, .int x2)] := hl
  have hw : (w_T_within (fun r11 u11 => ((r11 = 0 → (post (-2) u11)) ∧ (¬ r11 = 0 → ((x2 = 0 → (vp_in (((u11.1 5) - 1) - x1) 24 ∧ (((u11.2 22 (((u11.1 5) - 1) - x1).toNatClampNeg) = (-1) → (post 0 u11)) ∧ (¬ (u11.2 22 (((u11.1 5) - 1) - x1).toNatClampNeg) = (-1) → (post 1 u11))))) ∧ (¬ x2 = 0 → ((x2 = 1 → (vp_in (((u11.1 5) - 1) - x1) 24 ∧ (post (u11.2 21 (((u11.1 5) - 1) - x1).toNatClampNeg) u11))) ∧ (¬ x2 = 1 → ((x2 = 2 → (vp_in (((u11.1 5) - 1) - x1) 24 ∧ (post (u11.2 22 (((u11.1 5) - 1) - x1).toNatClampNeg) u11))) ∧ (¬ x2 = 2 → ((x2 = 3 → (vp_in (((u11.1 5) - 1) - x1) 24 ∧ (post (u11.2 23 (((u11.1 5) - 1) - x1).toNatClampNeg) u11))) ∧ (¬ x2 = 3 → ((x2 = 4 → (vp_in (((u11.1 5) - 1) - x1) 24 ∧ (post (u11.2 24 (((u11.1 5) - 1) - x1).toNatClampNeg) u11))) ∧ (¬ x2 = 4 → (post (-2) u11)))))))))))))) x1 0 ((u.1 5) - 1) u) := hw
  refine lv_iload_n hx hb d_T_act_0 rfl (lv_at hl 1 rfl) ?_
  refine lv_iconst (v := 0) hx hb d_T_act_1 (by decide) ?_
  refine lv_aload_n hx hb d_T_act_2 rfl (lv_at hl 0 rfl) ?_
  refine va_get (D := (dC, dI)) (C := R_T) (T := F_T) (N := 6) hx hb hts in_T hown hI.1 hI.2.1 0 (wdX_o0 a cA _) rfl 5 (by decide) (hts _ wA_269) (fun _ h9 => h9) rfl d_T_act_3 ?_
  refine va_get (D := (dC, dI)) (C := R_Ac) (T := F_Ac) (N := 5) hx hb hts in_Ac hown hI.1 hI.2.1 9 (wdX_o9 a cA _) rfl 0 (by decide) (hts _ wA_244) (fun _ h9 => h9) rfl d_T_act_6 ?_
  refine lv_iconst (v := 1) hx hb d_T_act_9 (by decide) ?_
  refine lv_isub hx hb d_T_act_10 ?_
  refine tr_goi (w := wdX a cA) hI hA (va_runS (As := [.int x1, .int 0, .int ((u.1 5) - 1)]) (rest := []) ⟨hx, hb, hml, hown, hts⟩ (c_T_within l dC dI cA a _ _ _ _ _ _) ⟨callB_of 3 hts (wsA_good wA_301) rfl rfl rfl (hts _ wA_30) (hts _ wA_299) (by decide +kernel) ⟨Nat.le_of_ble_eq_true rfl, Nat.le_of_ble_eq_true rfl⟩, hts _ wA_300⟩ (tr_preS hI hN hw) rfl rfl hl.1 rfl (lv_room (Nat.le_of_ble_eq_true rfl)) d_T_act_11 ⟨Nat.zero_le _, Nat.zero_le _⟩) (fun r11 u11 H locs hw hI => ?_)
  refine lv_if_ne (tgt := 20) hx hb d_T_act_14 (by decide) (fun hc => ?_) (fun hc => ?_)
  · have hw := hw.2 hc
    refine lv_aload_n hx hb d_T_act_20 rfl (lv_at hl 0 rfl) ?_
    refine va_get (D := (dC, dI)) (C := R_T) (T := F_T) (N := 6) hx hb hts in_T hown hI.1 hI.2.1 0 (wdX_o0 a cA _) rfl 5 (by decide) (hts _ wA_269) (fun _ h9 => h9) rfl d_T_act_21 ?_
    refine va_get (D := (dC, dI)) (C := R_Ac) (T := F_Ac) (N := 5) hx hb hts in_Ac hown hI.1 hI.2.1 9 (wdX_o9 a cA _) rfl 0 (by decide) (hts _ wA_244) (fun _ h9 => h9) rfl d_T_act_24 ?_
    refine lv_iconst (v := 1) hx hb d_T_act_27 (by decide) ?_
    refine lv_isub hx hb d_T_act_28 ?_
    refine lv_iload_n hx hb d_T_act_29 rfl (lv_at hl 1 rfl) ?_
    refine lv_isub hx hb d_T_act_30 ?_
    refine lv_istore_n (lv' := [(3, .int (((u11.1 5) - 1) - x1)), (0, .ref (a 0)), (1, .int x1), (2, .int x2)]) hx hb d_T_act_31 rfl hl (by decide) rfl (fun ls hl => ?_)
    refine lv_iload_n hx hb d_T_act_32 rfl (lv_at hl 3 rfl) ?_
    by_cases hc0 : x2 = 0
    · have hw := hw.1 hc0
      refine lv_tableIn (tgt := 68) hx hb d_T_act_33 (by rw [hc0]; decide) (by rw [hc0]; decide) (by rw [hc0]; rfl) (by decide) ?_
      refine lv_aload_n hx hb d_T_act_68 rfl (lv_at hl 1 rfl) ?_
      refine va_get (D := (dC, dI)) (C := R_T) (T := F_T) (N := 6) hx hb hts in_T hown hI.1 hI.2.1 0 (wdX_o0 a cA _) rfl 5 (by decide) (hts _ wA_269) (fun _ h9 => h9) rfl d_T_act_69 ?_
      refine va_get (D := (dC, dI)) (C := R_Ac) (T := F_Ac) (N := 5) hx hb hts in_Ac hown hI.1 hI.2.1 9 (wdX_o9 a cA _) rfl 2 (by decide) (hts _ wA_248) (fun _ h9 => h9) rfl d_T_act_72 ?_
      refine lv_iload_n hx hb d_T_act_75 rfl (lv_at hl 0 rfl) ?_
      obtain ⟨hi, hw⟩ := hw
      refine va_iald (D := (dC, dI)) hx hb hI.1 hI.2.1 32 0 (wdX_o32 a cA _) rfl hi d_T_act_76 ?_
      refine lv_iconst (v := (-1)) hx hb d_T_act_77 (by decide) ?_
      refine lv_icmp_ne (tgt := 85) hx hb d_T_act_78 (by decide) (fun hc => ?_) (fun hc => ?_)
      · have hw := hw.2 hc
        refine lv_iconst (v := 1) hx hb d_T_act_85 (by decide) ?_
        exact tr_iret hx hb hr hlocks hI hw d_T_act_86
      · have hw := hw.1 hc
        refine lv_iconst (v := 0) hx hb d_T_act_81 (by decide) ?_
        refine lv_goto (tgt := 86) hx hb d_T_act_82 (by decide) ?_
        exact tr_iret hx hb hr hlocks hI hw d_T_act_86
    · have hw := hw.2 hc0
      by_cases hc1 : x2 = 1
      · have hw := hw.1 hc1
        refine lv_tableIn (tgt := 87) hx hb d_T_act_33 (by rw [hc1]; decide) (by rw [hc1]; decide) (by rw [hc1]; rfl) (by decide) ?_
        refine lv_aload_n hx hb d_T_act_87 rfl (lv_at hl 1 rfl) ?_
        refine va_get (D := (dC, dI)) (C := R_T) (T := F_T) (N := 6) hx hb hts in_T hown hI.1 hI.2.1 0 (wdX_o0 a cA _) rfl 5 (by decide) (hts _ wA_269) (fun _ h9 => h9) rfl d_T_act_88 ?_
        refine va_get (D := (dC, dI)) (C := R_Ac) (T := F_Ac) (N := 5) hx hb hts in_Ac hown hI.1 hI.2.1 9 (wdX_o9 a cA _) rfl 1 (by decide) (hts _ wA_246) (fun _ h9 => h9) rfl d_T_act_91 ?_
        refine lv_iload_n hx hb d_T_act_94 rfl (lv_at hl 0 rfl) ?_
        obtain ⟨hi, hw⟩ := hw
        refine va_iald (D := (dC, dI)) hx hb hI.1 hI.2.1 31 0 (wdX_o31 a cA _) rfl hi d_T_act_95 ?_
        exact tr_iret hx hb hr hlocks hI hw d_T_act_96
      · have hw := hw.2 hc1
        by_cases hc2 : x2 = 2
        · have hw := hw.1 hc2
          refine lv_tableIn (tgt := 97) hx hb d_T_act_33 (by rw [hc2]; decide) (by rw [hc2]; decide) (by rw [hc2]; rfl) (by decide) ?_
          refine lv_aload_n hx hb d_T_act_97 rfl (lv_at hl 1 rfl) ?_
          refine va_get (D := (dC, dI)) (C := R_T) (T := F_T) (N := 6) hx hb hts in_T hown hI.1 hI.2.1 0 (wdX_o0 a cA _) rfl 5 (by decide) (hts _ wA_269) (fun _ h9 => h9) rfl d_T_act_98 ?_
          refine va_get (D := (dC, dI)) (C := R_Ac) (T := F_Ac) (N := 5) hx hb hts in_Ac hown hI.1 hI.2.1 9 (wdX_o9 a cA _) rfl 2 (by decide) (hts _ wA_248) (fun _ h9 => h9) rfl d_T_act_101 ?_
          refine lv_iload_n hx hb d_T_act_104 rfl (lv_at hl 0 rfl) ?_
          obtain ⟨hi, hw⟩ := hw
          refine va_iald (D := (dC, dI)) hx hb hI.1 hI.2.1 32 0 (wdX_o32 a cA _) rfl hi d_T_act_105 ?_
          exact tr_iret hx hb hr hlocks hI hw d_T_act_106
        · have hw := hw.2 hc2
          by_cases hc3 : x2 = 3
          · have hw := hw.1 hc3
            refine lv_tableIn (tgt := 107) hx hb d_T_act_33 (by rw [hc3]; decide) (by rw [hc3]; decide) (by rw [hc3]; rfl) (by decide) ?_
            refine lv_aload_n hx hb d_T_act_107 rfl (lv_at hl 1 rfl) ?_
            refine va_get (D := (dC, dI)) (C := R_T) (T := F_T) (N := 6) hx hb hts in_T hown hI.1 hI.2.1 0 (wdX_o0 a cA _) rfl 5 (by decide) (hts _ wA_269) (fun _ h9 => h9) rfl d_T_act_108 ?_
            refine va_get (D := (dC, dI)) (C := R_Ac) (T := F_Ac) (N := 5) hx hb hts in_Ac hown hI.1 hI.2.1 9 (wdX_o9 a cA _) rfl 3 (by decide) (hts _ wA_250) (fun _ h9 => h9) rfl d_T_act_111 ?_
            refine lv_iload_n hx hb d_T_act_114 rfl (lv_at hl 0 rfl) ?_
            obtain ⟨hi, hw⟩ := hw
            refine va_iald (D := (dC, dI)) hx hb hI.1 hI.2.1 33 0 (wdX_o33 a cA _) rfl hi d_T_act_115 ?_
            exact tr_iret hx hb hr hlocks hI hw d_T_act_116
          · have hw := hw.2 hc3
            by_cases hc4 : x2 = 4
            · have hw := hw.1 hc4
              refine lv_tableIn (tgt := 117) hx hb d_T_act_33 (by rw [hc4]; decide) (by rw [hc4]; decide) (by rw [hc4]; rfl) (by decide) ?_
              refine lv_aload_n hx hb d_T_act_117 rfl (lv_at hl 1 rfl) ?_
              refine va_get (D := (dC, dI)) (C := R_T) (T := F_T) (N := 6) hx hb hts in_T hown hI.1 hI.2.1 0 (wdX_o0 a cA _) rfl 5 (by decide) (hts _ wA_269) (fun _ h9 => h9) rfl d_T_act_118 ?_
              refine va_get (D := (dC, dI)) (C := R_Ac) (T := F_Ac) (N := 5) hx hb hts in_Ac hown hI.1 hI.2.1 9 (wdX_o9 a cA _) rfl 4 (by decide) (hts _ wA_252) (fun _ h9 => h9) rfl d_T_act_121 ?_
              refine lv_iload_n hx hb d_T_act_124 rfl (lv_at hl 0 rfl) ?_
              obtain ⟨hi, hw⟩ := hw
              refine va_iald (D := (dC, dI)) hx hb hI.1 hI.2.1 34 0 (wdX_o34 a cA _) rfl hi d_T_act_125 ?_
              exact tr_iret hx hb hr hlocks hI hw d_T_act_126
            · have hw := hw.2 hc4
              refine lv_tableOut (tgt := 127) hx hb d_T_act_33 (tab_out5 hc0 hc1 hc2 hc3 hc4) (by decide) ?_
              refine lv_bipush (v := (-2)) hx hb d_T_act_127 (by decide) ?_
              exact tr_iret hx hb hr hlocks hI hw d_T_act_129
  · have hw := hw.1 hc
    refine lv_bipush (v := (-2)) hx hb d_T_act_17 (by decide) ?_
    exact tr_iret hx hb hr hlocks hI hw d_T_act_19
end
section
def w_Bo_firstFrom_3 (post : Int32 → tS → Prop) : Nat → Int32 → Int32 → Int32 → tS → Prop
  | 0 => fun _ _ _ _ => False
  | n + 1 => fun x2 x3 x4 u => (((u.1 2) ≤ x4 → (post (-1) u)) ∧ (¬ (u.1 2) ≤ x4 → (vp_in x4 280 ∧ (((u.2 8 x4.toNatClampNeg) < x3 → (w_Bo_firstFrom_3 post n x2 x3 (x4 + 1) u)) ∧ (¬ (u.2 8 x4.toNatClampNeg) < x3 → (w_Bo_rideAt (fun r30 u30 => (vp_in r30 40 ∧ (((u30.2 1 r30.toNatClampNeg) = x2 → (vp_in x4 280 ∧ (post (u30.2 7 x4.toNatClampNeg) u30))) ∧ (¬ (u30.2 1 r30.toNatClampNeg) = x2 → (w_Bo_firstFrom_3 post n x2 x3 (x4 + 1) u30))))) x4 u))))))
def w_Bo_firstFrom (post : Int32 → tS → Prop) (x2 : Int32) (x3 : Int32) (u : tS) : Prop := (∃ k, w_Bo_firstFrom_3 post k x2 x3 0 u)
set_option maxRecDepth 100000 in
set_option maxHeartbeats 4000000 in
theorem k_Bo_firstFrom_3 {p : Program} {l : Launch} {e : Env} {s : State} {m : MethodId} {args : Array Value} {below : List Frame} {meth : Method} {c : Code} {dC : Nat → ClassId} {dI : Nat → Nat → Nat} {cA : ClassId} {a : Nat → Nat} {A : Nat → Prop} (hC : tC p s m meth c args b_Bo_firstFrom 5 (some .int) wsA R_Bo A) (post : Int32 → tS → Prop) : ∀ n : Nat, ∀ (x2 x3 x4 : Int32) (u : tS) (H : Heap) (locs : List Loc) (ls : Array Slot), w_Bo_firstFrom_3 post n x2 x3 x4 u → tX (dC, dI) twCl [(cA, .int)] A s H locs (wdX a cA u) → lv_has ls 5 [(0, .ref (a 3)), (1, .ref (a 2)), (2, .int x2), (3, .int x3), (4, .int x4)] → W p l e ({ frames := 1, cells := 0, slots := 0, locals := 21 }) s m args below meth c H locs 0 0 (MQ below (va_Qi post (tB (dC, dI) twCl [(cA, .int)] A (wdX a cA)) A) args s 0 0 A) (F0 m 3 ls []) := by
  obtain ⟨hx, hb, hr, hml, hown, hts, hlocks, hA, hN⟩ := id hC
  intro n
  induction n with
  | zero => intro x2 x3 x4 u H locs ls hw; exact False.elim hw
  | succ n ih =>
    intro x2 x3 x4 u H locs ls hw hI hl
    refine lv_iload hx hb d_Bo_firstFrom_3 (lv_at hl 4 rfl) ?_
    refine lv_aload_n hx hb d_Bo_firstFrom_5 rfl (lv_at hl 0 rfl) ?_
    refine va_get (D := (dC, dI)) (C := R_Bo) (T := F_Bo) (N := 3) hx hb hts in_Bo hown hI.1 hI.2.1 3 (wdX_o3 a cA _) rfl 0 (by decide) (hts _ wA_111) (fun _ h9 => h9) rfl d_Bo_firstFrom_6 ?_
    refine lv_icmp_ge (tgt := 52) hx hb d_Bo_firstFrom_9 (by decide) (fun hc => ?_) (fun hc => ?_)
    · have hw := hw.1 hc
      refine lv_iconst (v := (-1)) hx hb d_Bo_firstFrom_52 (by decide) ?_
      exact tr_iret hx hb hr hlocks hI hw d_Bo_firstFrom_53
    · have hw := hw.2 hc
      refine lv_aload_n hx hb d_Bo_firstFrom_12 rfl (lv_at hl 0 rfl) ?_
      refine va_get (D := (dC, dI)) (C := R_Bo) (T := F_Bo) (N := 3) hx hb hts in_Bo hown hI.1 hI.2.1 3 (wdX_o3 a cA _) rfl 2 (by decide) (hts _ wA_117) (fun _ h9 => h9) rfl d_Bo_firstFrom_13 ?_
      refine lv_iload hx hb d_Bo_firstFrom_16 (lv_at hl 4 rfl) ?_
      obtain ⟨hi, hw⟩ := hw
      refine va_iald (D := (dC, dI)) hx hb hI.1 hI.2.1 18 0 (wdX_o18 a cA _) rfl hi d_Bo_firstFrom_18 ?_
      refine lv_iload_n hx hb d_Bo_firstFrom_19 rfl (lv_at hl 3 rfl) ?_
      refine lv_icmp_lt (tgt := 46) hx hb d_Bo_firstFrom_20 (by decide) (fun hc => ?_) (fun hc => ?_)
      · have hw := hw.1 hc
        refine lv_iinc (v := (x4 + 1)) (lv' := [(4, .int (x4 + 1)), (0, .ref (a 3)), (1, .ref (a 2)), (2, .int x2), (3, .int x3)]) hx hb d_Bo_firstFrom_46 hl (k := 4) rfl rfl (by decide) rfl (fun ls hl => ?_)
        refine lv_goto (tgt := 3) hx hb d_Bo_firstFrom_49 (by decide) ?_
        exact ih _ _ _ _ _ _ ls hw hI (lv_sub hl [1, 2, 3, 4, 0] rfl)
      · have hw := hw.2 hc
        refine lv_aload_n hx hb d_Bo_firstFrom_23 rfl (lv_at hl 1 rfl) ?_
        refine va_get (D := (dC, dI)) (C := R_Ri) (T := F_Ri) (N := 7) hx hb hts in_Ri hown hI.1 hI.2.1 2 (wdX_o2 a cA _) rfl 1 (by decide) (hts _ wA_70) (fun _ h9 => h9) rfl d_Bo_firstFrom_24 ?_
        refine lv_aload_n hx hb d_Bo_firstFrom_27 rfl (lv_at hl 0 rfl) ?_
        refine lv_iload hx hb d_Bo_firstFrom_28 (lv_at hl 4 rfl) ?_
        refine tr_goi (w := wdX a cA) hI hA (va_runV (As := [.int x4]) (rest := [.ref (a 11)]) ⟨hx, hb, hml, hown, hts⟩ (c_Bo_rideAt l dC dI cA a _ _ _ _) (cwV 1 hts (wsA_goodV wA_565 wA_409 wA_410 wA_33 wA_411) rfl rfl rfl (by decide +kernel) ⟨Nat.le_of_ble_eq_true rfl, Nat.le_of_ble_eq_true rfl⟩) (tr_preV (ci := 3) (q0 := 3) hI rfl (wdX_o3 a cA _) rfl hN hw) rfl rfl hl.1 rfl (lv_room (Nat.le_of_ble_eq_true rfl)) d_Bo_firstFrom_30 ⟨Nat.zero_le _, Nat.zero_le _⟩) (fun r30 u30 H locs hw hI => ?_)
        obtain ⟨hi, hw⟩ := hw
        refine va_iald (D := (dC, dI)) hx hb hI.1 hI.2.1 11 0 (wdX_o11 a cA _) rfl hi d_Bo_firstFrom_33 ?_
        refine lv_iload_n hx hb d_Bo_firstFrom_34 rfl (lv_at hl 2 rfl) ?_
        refine lv_icmp_ne (tgt := 46) hx hb d_Bo_firstFrom_35 (by decide) (fun hc => ?_) (fun hc => ?_)
        · have hw := hw.2 hc
          refine lv_iinc (v := (x4 + 1)) (lv' := [(4, .int (x4 + 1)), (0, .ref (a 3)), (1, .ref (a 2)), (2, .int x2), (3, .int x3)]) hx hb d_Bo_firstFrom_46 hl (k := 4) rfl rfl (by decide) rfl (fun ls hl => ?_)
          refine lv_goto (tgt := 3) hx hb d_Bo_firstFrom_49 (by decide) ?_
          exact ih _ _ _ _ _ _ ls hw hI (lv_sub hl [1, 2, 3, 4, 0] rfl)
        · have hw := hw.1 hc
          refine lv_aload_n hx hb d_Bo_firstFrom_38 rfl (lv_at hl 0 rfl) ?_
          refine va_get (D := (dC, dI)) (C := R_Bo) (T := F_Bo) (N := 3) hx hb hts in_Bo hown hI.1 hI.2.1 3 (wdX_o3 a cA _) rfl 1 (by decide) (hts _ wA_116) (fun _ h9 => h9) rfl d_Bo_firstFrom_39 ?_
          refine lv_iload hx hb d_Bo_firstFrom_42 (lv_at hl 4 rfl) ?_
          obtain ⟨hi, hw⟩ := hw
          refine va_iald (D := (dC, dI)) hx hb hI.1 hI.2.1 17 0 (wdX_o17 a cA _) rfl hi d_Bo_firstFrom_44 ?_
          exact tr_iret hx hb hr hlocks hI hw d_Bo_firstFrom_45
set_option maxRecDepth 100000 in
set_option maxHeartbeats 4000000 in
theorem c_Bo_firstFrom (l : Launch) (dC : Nat → ClassId) (dI : Nat → Nat → Nat) (cA : ClassId) (a : Nat → Nat) (u : tS) (x2 : Int32) (x3 : Int32) (post : Int32 → tS → Prop) (sz : Nat) : Met l y_Bo_firstFrom ws_Bo_firstFrom ({ frames := 1, cells := 0, slots := 0, locals := 21 }) (va_Pc [.ref (a 3), .ref (a 2), .int x2, .int x3] (tP (dC, dI) twCl [(cA, .int)] (wdX a cA) u sz (w_Bo_firstFrom post x2 x3 u))) (va_Qi post (tB (dC, dI) twCl [(cA, .int)] (va_A (wdX a cA u) sz) (wdX a cA)) (va_A (wdX a cA u) sz)) 0 0 (va_A (wdX a cA u) sz) := by
  refine Met.ofW (cc := b_Bo_firstFrom) (maxL := 5) (ret := (some .int)) (by decide) rfl ?_
  intro p e s m args below meth c s₁ B hml hv
  obtain ⟨rfl, hsz, hP, hK, hD0, hN, hw⟩ := hv
  have hx := B.exec
  have hb := B.bytes
  have hr := B.returns
  have hts : ∀ w ∈ wsA, w.before _ s = true := fun w h => atoms_spec (ws := ws_Bo_firstFrom) B.pre w (List.mem_cons_of_mem _ h)
  have hown : s.vm.findClass R_Bo = some m.cls := findClass_of_methodNamed B.named
  have hlocks := B.notSynchronized
  subst hsz
  have hD := hD0.self (sz := s.heap.size)
  generalize hAe : va_A (wdX a cA u) s.heap.size = A at hD ⊢
  have hA : ∀ q : Nat, s.heap.size ≤ q → A q := fun q h => by rw [← hAe]; exact Or.inr h
  have hS : va_S A s.heap s.heap [] := va_S.rf
  have hI : tX (dC, dI) twCl [(cA, .int)] A s s.heap [] (wdX a cA u) := ⟨hK, hP, hD, hS⟩
  have hC : tC p s m meth c ([.ref (a 3), .ref (a 2), .int x2, .int x3] : List Value).toArray b_Bo_firstFrom 5 (some .int) wsA R_Bo A := ⟨hx, hb, hr, hml, hown, hts, hlocks, hA, hN⟩
  have hl := lv_entry ([.ref (a 3), .ref (a 2), .int x2, .int x3]) (n := 5) (Nat.le_of_ble_eq_true rfl)
  rw [lg_entry_eq]
  generalize (lg_sl ([.ref (a 3), .ref (a 2), .int x2, .int x3]) ++ List.replicate (5 - (lg_sl ([.ref (a 3), .ref (a 2), .int x2, .int x3])).length) Slot.unset).toArray = ls at hl ⊢
  have hl : lv_has ls 5 [(0, .ref (a 3)), (1, .ref (a 2)), (2, .int x2), (3, .int x3)] := hl
  have hw : (∃ k, w_Bo_firstFrom_3 post k x2 x3 0 u) := hw
  refine lv_iconst (v := 0) hx hb d_Bo_firstFrom_0 (by decide) ?_
  refine lv_istore (lv' := [(4, .int 0), (0, .ref (a 3)), (1, .ref (a 2)), (2, .int x2), (3, .int x3)]) hx hb d_Bo_firstFrom_1 hl (by decide) rfl (fun ls hl => ?_)
  obtain ⟨k, hw⟩ := hw
  exact k_Bo_firstFrom_3 hC post k _ _ _ _ _ _ ls hw hI (lv_sub hl [1, 2, 3, 4, 0] rfl)
def w_T_next (post : Int32 → tS → Prop) (x1 : Int32) (x2 : Int32) (u : tS) : Prop := (w_Ne_hasStop (fun r5 u5 => ((r5 = 0 → (post (-2) u5)) ∧ (¬ r5 = 0 → (w_T_isTime (fun r12 u12 => ((r12 = 0 → (post (-2) u12)) ∧ (¬ r12 = 0 → (w_Bo_firstFrom (fun r37 u37 => (post r37 u37)) x1 x2 u12)))) x2 u5)))) x1 u)
set_option maxRecDepth 100000 in
set_option maxHeartbeats 4000000 in
theorem c_T_next (l : Launch) (dC : Nat → ClassId) (dI : Nat → Nat → Nat) (cA : ClassId) (a : Nat → Nat) (u : tS) (x1 : Int32) (x2 : Int32) (post : Int32 → tS → Prop) (sz : Nat) : Met l y_T_next ws_T_next ({ frames := 2, cells := 0, slots := 0, locals := 45 }) (va_Pc [.ref (a 0), .int x1, .int x2] (tP (dC, dI) twCl [(cA, .int)] (wdX a cA) u sz (w_T_next post x1 x2 u))) (va_Qi post (tB (dC, dI) twCl [(cA, .int)] (va_A (wdX a cA u) sz) (wdX a cA)) (va_A (wdX a cA u) sz)) 0 0 (va_A (wdX a cA u) sz) := by
  refine Met.ofW (cc := b_T_next) (maxL := 3) (ret := (some .int)) (by decide) rfl ?_
  intro p e s m args below meth c s₁ B hml hv
  obtain ⟨rfl, hsz, hP, hK, hD0, hN, hw⟩ := hv
  have hx := B.exec
  have hb := B.bytes
  have hr := B.returns
  have hts : ∀ w ∈ wsA, w.before _ s = true := fun w h => atoms_spec (ws := ws_T_next) B.pre w (List.mem_cons_of_mem _ h)
  have hown : s.vm.findClass R_T = some m.cls := findClass_of_methodNamed B.named
  have hlocks := B.notSynchronized
  subst hsz
  have hD := hD0.self (sz := s.heap.size)
  generalize hAe : va_A (wdX a cA u) s.heap.size = A at hD ⊢
  have hA : ∀ q : Nat, s.heap.size ≤ q → A q := fun q h => by rw [← hAe]; exact Or.inr h
  have hS : va_S A s.heap s.heap [] := va_S.rf
  have hI : tX (dC, dI) twCl [(cA, .int)] A s s.heap [] (wdX a cA u) := ⟨hK, hP, hD, hS⟩
  have hC : tC p s m meth c ([.ref (a 0), .int x1, .int x2] : List Value).toArray b_T_next 3 (some .int) wsA R_T A := ⟨hx, hb, hr, hml, hown, hts, hlocks, hA, hN⟩
  have hl := lv_entry ([.ref (a 0), .int x1, .int x2]) (n := 3) (Nat.le_of_ble_eq_true rfl)
  rw [lg_entry_eq]
  generalize (lg_sl ([.ref (a 0), .int x1, .int x2]) ++ List.replicate (3 - (lg_sl ([.ref (a 0), .int x1, .int x2])).length) Slot.unset).toArray = ls at hl ⊢
  have hl : lv_has ls 3 [(0, .ref (a 0)), (1, .int x1), (2, .int x2)] := hl
  have hw : (w_Ne_hasStop (fun r5 u5 => ((r5 = 0 → (post (-2) u5)) ∧ (¬ r5 = 0 → (w_T_isTime (fun r12 u12 => ((r12 = 0 → (post (-2) u12)) ∧ (¬ r12 = 0 → (w_Bo_firstFrom (fun r37 u37 => (post r37 u37)) x1 x2 u12)))) x2 u5)))) x1 u) := hw
  refine lv_aload_n hx hb d_T_next_0 rfl (lv_at hl 0 rfl) ?_
  refine va_get (D := (dC, dI)) (C := R_T) (T := F_T) (N := 6) hx hb hts in_T hown hI.1 hI.2.1 0 (wdX_o0 a cA _) rfl 0 (by decide) (hts _ wA_264) (fun _ h9 => h9) rfl d_T_next_1 ?_
  refine lv_iload_n hx hb d_T_next_4 rfl (lv_at hl 1 rfl) ?_
  refine tr_goi (w := wdX a cA) hI hA (va_runV (As := [.int x1]) (rest := []) ⟨hx, hb, hml, hown, hts⟩ (c_Ne_hasStop l dC dI cA a _ _ _ _) (cwV 1 hts (wsA_goodV wA_306 wA_307 wA_308 wA_31 wA_309) rfl rfl rfl (by decide +kernel) ⟨Nat.le_of_ble_eq_true rfl, Nat.le_of_ble_eq_true rfl⟩) (tr_preV (ci := 1) (q0 := 1) hI rfl (wdX_o1 a cA _) rfl hN hw) rfl rfl hl.1 rfl (lv_room (Nat.le_of_ble_eq_true rfl)) d_T_next_5 ⟨Nat.zero_le _, Nat.zero_le _⟩) (fun r5 u5 H locs hw hI => ?_)
  refine lv_if_eq (tgt := 18) hx hb d_T_next_8 (by decide) (fun hc => ?_) (fun hc => ?_)
  · have hw := hw.1 hc
    refine lv_bipush (v := (-2)) hx hb d_T_next_18 (by decide) ?_
    exact tr_iret hx hb hr hlocks hI hw d_T_next_20
  · have hw := hw.2 hc
    refine lv_iload_n hx hb d_T_next_11 rfl (lv_at hl 2 rfl) ?_
    refine tr_goi (w := wdX a cA) hI hA (va_runS (As := [.int x2]) (rest := []) ⟨hx, hb, hml, hown, hts⟩ (c_T_isTime l dC dI cA a _ _ _ _) ⟨callB_of 1 hts (wsA_good wA_392) rfl rfl rfl (hts _ wA_30) (hts _ wA_390) (by decide +kernel) ⟨Nat.le_of_ble_eq_true rfl, Nat.le_of_ble_eq_true rfl⟩, hts _ wA_391⟩ (tr_preS hI hN hw) rfl rfl hl.1 rfl (lv_room (Nat.le_of_ble_eq_true rfl)) d_T_next_12 ⟨Nat.zero_le _, Nat.zero_le _⟩) (fun r12 u12 H locs hw hI => ?_)
    refine lv_if_ne (tgt := 21) hx hb d_T_next_15 (by decide) (fun hc => ?_) (fun hc => ?_)
    · have hw := hw.2 hc
      refine lv_aload_n hx hb d_T_next_21 rfl (lv_at hl 0 rfl) ?_
      refine va_get (D := (dC, dI)) (C := R_T) (T := F_T) (N := 6) hx hb hts in_T hown hI.1 hI.2.1 0 (wdX_o0 a cA _) rfl 0 (by decide) (hts _ wA_264) (fun _ h9 => h9) rfl d_T_next_22 ?_
      refine va_get (D := (dC, dI)) (C := R_Ne) (T := F_Ne) (N := 5) hx hb hts in_Ne hown hI.1 hI.2.1 1 (wdX_o1 a cA _) rfl 3 (by decide) (hts _ wA_173) (fun _ h9 => h9) rfl d_T_next_25 ?_
      refine lv_aload_n hx hb d_T_next_28 rfl (lv_at hl 0 rfl) ?_
      refine va_get (D := (dC, dI)) (C := R_T) (T := F_T) (N := 6) hx hb hts in_T hown hI.1 hI.2.1 0 (wdX_o0 a cA _) rfl 0 (by decide) (hts _ wA_264) (fun _ h9 => h9) rfl d_T_next_29 ?_
      refine va_get (D := (dC, dI)) (C := R_Ne) (T := F_Ne) (N := 5) hx hb hts in_Ne hown hI.1 hI.2.1 1 (wdX_o1 a cA _) rfl 2 (by decide) (hts _ wA_167) (fun _ h9 => h9) rfl d_T_next_32 ?_
      refine lv_iload_n hx hb d_T_next_35 rfl (lv_at hl 1 rfl) ?_
      refine lv_iload_n hx hb d_T_next_36 rfl (lv_at hl 2 rfl) ?_
      refine tr_goi (w := wdX a cA) hI hA (va_runV (As := [.ref (a 2), .int x1, .int x2]) (rest := []) ⟨hx, hb, hml, hown, hts⟩ (c_Bo_firstFrom l dC dI cA a _ _ _ _ _) (cwV 3 hts (wsA_goodV wA_561 wA_562 wA_563 wA_33 wA_564) rfl rfl rfl (by decide +kernel) ⟨Nat.le_of_ble_eq_true rfl, Nat.le_of_ble_eq_true rfl⟩) (tr_preV (ci := 3) (q0 := 3) hI rfl (wdX_o3 a cA _) rfl hN hw) rfl rfl hl.1 rfl (lv_room (Nat.le_of_ble_eq_true rfl)) d_T_next_37 ⟨Nat.zero_le _, Nat.zero_le _⟩) (fun r37 u37 H locs hw hI => ?_)
      exact tr_iret hx hb hr hlocks hI hw d_T_next_40
    · have hw := hw.1 hc
      refine lv_bipush (v := (-2)) hx hb d_T_next_18 (by decide) ?_
      exact tr_iret hx hb hr hlocks hI hw d_T_next_20
def w_Ri_goingDays_4 (post : Int32 → tS → Prop) : Nat → Int32 → Int32 → Int32 → tS → Prop
  | 0 => fun _ _ _ _ => False
  | n + 1 => fun x1 x2 x3 u => ((7 ≤ x3 → (post x2 u)) ∧ (¬ 7 ≤ x3 → (w_Ri_goes (fun r17 u17 => ((r17 = 0 → (w_Ri_goingDays_4 post n x1 x2 (x3 + 1) u17)) ∧ (¬ r17 = 0 → (w_Ri_goingDays_4 post n x1 (x2 ||| (1 <<< (x3 &&& 31))) (x3 + 1) u17)))) ((x1 * 7) + x3) u)))
def w_Ri_goingDays (post : Int32 → tS → Prop) (x1 : Int32) (u : tS) : Prop := (∃ k, w_Ri_goingDays_4 post k x1 0 0 u)
set_option maxRecDepth 100000 in
set_option maxHeartbeats 4000000 in
theorem k_Ri_goingDays_4 {p : Program} {l : Launch} {e : Env} {s : State} {m : MethodId} {args : Array Value} {below : List Frame} {meth : Method} {c : Code} {dC : Nat → ClassId} {dI : Nat → Nat → Nat} {cA : ClassId} {a : Nat → Nat} {A : Nat → Prop} (hC : tC p s m meth c args b_Ri_goingDays 4 (some .int) wsA R_Ri A) (post : Int32 → tS → Prop) : ∀ n : Nat, ∀ (x1 x2 x3 : Int32) (u : tS) (H : Heap) (locs : List Loc) (ls : Array Slot), w_Ri_goingDays_4 post n x1 x2 x3 u → tX (dC, dI) twCl [(cA, .int)] A s H locs (wdX a cA u) → lv_has ls 4 [(0, .ref (a 2)), (1, .int x1), (2, .int x2), (3, .int x3)] → W p l e ({ frames := 1, cells := 0, slots := 0, locals := 21 }) s m args below meth c H locs 0 0 (MQ below (va_Qi post (tB (dC, dI) twCl [(cA, .int)] A (wdX a cA)) A) args s 0 0 A) (F0 m 4 ls []) := by
  obtain ⟨hx, hb, hr, hml, hown, hts, hlocks, hA, hN⟩ := id hC
  intro n
  induction n with
  | zero => intro x1 x2 x3 u H locs ls hw; exact False.elim hw
  | succ n ih =>
    intro x1 x2 x3 u H locs ls hw hI hl
    refine lv_iload_n hx hb d_Ri_goingDays_4 rfl (lv_at hl 3 rfl) ?_
    refine lv_bipush (v := 7) hx hb d_Ri_goingDays_5 (by decide) ?_
    refine lv_icmp_ge (tgt := 35) hx hb d_Ri_goingDays_7 (by decide) (fun hc => ?_) (fun hc => ?_)
    · have hw := hw.1 hc
      refine lv_iload_n hx hb d_Ri_goingDays_35 rfl (lv_at hl 2 rfl) ?_
      exact tr_iret hx hb hr hlocks hI hw d_Ri_goingDays_36
    · have hw := hw.2 hc
      refine lv_aload_n hx hb d_Ri_goingDays_10 rfl (lv_at hl 0 rfl) ?_
      refine lv_iload_n hx hb d_Ri_goingDays_11 rfl (lv_at hl 1 rfl) ?_
      refine lv_bipush (v := 7) hx hb d_Ri_goingDays_12 (by decide) ?_
      refine lv_imul hx hb d_Ri_goingDays_14 ?_
      refine lv_iload_n hx hb d_Ri_goingDays_15 rfl (lv_at hl 3 rfl) ?_
      refine lv_iadd hx hb d_Ri_goingDays_16 ?_
      refine tr_goi (w := wdX a cA) hI hA (va_runV (As := [.int ((x1 * 7) + x3)]) (rest := []) ⟨hx, hb, hml, hown, hts⟩ (c_Ri_goes l dC dI cA a _ _ _ _) (cwV 1 hts (wsA_goodV wA_574 wA_337 wA_338 wA_32 wA_339) rfl rfl rfl (by decide +kernel) ⟨Nat.le_of_ble_eq_true rfl, Nat.le_of_ble_eq_true rfl⟩) (tr_preV (ci := 2) (q0 := 2) hI rfl (wdX_o2 a cA _) rfl hN hw) rfl rfl hl.1 rfl (lv_room (Nat.le_of_ble_eq_true rfl)) d_Ri_goingDays_17 ⟨Nat.zero_le _, Nat.zero_le _⟩) (fun r17 u17 H locs hw hI => ?_)
      refine lv_if_eq (tgt := 29) hx hb d_Ri_goingDays_20 (by decide) (fun hc => ?_) (fun hc => ?_)
      · have hw := hw.1 hc
        refine lv_iinc (v := (x3 + 1)) (lv' := [(3, .int (x3 + 1)), (0, .ref (a 2)), (1, .int x1), (2, .int x2)]) hx hb d_Ri_goingDays_29 hl (k := 3) rfl rfl (by decide) rfl (fun ls hl => ?_)
        refine lv_goto (tgt := 4) hx hb d_Ri_goingDays_32 (by decide) ?_
        exact ih _ _ _ _ _ _ ls hw hI (lv_sub hl [1, 2, 3, 0] rfl)
      · have hw := hw.2 hc
        refine lv_iload_n hx hb d_Ri_goingDays_23 rfl (lv_at hl 2 rfl) ?_
        refine lv_iconst (v := 1) hx hb d_Ri_goingDays_24 (by decide) ?_
        refine lv_iload_n hx hb d_Ri_goingDays_25 rfl (lv_at hl 3 rfl) ?_
        refine lv_ishl hx hb d_Ri_goingDays_26 ?_
        refine lv_ior hx hb d_Ri_goingDays_27 ?_
        refine lv_istore_n (lv' := [(2, .int (x2 ||| (1 <<< (x3 &&& 31)))), (0, .ref (a 2)), (1, .int x1), (3, .int x3)]) hx hb d_Ri_goingDays_28 rfl hl (by decide) rfl (fun ls hl => ?_)
        refine lv_iinc (v := (x3 + 1)) (lv' := [(3, .int (x3 + 1)), (2, .int (x2 ||| (1 <<< (x3 &&& 31)))), (0, .ref (a 2)), (1, .int x1)]) hx hb d_Ri_goingDays_29 hl (k := 3) rfl rfl (by decide) rfl (fun ls hl => ?_)
        refine lv_goto (tgt := 4) hx hb d_Ri_goingDays_32 (by decide) ?_
        exact ih _ _ _ _ _ _ ls hw hI (lv_sub hl [2, 3, 1, 0] rfl)
set_option maxRecDepth 100000 in
set_option maxHeartbeats 4000000 in
theorem c_Ri_goingDays (l : Launch) (dC : Nat → ClassId) (dI : Nat → Nat → Nat) (cA : ClassId) (a : Nat → Nat) (u : tS) (x1 : Int32) (post : Int32 → tS → Prop) (sz : Nat) : Met l y_Ri_goingDays ws_Ri_goingDays ({ frames := 1, cells := 0, slots := 0, locals := 21 }) (va_Pc [.ref (a 2), .int x1] (tP (dC, dI) twCl [(cA, .int)] (wdX a cA) u sz (w_Ri_goingDays post x1 u))) (va_Qi post (tB (dC, dI) twCl [(cA, .int)] (va_A (wdX a cA u) sz) (wdX a cA)) (va_A (wdX a cA u) sz)) 0 0 (va_A (wdX a cA u) sz) := by
  refine Met.ofW (cc := b_Ri_goingDays) (maxL := 4) (ret := (some .int)) (by decide) rfl ?_
  intro p e s m args below meth c s₁ B hml hv
  obtain ⟨rfl, hsz, hP, hK, hD0, hN, hw⟩ := hv
  have hx := B.exec
  have hb := B.bytes
  have hr := B.returns
  have hts : ∀ w ∈ wsA, w.before _ s = true := fun w h => atoms_spec (ws := ws_Ri_goingDays) B.pre w (List.mem_cons_of_mem _ h)
  have hown : s.vm.findClass R_Ri = some m.cls := findClass_of_methodNamed B.named
  have hlocks := B.notSynchronized
  subst hsz
  have hD := hD0.self (sz := s.heap.size)
  generalize hAe : va_A (wdX a cA u) s.heap.size = A at hD ⊢
  have hA : ∀ q : Nat, s.heap.size ≤ q → A q := fun q h => by rw [← hAe]; exact Or.inr h
  have hS : va_S A s.heap s.heap [] := va_S.rf
  have hI : tX (dC, dI) twCl [(cA, .int)] A s s.heap [] (wdX a cA u) := ⟨hK, hP, hD, hS⟩
  have hC : tC p s m meth c ([.ref (a 2), .int x1] : List Value).toArray b_Ri_goingDays 4 (some .int) wsA R_Ri A := ⟨hx, hb, hr, hml, hown, hts, hlocks, hA, hN⟩
  have hl := lv_entry ([.ref (a 2), .int x1]) (n := 4) (Nat.le_of_ble_eq_true rfl)
  rw [lg_entry_eq]
  generalize (lg_sl ([.ref (a 2), .int x1]) ++ List.replicate (4 - (lg_sl ([.ref (a 2), .int x1])).length) Slot.unset).toArray = ls at hl ⊢
  have hl : lv_has ls 4 [(0, .ref (a 2)), (1, .int x1)] := hl
  have hw : (∃ k, w_Ri_goingDays_4 post k x1 0 0 u) := hw
  refine lv_iconst (v := 0) hx hb d_Ri_goingDays_0 (by decide) ?_
  refine lv_istore_n (lv' := [(2, .int 0), (0, .ref (a 2)), (1, .int x1)]) hx hb d_Ri_goingDays_1 rfl hl (by decide) rfl (fun ls hl => ?_)
  refine lv_iconst (v := 0) hx hb d_Ri_goingDays_2 (by decide) ?_
  refine lv_istore_n (lv' := [(3, .int 0), (2, .int 0), (0, .ref (a 2)), (1, .int x1)]) hx hb d_Ri_goingDays_3 rfl hl (by decide) rfl (fun ls hl => ?_)
  obtain ⟨k, hw⟩ := hw
  exact k_Ri_goingDays_4 hC post k _ _ _ _ _ _ ls hw hI (lv_sub hl [2, 3, 1, 0] rfl)
def w_T_told (post : Int32 → tS → Prop) (x1 : Int32) (x2 : Int32) (u : tS) : Prop := (w_Ri_has (fun r8 u8 => ((r8 = 0 → (post (-2) u8)) ∧ (¬ r8 = 0 → ((x2 = 0 → (vp_in x1 40 ∧ (post (u8.2 1 x1.toNatClampNeg) u8))) ∧ (¬ x2 = 0 → ((x2 = 1 → (vp_in x1 40 ∧ (post (u8.2 2 x1.toNatClampNeg) u8))) ∧ (¬ x2 = 1 → ((x2 = 2 → (vp_in x1 40 ∧ (post (u8.2 3 x1.toNatClampNeg) u8))) ∧ (¬ x2 = 2 → ((x2 = 3 → (vp_in x1 40 ∧ (post (u8.2 4 x1.toNatClampNeg) u8))) ∧ (¬ x2 = 3 → ((x2 = 4 → (vp_in x1 40 ∧ (post (u8.2 5 x1.toNatClampNeg) u8))) ∧ (¬ x2 = 4 → ((x2 = 5 → (w_Ri_goingDays (fun r129 u129 => (post r129 u129)) x1 u8)) ∧ (¬ x2 = 5 → (post (-2) u8)))))))))))))))) x1 u)
set_option maxRecDepth 100000 in
set_option maxHeartbeats 4000000 in
theorem c_T_told (l : Launch) (dC : Nat → ClassId) (dI : Nat → Nat → Nat) (cA : ClassId) (a : Nat → Nat) (u : tS) (x1 : Int32) (x2 : Int32) (post : Int32 → tS → Prop) (sz : Nat) : Met l y_T_told ws_T_told ({ frames := 2, cells := 0, slots := 0, locals := 44 }) (va_Pc [.ref (a 0), .int x1, .int x2] (tP (dC, dI) twCl [(cA, .int)] (wdX a cA) u sz (w_T_told post x1 x2 u))) (va_Qi post (tB (dC, dI) twCl [(cA, .int)] (va_A (wdX a cA u) sz) (wdX a cA)) (va_A (wdX a cA u) sz)) 0 0 (va_A (wdX a cA u) sz) := by
  refine Met.ofW (cc := b_T_told) (maxL := 3) (ret := (some .int)) (by decide) rfl ?_
  intro p e s m args below meth c s₁ B hml hv
  obtain ⟨rfl, hsz, hP, hK, hD0, hN, hw⟩ := hv
  have hx := B.exec
  have hb := B.bytes
  have hr := B.returns
  have hts : ∀ w ∈ wsA, w.before _ s = true := fun w h => atoms_spec (ws := ws_T_told) B.pre w (List.mem_cons_of_mem _ h)
  have hown : s.vm.findClass R_T = some m.cls := findClass_of_methodNamed B.named
  have hlocks := B.notSynchronized
  subst hsz
  have hD := hD0.self (sz := s.heap.size)
  generalize hAe : va_A (wdX a cA u) s.heap.size = A at hD ⊢
  have hA : ∀ q : Nat, s.heap.size ≤ q → A q := fun q h => by rw [← hAe]; exact Or.inr h
  have hS : va_S A s.heap s.heap [] := va_S.rf
  have hI : tX (dC, dI) twCl [(cA, .int)] A s s.heap [] (wdX a cA u) := ⟨hK, hP, hD, hS⟩
  have hC : tC p s m meth c ([.ref (a 0), .int x1, .int x2] : List Value).toArray b_T_told 3 (some .int) wsA R_T A := ⟨hx, hb, hr, hml, hown, hts, hlocks, hA, hN⟩
  have hl := lv_entry ([.ref (a 0), .int x1, .int x2]) (n := 3) (Nat.le_of_ble_eq_true rfl)
  rw [lg_entry_eq]
  generalize (lg_sl ([.ref (a 0), .int x1, .int x2]) ++ List.replicate (3 - (lg_sl ([.ref (a 0), .int x1, .int x2])).length) Slot.unset).toArray = ls at hl ⊢
  have hl : lv_has ls 3 [(0, .ref (a 0)), (1, .int x1), (2, .int x2)] := hl
  have hw : (w_Ri_has (fun r8 u8 => ((r8 = 0 → (post (-2) u8)) ∧ (¬ r8 = 0 → ((x2 = 0 → (vp_in x1 40 ∧ (post (u8.2 1 x1.toNatClampNeg) u8))) ∧ (¬ x2 = 0 → ((x2 = 1 → (vp_in x1 40 ∧ (post (u8.2 2 x1.toNatClampNeg) u8))) ∧ (¬ x2 = 1 → ((x2 = 2 → (vp_in x1 40 ∧ (post (u8.2 3 x1.toNatClampNeg) u8))) ∧ (¬ x2 = 2 → ((x2 = 3 → (vp_in x1 40 ∧ (post (u8.2 4 x1.toNatClampNeg) u8))) ∧ (¬ x2 = 3 → ((x2 = 4 → (vp_in x1 40 ∧ (post (u8.2 5 x1.toNatClampNeg) u8))) ∧ (¬ x2 = 4 → ((x2 = 5 → (w_Ri_goingDays (fun r129 u129 => (post r129 u129)) x1 u8)) ∧ (¬ x2 = 5 → (post (-2) u8)))))))))))))))) x1 u) := hw
  refine lv_aload_n hx hb d_T_told_0 rfl (lv_at hl 0 rfl) ?_
  refine va_get (D := (dC, dI)) (C := R_T) (T := F_T) (N := 6) hx hb hts in_T hown hI.1 hI.2.1 0 (wdX_o0 a cA _) rfl 0 (by decide) (hts _ wA_264) (fun _ h9 => h9) rfl d_T_told_1 ?_
  refine va_get (D := (dC, dI)) (C := R_Ne) (T := F_Ne) (N := 5) hx hb hts in_Ne hown hI.1 hI.2.1 1 (wdX_o1 a cA _) rfl 2 (by decide) (hts _ wA_167) (fun _ h9 => h9) rfl d_T_told_4 ?_
  refine lv_iload_n hx hb d_T_told_7 rfl (lv_at hl 1 rfl) ?_
  refine tr_goi (w := wdX a cA) hI hA (va_runV (As := [.int x1]) (rest := []) ⟨hx, hb, hml, hown, hts⟩ (c_Ri_has l dC dI cA a _ _ _ _) (cwV 1 hts (wsA_goodV wA_375 wA_376 wA_377 wA_32 wA_378) rfl rfl rfl (by decide +kernel) ⟨Nat.le_of_ble_eq_true rfl, Nat.le_of_ble_eq_true rfl⟩) (tr_preV (ci := 2) (q0 := 2) hI rfl (wdX_o2 a cA _) rfl hN hw) rfl rfl hl.1 rfl (lv_room (Nat.le_of_ble_eq_true rfl)) d_T_told_8 ⟨Nat.zero_le _, Nat.zero_le _⟩) (fun r8 u8 H locs hw hI => ?_)
  refine lv_if_ne (tgt := 17) hx hb d_T_told_11 (by decide) (fun hc => ?_) (fun hc => ?_)
  · have hw := hw.2 hc
    refine lv_iload_n hx hb d_T_told_17 rfl (lv_at hl 2 rfl) ?_
    by_cases hc0 : x2 = 0
    · have hw := hw.1 hc0
      refine lv_tableIn (tgt := 56) hx hb d_T_told_18 (by rw [hc0]; decide) (by rw [hc0]; decide) (by rw [hc0]; rfl) (by decide) ?_
      refine lv_aload_n hx hb d_T_told_56 rfl (lv_at hl 0 rfl) ?_
      refine va_get (D := (dC, dI)) (C := R_T) (T := F_T) (N := 6) hx hb hts in_T hown hI.1 hI.2.1 0 (wdX_o0 a cA _) rfl 0 (by decide) (hts _ wA_264) (fun _ h9 => h9) rfl d_T_told_57 ?_
      refine va_get (D := (dC, dI)) (C := R_Ne) (T := F_Ne) (N := 5) hx hb hts in_Ne hown hI.1 hI.2.1 1 (wdX_o1 a cA _) rfl 2 (by decide) (hts _ wA_167) (fun _ h9 => h9) rfl d_T_told_60 ?_
      refine va_get (D := (dC, dI)) (C := R_Ri) (T := F_Ri) (N := 7) hx hb hts in_Ri hown hI.1 hI.2.1 2 (wdX_o2 a cA _) rfl 1 (by decide) (hts _ wA_72) (fun _ h9 => h9) rfl d_T_told_63 ?_
      refine lv_iload_n hx hb d_T_told_66 rfl (lv_at hl 1 rfl) ?_
      obtain ⟨hi, hw⟩ := hw
      refine va_iald (D := (dC, dI)) hx hb hI.1 hI.2.1 11 0 (wdX_o11 a cA _) rfl hi d_T_told_67 ?_
      exact tr_iret hx hb hr hlocks hI hw d_T_told_68
    · have hw := hw.2 hc0
      by_cases hc1 : x2 = 1
      · have hw := hw.1 hc1
        refine lv_tableIn (tgt := 69) hx hb d_T_told_18 (by rw [hc1]; decide) (by rw [hc1]; decide) (by rw [hc1]; rfl) (by decide) ?_
        refine lv_aload_n hx hb d_T_told_69 rfl (lv_at hl 0 rfl) ?_
        refine va_get (D := (dC, dI)) (C := R_T) (T := F_T) (N := 6) hx hb hts in_T hown hI.1 hI.2.1 0 (wdX_o0 a cA _) rfl 0 (by decide) (hts _ wA_264) (fun _ h9 => h9) rfl d_T_told_70 ?_
        refine va_get (D := (dC, dI)) (C := R_Ne) (T := F_Ne) (N := 5) hx hb hts in_Ne hown hI.1 hI.2.1 1 (wdX_o1 a cA _) rfl 2 (by decide) (hts _ wA_167) (fun _ h9 => h9) rfl d_T_told_73 ?_
        refine va_get (D := (dC, dI)) (C := R_Ri) (T := F_Ri) (N := 7) hx hb hts in_Ri hown hI.1 hI.2.1 2 (wdX_o2 a cA _) rfl 2 (by decide) (hts _ wA_76) (fun _ h9 => h9) rfl d_T_told_76 ?_
        refine lv_iload_n hx hb d_T_told_79 rfl (lv_at hl 1 rfl) ?_
        obtain ⟨hi, hw⟩ := hw
        refine va_iald (D := (dC, dI)) hx hb hI.1 hI.2.1 12 0 (wdX_o12 a cA _) rfl hi d_T_told_80 ?_
        exact tr_iret hx hb hr hlocks hI hw d_T_told_81
      · have hw := hw.2 hc1
        by_cases hc2 : x2 = 2
        · have hw := hw.1 hc2
          refine lv_tableIn (tgt := 82) hx hb d_T_told_18 (by rw [hc2]; decide) (by rw [hc2]; decide) (by rw [hc2]; rfl) (by decide) ?_
          refine lv_aload_n hx hb d_T_told_82 rfl (lv_at hl 0 rfl) ?_
          refine va_get (D := (dC, dI)) (C := R_T) (T := F_T) (N := 6) hx hb hts in_T hown hI.1 hI.2.1 0 (wdX_o0 a cA _) rfl 0 (by decide) (hts _ wA_264) (fun _ h9 => h9) rfl d_T_told_83 ?_
          refine va_get (D := (dC, dI)) (C := R_Ne) (T := F_Ne) (N := 5) hx hb hts in_Ne hown hI.1 hI.2.1 1 (wdX_o1 a cA _) rfl 2 (by decide) (hts _ wA_167) (fun _ h9 => h9) rfl d_T_told_86 ?_
          refine va_get (D := (dC, dI)) (C := R_Ri) (T := F_Ri) (N := 7) hx hb hts in_Ri hown hI.1 hI.2.1 2 (wdX_o2 a cA _) rfl 3 (by decide) (hts _ wA_78) (fun _ h9 => h9) rfl d_T_told_89 ?_
          refine lv_iload_n hx hb d_T_told_92 rfl (lv_at hl 1 rfl) ?_
          obtain ⟨hi, hw⟩ := hw
          refine va_iald (D := (dC, dI)) hx hb hI.1 hI.2.1 13 0 (wdX_o13 a cA _) rfl hi d_T_told_93 ?_
          exact tr_iret hx hb hr hlocks hI hw d_T_told_94
        · have hw := hw.2 hc2
          by_cases hc3 : x2 = 3
          · have hw := hw.1 hc3
            refine lv_tableIn (tgt := 95) hx hb d_T_told_18 (by rw [hc3]; decide) (by rw [hc3]; decide) (by rw [hc3]; rfl) (by decide) ?_
            refine lv_aload_n hx hb d_T_told_95 rfl (lv_at hl 0 rfl) ?_
            refine va_get (D := (dC, dI)) (C := R_T) (T := F_T) (N := 6) hx hb hts in_T hown hI.1 hI.2.1 0 (wdX_o0 a cA _) rfl 0 (by decide) (hts _ wA_264) (fun _ h9 => h9) rfl d_T_told_96 ?_
            refine va_get (D := (dC, dI)) (C := R_Ne) (T := F_Ne) (N := 5) hx hb hts in_Ne hown hI.1 hI.2.1 1 (wdX_o1 a cA _) rfl 2 (by decide) (hts _ wA_167) (fun _ h9 => h9) rfl d_T_told_99 ?_
            refine va_get (D := (dC, dI)) (C := R_Ri) (T := F_Ri) (N := 7) hx hb hts in_Ri hown hI.1 hI.2.1 2 (wdX_o2 a cA _) rfl 4 (by decide) (hts _ wA_83) (fun _ h9 => h9) rfl d_T_told_102 ?_
            refine lv_iload_n hx hb d_T_told_105 rfl (lv_at hl 1 rfl) ?_
            obtain ⟨hi, hw⟩ := hw
            refine va_iald (D := (dC, dI)) hx hb hI.1 hI.2.1 14 0 (wdX_o14 a cA _) rfl hi d_T_told_106 ?_
            exact tr_iret hx hb hr hlocks hI hw d_T_told_107
          · have hw := hw.2 hc3
            by_cases hc4 : x2 = 4
            · have hw := hw.1 hc4
              refine lv_tableIn (tgt := 108) hx hb d_T_told_18 (by rw [hc4]; decide) (by rw [hc4]; decide) (by rw [hc4]; rfl) (by decide) ?_
              refine lv_aload_n hx hb d_T_told_108 rfl (lv_at hl 0 rfl) ?_
              refine va_get (D := (dC, dI)) (C := R_T) (T := F_T) (N := 6) hx hb hts in_T hown hI.1 hI.2.1 0 (wdX_o0 a cA _) rfl 0 (by decide) (hts _ wA_264) (fun _ h9 => h9) rfl d_T_told_109 ?_
              refine va_get (D := (dC, dI)) (C := R_Ne) (T := F_Ne) (N := 5) hx hb hts in_Ne hown hI.1 hI.2.1 1 (wdX_o1 a cA _) rfl 2 (by decide) (hts _ wA_167) (fun _ h9 => h9) rfl d_T_told_112 ?_
              refine va_get (D := (dC, dI)) (C := R_Ri) (T := F_Ri) (N := 7) hx hb hts in_Ri hown hI.1 hI.2.1 2 (wdX_o2 a cA _) rfl 5 (by decide) (hts _ wA_85) (fun _ h9 => h9) rfl d_T_told_115 ?_
              refine lv_iload_n hx hb d_T_told_118 rfl (lv_at hl 1 rfl) ?_
              obtain ⟨hi, hw⟩ := hw
              refine va_iald (D := (dC, dI)) hx hb hI.1 hI.2.1 15 0 (wdX_o15 a cA _) rfl hi d_T_told_119 ?_
              exact tr_iret hx hb hr hlocks hI hw d_T_told_120
            · have hw := hw.2 hc4
              by_cases hc5 : x2 = 5
              · have hw := hw.1 hc5
                refine lv_tableIn (tgt := 121) hx hb d_T_told_18 (by rw [hc5]; decide) (by rw [hc5]; decide) (by rw [hc5]; rfl) (by decide) ?_
                refine lv_aload_n hx hb d_T_told_121 rfl (lv_at hl 0 rfl) ?_
                refine va_get (D := (dC, dI)) (C := R_T) (T := F_T) (N := 6) hx hb hts in_T hown hI.1 hI.2.1 0 (wdX_o0 a cA _) rfl 0 (by decide) (hts _ wA_264) (fun _ h9 => h9) rfl d_T_told_122 ?_
                refine va_get (D := (dC, dI)) (C := R_Ne) (T := F_Ne) (N := 5) hx hb hts in_Ne hown hI.1 hI.2.1 1 (wdX_o1 a cA _) rfl 2 (by decide) (hts _ wA_167) (fun _ h9 => h9) rfl d_T_told_125 ?_
                refine lv_iload_n hx hb d_T_told_128 rfl (lv_at hl 1 rfl) ?_
                refine tr_goi (w := wdX a cA) hI hA (va_runV (As := [.int x1]) (rest := []) ⟨hx, hb, hml, hown, hts⟩ (c_Ri_goingDays l dC dI cA a _ _ _ _) (cwV 1 hts (wsA_goodV wA_570 wA_571 wA_572 wA_32 wA_573) rfl rfl rfl (by decide +kernel) ⟨Nat.le_of_ble_eq_true rfl, Nat.le_of_ble_eq_true rfl⟩) (tr_preV (ci := 2) (q0 := 2) hI rfl (wdX_o2 a cA _) rfl hN hw) rfl rfl hl.1 rfl (lv_room (Nat.le_of_ble_eq_true rfl)) d_T_told_129 ⟨Nat.zero_le _, Nat.zero_le _⟩) (fun r129 u129 H locs hw hI => ?_)
                exact tr_iret hx hb hr hlocks hI hw d_T_told_132
              · have hw := hw.2 hc5
                refine lv_tableOut (tgt := 133) hx hb d_T_told_18 (tab_out6 hc0 hc1 hc2 hc3 hc4 hc5) (by decide) ?_
                refine lv_bipush (v := (-2)) hx hb d_T_told_133 (by decide) ?_
                exact tr_iret hx hb hr hlocks hI hw d_T_told_135
  · have hw := hw.1 hc
    refine lv_bipush (v := (-2)) hx hb d_T_told_14 (by decide) ?_
    exact tr_iret hx hb hr hlocks hI hw d_T_told_16
def w_Bo_countLate_4 (post : Int32 → tS → Prop) : Nat → Int32 → Int32 → tS → Prop
  | 0 => fun _ _ _ => False
  | n + 1 => fun x2 x3 u => (((u.1 2) ≤ x3 → (post x2 u)) ∧ (¬ (u.1 2) ≤ x3 → (vp_in x3 280 ∧ (vp_in (u.2 7 x3.toNatClampNeg) 280 ∧ (((u.2 6 (u.2 7 x3.toNatClampNeg).toNatClampNeg) ≤ 0 → (w_Bo_countLate_4 post n x2 (x3 + 1) u)) ∧ (¬ (u.2 6 (u.2 7 x3.toNatClampNeg).toNatClampNeg) ≤ 0 → (w_Bo_countLate_4 post n (x2 + 1) (x3 + 1) u)))))))
def w_Bo_countLate (post : Int32 → tS → Prop) (u : tS) : Prop := (∃ k, w_Bo_countLate_4 post k 0 0 u)
set_option maxRecDepth 100000 in
set_option maxHeartbeats 4000000 in
theorem k_Bo_countLate_4 {p : Program} {l : Launch} {e : Env} {s : State} {m : MethodId} {args : Array Value} {below : List Frame} {meth : Method} {c : Code} {dC : Nat → ClassId} {dI : Nat → Nat → Nat} {cA : ClassId} {a : Nat → Nat} {A : Nat → Prop} (hC : tC p s m meth c args b_Bo_countLate 4 (some .int) wsA R_Bo A) (post : Int32 → tS → Prop) : ∀ n : Nat, ∀ (x2 x3 : Int32) (u : tS) (H : Heap) (locs : List Loc) (ls : Array Slot), w_Bo_countLate_4 post n x2 x3 u → tX (dC, dI) twCl [(cA, .int)] A s H locs (wdX a cA u) → lv_has ls 4 [(0, .ref (a 3)), (1, .ref (a 2)), (2, .int x2), (3, .int x3)] → W p l e ({ frames := 0, cells := 0, slots := 0, locals := 0 }) s m args below meth c H locs 0 0 (MQ below (va_Qi post (tB (dC, dI) twCl [(cA, .int)] A (wdX a cA)) A) args s 0 0 A) (F0 m 4 ls []) := by
  obtain ⟨hx, hb, hr, hml, hown, hts, hlocks, hA, hN⟩ := id hC
  intro n
  induction n with
  | zero => intro x2 x3 u H locs ls hw; exact False.elim hw
  | succ n ih =>
    intro x2 x3 u H locs ls hw hI hl
    refine lv_iload_n hx hb d_Bo_countLate_4 rfl (lv_at hl 3 rfl) ?_
    refine lv_aload_n hx hb d_Bo_countLate_5 rfl (lv_at hl 0 rfl) ?_
    refine va_get (D := (dC, dI)) (C := R_Bo) (T := F_Bo) (N := 3) hx hb hts in_Bo hown hI.1 hI.2.1 3 (wdX_o3 a cA _) rfl 0 (by decide) (hts _ wA_111) (fun _ h9 => h9) rfl d_Bo_countLate_6 ?_
    refine lv_icmp_ge (tgt := 35) hx hb d_Bo_countLate_9 (by decide) (fun hc => ?_) (fun hc => ?_)
    · have hw := hw.1 hc
      refine lv_iload_n hx hb d_Bo_countLate_35 rfl (lv_at hl 2 rfl) ?_
      exact tr_iret hx hb hr hlocks hI hw d_Bo_countLate_36
    · have hw := hw.2 hc
      refine lv_aload_n hx hb d_Bo_countLate_12 rfl (lv_at hl 1 rfl) ?_
      refine va_get (D := (dC, dI)) (C := R_Ri) (T := F_Ri) (N := 7) hx hb hts in_Ri hown hI.1 hI.2.1 2 (wdX_o2 a cA _) rfl 6 (by decide) (hts _ wA_88) (fun _ h9 => h9) rfl d_Bo_countLate_13 ?_
      refine lv_aload_n hx hb d_Bo_countLate_16 rfl (lv_at hl 0 rfl) ?_
      refine va_get (D := (dC, dI)) (C := R_Bo) (T := F_Bo) (N := 3) hx hb hts in_Bo hown hI.1 hI.2.1 3 (wdX_o3 a cA _) rfl 1 (by decide) (hts _ wA_116) (fun _ h9 => h9) rfl d_Bo_countLate_17 ?_
      refine lv_iload_n hx hb d_Bo_countLate_20 rfl (lv_at hl 3 rfl) ?_
      obtain ⟨hi, hw⟩ := hw
      refine va_iald (D := (dC, dI)) hx hb hI.1 hI.2.1 17 0 (wdX_o17 a cA _) rfl hi d_Bo_countLate_21 ?_
      obtain ⟨hi, hw⟩ := hw
      refine va_iald (D := (dC, dI)) hx hb hI.1 hI.2.1 16 0 (wdX_o16 a cA _) rfl hi d_Bo_countLate_22 ?_
      refine lv_if_le (tgt := 29) hx hb d_Bo_countLate_23 (by decide) (fun hc => ?_) (fun hc => ?_)
      · have hw := hw.1 hc
        refine lv_iinc (v := (x3 + 1)) (lv' := [(3, .int (x3 + 1)), (0, .ref (a 3)), (1, .ref (a 2)), (2, .int x2)]) hx hb d_Bo_countLate_29 hl (k := 3) rfl rfl (by decide) rfl (fun ls hl => ?_)
        refine lv_goto (tgt := 4) hx hb d_Bo_countLate_32 (by decide) ?_
        exact ih _ _ _ _ _ ls hw hI (lv_sub hl [1, 2, 3, 0] rfl)
      · have hw := hw.2 hc
        refine lv_iinc (v := (x2 + 1)) (lv' := [(2, .int (x2 + 1)), (0, .ref (a 3)), (1, .ref (a 2)), (3, .int x3)]) hx hb d_Bo_countLate_26 hl (k := 2) rfl rfl (by decide) rfl (fun ls hl => ?_)
        refine lv_iinc (v := (x3 + 1)) (lv' := [(3, .int (x3 + 1)), (2, .int (x2 + 1)), (0, .ref (a 3)), (1, .ref (a 2))]) hx hb d_Bo_countLate_29 hl (k := 3) rfl rfl (by decide) rfl (fun ls hl => ?_)
        refine lv_goto (tgt := 4) hx hb d_Bo_countLate_32 (by decide) ?_
        exact ih _ _ _ _ _ ls hw hI (lv_sub hl [2, 3, 1, 0] rfl)
set_option maxRecDepth 100000 in
set_option maxHeartbeats 4000000 in
theorem c_Bo_countLate (l : Launch) (dC : Nat → ClassId) (dI : Nat → Nat → Nat) (cA : ClassId) (a : Nat → Nat) (u : tS) (post : Int32 → tS → Prop) (sz : Nat) : Met l y_Bo_countLate ws_Bo_countLate ({ frames := 0, cells := 0, slots := 0, locals := 0 }) (va_Pc [.ref (a 3), .ref (a 2)] (tP (dC, dI) twCl [(cA, .int)] (wdX a cA) u sz (w_Bo_countLate post u))) (va_Qi post (tB (dC, dI) twCl [(cA, .int)] (va_A (wdX a cA u) sz) (wdX a cA)) (va_A (wdX a cA u) sz)) 0 0 (va_A (wdX a cA u) sz) := by
  refine Met.ofW (cc := b_Bo_countLate) (maxL := 4) (ret := (some .int)) (by decide) rfl ?_
  intro p e s m args below meth c s₁ B hml hv
  obtain ⟨rfl, hsz, hP, hK, hD0, hN, hw⟩ := hv
  have hx := B.exec
  have hb := B.bytes
  have hr := B.returns
  have hts : ∀ w ∈ wsA, w.before _ s = true := fun w h => atoms_spec (ws := ws_Bo_countLate) B.pre w (List.mem_cons_of_mem _ h)
  have hown : s.vm.findClass R_Bo = some m.cls := findClass_of_methodNamed B.named
  have hlocks := B.notSynchronized
  subst hsz
  have hD := hD0.self (sz := s.heap.size)
  generalize hAe : va_A (wdX a cA u) s.heap.size = A at hD ⊢
  have hA : ∀ q : Nat, s.heap.size ≤ q → A q := fun q h => by rw [← hAe]; exact Or.inr h
  have hS : va_S A s.heap s.heap [] := va_S.rf
  have hI : tX (dC, dI) twCl [(cA, .int)] A s s.heap [] (wdX a cA u) := ⟨hK, hP, hD, hS⟩
  have hC : tC p s m meth c ([.ref (a 3), .ref (a 2)] : List Value).toArray b_Bo_countLate 4 (some .int) wsA R_Bo A := ⟨hx, hb, hr, hml, hown, hts, hlocks, hA, hN⟩
  have hl := lv_entry ([.ref (a 3), .ref (a 2)]) (n := 4) (Nat.le_of_ble_eq_true rfl)
  rw [lg_entry_eq]
  generalize (lg_sl ([.ref (a 3), .ref (a 2)]) ++ List.replicate (4 - (lg_sl ([.ref (a 3), .ref (a 2)])).length) Slot.unset).toArray = ls at hl ⊢
  have hl : lv_has ls 4 [(0, .ref (a 3)), (1, .ref (a 2))] := hl
  have hw : (∃ k, w_Bo_countLate_4 post k 0 0 u) := hw
  refine lv_iconst (v := 0) hx hb d_Bo_countLate_0 (by decide) ?_
  refine lv_istore_n (lv' := [(2, .int 0), (0, .ref (a 3)), (1, .ref (a 2))]) hx hb d_Bo_countLate_1 rfl hl (by decide) rfl (fun ls hl => ?_)
  refine lv_iconst (v := 0) hx hb d_Bo_countLate_2 (by decide) ?_
  refine lv_istore_n (lv' := [(3, .int 0), (2, .int 0), (0, .ref (a 3)), (1, .ref (a 2))]) hx hb d_Bo_countLate_3 rfl hl (by decide) rfl (fun ls hl => ?_)
  obtain ⟨k, hw⟩ := hw
  exact k_Bo_countLate_4 hC post k _ _ _ _ _ ls hw hI (lv_sub hl [2, 3, 1, 0] rfl)
end
section
def w_T_of (post : Int32 → tS → Prop) (x1 : Int32) (u : tS) : Prop := ((x1 = 0 → (post (u.1 0) u)) ∧ (¬ x1 = 0 → ((x1 = 1 → (post (u.1 1) u)) ∧ (¬ x1 = 1 → ((x1 = 2 → (post (u.1 3) u)) ∧ (¬ x1 = 2 → ((x1 = 3 → (post (u.1 2) u)) ∧ (¬ x1 = 3 → ((x1 = 4 → (w_Bo_countLate (fun r91 u91 => (post r91 u91)) u)) ∧ (¬ x1 = 4 → (post (-2) u)))))))))))
set_option maxRecDepth 100000 in
set_option maxHeartbeats 4000000 in
theorem c_T_of (l : Launch) (dC : Nat → ClassId) (dI : Nat → Nat → Nat) (cA : ClassId) (a : Nat → Nat) (u : tS) (x1 : Int32) (post : Int32 → tS → Prop) (sz : Nat) : Met l y_T_of ws_T_of ({ frames := 1, cells := 0, slots := 0, locals := 23 }) (va_Pc [.ref (a 0), .int x1] (tP (dC, dI) twCl [(cA, .int)] (wdX a cA) u sz (w_T_of post x1 u))) (va_Qi post (tB (dC, dI) twCl [(cA, .int)] (va_A (wdX a cA u) sz) (wdX a cA)) (va_A (wdX a cA u) sz)) 0 0 (va_A (wdX a cA u) sz) := by
  refine Met.ofW (cc := b_T_of) (maxL := 2) (ret := (some .int)) (by decide) rfl ?_
  intro p e s m args below meth c s₁ B hml hv
  obtain ⟨rfl, hsz, hP, hK, hD0, hN, hw⟩ := hv
  have hx := B.exec
  have hb := B.bytes
  have hr := B.returns
  have hts : ∀ w ∈ wsA, w.before _ s = true := fun w h => atoms_spec (ws := ws_T_of) B.pre w (List.mem_cons_of_mem _ h)
  have hown : s.vm.findClass R_T = some m.cls := findClass_of_methodNamed B.named
  have hlocks := B.notSynchronized
  subst hsz
  have hD := hD0.self (sz := s.heap.size)
  generalize hAe : va_A (wdX a cA u) s.heap.size = A at hD ⊢
  have hA : ∀ q : Nat, s.heap.size ≤ q → A q := fun q h => by rw [← hAe]; exact Or.inr h
  have hS : va_S A s.heap s.heap [] := va_S.rf
  have hI : tX (dC, dI) twCl [(cA, .int)] A s s.heap [] (wdX a cA u) := ⟨hK, hP, hD, hS⟩
  have hC : tC p s m meth c ([.ref (a 0), .int x1] : List Value).toArray b_T_of 2 (some .int) wsA R_T A := ⟨hx, hb, hr, hml, hown, hts, hlocks, hA, hN⟩
  have hl := lv_entry ([.ref (a 0), .int x1]) (n := 2) (Nat.le_of_ble_eq_true rfl)
  rw [lg_entry_eq]
  generalize (lg_sl ([.ref (a 0), .int x1]) ++ List.replicate (2 - (lg_sl ([.ref (a 0), .int x1])).length) Slot.unset).toArray = ls at hl ⊢
  have hl : lv_has ls 2 [(0, .ref (a 0)), (1, .int x1)] := hl
  have hw : ((x1 = 0 → (post (u.1 0) u)) ∧ (¬ x1 = 0 → ((x1 = 1 → (post (u.1 1) u)) ∧ (¬ x1 = 1 → ((x1 = 2 → (post (u.1 3) u)) ∧ (¬ x1 = 2 → ((x1 = 3 → (post (u.1 2) u)) ∧ (¬ x1 = 3 → ((x1 = 4 → (w_Bo_countLate (fun r91 u91 => (post r91 u91)) u)) ∧ (¬ x1 = 4 → (post (-2) u))))))))))) := hw
  refine lv_iload_n hx hb d_T_of_0 rfl (lv_at hl 1 rfl) ?_
  by_cases hc0 : x1 = 0
  · have hw := hw.1 hc0
    refine lv_tableIn (tgt := 36) hx hb d_T_of_1 (by rw [hc0]; decide) (by rw [hc0]; decide) (by rw [hc0]; rfl) (by decide) ?_
    refine lv_aload_n hx hb d_T_of_36 rfl (lv_at hl 0 rfl) ?_
    refine va_get (D := (dC, dI)) (C := R_T) (T := F_T) (N := 6) hx hb hts in_T hown hI.1 hI.2.1 0 (wdX_o0 a cA _) rfl 0 (by decide) (hts _ wA_264) (fun _ h9 => h9) rfl d_T_of_37 ?_
    refine va_get (D := (dC, dI)) (C := R_Ne) (T := F_Ne) (N := 5) hx hb hts in_Ne hown hI.1 hI.2.1 1 (wdX_o1 a cA _) rfl 0 (by decide) (hts _ wA_161) (fun _ h9 => h9) rfl d_T_of_40 ?_
    exact tr_iret hx hb hr hlocks hI hw d_T_of_43
  · have hw := hw.2 hc0
    by_cases hc1 : x1 = 1
    · have hw := hw.1 hc1
      refine lv_tableIn (tgt := 44) hx hb d_T_of_1 (by rw [hc1]; decide) (by rw [hc1]; decide) (by rw [hc1]; rfl) (by decide) ?_
      refine lv_aload_n hx hb d_T_of_44 rfl (lv_at hl 0 rfl) ?_
      refine va_get (D := (dC, dI)) (C := R_T) (T := F_T) (N := 6) hx hb hts in_T hown hI.1 hI.2.1 0 (wdX_o0 a cA _) rfl 0 (by decide) (hts _ wA_264) (fun _ h9 => h9) rfl d_T_of_45 ?_
      refine va_get (D := (dC, dI)) (C := R_Ne) (T := F_Ne) (N := 5) hx hb hts in_Ne hown hI.1 hI.2.1 1 (wdX_o1 a cA _) rfl 2 (by decide) (hts _ wA_167) (fun _ h9 => h9) rfl d_T_of_48 ?_
      refine va_get (D := (dC, dI)) (C := R_Ri) (T := F_Ri) (N := 7) hx hb hts in_Ri hown hI.1 hI.2.1 2 (wdX_o2 a cA _) rfl 0 (by decide) (hts _ wA_64) (fun _ h9 => h9) rfl d_T_of_51 ?_
      exact tr_iret hx hb hr hlocks hI hw d_T_of_54
    · have hw := hw.2 hc1
      by_cases hc2 : x1 = 2
      · have hw := hw.1 hc2
        refine lv_tableIn (tgt := 55) hx hb d_T_of_1 (by rw [hc2]; decide) (by rw [hc2]; decide) (by rw [hc2]; rfl) (by decide) ?_
        refine lv_aload_n hx hb d_T_of_55 rfl (lv_at hl 0 rfl) ?_
        refine va_get (D := (dC, dI)) (C := R_T) (T := F_T) (N := 6) hx hb hts in_T hown hI.1 hI.2.1 0 (wdX_o0 a cA _) rfl 0 (by decide) (hts _ wA_264) (fun _ h9 => h9) rfl d_T_of_56 ?_
        refine va_get (D := (dC, dI)) (C := R_Ne) (T := F_Ne) (N := 5) hx hb hts in_Ne hown hI.1 hI.2.1 1 (wdX_o1 a cA _) rfl 4 (by decide) (hts _ wA_179) (fun _ h9 => h9) rfl d_T_of_59 ?_
        refine va_get (D := (dC, dI)) (C := R_Wa) (T := F_Wa) (N := 5) hx hb hts in_Wa hown hI.1 hI.2.1 4 (wdX_o4 a cA _) rfl 0 (by decide) (hts _ wA_138) (fun _ h9 => h9) rfl d_T_of_62 ?_
        exact tr_iret hx hb hr hlocks hI hw d_T_of_65
      · have hw := hw.2 hc2
        by_cases hc3 : x1 = 3
        · have hw := hw.1 hc3
          refine lv_tableIn (tgt := 66) hx hb d_T_of_1 (by rw [hc3]; decide) (by rw [hc3]; decide) (by rw [hc3]; rfl) (by decide) ?_
          refine lv_aload_n hx hb d_T_of_66 rfl (lv_at hl 0 rfl) ?_
          refine va_get (D := (dC, dI)) (C := R_T) (T := F_T) (N := 6) hx hb hts in_T hown hI.1 hI.2.1 0 (wdX_o0 a cA _) rfl 0 (by decide) (hts _ wA_264) (fun _ h9 => h9) rfl d_T_of_67 ?_
          refine va_get (D := (dC, dI)) (C := R_Ne) (T := F_Ne) (N := 5) hx hb hts in_Ne hown hI.1 hI.2.1 1 (wdX_o1 a cA _) rfl 3 (by decide) (hts _ wA_173) (fun _ h9 => h9) rfl d_T_of_70 ?_
          refine va_get (D := (dC, dI)) (C := R_Bo) (T := F_Bo) (N := 3) hx hb hts in_Bo hown hI.1 hI.2.1 3 (wdX_o3 a cA _) rfl 0 (by decide) (hts _ wA_115) (fun _ h9 => h9) rfl d_T_of_73 ?_
          exact tr_iret hx hb hr hlocks hI hw d_T_of_76
        · have hw := hw.2 hc3
          by_cases hc4 : x1 = 4
          · have hw := hw.1 hc4
            refine lv_tableIn (tgt := 77) hx hb d_T_of_1 (by rw [hc4]; decide) (by rw [hc4]; decide) (by rw [hc4]; rfl) (by decide) ?_
            refine lv_aload_n hx hb d_T_of_77 rfl (lv_at hl 0 rfl) ?_
            refine va_get (D := (dC, dI)) (C := R_T) (T := F_T) (N := 6) hx hb hts in_T hown hI.1 hI.2.1 0 (wdX_o0 a cA _) rfl 0 (by decide) (hts _ wA_264) (fun _ h9 => h9) rfl d_T_of_78 ?_
            refine va_get (D := (dC, dI)) (C := R_Ne) (T := F_Ne) (N := 5) hx hb hts in_Ne hown hI.1 hI.2.1 1 (wdX_o1 a cA _) rfl 3 (by decide) (hts _ wA_173) (fun _ h9 => h9) rfl d_T_of_81 ?_
            refine lv_aload_n hx hb d_T_of_84 rfl (lv_at hl 0 rfl) ?_
            refine va_get (D := (dC, dI)) (C := R_T) (T := F_T) (N := 6) hx hb hts in_T hown hI.1 hI.2.1 0 (wdX_o0 a cA _) rfl 0 (by decide) (hts _ wA_264) (fun _ h9 => h9) rfl d_T_of_85 ?_
            refine va_get (D := (dC, dI)) (C := R_Ne) (T := F_Ne) (N := 5) hx hb hts in_Ne hown hI.1 hI.2.1 1 (wdX_o1 a cA _) rfl 2 (by decide) (hts _ wA_167) (fun _ h9 => h9) rfl d_T_of_88 ?_
            refine tr_goi (w := wdX a cA) hI hA (va_runV (As := [.ref (a 2)]) (rest := []) ⟨hx, hb, hml, hown, hts⟩ (c_Bo_countLate l dC dI cA a _ _ _) (cwV 1 hts (wsA_goodV wA_579 wA_580 wA_581 wA_33 wA_582) rfl rfl rfl (by decide +kernel) ⟨Nat.le_of_ble_eq_true rfl, Nat.le_of_ble_eq_true rfl⟩) (tr_preV (ci := 3) (q0 := 3) hI rfl (wdX_o3 a cA _) rfl hN hw) rfl rfl hl.1 rfl (lv_room (Nat.le_of_ble_eq_true rfl)) d_T_of_91 ⟨Nat.zero_le _, Nat.zero_le _⟩) (fun r91 u91 H locs hw hI => ?_)
            exact tr_iret hx hb hr hlocks hI hw d_T_of_94
          · have hw := hw.2 hc4
            refine lv_tableOut (tgt := 95) hx hb d_T_of_1 (tab_out5 hc0 hc1 hc2 hc3 hc4) (by decide) ?_
            refine lv_bipush (v := (-2)) hx hb d_T_of_95 (by decide) ?_
            exact tr_iret hx hb hr hlocks hI hw d_T_of_97
end
