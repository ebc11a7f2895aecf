section
-- ===== PART A: goes FIRST, ahead of the names: the tables' words, and 'selects' of the private methods out of them =====
/-- a private method of a class that the tables say can be made, by its rows of tables_1 -/
def lw_okq (q : MethodName × Nat) : Prop := (q.1.cls ≠ "java/lang/invoke/MethodHandle" ∧ q.1.cls ≠ "java/lang/invoke/VarHandle") ∧ Cond.instantiable q.1.cls q.2 ∈ tables_1 ∧ Cond.privateMethod q.1 ∈ tables_1 ∧ Cond.instanceMethod q.1 ∈ tables_1
theorem lw_p0 : lw_okq (⟨"TimedWays$Board", "isBehind", "(III)Z"⟩, 3) := ⟨⟨by decide +kernel, by decide +kernel⟩, List.mem_of_getElem? (i := 77) (by decide +kernel), List.mem_of_getElem? (i := 316) (by decide +kernel), List.mem_of_getElem? (i := 317) (by decide +kernel)⟩
theorem lw_p1 : lw_okq (⟨"TimedWays$Walks", "shorten", "(III)V"⟩, 5) := ⟨⟨by decide +kernel, by decide +kernel⟩, List.mem_of_getElem? (i := 99) (by decide +kernel), List.mem_of_getElem? (i := 328) (by decide +kernel), List.mem_of_getElem? (i := 329) (by decide +kernel)⟩
theorem lw_p2 : lw_okq (⟨"TimedWays$Arrivals", "arrive", "(LTimedWays$Network;II)V"⟩, 2) := ⟨⟨by decide +kernel, by decide +kernel⟩, List.mem_of_getElem? (i := 163) (by decide +kernel), List.mem_of_getElem? (i := 388) (by decide +kernel), List.mem_of_getElem? (i := 389) (by decide +kernel)⟩
theorem lw_p3 : lw_okq (⟨"TimedWays$Span", "endOf", "(LTimedWays$Network;II)I"⟩, 2) := ⟨⟨by decide +kernel, by decide +kernel⟩, List.mem_of_getElem? (i := 176) (by decide +kernel), List.mem_of_getElem? (i := 413) (by decide +kernel), List.mem_of_getElem? (i := 414) (by decide +kernel)⟩
theorem lw_p4 : lw_okq (⟨"TimedWays$Span", "spread", "(III)V"⟩, 2) := ⟨⟨by decide +kernel, by decide +kernel⟩, List.mem_of_getElem? (i := 176) (by decide +kernel), List.mem_of_getElem? (i := 460) (by decide +kernel), List.mem_of_getElem? (i := 461) (by decide +kernel)⟩
theorem lw_p5 : lw_okq (⟨"TimedWays$Acts", "addWalk", "(LTimedWays$Network;LTimedWays$Arrivals;I)I"⟩, 5) := ⟨⟨by decide +kernel, by decide +kernel⟩, List.mem_of_getElem? (i := 209) (by decide +kernel), List.mem_of_getElem? (i := 497) (by decide +kernel), List.mem_of_getElem? (i := 498) (by decide +kernel)⟩
theorem lw_p6 : lw_okq (⟨"TimedWays$Acts", "put", "(IIII)V"⟩, 5) := ⟨⟨by decide +kernel, by decide +kernel⟩, List.mem_of_getElem? (i := 209) (by decide +kernel), List.mem_of_getElem? (i := 506) (by decide +kernel), List.mem_of_getElem? (i := 507) (by decide +kernel)⟩
theorem lw_p7 : lw_okq (⟨"TimedWays$Acts", "addDeparture", "(LTimedWays$Network;LTimedWays$Arrivals;I)I"⟩, 5) := ⟨⟨by decide +kernel, by decide +kernel⟩, List.mem_of_getElem? (i := 209) (by decide +kernel), List.mem_of_getElem? (i := 510) (by decide +kernel), List.mem_of_getElem? (i := 511) (by decide +kernel)⟩
theorem lw_p8 : lw_okq (⟨"TimedWays$Arrivals", "endsByRide", "(LTimedWays$Network;II)Z"⟩, 2) := ⟨⟨by decide +kernel, by decide +kernel⟩, List.mem_of_getElem? (i := 163) (by decide +kernel), List.mem_of_getElem? (i := 518) (by decide +kernel), List.mem_of_getElem? (i := 519) (by decide +kernel)⟩
theorem lw_p9 : lw_okq (⟨"TimedWaysModel", "isStop", "(I)Z"⟩, 22) := ⟨⟨by decide +kernel, by decide +kernel⟩, List.mem_of_getElem? (i := 555) (by decide +kernel), List.mem_of_getElem? (i := 643) (by decide +kernel), List.mem_of_getElem? (i := 644) (by decide +kernel)⟩
theorem lw_p10 : lw_okq (⟨"TimedWaysModel", "areTwo", "(II)Z"⟩, 22) := ⟨⟨by decide +kernel, by decide +kernel⟩, List.mem_of_getElem? (i := 555) (by decide +kernel), List.mem_of_getElem? (i := 651) (by decide +kernel), List.mem_of_getElem? (i := 652) (by decide +kernel)⟩
theorem lw_p11 : lw_okq (⟨"TimedWaysModel", "isRide", "(I)Z"⟩, 22) := ⟨⟨by decide +kernel, by decide +kernel⟩, List.mem_of_getElem? (i := 555) (by decide +kernel), List.mem_of_getElem? (i := 663) (by decide +kernel), List.mem_of_getElem? (i := 664) (by decide +kernel)⟩
theorem lw_p12 : lw_okq (⟨"TimedWaysModel", "isOn", "(II)Z"⟩, 22) := ⟨⟨by decide +kernel, by decide +kernel⟩, List.mem_of_getElem? (i := 555) (by decide +kernel), List.mem_of_getElem? (i := 667) (by decide +kernel), List.mem_of_getElem? (i := 668) (by decide +kernel)⟩
theorem lw_p13 : lw_okq (⟨"TimedWaysModel", "isAsked", "(III)Z"⟩, 22) := ⟨⟨by decide +kernel, by decide +kernel⟩, List.mem_of_getElem? (i := 555) (by decide +kernel), List.mem_of_getElem? (i := 675) (by decide +kernel), List.mem_of_getElem? (i := 676) (by decide +kernel)⟩
theorem lw_p14 : lw_okq (⟨"TimedWaysModel", "found", "(III)I"⟩, 22) := ⟨⟨by decide +kernel, by decide +kernel⟩, List.mem_of_getElem? (i := 555) (by decide +kernel), List.mem_of_getElem? (i := 679) (by decide +kernel), List.mem_of_getElem? (i := 680) (by decide +kernel)⟩
theorem lw_p15 : lw_okq (⟨"TimedWaysModel", "find", "(II)V"⟩, 22) := ⟨⟨by decide +kernel, by decide +kernel⟩, List.mem_of_getElem? (i := 555) (by decide +kernel), List.mem_of_getElem? (i := 683) (by decide +kernel), List.mem_of_getElem? (i := 684) (by decide +kernel)⟩
def lw_privs_1 : List (MethodName × Nat) := [(⟨"TimedWays$Board", "isBehind", "(III)Z"⟩, 3), (⟨"TimedWays$Walks", "shorten", "(III)V"⟩, 5), (⟨"TimedWays$Arrivals", "arrive", "(LTimedWays$Network;II)V"⟩, 2), (⟨"TimedWays$Span", "endOf", "(LTimedWays$Network;II)I"⟩, 2), (⟨"TimedWays$Span", "spread", "(III)V"⟩, 2), (⟨"TimedWays$Acts", "addWalk", "(LTimedWays$Network;LTimedWays$Arrivals;I)I"⟩, 5), (⟨"TimedWays$Acts", "put", "(IIII)V"⟩, 5), (⟨"TimedWays$Acts", "addDeparture", "(LTimedWays$Network;LTimedWays$Arrivals;I)I"⟩, 5), (⟨"TimedWays$Arrivals", "endsByRide", "(LTimedWays$Network;II)Z"⟩, 2), (⟨"TimedWaysModel", "isStop", "(I)Z"⟩, 22), (⟨"TimedWaysModel", "areTwo", "(II)Z"⟩, 22), (⟨"TimedWaysModel", "isRide", "(I)Z"⟩, 22), (⟨"TimedWaysModel", "isOn", "(II)Z"⟩, 22), (⟨"TimedWaysModel", "isAsked", "(III)Z"⟩, 22), (⟨"TimedWaysModel", "found", "(III)I"⟩, 22), (⟨"TimedWaysModel", "find", "(II)V"⟩, 22)]
theorem lw_r1 : ∀ q ∈ lw_privs_1, lw_okq q := List.forall_mem_cons.mpr ⟨lw_p0, List.forall_mem_cons.mpr ⟨lw_p1, List.forall_mem_cons.mpr ⟨lw_p2, List.forall_mem_cons.mpr ⟨lw_p3, List.forall_mem_cons.mpr ⟨lw_p4, List.forall_mem_cons.mpr ⟨lw_p5, List.forall_mem_cons.mpr ⟨lw_p6, List.forall_mem_cons.mpr ⟨lw_p7, List.forall_mem_cons.mpr ⟨lw_p8, List.forall_mem_cons.mpr ⟨lw_p9, List.forall_mem_cons.mpr ⟨lw_p10, List.forall_mem_cons.mpr ⟨lw_p11, List.forall_mem_cons.mpr ⟨lw_p12, List.forall_mem_cons.mpr ⟨lw_p13, List.forall_mem_cons.mpr ⟨lw_p14, List.forall_mem_cons.mpr ⟨lw_p15, fun _ h => absurd h List.not_mem_nil⟩⟩⟩⟩⟩⟩⟩⟩⟩⟩⟩⟩⟩⟩⟩⟩
theorem lw_p16 : lw_okq (⟨"TimedWaysModel", "begin", "(II)V"⟩, 22) := ⟨⟨by decide +kernel, by decide +kernel⟩, List.mem_of_getElem? (i := 555) (by decide +kernel), List.mem_of_getElem? (i := 687) (by decide +kernel), List.mem_of_getElem? (i := 688) (by decide +kernel)⟩
theorem lw_p17 : lw_okq (⟨"TimedWaysModel", "goWalks", "()V"⟩, 22) := ⟨⟨by decide +kernel, by decide +kernel⟩, List.mem_of_getElem? (i := 555) (by decide +kernel), List.mem_of_getElem? (i := 692) (by decide +kernel), List.mem_of_getElem? (i := 693) (by decide +kernel)⟩
theorem lw_p18 : lw_okq (⟨"TimedWaysModel", "arrival", "(I)I"⟩, 22) := ⟨⟨by decide +kernel, by decide +kernel⟩, List.mem_of_getElem? (i := 555) (by decide +kernel), List.mem_of_getElem? (i := 696) (by decide +kernel), List.mem_of_getElem? (i := 697) (by decide +kernel)⟩
theorem lw_p19 : lw_okq (⟨"TimedWaysModel", "goRides", "()V"⟩, 22) := ⟨⟨by decide +kernel, by decide +kernel⟩, List.mem_of_getElem? (i := 555) (by decide +kernel), List.mem_of_getElem? (i := 700) (by decide +kernel), List.mem_of_getElem? (i := 701) (by decide +kernel)⟩
theorem lw_p20 : lw_okq (⟨"TimedWaysModel", "mayTake", "(II)Z"⟩, 22) := ⟨⟨by decide +kernel, by decide +kernel⟩, List.mem_of_getElem? (i := 555) (by decide +kernel), List.mem_of_getElem? (i := 704) (by decide +kernel), List.mem_of_getElem? (i := 705) (by decide +kernel)⟩
theorem lw_p21 : lw_okq (⟨"TimedWaysModel", "goes", "(II)Z"⟩, 22) := ⟨⟨by decide +kernel, by decide +kernel⟩, List.mem_of_getElem? (i := 555) (by decide +kernel), List.mem_of_getElem? (i := 708) (by decide +kernel), List.mem_of_getElem? (i := 709) (by decide +kernel)⟩
theorem lw_p22 : lw_okq (⟨"TimedWaysModel", "leaves", "(II)I"⟩, 22) := ⟨⟨by decide +kernel, by decide +kernel⟩, List.mem_of_getElem? (i := 555) (by decide +kernel), List.mem_of_getElem? (i := 712) (by decide +kernel), List.mem_of_getElem? (i := 713) (by decide +kernel)⟩
theorem lw_p23 : lw_okq (⟨"TimedWaysModel", "arrives", "(II)I"⟩, 22) := ⟨⟨by decide +kernel, by decide +kernel⟩, List.mem_of_getElem? (i := 555) (by decide +kernel), List.mem_of_getElem? (i := 716) (by decide +kernel), List.mem_of_getElem? (i := 717) (by decide +kernel)⟩
theorem lw_p24 : lw_okq (⟨"TimedWaysModel", "isBy", "(IIII)Z"⟩, 22) := ⟨⟨by decide +kernel, by decide +kernel⟩, List.mem_of_getElem? (i := 555) (by decide +kernel), List.mem_of_getElem? (i := 724) (by decide +kernel), List.mem_of_getElem? (i := 725) (by decide +kernel)⟩
theorem lw_p25 : lw_okq (⟨"TimedWaysModel", "isSpan", "(IIII)Z"⟩, 22) := ⟨⟨by decide +kernel, by decide +kernel⟩, List.mem_of_getElem? (i := 555) (by decide +kernel), List.mem_of_getElem? (i := 736) (by decide +kernel), List.mem_of_getElem? (i := 737) (by decide +kernel)⟩
theorem lw_p26 : lw_okq (⟨"TimedWaysModel", "walkBefore", "(I)I"⟩, 22) := ⟨⟨by decide +kernel, by decide +kernel⟩, List.mem_of_getElem? (i := 555) (by decide +kernel), List.mem_of_getElem? (i := 756) (by decide +kernel), List.mem_of_getElem? (i := 757) (by decide +kernel)⟩
theorem lw_p27 : lw_okq (⟨"TimedWaysModel", "put", "(IIIII)V"⟩, 22) := ⟨⟨by decide +kernel, by decide +kernel⟩, List.mem_of_getElem? (i := 555) (by decide +kernel), List.mem_of_getElem? (i := 760) (by decide +kernel), List.mem_of_getElem? (i := 761) (by decide +kernel)⟩
theorem lw_p28 : lw_okq (⟨"TimedWaysModel", "departureBefore", "(I)I"⟩, 22) := ⟨⟨by decide +kernel, by decide +kernel⟩, List.mem_of_getElem? (i := 555) (by decide +kernel), List.mem_of_getElem? (i := 764) (by decide +kernel), List.mem_of_getElem? (i := 765) (by decide +kernel)⟩
def lw_privs_2 : List (MethodName × Nat) := [(⟨"TimedWaysModel", "begin", "(II)V"⟩, 22), (⟨"TimedWaysModel", "goWalks", "()V"⟩, 22), (⟨"TimedWaysModel", "arrival", "(I)I"⟩, 22), (⟨"TimedWaysModel", "goRides", "()V"⟩, 22), (⟨"TimedWaysModel", "mayTake", "(II)Z"⟩, 22), (⟨"TimedWaysModel", "goes", "(II)Z"⟩, 22), (⟨"TimedWaysModel", "leaves", "(II)I"⟩, 22), (⟨"TimedWaysModel", "arrives", "(II)I"⟩, 22), (⟨"TimedWaysModel", "isBy", "(IIII)Z"⟩, 22), (⟨"TimedWaysModel", "isSpan", "(IIII)Z"⟩, 22), (⟨"TimedWaysModel", "walkBefore", "(I)I"⟩, 22), (⟨"TimedWaysModel", "put", "(IIIII)V"⟩, 22), (⟨"TimedWaysModel", "departureBefore", "(I)I"⟩, 22)]
theorem lw_r2 : ∀ q ∈ lw_privs_2, lw_okq q := List.forall_mem_cons.mpr ⟨lw_p16, List.forall_mem_cons.mpr ⟨lw_p17, List.forall_mem_cons.mpr ⟨lw_p18, List.forall_mem_cons.mpr ⟨lw_p19, List.forall_mem_cons.mpr ⟨lw_p20, List.forall_mem_cons.mpr ⟨lw_p21, List.forall_mem_cons.mpr ⟨lw_p22, List.forall_mem_cons.mpr ⟨lw_p23, List.forall_mem_cons.mpr ⟨lw_p24, List.forall_mem_cons.mpr ⟨lw_p25, List.forall_mem_cons.mpr ⟨lw_p26, List.forall_mem_cons.mpr ⟨lw_p27, List.forall_mem_cons.mpr ⟨lw_p28, fun _ h => absurd h List.not_mem_nil⟩⟩⟩⟩⟩⟩⟩⟩⟩⟩⟩⟩⟩
def lw_privs : List (MethodName × Nat) := lw_privs_1 ++ (lw_privs_2)
def lw_tbl : List Cond := k2_sels lw_privs ++ tables_1
theorem lw_privs_ok : ∀ q ∈ lw_privs, lw_okq q := by
  show ∀ q ∈ lw_privs_1 ++ (lw_privs_2), lw_okq q
  exact List.forall_mem_append.mpr ⟨lw_r1, lw_r2⟩
end
section
def R_T : String := "TimedWays"
def F_T : u_T := fun k => match k with
  | 0 => ("TimedWays", "net", "LTimedWays$Network;", true)
  | 1 => ("TimedWays", "arrivals", "LTimedWays$Arrivals;", true)
  | 2 => ("TimedWays", "before", "LTimedWays$Arrivals;", true)
  | 3 => ("TimedWays", "span", "LTimedWays$Span;", true)
  | 4 => ("TimedWays", "steps", "LTimedWays$Steps;", true)
  | _ => ("TimedWays", "acts", "LTimedWays$Acts;", true)
def ft_T : Nat → FieldType := fun k => match k with
  | 0 => .object "TimedWays$Network"
  | 1 => .object "TimedWays$Arrivals"
  | 2 => .object "TimedWays$Arrivals"
  | 3 => .object "TimedWays$Span"
  | 4 => .object "TimedWays$Steps"
  | _ => .object "TimedWays$Acts"
theorem fn_T : ∀ a, a < 6 → ∀ b, b < 6 → a ≠ b → (F_T a).2.1 ≠ (F_T b).2.1 := by decide +kernel
theorem ft_T_ok : ∀ k, k < 6 → parseFieldDescriptor (F_T k).2.2.1 = some (ft_T k) := by decide +kernel
abbrev b_T_init : ByteArray := prog_1_method_1_code
def y_T_init : MethodName := ⟨R_T, "<init>", "()V"⟩
abbrev b_T_clear : ByteArray := prog_1_method_2_code
def y_T_clear : MethodName := ⟨R_T, "clear", "()I"⟩
abbrev b_T_stop : ByteArray := prog_1_method_3_code
def y_T_stop : MethodName := ⟨R_T, "stop", "(I)I"⟩
abbrev b_T_change : ByteArray := prog_1_method_4_code
def y_T_change : MethodName := ⟨R_T, "change", "(II)I"⟩
abbrev b_T_ride : ByteArray := prog_1_method_5_code
def y_T_ride : MethodName := ⟨R_T, "ride", "(IIIII)I"⟩
abbrev b_T_walk : ByteArray := prog_1_method_6_code
def y_T_walk : MethodName := ⟨R_T, "walk", "(III)I"⟩
abbrev b_T_late : ByteArray := prog_1_method_7_code
def y_T_late : MethodName := ⟨R_T, "late", "(III)I"⟩
abbrev b_T_earliest : ByteArray := prog_1_method_8_code
def y_T_earliest : MethodName := ⟨R_T, "earliest", "(III)I"⟩
abbrev b_T_latest : ByteArray := prog_1_method_9_code
def y_T_latest : MethodName := ⟨R_T, "latest", "(III)I"⟩
abbrev b_T_fewest : ByteArray := prog_1_method_10_code
def y_T_fewest : MethodName := ⟨R_T, "fewest", "(IIII)I"⟩
abbrev b_T_fastest : ByteArray := prog_1_method_11_code
def y_T_fastest : MethodName := ⟨R_T, "fastest", "(IIII)I"⟩
abbrev b_T_profile : ByteArray := prog_1_method_12_code
def y_T_profile : MethodName := ⟨R_T, "profile", "(IIII)I"⟩
abbrev b_T_step : ByteArray := prog_1_method_13_code
def y_T_step : MethodName := ⟨R_T, "step", "(II)I"⟩
abbrev b_T_reach : ByteArray := prog_1_method_14_code
def y_T_reach : MethodName := ⟨R_T, "reach", "(III)I"⟩
abbrev b_T_way : ByteArray := prog_1_method_15_code
def y_T_way : MethodName := ⟨R_T, "way", "(III)I"⟩
abbrev b_T_act : ByteArray := prog_1_method_16_code
def y_T_act : MethodName := ⟨R_T, "act", "(II)I"⟩
abbrev b_T_next : ByteArray := prog_1_method_17_code
def y_T_next : MethodName := ⟨R_T, "next", "(II)I"⟩
abbrev b_T_told : ByteArray := prog_1_method_18_code
def y_T_told : MethodName := ⟨R_T, "told", "(II)I"⟩
abbrev b_T_of : ByteArray := prog_1_method_19_code
def y_T_of : MethodName := ⟨R_T, "of", "(I)I"⟩
abbrev b_T_within : ByteArray := prog_1_method_20_code
def y_T_within : MethodName := ⟨R_T, "within", "(III)Z"⟩
abbrev b_T_isTime : ByteArray := prog_1_method_21_code
def y_T_isTime : MethodName := ⟨R_T, "isTime", "(I)Z"⟩
abbrev b_T_isBy : ByteArray := prog_1_method_22_code
def y_T_isBy : MethodName := ⟨R_T, "isBy", "(I)Z"⟩
abbrev b_T_isSpan : ByteArray := prog_1_method_23_code
def y_T_isSpan : MethodName := ⟨R_T, "isSpan", "(II)Z"⟩
abbrev b_T_orNone : ByteArray := prog_1_method_24_code
def y_T_orNone : MethodName := ⟨R_T, "orNone", "(I)I"⟩
def R_Ne : String := "TimedWays$Network"
def F_Ne : u_T := fun k => match k with
  | 0 => ("TimedWays$Network", "stopCount", "I", false)
  | 1 => ("TimedWays$Network", "changes", "[I", true)
  | 2 => ("TimedWays$Network", "rides", "LTimedWays$Rides;", true)
  | 3 => ("TimedWays$Network", "board", "LTimedWays$Board;", true)
  | _ => ("TimedWays$Network", "walks", "LTimedWays$Walks;", true)
def ft_Ne : Nat → FieldType := fun k => match k with
  | 0 => .int
  | 1 => .array .int
  | 2 => .object "TimedWays$Rides"
  | 3 => .object "TimedWays$Board"
  | _ => .object "TimedWays$Walks"
theorem fn_Ne : ∀ a, a < 5 → ∀ b, b < 5 → a ≠ b → (F_Ne a).2.1 ≠ (F_Ne b).2.1 := by decide +kernel
theorem ft_Ne_ok : ∀ k, k < 5 → parseFieldDescriptor (F_Ne k).2.2.1 = some (ft_Ne k) := by decide +kernel
abbrev b_Ne_init : ByteArray := prog_5_method_1_code
def y_Ne_init : MethodName := ⟨R_Ne, "<init>", "()V"⟩
abbrev b_Ne_empty : ByteArray := prog_5_method_2_code
def y_Ne_empty : MethodName := ⟨R_Ne, "empty", "()V"⟩
abbrev b_Ne_hasStop : ByteArray := prog_5_method_3_code
def y_Ne_hasStop : MethodName := ⟨R_Ne, "hasStop", "(I)Z"⟩
abbrev b_Ne_hasStops : ByteArray := prog_5_method_4_code
def y_Ne_hasStops : MethodName := ⟨R_Ne, "hasStops", "(II)Z"⟩
abbrev b_Ne_gap : ByteArray := prog_5_method_5_code
def y_Ne_gap : MethodName := ⟨R_Ne, "gap", "(II)I"⟩
def R_Ri : String := "TimedWays$Rides"
def F_Ri : u_T := fun k => match k with
  | 0 => ("TimedWays$Rides", "count", "I", false)
  | 1 => ("TimedWays$Rides", "from", "[I", true)
  | 2 => ("TimedWays$Rides", "to", "[I", true)
  | 3 => ("TimedWays$Rides", "minute", "[I", true)
  | 4 => ("TimedWays$Rides", "takes", "[I", true)
  | 5 => ("TimedWays$Rides", "days", "[I", true)
  | _ => ("TimedWays$Rides", "lateness", "[I", true)
def ft_Ri : Nat → FieldType := fun k => match k with
  | 0 => .int
  | 1 => .array .int
  | 2 => .array .int
  | 3 => .array .int
  | 4 => .array .int
  | 5 => .array .int
  | _ => .array .int
theorem fn_Ri : ∀ a, a < 7 → ∀ b, b < 7 → a ≠ b → (F_Ri a).2.1 ≠ (F_Ri b).2.1 := by decide +kernel
theorem ft_Ri_ok : ∀ k, k < 7 → parseFieldDescriptor (F_Ri k).2.2.1 = some (ft_Ri k) := by decide +kernel
abbrev b_Ri_init : ByteArray := prog_6_method_1_code
def y_Ri_init : MethodName := ⟨R_Ri, "<init>", "()V"⟩
abbrev b_Ri_has : ByteArray := prog_6_method_2_code
def y_Ri_has : MethodName := ⟨R_Ri, "has", "(I)Z"⟩
abbrev b_Ri_isOnDay : ByteArray := prog_6_method_3_code
def y_Ri_isOnDay : MethodName := ⟨R_Ri, "isOnDay", "(II)Z"⟩
abbrev b_Ri_add : ByteArray := prog_6_method_4_code
def y_Ri_add : MethodName := ⟨R_Ri, "add", "(IIIII)I"⟩
abbrev b_Ri_goes : ByteArray := prog_6_method_5_code
def y_Ri_goes : MethodName := ⟨R_Ri, "goes", "(I)Z"⟩
abbrev b_Ri_leaves : ByteArray := prog_6_method_6_code
def y_Ri_leaves : MethodName := ⟨R_Ri, "leaves", "(I)I"⟩
abbrev b_Ri_goingDays : ByteArray := prog_6_method_7_code
def y_Ri_goingDays : MethodName := ⟨R_Ri, "goingDays", "(I)I"⟩
def R_Bo : String := "TimedWays$Board"
def F_Bo : u_T := fun k => match k with
  | 0 => ("TimedWays$Board", "count", "I", false)
  | 1 => ("TimedWays$Board", "departures", "[I", true)
  | _ => ("TimedWays$Board", "leaves", "[I", true)
def ft_Bo : Nat → FieldType := fun k => match k with
  | 0 => .int
  | 1 => .array .int
  | _ => .array .int
theorem fn_Bo : ∀ a, a < 3 → ∀ b, b < 3 → a ≠ b → (F_Bo a).2.1 ≠ (F_Bo b).2.1 := by decide +kernel
theorem ft_Bo_ok : ∀ k, k < 3 → parseFieldDescriptor (F_Bo k).2.2.1 = some (ft_Bo k) := by decide +kernel
abbrev b_Bo_init : ByteArray := prog_4_method_1_code
def y_Bo_init : MethodName := ⟨R_Bo, "<init>", "()V"⟩
abbrev b_Bo_rideAt : ByteArray := prog_4_method_2_code
def y_Bo_rideAt : MethodName := ⟨R_Bo, "rideAt", "(I)I"⟩
abbrev b_Bo_putRide : ByteArray := prog_4_method_3_code
def y_Bo_putRide : MethodName := ⟨R_Bo, "putRide", "(LTimedWays$Rides;I)V"⟩
abbrev b_Bo_putIn : ByteArray := prog_4_method_4_code
def y_Bo_putIn : MethodName := ⟨R_Bo, "putIn", "(LTimedWays$Rides;I)V"⟩
abbrev b_Bo_isBehind : ByteArray := prog_4_method_5_code
def y_Bo_isBehind : MethodName := ⟨R_Bo, "isBehind", "(III)Z"⟩
abbrev b_Bo_takeOut : ByteArray := prog_4_method_6_code
def y_Bo_takeOut : MethodName := ⟨R_Bo, "takeOut", "(I)V"⟩
abbrev b_Bo_firstFrom : ByteArray := prog_4_method_7_code
def y_Bo_firstFrom : MethodName := ⟨R_Bo, "firstFrom", "(LTimedWays$Rides;II)I"⟩
abbrev b_Bo_countLate : ByteArray := prog_4_method_8_code
def y_Bo_countLate : MethodName := ⟨R_Bo, "countLate", "(LTimedWays$Rides;)I"⟩
def R_Wa : String := "TimedWays$Walks"
def F_Wa : u_T := fun k => match k with
  | 0 => ("TimedWays$Walks", "count", "I", false)
  | 1 => ("TimedWays$Walks", "from", "[I", true)
  | 2 => ("TimedWays$Walks", "to", "[I", true)
  | 3 => ("TimedWays$Walks", "takes", "[I", true)
  | _ => ("TimedWays$Walks", "shortest", "[I", true)
def ft_Wa : Nat → FieldType := fun k => match k with
  | 0 => .int
  | 1 => .array .int
  | 2 => .array .int
  | 3 => .array .int
  | _ => .array .int
theorem fn_Wa : ∀ a, a < 5 → ∀ b, b < 5 → a ≠ b → (F_Wa a).2.1 ≠ (F_Wa b).2.1 := by decide +kernel
theorem ft_Wa_ok : ∀ k, k < 5 → parseFieldDescriptor (F_Wa k).2.2.1 = some (ft_Wa k) := by decide +kernel
abbrev b_Wa_init : ByteArray := prog_9_method_1_code
def y_Wa_init : MethodName := ⟨R_Wa, "<init>", "()V"⟩
abbrev b_Wa_empty : ByteArray := prog_9_method_2_code
def y_Wa_empty : MethodName := ⟨R_Wa, "empty", "()V"⟩
abbrev b_Wa_add : ByteArray := prog_9_method_3_code
def y_Wa_add : MethodName := ⟨R_Wa, "add", "(III)I"⟩
abbrev b_Wa_shorten : ByteArray := prog_9_method_4_code
def y_Wa_shorten : MethodName := ⟨R_Wa, "shorten", "(III)V"⟩
abbrev b_Wa_atLeastOne : ByteArray := prog_9_method_5_code
def y_Wa_atLeastOne : MethodName := ⟨R_Wa, "atLeastOne", "(II)I"⟩
abbrev b_Wa_anyNumber : ByteArray := prog_9_method_6_code
def y_Wa_anyNumber : MethodName := ⟨R_Wa, "anyNumber", "(II)I"⟩
def R_Ar : String := "TimedWays$Arrivals"
def F_Ar : u_T := fun k => match k with
  | 0 => ("TimedWays$Arrivals", "byRide", "[I", true)
  | _ => ("TimedWays$Arrivals", "byWalk", "[I", true)
def ft_Ar : Nat → FieldType := fun k => match k with
  | 0 => .array .int
  | _ => .array .int
theorem fn_Ar : ∀ a, a < 2 → ∀ b, b < 2 → a ≠ b → (F_Ar a).2.1 ≠ (F_Ar b).2.1 := by decide +kernel
theorem ft_Ar_ok : ∀ k, k < 2 → parseFieldDescriptor (F_Ar k).2.2.1 = some (ft_Ar k) := by decide +kernel
abbrev b_Ar_init : ByteArray := prog_3_method_1_code
def y_Ar_init : MethodName := ⟨R_Ar, "<init>", "()V"⟩
abbrev b_Ar_first : ByteArray := prog_3_method_2_code
def y_Ar_first : MethodName := ⟨R_Ar, "first", "(I)I"⟩
abbrev b_Ar_isByWalk : ByteArray := prog_3_method_3_code
def y_Ar_isByWalk : MethodName := ⟨R_Ar, "isByWalk", "(II)Z"⟩
abbrev b_Ar_copy : ByteArray := prog_3_method_4_code
def y_Ar_copy : MethodName := ⟨R_Ar, "copy", "(LTimedWays$Arrivals;)V"⟩
abbrev b_Ar_begin : ByteArray := prog_3_method_5_code
def y_Ar_begin : MethodName := ⟨R_Ar, "begin", "(LTimedWays$Network;II)V"⟩
abbrev b_Ar_find : ByteArray := prog_3_method_6_code
def y_Ar_find : MethodName := ⟨R_Ar, "find", "(LTimedWays$Network;II)V"⟩
abbrev b_Ar_addOneDeparture : ByteArray := prog_3_method_7_code
def y_Ar_addOneDeparture : MethodName := ⟨R_Ar, "addOneDeparture", "(LTimedWays$Network;LTimedWays$Arrivals;)V"⟩
abbrev b_Ar_mayTake : ByteArray := prog_3_method_8_code
def y_Ar_mayTake : MethodName := ⟨R_Ar, "mayTake", "(LTimedWays$Network;II)Z"⟩
abbrev b_Ar_arrive : ByteArray := prog_3_method_9_code
def y_Ar_arrive : MethodName := ⟨R_Ar, "arrive", "(LTimedWays$Network;II)V"⟩
abbrev b_Ar_lastWalk : ByteArray := prog_3_method_10_code
def y_Ar_lastWalk : MethodName := ⟨R_Ar, "lastWalk", "(LTimedWays$Network;I)I"⟩
abbrev b_Ar_lastDeparture : ByteArray := prog_3_method_11_code
def y_Ar_lastDeparture : MethodName := ⟨R_Ar, "lastDeparture", "(LTimedWays$Network;I)I"⟩
abbrev b_Ar_endsByRide : ByteArray := prog_3_method_12_code
def y_Ar_endsByRide : MethodName := ⟨R_Ar, "endsByRide", "(LTimedWays$Network;II)Z"⟩
def R_Sp : String := "TimedWays$Span"
def F_Sp : u_T := fun k => match k with
  | 0 => ("TimedWays$Span", "onward", "[I", true)
  | _ => ("TimedWays$Span", "ends", "[I", true)
def ft_Sp : Nat → FieldType := fun k => match k with
  | 0 => .array .int
  | _ => .array .int
theorem fn_Sp : ∀ a, a < 2 → ∀ b, b < 2 → a ≠ b → (F_Sp a).2.1 ≠ (F_Sp b).2.1 := by decide +kernel
theorem ft_Sp_ok : ∀ k, k < 2 → parseFieldDescriptor (F_Sp k).2.2.1 = some (ft_Sp k) := by decide +kernel
abbrev b_Sp_init : ByteArray := prog_7_method_1_code
def y_Sp_init : MethodName := ⟨R_Sp, "<init>", "()V"⟩
abbrev b_Sp_find : ByteArray := prog_7_method_2_code
def y_Sp_find : MethodName := ⟨R_Sp, "find", "(LTimedWays$Network;IIII)V"⟩
abbrev b_Sp_spread : ByteArray := prog_7_method_3_code
def y_Sp_spread : MethodName := ⟨R_Sp, "spread", "(III)V"⟩
abbrev b_Sp_latestBeginning : ByteArray := prog_7_method_4_code
def y_Sp_latestBeginning : MethodName := ⟨R_Sp, "latestBeginning", "(LTimedWays$Network;III)I"⟩
abbrev b_Sp_leastMinutes : ByteArray := prog_7_method_5_code
def y_Sp_leastMinutes : MethodName := ⟨R_Sp, "leastMinutes", "(II)I"⟩
abbrev b_Sp_latestFor : ByteArray := prog_7_method_6_code
def y_Sp_latestFor : MethodName := ⟨R_Sp, "latestFor", "(LTimedWays$Network;II)I"⟩
abbrev b_Sp_endOf : ByteArray := prog_7_method_7_code
def y_Sp_endOf : MethodName := ⟨R_Sp, "endOf", "(LTimedWays$Network;II)I"⟩
abbrev b_Sp_mayFollow : ByteArray := prog_7_method_8_code
def y_Sp_mayFollow : MethodName := ⟨R_Sp, "mayFollow", "(LTimedWays$Network;III)Z"⟩
def R_St : String := "TimedWays$Steps"
def F_St : u_T := fun k => match k with
  | 0 => ("TimedWays$Steps", "count", "I", false)
  | 1 => ("TimedWays$Steps", "times", "[I", true)
  | _ => ("TimedWays$Steps", "ends", "[I", true)
def ft_St : Nat → FieldType := fun k => match k with
  | 0 => .int
  | 1 => .array .int
  | _ => .array .int
theorem fn_St : ∀ a, a < 3 → ∀ b, b < 3 → a ≠ b → (F_St a).2.1 ≠ (F_St b).2.1 := by decide +kernel
theorem ft_St_ok : ∀ k, k < 3 → parseFieldDescriptor (F_St k).2.2.1 = some (ft_St k) := by decide +kernel
abbrev b_St_init : ByteArray := prog_8_method_1_code
def y_St_init : MethodName := ⟨R_St, "<init>", "()V"⟩
abbrev b_St_take : ByteArray := prog_8_method_2_code
def y_St_take : MethodName := ⟨R_St, "take", "(LTimedWays$Span;II)V"⟩
def R_Ac : String := "TimedWays$Acts"
def F_Ac : u_T := fun k => match k with
  | 0 => ("TimedWays$Acts", "count", "I", false)
  | 1 => ("TimedWays$Acts", "numbers", "[I", true)
  | 2 => ("TimedWays$Acts", "days", "[I", true)
  | 3 => ("TimedWays$Acts", "begins", "[I", true)
  | _ => ("TimedWays$Acts", "ends", "[I", true)
def ft_Ac : Nat → FieldType := fun k => match k with
  | 0 => .int
  | 1 => .array .int
  | 2 => .array .int
  | 3 => .array .int
  | _ => .array .int
theorem fn_Ac : ∀ a, a < 5 → ∀ b, b < 5 → a ≠ b → (F_Ac a).2.1 ≠ (F_Ac b).2.1 := by decide +kernel
theorem ft_Ac_ok : ∀ k, k < 5 → parseFieldDescriptor (F_Ac k).2.2.1 = some (ft_Ac k) := by decide +kernel
abbrev b_Ac_init : ByteArray := prog_2_method_1_code
def y_Ac_init : MethodName := ⟨R_Ac, "<init>", "()V"⟩
abbrev b_Ac_trace : ByteArray := prog_2_method_2_code
def y_Ac_trace : MethodName := ⟨R_Ac, "trace", "(LTimedWays$Network;LTimedWays$Arrivals;II)V"⟩
abbrev b_Ac_addWalk : ByteArray := prog_2_method_3_code
def y_Ac_addWalk : MethodName := ⟨R_Ac, "addWalk", "(LTimedWays$Network;LTimedWays$Arrivals;I)I"⟩
abbrev b_Ac_addDeparture : ByteArray := prog_2_method_4_code
def y_Ac_addDeparture : MethodName := ⟨R_Ac, "addDeparture", "(LTimedWays$Network;LTimedWays$Arrivals;I)I"⟩
abbrev b_Ac_put : ByteArray := prog_2_method_5_code
def y_Ac_put : MethodName := ⟨R_Ac, "put", "(IIII)V"⟩
def R_M : String := "TimedWaysModel"
def F_M : u_T := fun k => match k with
  | 0 => ("TimedWaysModel", "stops", "I", false)
  | 1 => ("TimedWaysModel", "change", "[I", true)
  | 2 => ("TimedWaysModel", "rides", "I", false)
  | 3 => ("TimedWaysModel", "rideFrom", "[I", true)
  | 4 => ("TimedWaysModel", "rideTo", "[I", true)
  | 5 => ("TimedWaysModel", "minute", "[I", true)
  | 6 => ("TimedWaysModel", "takes", "[I", true)
  | 7 => ("TimedWaysModel", "days", "[I", true)
  | 8 => ("TimedWaysModel", "late", "[I", true)
  | 9 => ("TimedWaysModel", "walks", "I", false)
  | 10 => ("TimedWaysModel", "walkFrom", "[I", true)
  | 11 => ("TimedWaysModel", "walkTo", "[I", true)
  | 12 => ("TimedWaysModel", "walkTakes", "[I", true)
  | 13 => ("TimedWaysModel", "steps", "I", false)
  | 14 => ("TimedWaysModel", "stepTime", "[I", true)
  | 15 => ("TimedWaysModel", "stepArrival", "[I", true)
  | 16 => ("TimedWaysModel", "acts", "I", false)
  | 17 => ("TimedWaysModel", "act", "[I", true)
  | 18 => ("TimedWaysModel", "byRide", "[I", true)
  | 19 => ("TimedWaysModel", "byWalk", "[I", true)
  | 20 => ("TimedWaysModel", "nextRide", "[I", true)
  | _ => ("TimedWaysModel", "isLess", "Z", false)
def ft_M : Nat → FieldType := fun k => match k with
  | 0 => .int
  | 1 => .array .int
  | 2 => .int
  | 3 => .array .int
  | 4 => .array .int
  | 5 => .array .int
  | 6 => .array .int
  | 7 => .array .int
  | 8 => .array .int
  | 9 => .int
  | 10 => .array .int
  | 11 => .array .int
  | 12 => .array .int
  | 13 => .int
  | 14 => .array .int
  | 15 => .array .int
  | 16 => .int
  | 17 => .array .int
  | 18 => .array .int
  | 19 => .array .int
  | 20 => .array .int
  | _ => .boolean
theorem fn_M : ∀ a, a < 22 → ∀ b, b < 22 → a ≠ b → (F_M a).2.1 ≠ (F_M b).2.1 := by decide +kernel
theorem ft_M_ok : ∀ k, k < 22 → parseFieldDescriptor (F_M k).2.2.1 = some (ft_M k) := by decide +kernel
abbrev b_M_init : ByteArray := prog_11_method_1_code
def y_M_init : MethodName := ⟨R_M, "<init>", "()V"⟩
abbrev b_M_clear : ByteArray := prog_11_method_2_code
def y_M_clear : MethodName := ⟨R_M, "clear", "()I"⟩
abbrev b_M_isIn : ByteArray := prog_11_method_3_code
def y_M_isIn : MethodName := ⟨R_M, "isIn", "(III)Z"⟩
abbrev b_M_isStop : ByteArray := prog_11_method_4_code
def y_M_isStop : MethodName := ⟨R_M, "isStop", "(I)Z"⟩
abbrev b_M_isRide : ByteArray := prog_11_method_5_code
def y_M_isRide : MethodName := ⟨R_M, "isRide", "(I)Z"⟩
abbrev b_M_stop : ByteArray := prog_11_method_6_code
def y_M_stop : MethodName := ⟨R_M, "stop", "(I)I"⟩
abbrev b_M_change : ByteArray := prog_11_method_7_code
def y_M_change : MethodName := ⟨R_M, "change", "(II)I"⟩
abbrev b_M_areTwo : ByteArray := prog_11_method_8_code
def y_M_areTwo : MethodName := ⟨R_M, "areTwo", "(II)Z"⟩
abbrev b_M_ride : ByteArray := prog_11_method_9_code
def y_M_ride : MethodName := ⟨R_M, "ride", "(IIIII)I"⟩
abbrev b_M_walk : ByteArray := prog_11_method_10_code
def y_M_walk : MethodName := ⟨R_M, "walk", "(III)I"⟩
abbrev b_M_isOn : ByteArray := prog_11_method_11_code
def y_M_isOn : MethodName := ⟨R_M, "isOn", "(II)Z"⟩
abbrev b_M_late : ByteArray := prog_11_method_12_code
def y_M_late : MethodName := ⟨R_M, "late", "(III)I"⟩
abbrev b_M_goes : ByteArray := prog_11_method_13_code
def y_M_goes : MethodName := ⟨R_M, "goes", "(II)Z"⟩
abbrev b_M_leaves : ByteArray := prog_11_method_14_code
def y_M_leaves : MethodName := ⟨R_M, "leaves", "(II)I"⟩
abbrev b_M_arrives : ByteArray := prog_11_method_15_code
def y_M_arrives : MethodName := ⟨R_M, "arrives", "(II)I"⟩
abbrev b_M_arrival : ByteArray := prog_11_method_16_code
def y_M_arrival : MethodName := ⟨R_M, "arrival", "(I)I"⟩
abbrev b_M_mayTake : ByteArray := prog_11_method_17_code
def y_M_mayTake : MethodName := ⟨R_M, "mayTake", "(II)Z"⟩
abbrev b_M_begin : ByteArray := prog_11_method_18_code
def y_M_begin : MethodName := ⟨R_M, "begin", "(II)V"⟩
abbrev b_M_goWalks : ByteArray := prog_11_method_19_code
def y_M_goWalks : MethodName := ⟨R_M, "goWalks", "()V"⟩
abbrev b_M_goRides : ByteArray := prog_11_method_20_code
def y_M_goRides : MethodName := ⟨R_M, "goRides", "()V"⟩
abbrev b_M_find : ByteArray := prog_11_method_21_code
def y_M_find : MethodName := ⟨R_M, "find", "(II)V"⟩
abbrev b_M_found : ByteArray := prog_11_method_22_code
def y_M_found : MethodName := ⟨R_M, "found", "(III)I"⟩
abbrev b_M_isAsked : ByteArray := prog_11_method_23_code
def y_M_isAsked : MethodName := ⟨R_M, "isAsked", "(III)Z"⟩
abbrev b_M_earliest : ByteArray := prog_11_method_24_code
def y_M_earliest : MethodName := ⟨R_M, "earliest", "(III)I"⟩
abbrev b_M_isBy : ByteArray := prog_11_method_25_code
def y_M_isBy : MethodName := ⟨R_M, "isBy", "(IIII)Z"⟩
abbrev b_M_latest : ByteArray := prog_11_method_26_code
def y_M_latest : MethodName := ⟨R_M, "latest", "(III)I"⟩
abbrev b_M_fewest : ByteArray := prog_11_method_27_code
def y_M_fewest : MethodName := ⟨R_M, "fewest", "(IIII)I"⟩
abbrev b_M_isSpan : ByteArray := prog_11_method_28_code
def y_M_isSpan : MethodName := ⟨R_M, "isSpan", "(IIII)Z"⟩
abbrev b_M_fastest : ByteArray := prog_11_method_29_code
def y_M_fastest : MethodName := ⟨R_M, "fastest", "(IIII)I"⟩
abbrev b_M_profile : ByteArray := prog_11_method_30_code
def y_M_profile : MethodName := ⟨R_M, "profile", "(IIII)I"⟩
abbrev b_M_step : ByteArray := prog_11_method_31_code
def y_M_step : MethodName := ⟨R_M, "step", "(II)I"⟩
abbrev b_M_reach : ByteArray := prog_11_method_32_code
def y_M_reach : MethodName := ⟨R_M, "reach", "(III)I"⟩
abbrev b_M_put : ByteArray := prog_11_method_33_code
def y_M_put : MethodName := ⟨R_M, "put", "(IIIII)V"⟩
abbrev b_M_walkBefore : ByteArray := prog_11_method_34_code
def y_M_walkBefore : MethodName := ⟨R_M, "walkBefore", "(I)I"⟩
abbrev b_M_departureBefore : ByteArray := prog_11_method_35_code
def y_M_departureBefore : MethodName := ⟨R_M, "departureBefore", "(I)I"⟩
abbrev b_M_way : ByteArray := prog_11_method_36_code
def y_M_way : MethodName := ⟨R_M, "way", "(III)I"⟩
abbrev b_M_act : ByteArray := prog_11_method_37_code
def y_M_act : MethodName := ⟨R_M, "act", "(II)I"⟩
abbrev b_M_next : ByteArray := prog_11_method_38_code
def y_M_next : MethodName := ⟨R_M, "next", "(II)I"⟩
abbrev b_M_told : ByteArray := prog_11_method_39_code
def y_M_told : MethodName := ⟨R_M, "told", "(II)I"⟩
abbrev b_M_of : ByteArray := prog_11_method_40_code
def y_M_of : MethodName := ⟨R_M, "of", "(I)I"⟩
def R_J : String := "java/util/Arrays"
abbrev b_J_fill : ByteArray := prog_14_method_103_code
def y_J_fill : MethodName := ⟨R_J, "fill", "([II)V"⟩
def R_L : String := "TimedWaysLaw"
abbrev twCl : List vw_C := [(R_T, F_T, 6), (R_Ne, F_Ne, 5), (R_Ri, F_Ri, 7), (R_Bo, F_Bo, 3), (R_Wa, F_Wa, 5), (R_Ar, F_Ar, 2), (R_Sp, F_Sp, 2), (R_St, F_St, 3), (R_Ac, F_Ac, 5), (R_M, F_M, 22)]
def wsA : List Cond := lw_tbl.filter goodWord
theorem wsA_tbl : ∀ w ∈ wsA, w ∈ lw_tbl := fun _ h => (List.mem_filter.mp h).1
theorem wsA_good {w : Cond} (h : w ∈ wsA) : GoodIn wsA (w :: wsA) := fun v hv => (List.mem_cons.mp hv).elim (fun e => by rw [e]; exact ⟨h, good_of_word (List.mem_filter.mp h).2⟩) (fun h => ⟨h, good_of_word (List.mem_filter.mp h).2⟩)
theorem wsA_goodV {own C : String} {i : Nat} {y : MethodName} {w : Cond} (h1 : (Cond.methodLink own i y) ∈ wsA) (h2 : (Cond.instanceMethod y) ∈ wsA) (h3 : (Cond.selects C y y) ∈ wsA) (h4 : (Cond.initialized C) ∈ wsA) (h : w ∈ wsA) : GoodIn wsA (wsV own i C y (w :: wsA)) := by
  intro v hv
  have g : ∀ {z : Cond}, z ∈ wsA → z ∈ wsA ∧ ((z.onTables && z.keeps) = true ∨ ∃ ty, z = .arrayClass ty) := fun hz => ⟨hz, good_of_word (List.mem_filter.mp hz).2⟩
  unfold wsV at hv
  rcases List.mem_append.mp hv with hv | hv
  · rcases List.mem_cons.mp hv with e | hv
    · rw [e]; exact g h1
    · rcases List.mem_cons.mp hv with e | hv
      · rw [e]; exact g h2
      · rcases List.mem_cons.mp hv with e | hv
        · rw [e]; exact g h3
        · rw [List.mem_singleton.mp hv]; exact g h4
  · exact wsA_good h v hv
set_option maxRecDepth 20000 in
theorem in_T : ∀ w ∈ u_ws R_T F_T 6, w ∈ wsA := by decide +kernel
set_option maxRecDepth 20000 in
theorem in_Ne : ∀ w ∈ u_ws R_Ne F_Ne 5, w ∈ wsA := by decide +kernel
set_option maxRecDepth 20000 in
theorem in_Ri : ∀ w ∈ u_ws R_Ri F_Ri 7, w ∈ wsA := by decide +kernel
set_option maxRecDepth 20000 in
theorem in_Bo : ∀ w ∈ u_ws R_Bo F_Bo 3, w ∈ wsA := by decide +kernel
set_option maxRecDepth 20000 in
theorem in_Wa : ∀ w ∈ u_ws R_Wa F_Wa 5, w ∈ wsA := by decide +kernel
set_option maxRecDepth 20000 in
theorem in_Ar : ∀ w ∈ u_ws R_Ar F_Ar 2, w ∈ wsA := by decide +kernel
set_option maxRecDepth 20000 in
theorem in_Sp : ∀ w ∈ u_ws R_Sp F_Sp 2, w ∈ wsA := by decide +kernel
set_option maxRecDepth 20000 in
theorem in_St : ∀ w ∈ u_ws R_St F_St 3, w ∈ wsA := by decide +kernel
set_option maxRecDepth 20000 in
theorem in_Ac : ∀ w ∈ u_ws R_Ac F_Ac 5, w ∈ wsA := by decide +kernel
set_option maxRecDepth 20000 in
theorem in_M : ∀ w ∈ u_ws R_M F_M 22, w ∈ wsA := by decide +kernel
def ws_T_init : List Cond := .code y_T_init b_T_init 1 none :: wsA
def ws_T_clear : List Cond := .code y_T_clear b_T_clear 2 (some .int) :: wsA
def ws_T_stop : List Cond := .code y_T_stop b_T_stop 2 (some .int) :: wsA
def ws_T_change : List Cond := .code y_T_change b_T_change 4 (some .int) :: wsA
def ws_T_ride : List Cond := .code y_T_ride b_T_ride 7 (some .int) :: wsA
def ws_T_walk : List Cond := .code y_T_walk b_T_walk 4 (some .int) :: wsA
def ws_T_late : List Cond := .code y_T_late b_T_late 6 (some .int) :: wsA
def ws_T_earliest : List Cond := .code y_T_earliest b_T_earliest 4 (some .int) :: wsA
def ws_T_latest : List Cond := .code y_T_latest b_T_latest 4 (some .int) :: wsA
def ws_T_fewest : List Cond := .code y_T_fewest b_T_fewest 6 (some .int) :: wsA
def ws_T_fastest : List Cond := .code y_T_fastest b_T_fastest 5 (some .int) :: wsA
def ws_T_profile : List Cond := .code y_T_profile b_T_profile 5 (some .int) :: wsA
def ws_T_step : List Cond := .code y_T_step b_T_step 3 (some .int) :: wsA
def ws_T_reach : List Cond := .code y_T_reach b_T_reach 6 (some .int) :: wsA
def ws_T_way : List Cond := .code y_T_way b_T_way 4 (some .int) :: wsA
def ws_T_act : List Cond := .code y_T_act b_T_act 4 (some .int) :: wsA
def ws_T_next : List Cond := .code y_T_next b_T_next 3 (some .int) :: wsA
def ws_T_told : List Cond := .code y_T_told b_T_told 3 (some .int) :: wsA
def ws_T_of : List Cond := .code y_T_of b_T_of 2 (some .int) :: wsA
def ws_T_within : List Cond := .code y_T_within b_T_within 3 (some .boolean) :: wsA
def ws_T_isTime : List Cond := .code y_T_isTime b_T_isTime 1 (some .boolean) :: wsA
def ws_T_isBy : List Cond := .code y_T_isBy b_T_isBy 1 (some .boolean) :: wsA
def ws_T_isSpan : List Cond := .code y_T_isSpan b_T_isSpan 2 (some .boolean) :: wsA
def ws_T_orNone : List Cond := .code y_T_orNone b_T_orNone 1 (some .int) :: wsA
def ws_Ne_init : List Cond := .code y_Ne_init b_Ne_init 1 none :: wsA
def ws_Ne_empty : List Cond := .code y_Ne_empty b_Ne_empty 1 none :: wsA
def ws_Ne_hasStop : List Cond := .code y_Ne_hasStop b_Ne_hasStop 2 (some .boolean) :: wsA
def ws_Ne_hasStops : List Cond := .code y_Ne_hasStops b_Ne_hasStops 3 (some .boolean) :: wsA
def ws_Ne_gap : List Cond := .code y_Ne_gap b_Ne_gap 4 (some .int) :: wsA
def ws_Ri_init : List Cond := .code y_Ri_init b_Ri_init 1 none :: wsA
def ws_Ri_has : List Cond := .code y_Ri_has b_Ri_has 2 (some .boolean) :: wsA
def ws_Ri_isOnDay : List Cond := .code y_Ri_isOnDay b_Ri_isOnDay 3 (some .boolean) :: wsA
def ws_Ri_add : List Cond := .code y_Ri_add b_Ri_add 8 (some .int) :: wsA
def ws_Ri_goes : List Cond := .code y_Ri_goes b_Ri_goes 2 (some .boolean) :: wsA
def ws_Ri_leaves : List Cond := .code y_Ri_leaves b_Ri_leaves 3 (some .int) :: wsA
def ws_Ri_goingDays : List Cond := .code y_Ri_goingDays b_Ri_goingDays 4 (some .int) :: wsA
def ws_Bo_init : List Cond := .code y_Bo_init b_Bo_init 1 none :: wsA
def ws_Bo_rideAt : List Cond := .code y_Bo_rideAt b_Bo_rideAt 2 (some .int) :: wsA
def ws_Bo_putRide : List Cond := .code y_Bo_putRide b_Bo_putRide 4 none :: wsA
def ws_Bo_putIn : List Cond := .code y_Bo_putIn b_Bo_putIn 5 none :: wsA
def ws_Bo_isBehind : List Cond := .code y_Bo_isBehind b_Bo_isBehind 4 (some .boolean) :: wsA
def ws_Bo_takeOut : List Cond := .code y_Bo_takeOut b_Bo_takeOut 4 none :: wsA
def ws_Bo_firstFrom : List Cond := .code y_Bo_firstFrom b_Bo_firstFrom 5 (some .int) :: wsA
def ws_Bo_countLate : List Cond := .code y_Bo_countLate b_Bo_countLate 4 (some .int) :: wsA
def ws_Wa_init : List Cond := .code y_Wa_init b_Wa_init 1 none :: wsA
def ws_Wa_empty : List Cond := .code y_Wa_empty b_Wa_empty 1 none :: wsA
def ws_Wa_add : List Cond := .code y_Wa_add b_Wa_add 4 (some .int) :: wsA
def ws_Wa_shorten : List Cond := .code y_Wa_shorten b_Wa_shorten 8 none :: wsA
def ws_Wa_atLeastOne : List Cond := .code y_Wa_atLeastOne b_Wa_atLeastOne 3 (some .int) :: wsA
def ws_Wa_anyNumber : List Cond := .code y_Wa_anyNumber b_Wa_anyNumber 3 (some .int) :: wsA
def ws_Ar_init : List Cond := .code y_Ar_init b_Ar_init 1 none :: wsA
def ws_Ar_first : List Cond := .code y_Ar_first b_Ar_first 2 (some .int) :: wsA
def ws_Ar_isByWalk : List Cond := .code y_Ar_isByWalk b_Ar_isByWalk 3 (some .boolean) :: wsA
def ws_Ar_copy : List Cond := .code y_Ar_copy b_Ar_copy 2 none :: wsA
def ws_Ar_begin : List Cond := .code y_Ar_begin b_Ar_begin 5 none :: wsA
def ws_Ar_find : List Cond := .code y_Ar_find b_Ar_find 4 none :: wsA
def ws_Ar_addOneDeparture : List Cond := .code y_Ar_addOneDeparture b_Ar_addOneDeparture 6 none :: wsA
def ws_Ar_mayTake : List Cond := .code y_Ar_mayTake b_Ar_mayTake 4 (some .boolean) :: wsA
def ws_Ar_arrive : List Cond := .code y_Ar_arrive b_Ar_arrive 5 none :: wsA
def ws_Ar_lastWalk : List Cond := .code y_Ar_lastWalk b_Ar_lastWalk 5 (some .int) :: wsA
def ws_Ar_lastDeparture : List Cond := .code y_Ar_lastDeparture b_Ar_lastDeparture 5 (some .int) :: wsA
def ws_Ar_endsByRide : List Cond := .code y_Ar_endsByRide b_Ar_endsByRide 6 (some .boolean) :: wsA
def ws_Sp_init : List Cond := .code y_Sp_init b_Sp_init 1 none :: wsA
def ws_Sp_find : List Cond := .code y_Sp_find b_Sp_find 8 none :: wsA
def ws_Sp_spread : List Cond := .code y_Sp_spread b_Sp_spread 6 none :: wsA
def ws_Sp_latestBeginning : List Cond := .code y_Sp_latestBeginning b_Sp_latestBeginning 7 (some .int) :: wsA
def ws_Sp_leastMinutes : List Cond := .code y_Sp_leastMinutes b_Sp_leastMinutes 6 (some .int) :: wsA
def ws_Sp_latestFor : List Cond := .code y_Sp_latestFor b_Sp_latestFor 4 (some .int) :: wsA
def ws_Sp_endOf : List Cond := .code y_Sp_endOf b_Sp_endOf 9 (some .int) :: wsA
def ws_Sp_mayFollow : List Cond := .code y_Sp_mayFollow b_Sp_mayFollow 5 (some .boolean) :: wsA
def ws_St_init : List Cond := .code y_St_init b_St_init 1 none :: wsA
def ws_St_take : List Cond := .code y_St_take b_St_take 5 none :: wsA
def ws_Ac_init : List Cond := .code y_Ac_init b_Ac_init 1 none :: wsA
def ws_Ac_trace : List Cond := .code y_Ac_trace b_Ac_trace 8 none :: wsA
def ws_Ac_addWalk : List Cond := .code y_Ac_addWalk b_Ac_addWalk 6 (some .int) :: wsA
def ws_Ac_addDeparture : List Cond := .code y_Ac_addDeparture b_Ac_addDeparture 6 (some .int) :: wsA
def ws_Ac_put : List Cond := .code y_Ac_put b_Ac_put 5 none :: wsA
def ws_M_init : List Cond := .code y_M_init b_M_init 1 none :: wsA
def ws_M_clear : List Cond := .code y_M_clear b_M_clear 2 (some .int) :: wsA
def ws_M_isIn : List Cond := .code y_M_isIn b_M_isIn 3 (some .boolean) :: wsA
def ws_M_isStop : List Cond := .code y_M_isStop b_M_isStop 2 (some .boolean) :: wsA
def ws_M_isRide : List Cond := .code y_M_isRide b_M_isRide 2 (some .boolean) :: wsA
def ws_M_stop : List Cond := .code y_M_stop b_M_stop 2 (some .int) :: wsA
def ws_M_change : List Cond := .code y_M_change b_M_change 4 (some .int) :: wsA
def ws_M_areTwo : List Cond := .code y_M_areTwo b_M_areTwo 3 (some .boolean) :: wsA
def ws_M_ride : List Cond := .code y_M_ride b_M_ride 7 (some .int) :: wsA
def ws_M_walk : List Cond := .code y_M_walk b_M_walk 4 (some .int) :: wsA
def ws_M_isOn : List Cond := .code y_M_isOn b_M_isOn 3 (some .boolean) :: wsA
def ws_M_late : List Cond := .code y_M_late b_M_late 5 (some .int) :: wsA
def ws_M_goes : List Cond := .code y_M_goes b_M_goes 3 (some .boolean) :: wsA
def ws_M_leaves : List Cond := .code y_M_leaves b_M_leaves 3 (some .int) :: wsA
def ws_M_arrives : List Cond := .code y_M_arrives b_M_arrives 3 (some .int) :: wsA
def ws_M_arrival : List Cond := .code y_M_arrival b_M_arrival 2 (some .int) :: wsA
def ws_M_mayTake : List Cond := .code y_M_mayTake b_M_mayTake 4 (some .boolean) :: wsA
def ws_M_begin : List Cond := .code y_M_begin b_M_begin 4 none :: wsA
def ws_M_goWalks : List Cond := .code y_M_goWalks b_M_goWalks 4 none :: wsA
def ws_M_goRides : List Cond := .code y_M_goRides b_M_goRides 3 none :: wsA
def ws_M_find : List Cond := .code y_M_find b_M_find 3 none :: wsA
def ws_M_found : List Cond := .code y_M_found b_M_found 4 (some .int) :: wsA
def ws_M_isAsked : List Cond := .code y_M_isAsked b_M_isAsked 4 (some .boolean) :: wsA
def ws_M_earliest : List Cond := .code y_M_earliest b_M_earliest 4 (some .int) :: wsA
def ws_M_isBy : List Cond := .code y_M_isBy b_M_isBy 5 (some .boolean) :: wsA
def ws_M_latest : List Cond := .code y_M_latest b_M_latest 7 (some .int) :: wsA
def ws_M_fewest : List Cond := .code y_M_fewest b_M_fewest 6 (some .int) :: wsA
def ws_M_isSpan : List Cond := .code y_M_isSpan b_M_isSpan 5 (some .boolean) :: wsA
def ws_M_fastest : List Cond := .code y_M_fastest b_M_fastest 8 (some .int) :: wsA
def ws_M_profile : List Cond := .code y_M_profile b_M_profile 7 (some .int) :: wsA
def ws_M_step : List Cond := .code y_M_step b_M_step 3 (some .int) :: wsA
def ws_M_reach : List Cond := .code y_M_reach b_M_reach 6 (some .int) :: wsA
def ws_M_put : List Cond := .code y_M_put b_M_put 6 none :: wsA
def ws_M_walkBefore : List Cond := .code y_M_walkBefore b_M_walkBefore 3 (some .int) :: wsA
def ws_M_departureBefore : List Cond := .code y_M_departureBefore b_M_departureBefore 3 (some .int) :: wsA
def ws_M_way : List Cond := .code y_M_way b_M_way 9 (some .int) :: wsA
def ws_M_act : List Cond := .code y_M_act b_M_act 3 (some .int) :: wsA
def ws_M_next : List Cond := .code y_M_next b_M_next 8 (some .int) :: wsA
def ws_M_told : List Cond := .code y_M_told b_M_told 5 (some .int) :: wsA
def ws_M_of : List Cond := .code y_M_of b_M_of 5 (some .int) :: wsA
def ws_J_fill : List Cond := .code y_J_fill b_J_fill 4 none :: wsA
end
section
theorem wA_0 : (Cond.selects R_Bo y_Bo_isBehind y_Bo_isBehind) ∈ wsA := List.mem_filter.mpr ⟨List.mem_of_getElem? (i := 0) (by decide +kernel), rfl⟩
theorem wA_1 : (Cond.selects R_Wa y_Wa_shorten y_Wa_shorten) ∈ wsA := List.mem_filter.mpr ⟨List.mem_of_getElem? (i := 1) (by decide +kernel), rfl⟩
theorem wA_2 : (Cond.selects R_Ar y_Ar_arrive y_Ar_arrive) ∈ wsA := List.mem_filter.mpr ⟨List.mem_of_getElem? (i := 2) (by decide +kernel), rfl⟩
theorem wA_3 : (Cond.selects R_Sp y_Sp_endOf y_Sp_endOf) ∈ wsA := List.mem_filter.mpr ⟨List.mem_of_getElem? (i := 3) (by decide +kernel), rfl⟩
theorem wA_4 : (Cond.selects R_Sp y_Sp_spread y_Sp_spread) ∈ wsA := List.mem_filter.mpr ⟨List.mem_of_getElem? (i := 4) (by decide +kernel), rfl⟩
theorem wA_5 : (Cond.selects R_Ac y_Ac_addWalk y_Ac_addWalk) ∈ wsA := List.mem_filter.mpr ⟨List.mem_of_getElem? (i := 5) (by decide +kernel), rfl⟩
theorem wA_6 : (Cond.selects R_Ac y_Ac_put y_Ac_put) ∈ wsA := List.mem_filter.mpr ⟨List.mem_of_getElem? (i := 6) (by decide +kernel), rfl⟩
theorem wA_7 : (Cond.selects R_Ac y_Ac_addDeparture y_Ac_addDeparture) ∈ wsA := List.mem_filter.mpr ⟨List.mem_of_getElem? (i := 7) (by decide +kernel), rfl⟩
theorem wA_8 : (Cond.selects R_Ar y_Ar_endsByRide y_Ar_endsByRide) ∈ wsA := List.mem_filter.mpr ⟨List.mem_of_getElem? (i := 8) (by decide +kernel), rfl⟩
theorem wA_30 : (Cond.initialized R_T) ∈ wsA := List.mem_filter.mpr ⟨List.mem_of_getElem? (i := 30) (by decide +kernel), rfl⟩
theorem wA_31 : (Cond.initialized R_Ne) ∈ wsA := List.mem_filter.mpr ⟨List.mem_of_getElem? (i := 31) (by decide +kernel), rfl⟩
theorem wA_32 : (Cond.initialized R_Ri) ∈ wsA := List.mem_filter.mpr ⟨List.mem_of_getElem? (i := 32) (by decide +kernel), rfl⟩
theorem wA_33 : (Cond.initialized R_Bo) ∈ wsA := List.mem_filter.mpr ⟨List.mem_of_getElem? (i := 33) (by decide +kernel), rfl⟩
theorem wA_34 : (Cond.initialized R_Wa) ∈ wsA := List.mem_filter.mpr ⟨List.mem_of_getElem? (i := 34) (by decide +kernel), rfl⟩
theorem wA_35 : (Cond.initialized R_J) ∈ wsA := List.mem_filter.mpr ⟨List.mem_of_getElem? (i := 35) (by decide +kernel), rfl⟩
theorem wA_36 : (Cond.initialized R_Ar) ∈ wsA := List.mem_filter.mpr ⟨List.mem_of_getElem? (i := 36) (by decide +kernel), rfl⟩
theorem wA_37 : (Cond.initialized R_Sp) ∈ wsA := List.mem_filter.mpr ⟨List.mem_of_getElem? (i := 37) (by decide +kernel), rfl⟩
theorem wA_38 : (Cond.initialized R_St) ∈ wsA := List.mem_filter.mpr ⟨List.mem_of_getElem? (i := 38) (by decide +kernel), rfl⟩
theorem wA_39 : (Cond.initialized R_Ac) ∈ wsA := List.mem_filter.mpr ⟨List.mem_of_getElem? (i := 39) (by decide +kernel), rfl⟩
theorem wA_41 : (Cond.initialized "java/lang/Math") ∈ wsA := List.mem_filter.mpr ⟨List.mem_of_getElem? (i := 41) (by decide +kernel), rfl⟩
theorem wA_42 : (Cond.initialized "java/lang/System") ∈ wsA := List.mem_filter.mpr ⟨List.mem_of_getElem? (i := 42) (by decide +kernel), rfl⟩
theorem wA_63 : (Cond.fieldLink R_Ri 9 "TimedWays$Rides" "count" "I") ∈ wsA := List.mem_filter.mpr ⟨List.mem_of_getElem? (i := 63) (by decide +kernel), rfl⟩
theorem wA_64 : (Cond.fieldLink R_T 51 "TimedWays$Rides" "count" "I") ∈ wsA := List.mem_filter.mpr ⟨List.mem_of_getElem? (i := 64) (by decide +kernel), rfl⟩
theorem wA_65 : (Cond.fieldLink R_Ne 40 "TimedWays$Rides" "count" "I") ∈ wsA := List.mem_filter.mpr ⟨List.mem_of_getElem? (i := 65) (by decide +kernel), rfl⟩
theorem wA_66 : (Cond.fieldLink R_Ar 105 "TimedWays$Rides" "count" "I") ∈ wsA := List.mem_filter.mpr ⟨List.mem_of_getElem? (i := 66) (by decide +kernel), rfl⟩
theorem wA_67 : (Cond.fieldLink R_Ri 15 "TimedWays$Rides" "from" "[I") ∈ wsA := List.mem_filter.mpr ⟨List.mem_of_getElem? (i := 67) (by decide +kernel), rfl⟩
theorem wA_68 : (Cond.fieldLink R_Ac 80 "TimedWays$Rides" "from" "[I") ∈ wsA := List.mem_filter.mpr ⟨List.mem_of_getElem? (i := 68) (by decide +kernel), rfl⟩
theorem wA_69 : (Cond.fieldLink R_Sp 73 "TimedWays$Rides" "from" "[I") ∈ wsA := List.mem_filter.mpr ⟨List.mem_of_getElem? (i := 69) (by decide +kernel), rfl⟩
theorem wA_70 : (Cond.fieldLink R_Bo 39 "TimedWays$Rides" "from" "[I") ∈ wsA := List.mem_filter.mpr ⟨List.mem_of_getElem? (i := 70) (by decide +kernel), rfl⟩
theorem wA_71 : (Cond.fieldLink R_Ar 71 "TimedWays$Rides" "from" "[I") ∈ wsA := List.mem_filter.mpr ⟨List.mem_of_getElem? (i := 71) (by decide +kernel), rfl⟩
theorem wA_72 : (Cond.fieldLink R_T 192 "TimedWays$Rides" "from" "[I") ∈ wsA := List.mem_filter.mpr ⟨List.mem_of_getElem? (i := 72) (by decide +kernel), rfl⟩
theorem wA_73 : (Cond.fieldLink R_Ri 19 "TimedWays$Rides" "to" "[I") ∈ wsA := List.mem_filter.mpr ⟨List.mem_of_getElem? (i := 73) (by decide +kernel), rfl⟩
theorem wA_74 : (Cond.fieldLink R_Sp 82 "TimedWays$Rides" "to" "[I") ∈ wsA := List.mem_filter.mpr ⟨List.mem_of_getElem? (i := 74) (by decide +kernel), rfl⟩
theorem wA_75 : (Cond.fieldLink R_Ar 80 "TimedWays$Rides" "to" "[I") ∈ wsA := List.mem_filter.mpr ⟨List.mem_of_getElem? (i := 75) (by decide +kernel), rfl⟩
theorem wA_76 : (Cond.fieldLink R_T 195 "TimedWays$Rides" "to" "[I") ∈ wsA := List.mem_filter.mpr ⟨List.mem_of_getElem? (i := 76) (by decide +kernel), rfl⟩
theorem wA_77 : (Cond.fieldLink R_Ri 22 "TimedWays$Rides" "minute" "[I") ∈ wsA := List.mem_filter.mpr ⟨List.mem_of_getElem? (i := 77) (by decide +kernel), rfl⟩
theorem wA_78 : (Cond.fieldLink R_T 198 "TimedWays$Rides" "minute" "[I") ∈ wsA := List.mem_filter.mpr ⟨List.mem_of_getElem? (i := 78) (by decide +kernel), rfl⟩
theorem wA_79 : (Cond.fieldLink R_Ri 25 "TimedWays$Rides" "takes" "[I") ∈ wsA := List.mem_filter.mpr ⟨List.mem_of_getElem? (i := 79) (by decide +kernel), rfl⟩
theorem wA_80 : (Cond.fieldLink R_Ac 79 "TimedWays$Rides" "takes" "[I") ∈ wsA := List.mem_filter.mpr ⟨List.mem_of_getElem? (i := 80) (by decide +kernel), rfl⟩
theorem wA_81 : (Cond.fieldLink R_Sp 85 "TimedWays$Rides" "takes" "[I") ∈ wsA := List.mem_filter.mpr ⟨List.mem_of_getElem? (i := 81) (by decide +kernel), rfl⟩
theorem wA_82 : (Cond.fieldLink R_Ar 83 "TimedWays$Rides" "takes" "[I") ∈ wsA := List.mem_filter.mpr ⟨List.mem_of_getElem? (i := 82) (by decide +kernel), rfl⟩
theorem wA_83 : (Cond.fieldLink R_T 201 "TimedWays$Rides" "takes" "[I") ∈ wsA := List.mem_filter.mpr ⟨List.mem_of_getElem? (i := 83) (by decide +kernel), rfl⟩
theorem wA_84 : (Cond.fieldLink R_Ri 28 "TimedWays$Rides" "days" "[I") ∈ wsA := List.mem_filter.mpr ⟨List.mem_of_getElem? (i := 84) (by decide +kernel), rfl⟩
theorem wA_85 : (Cond.fieldLink R_T 204 "TimedWays$Rides" "days" "[I") ∈ wsA := List.mem_filter.mpr ⟨List.mem_of_getElem? (i := 85) (by decide +kernel), rfl⟩
theorem wA_86 : (Cond.fieldLink R_Ri 31 "TimedWays$Rides" "lateness" "[I") ∈ wsA := List.mem_filter.mpr ⟨List.mem_of_getElem? (i := 86) (by decide +kernel), rfl⟩
theorem wA_87 : (Cond.fieldLink R_T 111 "TimedWays$Rides" "lateness" "[I") ∈ wsA := List.mem_filter.mpr ⟨List.mem_of_getElem? (i := 87) (by decide +kernel), rfl⟩
theorem wA_88 : (Cond.fieldLink R_Bo 45 "TimedWays$Rides" "lateness" "[I") ∈ wsA := List.mem_filter.mpr ⟨List.mem_of_getElem? (i := 88) (by decide +kernel), rfl⟩
theorem wA_111 : (Cond.fieldLink R_Bo 9 "TimedWays$Board" "count" "I") ∈ wsA := List.mem_filter.mpr ⟨List.mem_of_getElem? (i := 111) (by decide +kernel), rfl⟩
theorem wA_112 : (Cond.fieldLink R_Sp 31 "TimedWays$Board" "count" "I") ∈ wsA := List.mem_filter.mpr ⟨List.mem_of_getElem? (i := 112) (by decide +kernel), rfl⟩
theorem wA_113 : (Cond.fieldLink R_Ne 43 "TimedWays$Board" "count" "I") ∈ wsA := List.mem_filter.mpr ⟨List.mem_of_getElem? (i := 113) (by decide +kernel), rfl⟩
theorem wA_114 : (Cond.fieldLink R_Ar 54 "TimedWays$Board" "count" "I") ∈ wsA := List.mem_filter.mpr ⟨List.mem_of_getElem? (i := 114) (by decide +kernel), rfl⟩
theorem wA_115 : (Cond.fieldLink R_T 208 "TimedWays$Board" "count" "I") ∈ wsA := List.mem_filter.mpr ⟨List.mem_of_getElem? (i := 115) (by decide +kernel), rfl⟩
theorem wA_116 : (Cond.fieldLink R_Bo 15 "TimedWays$Board" "departures" "[I") ∈ wsA := List.mem_filter.mpr ⟨List.mem_of_getElem? (i := 116) (by decide +kernel), rfl⟩
theorem wA_117 : (Cond.fieldLink R_Bo 19 "TimedWays$Board" "leaves" "[I") ∈ wsA := List.mem_filter.mpr ⟨List.mem_of_getElem? (i := 117) (by decide +kernel), rfl⟩
theorem wA_118 : (Cond.fieldLink R_Sp 37 "TimedWays$Board" "leaves" "[I") ∈ wsA := List.mem_filter.mpr ⟨List.mem_of_getElem? (i := 118) (by decide +kernel), rfl⟩
theorem wA_119 : (Cond.fieldLink R_Ar 64 "TimedWays$Board" "leaves" "[I") ∈ wsA := List.mem_filter.mpr ⟨List.mem_of_getElem? (i := 119) (by decide +kernel), rfl⟩
theorem wA_133 : (Cond.constant R_Wa 28 1000000) ∈ wsA := List.mem_filter.mpr ⟨List.mem_of_getElem? (i := 133) (by decide +kernel), rfl⟩
theorem wA_134 : (Cond.methodLink R_Wa 29 y_J_fill) ∈ wsA := List.mem_filter.mpr ⟨List.mem_of_getElem? (i := 134) (by decide +kernel), rfl⟩
theorem wA_135 : (Cond.static y_J_fill) ∈ wsA := List.mem_filter.mpr ⟨List.mem_of_getElem? (i := 135) (by decide +kernel), rfl⟩
set_option maxRecDepth 20000 in
theorem wA_136 : (Cond.code y_J_fill b_J_fill 4 none) ∈ wsA := List.mem_filter.mpr ⟨List.mem_of_getElem? (i := 136) rfl, rfl⟩
theorem wA_137 : (Cond.fieldLink R_Wa 9 "TimedWays$Walks" "count" "I") ∈ wsA := List.mem_filter.mpr ⟨List.mem_of_getElem? (i := 137) (by decide +kernel), rfl⟩
theorem wA_138 : (Cond.fieldLink R_T 99 "TimedWays$Walks" "count" "I") ∈ wsA := List.mem_filter.mpr ⟨List.mem_of_getElem? (i := 138) (by decide +kernel), rfl⟩
theorem wA_139 : (Cond.fieldLink R_Ar 98 "TimedWays$Walks" "count" "I") ∈ wsA := List.mem_filter.mpr ⟨List.mem_of_getElem? (i := 139) (by decide +kernel), rfl⟩
theorem wA_140 : (Cond.fieldLink R_Wa 15 "TimedWays$Walks" "from" "[I") ∈ wsA := List.mem_filter.mpr ⟨List.mem_of_getElem? (i := 140) (by decide +kernel), rfl⟩
theorem wA_141 : (Cond.fieldLink R_Ac 55 "TimedWays$Walks" "from" "[I") ∈ wsA := List.mem_filter.mpr ⟨List.mem_of_getElem? (i := 141) (by decide +kernel), rfl⟩
theorem wA_142 : (Cond.fieldLink R_Ar 99 "TimedWays$Walks" "from" "[I") ∈ wsA := List.mem_filter.mpr ⟨List.mem_of_getElem? (i := 142) (by decide +kernel), rfl⟩
theorem wA_143 : (Cond.fieldLink R_Wa 19 "TimedWays$Walks" "to" "[I") ∈ wsA := List.mem_filter.mpr ⟨List.mem_of_getElem? (i := 143) (by decide +kernel), rfl⟩
theorem wA_144 : (Cond.fieldLink R_Ar 104 "TimedWays$Walks" "to" "[I") ∈ wsA := List.mem_filter.mpr ⟨List.mem_of_getElem? (i := 144) (by decide +kernel), rfl⟩
theorem wA_145 : (Cond.fieldLink R_Wa 22 "TimedWays$Walks" "takes" "[I") ∈ wsA := List.mem_filter.mpr ⟨List.mem_of_getElem? (i := 145) (by decide +kernel), rfl⟩
theorem wA_146 : (Cond.fieldLink R_Ac 60 "TimedWays$Walks" "takes" "[I") ∈ wsA := List.mem_filter.mpr ⟨List.mem_of_getElem? (i := 146) (by decide +kernel), rfl⟩
theorem wA_147 : (Cond.fieldLink R_Ar 103 "TimedWays$Walks" "takes" "[I") ∈ wsA := List.mem_filter.mpr ⟨List.mem_of_getElem? (i := 147) (by decide +kernel), rfl⟩
theorem wA_148 : (Cond.fieldLink R_Wa 25 "TimedWays$Walks" "shortest" "[I") ∈ wsA := List.mem_filter.mpr ⟨List.mem_of_getElem? (i := 148) (by decide +kernel), rfl⟩
theorem wA_160 : (Cond.fieldLink R_Ne 9 "TimedWays$Network" "stopCount" "I") ∈ wsA := List.mem_filter.mpr ⟨List.mem_of_getElem? (i := 160) (by decide +kernel), rfl⟩
theorem wA_161 : (Cond.fieldLink R_T 66 "TimedWays$Network" "stopCount" "I") ∈ wsA := List.mem_filter.mpr ⟨List.mem_of_getElem? (i := 161) (by decide +kernel), rfl⟩
theorem wA_162 : (Cond.fieldLink R_Ar 92 "TimedWays$Network" "stopCount" "I") ∈ wsA := List.mem_filter.mpr ⟨List.mem_of_getElem? (i := 162) (by decide +kernel), rfl⟩
theorem wA_163 : (Cond.fieldLink R_Ne 15 "TimedWays$Network" "changes" "[I") ∈ wsA := List.mem_filter.mpr ⟨List.mem_of_getElem? (i := 163) (by decide +kernel), rfl⟩
theorem wA_164 : (Cond.fieldLink R_T 69 "TimedWays$Network" "changes" "[I") ∈ wsA := List.mem_filter.mpr ⟨List.mem_of_getElem? (i := 164) (by decide +kernel), rfl⟩
theorem wA_165 : (Cond.fieldLink R_Ar 89 "TimedWays$Network" "changes" "[I") ∈ wsA := List.mem_filter.mpr ⟨List.mem_of_getElem? (i := 165) (by decide +kernel), rfl⟩
theorem wA_166 : (Cond.fieldLink R_Ne 22 "TimedWays$Network" "rides" "LTimedWays$Rides;") ∈ wsA := List.mem_filter.mpr ⟨List.mem_of_getElem? (i := 166) (by decide +kernel), rfl⟩
theorem wA_167 : (Cond.fieldLink R_T 47 "TimedWays$Network" "rides" "LTimedWays$Rides;") ∈ wsA := List.mem_filter.mpr ⟨List.mem_of_getElem? (i := 167) (by decide +kernel), rfl⟩
theorem wA_168 : (Cond.fieldLink R_Ac 70 "TimedWays$Network" "rides" "LTimedWays$Rides;") ∈ wsA := List.mem_filter.mpr ⟨List.mem_of_getElem? (i := 168) (by decide +kernel), rfl⟩
theorem wA_169 : (Cond.fieldLink R_Sp 69 "TimedWays$Network" "rides" "LTimedWays$Rides;") ∈ wsA := List.mem_filter.mpr ⟨List.mem_of_getElem? (i := 169) (by decide +kernel), rfl⟩
theorem wA_170 : (Cond.fieldLink R_Ar 67 "TimedWays$Network" "rides" "LTimedWays$Rides;") ∈ wsA := List.mem_filter.mpr ⟨List.mem_of_getElem? (i := 170) (by decide +kernel), rfl⟩
theorem wA_171 : (Cond.fieldLink R_Ne 29 "TimedWays$Network" "board" "LTimedWays$Board;") ∈ wsA := List.mem_filter.mpr ⟨List.mem_of_getElem? (i := 171) (by decide +kernel), rfl⟩
theorem wA_172 : (Cond.fieldLink R_Sp 25 "TimedWays$Network" "board" "LTimedWays$Board;") ∈ wsA := List.mem_filter.mpr ⟨List.mem_of_getElem? (i := 172) (by decide +kernel), rfl⟩
theorem wA_173 : (Cond.fieldLink R_T 85 "TimedWays$Network" "board" "LTimedWays$Board;") ∈ wsA := List.mem_filter.mpr ⟨List.mem_of_getElem? (i := 173) (by decide +kernel), rfl⟩
theorem wA_174 : (Cond.fieldLink R_Ar 50 "TimedWays$Network" "board" "LTimedWays$Board;") ∈ wsA := List.mem_filter.mpr ⟨List.mem_of_getElem? (i := 174) (by decide +kernel), rfl⟩
theorem wA_175 : (Cond.fieldLink R_Ne 36 "TimedWays$Network" "walks" "LTimedWays$Walks;") ∈ wsA := List.mem_filter.mpr ⟨List.mem_of_getElem? (i := 175) (by decide +kernel), rfl⟩
theorem wA_176 : (Cond.fieldLink R_Sp 53 "TimedWays$Network" "walks" "LTimedWays$Walks;") ∈ wsA := List.mem_filter.mpr ⟨List.mem_of_getElem? (i := 176) (by decide +kernel), rfl⟩
theorem wA_177 : (Cond.fieldLink R_Ac 49 "TimedWays$Network" "walks" "LTimedWays$Walks;") ∈ wsA := List.mem_filter.mpr ⟨List.mem_of_getElem? (i := 177) (by decide +kernel), rfl⟩
theorem wA_178 : (Cond.fieldLink R_Ar 31 "TimedWays$Network" "walks" "LTimedWays$Walks;") ∈ wsA := List.mem_filter.mpr ⟨List.mem_of_getElem? (i := 178) (by decide +kernel), rfl⟩
theorem wA_179 : (Cond.fieldLink R_T 95 "TimedWays$Network" "walks" "LTimedWays$Walks;") ∈ wsA := List.mem_filter.mpr ⟨List.mem_of_getElem? (i := 179) (by decide +kernel), rfl⟩
theorem wA_197 : (Cond.fieldLink R_Ar 9 "TimedWays$Arrivals" "byRide" "[I") ∈ wsA := List.mem_filter.mpr ⟨List.mem_of_getElem? (i := 197) (by decide +kernel), rfl⟩
theorem wA_198 : (Cond.fieldLink R_Ar 15 "TimedWays$Arrivals" "byWalk" "[I") ∈ wsA := List.mem_filter.mpr ⟨List.mem_of_getElem? (i := 198) (by decide +kernel), rfl⟩
theorem wA_210 : (Cond.fieldLink R_Sp 9 "TimedWays$Span" "onward" "[I") ∈ wsA := List.mem_filter.mpr ⟨List.mem_of_getElem? (i := 210) (by decide +kernel), rfl⟩
theorem wA_211 : (Cond.fieldLink R_Sp 15 "TimedWays$Span" "ends" "[I") ∈ wsA := List.mem_filter.mpr ⟨List.mem_of_getElem? (i := 211) (by decide +kernel), rfl⟩
theorem wA_212 : (Cond.fieldLink R_St 22 "TimedWays$Span" "ends" "[I") ∈ wsA := List.mem_filter.mpr ⟨List.mem_of_getElem? (i := 212) (by decide +kernel), rfl⟩
theorem wA_224 : (Cond.fieldLink R_St 9 "TimedWays$Steps" "count" "I") ∈ wsA := List.mem_filter.mpr ⟨List.mem_of_getElem? (i := 224) (by decide +kernel), rfl⟩
theorem wA_225 : (Cond.fieldLink R_T 60 "TimedWays$Steps" "count" "I") ∈ wsA := List.mem_filter.mpr ⟨List.mem_of_getElem? (i := 225) (by decide +kernel), rfl⟩
theorem wA_226 : (Cond.fieldLink R_St 15 "TimedWays$Steps" "times" "[I") ∈ wsA := List.mem_filter.mpr ⟨List.mem_of_getElem? (i := 226) (by decide +kernel), rfl⟩
theorem wA_227 : (Cond.fieldLink R_T 167 "TimedWays$Steps" "times" "[I") ∈ wsA := List.mem_filter.mpr ⟨List.mem_of_getElem? (i := 227) (by decide +kernel), rfl⟩
theorem wA_228 : (Cond.fieldLink R_St 19 "TimedWays$Steps" "ends" "[I") ∈ wsA := List.mem_filter.mpr ⟨List.mem_of_getElem? (i := 228) (by decide +kernel), rfl⟩
theorem wA_229 : (Cond.fieldLink R_T 170 "TimedWays$Steps" "ends" "[I") ∈ wsA := List.mem_filter.mpr ⟨List.mem_of_getElem? (i := 229) (by decide +kernel), rfl⟩
theorem wA_243 : (Cond.fieldLink R_Ac 9 "TimedWays$Acts" "count" "I") ∈ wsA := List.mem_filter.mpr ⟨List.mem_of_getElem? (i := 243) (by decide +kernel), rfl⟩
theorem wA_244 : (Cond.fieldLink R_T 61 "TimedWays$Acts" "count" "I") ∈ wsA := List.mem_filter.mpr ⟨List.mem_of_getElem? (i := 244) (by decide +kernel), rfl⟩
theorem wA_245 : (Cond.fieldLink R_Ac 15 "TimedWays$Acts" "numbers" "[I") ∈ wsA := List.mem_filter.mpr ⟨List.mem_of_getElem? (i := 245) (by decide +kernel), rfl⟩
theorem wA_246 : (Cond.fieldLink R_T 181 "TimedWays$Acts" "numbers" "[I") ∈ wsA := List.mem_filter.mpr ⟨List.mem_of_getElem? (i := 246) (by decide +kernel), rfl⟩
theorem wA_247 : (Cond.fieldLink R_Ac 19 "TimedWays$Acts" "days" "[I") ∈ wsA := List.mem_filter.mpr ⟨List.mem_of_getElem? (i := 247) (by decide +kernel), rfl⟩
theorem wA_248 : (Cond.fieldLink R_T 178 "TimedWays$Acts" "days" "[I") ∈ wsA := List.mem_filter.mpr ⟨List.mem_of_getElem? (i := 248) (by decide +kernel), rfl⟩
theorem wA_249 : (Cond.fieldLink R_Ac 22 "TimedWays$Acts" "begins" "[I") ∈ wsA := List.mem_filter.mpr ⟨List.mem_of_getElem? (i := 249) (by decide +kernel), rfl⟩
theorem wA_250 : (Cond.fieldLink R_T 184 "TimedWays$Acts" "begins" "[I") ∈ wsA := List.mem_filter.mpr ⟨List.mem_of_getElem? (i := 250) (by decide +kernel), rfl⟩
theorem wA_251 : (Cond.fieldLink R_Ac 25 "TimedWays$Acts" "ends" "[I") ∈ wsA := List.mem_filter.mpr ⟨List.mem_of_getElem? (i := 251) (by decide +kernel), rfl⟩
theorem wA_252 : (Cond.fieldLink R_T 187 "TimedWays$Acts" "ends" "[I") ∈ wsA := List.mem_filter.mpr ⟨List.mem_of_getElem? (i := 252) (by decide +kernel), rfl⟩
theorem wA_264 : (Cond.fieldLink R_T 12 "TimedWays" "net" "LTimedWays$Network;") ∈ wsA := List.mem_filter.mpr ⟨List.mem_of_getElem? (i := 264) (by decide +kernel), rfl⟩
theorem wA_265 : (Cond.fieldLink R_T 19 "TimedWays" "arrivals" "LTimedWays$Arrivals;") ∈ wsA := List.mem_filter.mpr ⟨List.mem_of_getElem? (i := 265) (by decide +kernel), rfl⟩
theorem wA_266 : (Cond.fieldLink R_T 23 "TimedWays" "before" "LTimedWays$Arrivals;") ∈ wsA := List.mem_filter.mpr ⟨List.mem_of_getElem? (i := 266) (by decide +kernel), rfl⟩
theorem wA_267 : (Cond.fieldLink R_T 29 "TimedWays" "span" "LTimedWays$Span;") ∈ wsA := List.mem_filter.mpr ⟨List.mem_of_getElem? (i := 267) (by decide +kernel), rfl⟩
theorem wA_268 : (Cond.fieldLink R_T 36 "TimedWays" "steps" "LTimedWays$Steps;") ∈ wsA := List.mem_filter.mpr ⟨List.mem_of_getElem? (i := 268) (by decide +kernel), rfl⟩
theorem wA_269 : (Cond.fieldLink R_T 43 "TimedWays" "acts" "LTimedWays$Acts;") ∈ wsA := List.mem_filter.mpr ⟨List.mem_of_getElem? (i := 269) (by decide +kernel), rfl⟩
theorem wA_287 : (Cond.methodLink R_T 57 y_Ne_empty) ∈ wsA := List.mem_filter.mpr ⟨List.mem_of_getElem? (i := 287) (by decide +kernel), rfl⟩
theorem wA_288 : (Cond.instanceMethod y_Ne_empty) ∈ wsA := List.mem_filter.mpr ⟨List.mem_of_getElem? (i := 288) (by decide +kernel), rfl⟩
theorem wA_289 : (Cond.selects R_Ne y_Ne_empty y_Ne_empty) ∈ wsA := List.mem_filter.mpr ⟨List.mem_of_getElem? (i := 289) (by decide +kernel), rfl⟩
set_option maxRecDepth 20000 in
theorem wA_290 : (Cond.code y_Ne_empty b_Ne_empty 1 none) ∈ wsA := List.mem_filter.mpr ⟨List.mem_of_getElem? (i := 290) rfl, rfl⟩
theorem wA_291 : (Cond.methodLink R_Ne 44 y_Wa_empty) ∈ wsA := List.mem_filter.mpr ⟨List.mem_of_getElem? (i := 291) (by decide +kernel), rfl⟩
theorem wA_292 : (Cond.instanceMethod y_Wa_empty) ∈ wsA := List.mem_filter.mpr ⟨List.mem_of_getElem? (i := 292) (by decide +kernel), rfl⟩
theorem wA_293 : (Cond.selects R_Wa y_Wa_empty y_Wa_empty) ∈ wsA := List.mem_filter.mpr ⟨List.mem_of_getElem? (i := 293) (by decide +kernel), rfl⟩
set_option maxRecDepth 20000 in
theorem wA_294 : (Cond.code y_Wa_empty b_Wa_empty 1 none) ∈ wsA := List.mem_filter.mpr ⟨List.mem_of_getElem? (i := 294) rfl, rfl⟩
theorem wA_299 : (Cond.methodLink R_T 62 y_T_within) ∈ wsA := List.mem_filter.mpr ⟨List.mem_of_getElem? (i := 299) (by decide +kernel), rfl⟩
theorem wA_300 : (Cond.static y_T_within) ∈ wsA := List.mem_filter.mpr ⟨List.mem_of_getElem? (i := 300) (by decide +kernel), rfl⟩
set_option maxRecDepth 20000 in
theorem wA_301 : (Cond.code y_T_within b_T_within 3 (some .boolean)) ∈ wsA := List.mem_filter.mpr ⟨List.mem_of_getElem? (i := 301) rfl, rfl⟩
theorem wA_306 : (Cond.methodLink R_T 73 y_Ne_hasStop) ∈ wsA := List.mem_filter.mpr ⟨List.mem_of_getElem? (i := 306) (by decide +kernel), rfl⟩
theorem wA_307 : (Cond.instanceMethod y_Ne_hasStop) ∈ wsA := List.mem_filter.mpr ⟨List.mem_of_getElem? (i := 307) (by decide +kernel), rfl⟩
theorem wA_308 : (Cond.selects R_Ne y_Ne_hasStop y_Ne_hasStop) ∈ wsA := List.mem_filter.mpr ⟨List.mem_of_getElem? (i := 308) (by decide +kernel), rfl⟩
set_option maxRecDepth 20000 in
theorem wA_309 : (Cond.code y_Ne_hasStop b_Ne_hasStop 2 (some .boolean)) ∈ wsA := List.mem_filter.mpr ⟨List.mem_of_getElem? (i := 309) rfl, rfl⟩
theorem wA_315 : (Cond.methodLink R_T 77 y_Ne_hasStops) ∈ wsA := List.mem_filter.mpr ⟨List.mem_of_getElem? (i := 315) (by decide +kernel), rfl⟩
theorem wA_316 : (Cond.instanceMethod y_Ne_hasStops) ∈ wsA := List.mem_filter.mpr ⟨List.mem_of_getElem? (i := 316) (by decide +kernel), rfl⟩
theorem wA_317 : (Cond.selects R_Ne y_Ne_hasStops y_Ne_hasStops) ∈ wsA := List.mem_filter.mpr ⟨List.mem_of_getElem? (i := 317) (by decide +kernel), rfl⟩
set_option maxRecDepth 20000 in
theorem wA_318 : (Cond.code y_Ne_hasStops b_Ne_hasStops 3 (some .boolean)) ∈ wsA := List.mem_filter.mpr ⟨List.mem_of_getElem? (i := 318) rfl, rfl⟩
theorem wA_319 : (Cond.methodLink R_Ne 51 y_Ne_hasStop) ∈ wsA := List.mem_filter.mpr ⟨List.mem_of_getElem? (i := 319) (by decide +kernel), rfl⟩
theorem wA_320 : (Cond.methodLink R_T 81 y_Ri_add) ∈ wsA := List.mem_filter.mpr ⟨List.mem_of_getElem? (i := 320) (by decide +kernel), rfl⟩
theorem wA_321 : (Cond.instanceMethod y_Ri_add) ∈ wsA := List.mem_filter.mpr ⟨List.mem_of_getElem? (i := 321) (by decide +kernel), rfl⟩
theorem wA_322 : (Cond.selects R_Ri y_Ri_add y_Ri_add) ∈ wsA := List.mem_filter.mpr ⟨List.mem_of_getElem? (i := 322) (by decide +kernel), rfl⟩
set_option maxRecDepth 20000 in
theorem wA_323 : (Cond.code y_Ri_add b_Ri_add 8 (some .int)) ∈ wsA := List.mem_filter.mpr ⟨List.mem_of_getElem? (i := 323) rfl, rfl⟩
theorem wA_324 : (Cond.methodLink R_Ri 38 y_Ri_isOnDay) ∈ wsA := List.mem_filter.mpr ⟨List.mem_of_getElem? (i := 324) (by decide +kernel), rfl⟩
theorem wA_325 : (Cond.instanceMethod y_Ri_isOnDay) ∈ wsA := List.mem_filter.mpr ⟨List.mem_of_getElem? (i := 325) (by decide +kernel), rfl⟩
theorem wA_326 : (Cond.selects R_Ri y_Ri_isOnDay y_Ri_isOnDay) ∈ wsA := List.mem_filter.mpr ⟨List.mem_of_getElem? (i := 326) (by decide +kernel), rfl⟩
set_option maxRecDepth 20000 in
theorem wA_327 : (Cond.code y_Ri_isOnDay b_Ri_isOnDay 3 (some .boolean)) ∈ wsA := List.mem_filter.mpr ⟨List.mem_of_getElem? (i := 327) rfl, rfl⟩
theorem wA_328 : (Cond.methodLink R_T 89 y_Bo_putRide) ∈ wsA := List.mem_filter.mpr ⟨List.mem_of_getElem? (i := 328) (by decide +kernel), rfl⟩
theorem wA_329 : (Cond.instanceMethod y_Bo_putRide) ∈ wsA := List.mem_filter.mpr ⟨List.mem_of_getElem? (i := 329) (by decide +kernel), rfl⟩
theorem wA_330 : (Cond.selects R_Bo y_Bo_putRide y_Bo_putRide) ∈ wsA := List.mem_filter.mpr ⟨List.mem_of_getElem? (i := 330) (by decide +kernel), rfl⟩
set_option maxRecDepth 20000 in
theorem wA_331 : (Cond.code y_Bo_putRide b_Bo_putRide 4 none) ∈ wsA := List.mem_filter.mpr ⟨List.mem_of_getElem? (i := 331) rfl, rfl⟩
theorem wA_332 : (Cond.methodLink R_Bo 22 y_Bo_putIn) ∈ wsA := List.mem_filter.mpr ⟨List.mem_of_getElem? (i := 332) (by decide +kernel), rfl⟩
theorem wA_333 : (Cond.instanceMethod y_Bo_putIn) ∈ wsA := List.mem_filter.mpr ⟨List.mem_of_getElem? (i := 333) (by decide +kernel), rfl⟩
theorem wA_334 : (Cond.selects R_Bo y_Bo_putIn y_Bo_putIn) ∈ wsA := List.mem_filter.mpr ⟨List.mem_of_getElem? (i := 334) (by decide +kernel), rfl⟩
set_option maxRecDepth 20000 in
theorem wA_335 : (Cond.code y_Bo_putIn b_Bo_putIn 5 none) ∈ wsA := List.mem_filter.mpr ⟨List.mem_of_getElem? (i := 335) rfl, rfl⟩
theorem wA_336 : (Cond.methodLink R_Bo 26 y_Ri_goes) ∈ wsA := List.mem_filter.mpr ⟨List.mem_of_getElem? (i := 336) (by decide +kernel), rfl⟩
theorem wA_337 : (Cond.instanceMethod y_Ri_goes) ∈ wsA := List.mem_filter.mpr ⟨List.mem_of_getElem? (i := 337) (by decide +kernel), rfl⟩
theorem wA_338 : (Cond.selects R_Ri y_Ri_goes y_Ri_goes) ∈ wsA := List.mem_filter.mpr ⟨List.mem_of_getElem? (i := 338) (by decide +kernel), rfl⟩
set_option maxRecDepth 20000 in
theorem wA_339 : (Cond.code y_Ri_goes b_Ri_goes 2 (some .boolean)) ∈ wsA := List.mem_filter.mpr ⟨List.mem_of_getElem? (i := 339) rfl, rfl⟩
theorem wA_340 : (Cond.methodLink R_Bo 32 y_Ri_leaves) ∈ wsA := List.mem_filter.mpr ⟨List.mem_of_getElem? (i := 340) (by decide +kernel), rfl⟩
theorem wA_341 : (Cond.instanceMethod y_Ri_leaves) ∈ wsA := List.mem_filter.mpr ⟨List.mem_of_getElem? (i := 341) (by decide +kernel), rfl⟩
theorem wA_342 : (Cond.selects R_Ri y_Ri_leaves y_Ri_leaves) ∈ wsA := List.mem_filter.mpr ⟨List.mem_of_getElem? (i := 342) (by decide +kernel), rfl⟩
set_option maxRecDepth 20000 in
theorem wA_343 : (Cond.code y_Ri_leaves b_Ri_leaves 3 (some .int)) ∈ wsA := List.mem_filter.mpr ⟨List.mem_of_getElem? (i := 343) rfl, rfl⟩
theorem wA_344 : (Cond.methodLink R_Bo 35 y_Bo_isBehind) ∈ wsA := List.mem_filter.mpr ⟨List.mem_of_getElem? (i := 344) (by decide +kernel), rfl⟩
theorem wA_346 : (Cond.instanceMethod y_Bo_isBehind) ∈ wsA := List.mem_filter.mpr ⟨List.mem_of_getElem? (i := 346) (by decide +kernel), rfl⟩
set_option maxRecDepth 20000 in
theorem wA_347 : (Cond.code y_Bo_isBehind b_Bo_isBehind 4 (some .boolean)) ∈ wsA := List.mem_filter.mpr ⟨List.mem_of_getElem? (i := 347) rfl, rfl⟩
theorem wA_352 : (Cond.methodLink R_T 102 y_Wa_add) ∈ wsA := List.mem_filter.mpr ⟨List.mem_of_getElem? (i := 352) (by decide +kernel), rfl⟩
theorem wA_353 : (Cond.instanceMethod y_Wa_add) ∈ wsA := List.mem_filter.mpr ⟨List.mem_of_getElem? (i := 353) (by decide +kernel), rfl⟩
theorem wA_354 : (Cond.selects R_Wa y_Wa_add y_Wa_add) ∈ wsA := List.mem_filter.mpr ⟨List.mem_of_getElem? (i := 354) (by decide +kernel), rfl⟩
set_option maxRecDepth 20000 in
theorem wA_355 : (Cond.code y_Wa_add b_Wa_add 4 (some .int)) ∈ wsA := List.mem_filter.mpr ⟨List.mem_of_getElem? (i := 355) rfl, rfl⟩
theorem wA_356 : (Cond.methodLink R_Wa 35 y_Wa_shorten) ∈ wsA := List.mem_filter.mpr ⟨List.mem_of_getElem? (i := 356) (by decide +kernel), rfl⟩
theorem wA_358 : (Cond.instanceMethod y_Wa_shorten) ∈ wsA := List.mem_filter.mpr ⟨List.mem_of_getElem? (i := 358) (by decide +kernel), rfl⟩
set_option maxRecDepth 20000 in
theorem wA_359 : (Cond.code y_Wa_shorten b_Wa_shorten 8 none) ∈ wsA := List.mem_filter.mpr ⟨List.mem_of_getElem? (i := 359) rfl, rfl⟩
theorem wA_360 : (Cond.methodLink R_Wa 39 y_Wa_anyNumber) ∈ wsA := List.mem_filter.mpr ⟨List.mem_of_getElem? (i := 360) (by decide +kernel), rfl⟩
theorem wA_361 : (Cond.instanceMethod y_Wa_anyNumber) ∈ wsA := List.mem_filter.mpr ⟨List.mem_of_getElem? (i := 361) (by decide +kernel), rfl⟩
theorem wA_362 : (Cond.selects R_Wa y_Wa_anyNumber y_Wa_anyNumber) ∈ wsA := List.mem_filter.mpr ⟨List.mem_of_getElem? (i := 362) (by decide +kernel), rfl⟩
set_option maxRecDepth 20000 in
theorem wA_363 : (Cond.code y_Wa_anyNumber b_Wa_anyNumber 3 (some .int)) ∈ wsA := List.mem_filter.mpr ⟨List.mem_of_getElem? (i := 363) rfl, rfl⟩
theorem wA_364 : (Cond.methodLink R_Wa 48 y_Wa_atLeastOne) ∈ wsA := List.mem_filter.mpr ⟨List.mem_of_getElem? (i := 364) (by decide +kernel), rfl⟩
theorem wA_365 : (Cond.instanceMethod y_Wa_atLeastOne) ∈ wsA := List.mem_filter.mpr ⟨List.mem_of_getElem? (i := 365) (by decide +kernel), rfl⟩
theorem wA_366 : (Cond.selects R_Wa y_Wa_atLeastOne y_Wa_atLeastOne) ∈ wsA := List.mem_filter.mpr ⟨List.mem_of_getElem? (i := 366) (by decide +kernel), rfl⟩
set_option maxRecDepth 20000 in
theorem wA_367 : (Cond.code y_Wa_atLeastOne b_Wa_atLeastOne 3 (some .int)) ∈ wsA := List.mem_filter.mpr ⟨List.mem_of_getElem? (i := 367) rfl, rfl⟩
theorem wA_368 : (Cond.methodLink R_Wa 43 Lib.Math.min.name) ∈ wsA := List.mem_filter.mpr ⟨List.mem_of_getElem? (i := 368) (by decide +kernel), rfl⟩
theorem wA_369 : (Cond.static Lib.Math.min.name) ∈ wsA := List.mem_filter.mpr ⟨List.mem_of_getElem? (i := 369) (by decide +kernel), rfl⟩
set_option maxRecDepth 20000 in
theorem wA_370 : (Cond.code Lib.Math.min.name Lib.Math.min.code 2 (some .int)) ∈ wsA := List.mem_filter.mpr ⟨List.mem_of_getElem? (i := 370) rfl, rfl⟩
theorem wA_375 : (Cond.methodLink R_T 105 y_Ri_has) ∈ wsA := List.mem_filter.mpr ⟨List.mem_of_getElem? (i := 375) (by decide +kernel), rfl⟩
theorem wA_376 : (Cond.instanceMethod y_Ri_has) ∈ wsA := List.mem_filter.mpr ⟨List.mem_of_getElem? (i := 376) (by decide +kernel), rfl⟩
theorem wA_377 : (Cond.selects R_Ri y_Ri_has y_Ri_has) ∈ wsA := List.mem_filter.mpr ⟨List.mem_of_getElem? (i := 377) (by decide +kernel), rfl⟩
set_option maxRecDepth 20000 in
theorem wA_378 : (Cond.code y_Ri_has b_Ri_has 2 (some .boolean)) ∈ wsA := List.mem_filter.mpr ⟨List.mem_of_getElem? (i := 378) rfl, rfl⟩
theorem wA_380 : (Cond.methodLink R_T 108 y_Ri_isOnDay) ∈ wsA := List.mem_filter.mpr ⟨List.mem_of_getElem? (i := 380) (by decide +kernel), rfl⟩
theorem wA_381 : (Cond.methodLink R_T 114 y_Bo_takeOut) ∈ wsA := List.mem_filter.mpr ⟨List.mem_of_getElem? (i := 381) (by decide +kernel), rfl⟩
theorem wA_382 : (Cond.instanceMethod y_Bo_takeOut) ∈ wsA := List.mem_filter.mpr ⟨List.mem_of_getElem? (i := 382) (by decide +kernel), rfl⟩
theorem wA_383 : (Cond.selects R_Bo y_Bo_takeOut y_Bo_takeOut) ∈ wsA := List.mem_filter.mpr ⟨List.mem_of_getElem? (i := 383) (by decide +kernel), rfl⟩
set_option maxRecDepth 20000 in
theorem wA_384 : (Cond.code y_Bo_takeOut b_Bo_takeOut 4 none) ∈ wsA := List.mem_filter.mpr ⟨List.mem_of_getElem? (i := 384) rfl, rfl⟩
theorem wA_385 : (Cond.methodLink R_T 118 y_Bo_putIn) ∈ wsA := List.mem_filter.mpr ⟨List.mem_of_getElem? (i := 385) (by decide +kernel), rfl⟩
theorem wA_390 : (Cond.methodLink R_T 121 y_T_isTime) ∈ wsA := List.mem_filter.mpr ⟨List.mem_of_getElem? (i := 390) (by decide +kernel), rfl⟩
theorem wA_391 : (Cond.static y_T_isTime) ∈ wsA := List.mem_filter.mpr ⟨List.mem_of_getElem? (i := 391) (by decide +kernel), rfl⟩
set_option maxRecDepth 20000 in
theorem wA_392 : (Cond.code y_T_isTime b_T_isTime 1 (some .boolean)) ∈ wsA := List.mem_filter.mpr ⟨List.mem_of_getElem? (i := 392) rfl, rfl⟩
theorem wA_393 : (Cond.methodLink R_T 124 y_Ar_find) ∈ wsA := List.mem_filter.mpr ⟨List.mem_of_getElem? (i := 393) (by decide +kernel), rfl⟩
theorem wA_394 : (Cond.instanceMethod y_Ar_find) ∈ wsA := List.mem_filter.mpr ⟨List.mem_of_getElem? (i := 394) (by decide +kernel), rfl⟩
theorem wA_395 : (Cond.selects R_Ar y_Ar_find y_Ar_find) ∈ wsA := List.mem_filter.mpr ⟨List.mem_of_getElem? (i := 395) (by decide +kernel), rfl⟩
set_option maxRecDepth 20000 in
theorem wA_396 : (Cond.code y_Ar_find b_Ar_find 4 none) ∈ wsA := List.mem_filter.mpr ⟨List.mem_of_getElem? (i := 396) rfl, rfl⟩
theorem wA_397 : (Cond.methodLink R_Ar 42 y_Ar_begin) ∈ wsA := List.mem_filter.mpr ⟨List.mem_of_getElem? (i := 397) (by decide +kernel), rfl⟩
theorem wA_398 : (Cond.instanceMethod y_Ar_begin) ∈ wsA := List.mem_filter.mpr ⟨List.mem_of_getElem? (i := 398) (by decide +kernel), rfl⟩
theorem wA_399 : (Cond.selects R_Ar y_Ar_begin y_Ar_begin) ∈ wsA := List.mem_filter.mpr ⟨List.mem_of_getElem? (i := 399) (by decide +kernel), rfl⟩
set_option maxRecDepth 20000 in
theorem wA_400 : (Cond.code y_Ar_begin b_Ar_begin 5 none) ∈ wsA := List.mem_filter.mpr ⟨List.mem_of_getElem? (i := 400) rfl, rfl⟩
theorem wA_401 : (Cond.constant R_Ar 30 1000000) ∈ wsA := List.mem_filter.mpr ⟨List.mem_of_getElem? (i := 401) (by decide +kernel), rfl⟩
theorem wA_402 : (Cond.methodLink R_Ar 37 y_Wa_anyNumber) ∈ wsA := List.mem_filter.mpr ⟨List.mem_of_getElem? (i := 402) (by decide +kernel), rfl⟩
theorem wA_403 : (Cond.methodLink R_Ar 18 Lib.Math.min.name) ∈ wsA := List.mem_filter.mpr ⟨List.mem_of_getElem? (i := 403) (by decide +kernel), rfl⟩
theorem wA_404 : (Cond.methodLink R_Ar 46 y_Ar_addOneDeparture) ∈ wsA := List.mem_filter.mpr ⟨List.mem_of_getElem? (i := 404) (by decide +kernel), rfl⟩
theorem wA_405 : (Cond.instanceMethod y_Ar_addOneDeparture) ∈ wsA := List.mem_filter.mpr ⟨List.mem_of_getElem? (i := 405) (by decide +kernel), rfl⟩
theorem wA_406 : (Cond.selects R_Ar y_Ar_addOneDeparture y_Ar_addOneDeparture) ∈ wsA := List.mem_filter.mpr ⟨List.mem_of_getElem? (i := 406) (by decide +kernel), rfl⟩
set_option maxRecDepth 20000 in
theorem wA_407 : (Cond.code y_Ar_addOneDeparture b_Ar_addOneDeparture 6 none) ∈ wsA := List.mem_filter.mpr ⟨List.mem_of_getElem? (i := 407) rfl, rfl⟩
theorem wA_408 : (Cond.methodLink R_Ar 60 y_Bo_rideAt) ∈ wsA := List.mem_filter.mpr ⟨List.mem_of_getElem? (i := 408) (by decide +kernel), rfl⟩
theorem wA_409 : (Cond.instanceMethod y_Bo_rideAt) ∈ wsA := List.mem_filter.mpr ⟨List.mem_of_getElem? (i := 409) (by decide +kernel), rfl⟩
theorem wA_410 : (Cond.selects R_Bo y_Bo_rideAt y_Bo_rideAt) ∈ wsA := List.mem_filter.mpr ⟨List.mem_of_getElem? (i := 410) (by decide +kernel), rfl⟩
set_option maxRecDepth 20000 in
theorem wA_411 : (Cond.code y_Bo_rideAt b_Bo_rideAt 2 (some .int)) ∈ wsA := List.mem_filter.mpr ⟨List.mem_of_getElem? (i := 411) rfl, rfl⟩
theorem wA_412 : (Cond.methodLink R_Ar 76 y_Ar_mayTake) ∈ wsA := List.mem_filter.mpr ⟨List.mem_of_getElem? (i := 412) (by decide +kernel), rfl⟩
theorem wA_413 : (Cond.instanceMethod y_Ar_mayTake) ∈ wsA := List.mem_filter.mpr ⟨List.mem_of_getElem? (i := 413) (by decide +kernel), rfl⟩
theorem wA_414 : (Cond.selects R_Ar y_Ar_mayTake y_Ar_mayTake) ∈ wsA := List.mem_filter.mpr ⟨List.mem_of_getElem? (i := 414) (by decide +kernel), rfl⟩
set_option maxRecDepth 20000 in
theorem wA_415 : (Cond.code y_Ar_mayTake b_Ar_mayTake 4 (some .boolean)) ∈ wsA := List.mem_filter.mpr ⟨List.mem_of_getElem? (i := 415) rfl, rfl⟩
theorem wA_416 : (Cond.methodLink R_Ar 86 y_Ar_arrive) ∈ wsA := List.mem_filter.mpr ⟨List.mem_of_getElem? (i := 416) (by decide +kernel), rfl⟩
theorem wA_418 : (Cond.instanceMethod y_Ar_arrive) ∈ wsA := List.mem_filter.mpr ⟨List.mem_of_getElem? (i := 418) (by decide +kernel), rfl⟩
set_option maxRecDepth 20000 in
theorem wA_419 : (Cond.code y_Ar_arrive b_Ar_arrive 5 none) ∈ wsA := List.mem_filter.mpr ⟨List.mem_of_getElem? (i := 419) rfl, rfl⟩
theorem wA_420 : (Cond.methodLink R_Ar 95 y_Wa_atLeastOne) ∈ wsA := List.mem_filter.mpr ⟨List.mem_of_getElem? (i := 420) (by decide +kernel), rfl⟩
theorem wA_421 : (Cond.methodLink R_T 128 y_Ar_first) ∈ wsA := List.mem_filter.mpr ⟨List.mem_of_getElem? (i := 421) (by decide +kernel), rfl⟩
theorem wA_422 : (Cond.instanceMethod y_Ar_first) ∈ wsA := List.mem_filter.mpr ⟨List.mem_of_getElem? (i := 422) (by decide +kernel), rfl⟩
theorem wA_423 : (Cond.selects R_Ar y_Ar_first y_Ar_first) ∈ wsA := List.mem_filter.mpr ⟨List.mem_of_getElem? (i := 423) (by decide +kernel), rfl⟩
set_option maxRecDepth 20000 in
theorem wA_424 : (Cond.code y_Ar_first b_Ar_first 2 (some .int)) ∈ wsA := List.mem_filter.mpr ⟨List.mem_of_getElem? (i := 424) rfl, rfl⟩
theorem wA_425 : (Cond.methodLink R_T 132 y_T_orNone) ∈ wsA := List.mem_filter.mpr ⟨List.mem_of_getElem? (i := 425) (by decide +kernel), rfl⟩
theorem wA_426 : (Cond.static y_T_orNone) ∈ wsA := List.mem_filter.mpr ⟨List.mem_of_getElem? (i := 426) (by decide +kernel), rfl⟩
set_option maxRecDepth 20000 in
theorem wA_427 : (Cond.code y_T_orNone b_T_orNone 1 (some .int)) ∈ wsA := List.mem_filter.mpr ⟨List.mem_of_getElem? (i := 427) rfl, rfl⟩
theorem wA_428 : (Cond.constant R_T 173 1000000) ∈ wsA := List.mem_filter.mpr ⟨List.mem_of_getElem? (i := 428) (by decide +kernel), rfl⟩
theorem wA_433 : (Cond.methodLink R_T 135 y_T_isBy) ∈ wsA := List.mem_filter.mpr ⟨List.mem_of_getElem? (i := 433) (by decide +kernel), rfl⟩
theorem wA_434 : (Cond.static y_T_isBy) ∈ wsA := List.mem_filter.mpr ⟨List.mem_of_getElem? (i := 434) (by decide +kernel), rfl⟩
set_option maxRecDepth 20000 in
theorem wA_435 : (Cond.code y_T_isBy b_T_isBy 1 (some .boolean)) ∈ wsA := List.mem_filter.mpr ⟨List.mem_of_getElem? (i := 435) rfl, rfl⟩
theorem wA_436 : (Cond.methodLink R_T 138 y_Sp_latestBeginning) ∈ wsA := List.mem_filter.mpr ⟨List.mem_of_getElem? (i := 436) (by decide +kernel), rfl⟩
theorem wA_437 : (Cond.instanceMethod y_Sp_latestBeginning) ∈ wsA := List.mem_filter.mpr ⟨List.mem_of_getElem? (i := 437) (by decide +kernel), rfl⟩
theorem wA_438 : (Cond.selects R_Sp y_Sp_latestBeginning y_Sp_latestBeginning) ∈ wsA := List.mem_filter.mpr ⟨List.mem_of_getElem? (i := 438) (by decide +kernel), rfl⟩
set_option maxRecDepth 20000 in
theorem wA_439 : (Cond.code y_Sp_latestBeginning b_Sp_latestBeginning 7 (some .int)) ∈ wsA := List.mem_filter.mpr ⟨List.mem_of_getElem? (i := 439) rfl, rfl⟩
theorem wA_440 : (Cond.methodLink R_Sp 57 y_Wa_anyNumber) ∈ wsA := List.mem_filter.mpr ⟨List.mem_of_getElem? (i := 440) (by decide +kernel), rfl⟩
theorem wA_441 : (Cond.methodLink R_Sp 40 y_Sp_endOf) ∈ wsA := List.mem_filter.mpr ⟨List.mem_of_getElem? (i := 441) (by decide +kernel), rfl⟩
theorem wA_443 : (Cond.instanceMethod y_Sp_endOf) ∈ wsA := List.mem_filter.mpr ⟨List.mem_of_getElem? (i := 443) (by decide +kernel), rfl⟩
set_option maxRecDepth 20000 in
theorem wA_444 : (Cond.code y_Sp_endOf b_Sp_endOf 9 (some .int)) ∈ wsA := List.mem_filter.mpr ⟨List.mem_of_getElem? (i := 444) rfl, rfl⟩
theorem wA_445 : (Cond.methodLink R_Sp 78 y_Bo_rideAt) ∈ wsA := List.mem_filter.mpr ⟨List.mem_of_getElem? (i := 445) (by decide +kernel), rfl⟩
theorem wA_446 : (Cond.constant R_Sp 18 1000000) ∈ wsA := List.mem_filter.mpr ⟨List.mem_of_getElem? (i := 446) (by decide +kernel), rfl⟩
theorem wA_447 : (Cond.methodLink R_Sp 47 Lib.Math.min.name) ∈ wsA := List.mem_filter.mpr ⟨List.mem_of_getElem? (i := 447) (by decide +kernel), rfl⟩
theorem wA_448 : (Cond.methodLink R_Sp 88 y_Sp_mayFollow) ∈ wsA := List.mem_filter.mpr ⟨List.mem_of_getElem? (i := 448) (by decide +kernel), rfl⟩
theorem wA_449 : (Cond.static y_Sp_mayFollow) ∈ wsA := List.mem_filter.mpr ⟨List.mem_of_getElem? (i := 449) (by decide +kernel), rfl⟩
set_option maxRecDepth 20000 in
theorem wA_450 : (Cond.code y_Sp_mayFollow b_Sp_mayFollow 5 (some .boolean)) ∈ wsA := List.mem_filter.mpr ⟨List.mem_of_getElem? (i := 450) rfl, rfl⟩
theorem wA_451 : (Cond.methodLink R_Sp 92 y_Ne_gap) ∈ wsA := List.mem_filter.mpr ⟨List.mem_of_getElem? (i := 451) (by decide +kernel), rfl⟩
theorem wA_452 : (Cond.instanceMethod y_Ne_gap) ∈ wsA := List.mem_filter.mpr ⟨List.mem_of_getElem? (i := 452) (by decide +kernel), rfl⟩
theorem wA_453 : (Cond.selects R_Ne y_Ne_gap y_Ne_gap) ∈ wsA := List.mem_filter.mpr ⟨List.mem_of_getElem? (i := 453) (by decide +kernel), rfl⟩
set_option maxRecDepth 20000 in
theorem wA_454 : (Cond.code y_Ne_gap b_Ne_gap 4 (some .int)) ∈ wsA := List.mem_filter.mpr ⟨List.mem_of_getElem? (i := 454) rfl, rfl⟩
theorem wA_455 : (Cond.methodLink R_Ne 55 y_Wa_atLeastOne) ∈ wsA := List.mem_filter.mpr ⟨List.mem_of_getElem? (i := 455) (by decide +kernel), rfl⟩
theorem wA_456 : (Cond.methodLink R_Ne 59 Lib.Math.min.name) ∈ wsA := List.mem_filter.mpr ⟨List.mem_of_getElem? (i := 456) (by decide +kernel), rfl⟩
theorem wA_457 : (Cond.methodLink R_Sp 44 y_Sp_latestFor) ∈ wsA := List.mem_filter.mpr ⟨List.mem_of_getElem? (i := 457) (by decide +kernel), rfl⟩
theorem wA_458 : (Cond.static y_Sp_latestFor) ∈ wsA := List.mem_filter.mpr ⟨List.mem_of_getElem? (i := 458) (by decide +kernel), rfl⟩
set_option maxRecDepth 20000 in
theorem wA_459 : (Cond.code y_Sp_latestFor b_Sp_latestFor 4 (some .int)) ∈ wsA := List.mem_filter.mpr ⟨List.mem_of_getElem? (i := 459) rfl, rfl⟩
theorem wA_460 : (Cond.methodLink R_Sp 66 Lib.Math.max.name) ∈ wsA := List.mem_filter.mpr ⟨List.mem_of_getElem? (i := 460) (by decide +kernel), rfl⟩
theorem wA_461 : (Cond.static Lib.Math.max.name) ∈ wsA := List.mem_filter.mpr ⟨List.mem_of_getElem? (i := 461) (by decide +kernel), rfl⟩
set_option maxRecDepth 20000 in
theorem wA_462 : (Cond.code Lib.Math.max.name Lib.Math.max.code 2 (some .int)) ∈ wsA := List.mem_filter.mpr ⟨List.mem_of_getElem? (i := 462) rfl, rfl⟩
theorem wA_467 : (Cond.methodLink R_T 142 y_Ar_begin) ∈ wsA := List.mem_filter.mpr ⟨List.mem_of_getElem? (i := 467) (by decide +kernel), rfl⟩
theorem wA_468 : (Cond.methodLink R_T 145 y_Ar_copy) ∈ wsA := List.mem_filter.mpr ⟨List.mem_of_getElem? (i := 468) (by decide +kernel), rfl⟩
theorem wA_469 : (Cond.instanceMethod y_Ar_copy) ∈ wsA := List.mem_filter.mpr ⟨List.mem_of_getElem? (i := 469) (by decide +kernel), rfl⟩
theorem wA_470 : (Cond.selects R_Ar y_Ar_copy y_Ar_copy) ∈ wsA := List.mem_filter.mpr ⟨List.mem_of_getElem? (i := 470) (by decide +kernel), rfl⟩
set_option maxRecDepth 20000 in
theorem wA_471 : (Cond.code y_Ar_copy b_Ar_copy 2 none) ∈ wsA := List.mem_filter.mpr ⟨List.mem_of_getElem? (i := 471) rfl, rfl⟩
theorem wA_472 : (Cond.methodLink R_Ar 24 arraycopyName) ∈ wsA := List.mem_filter.mpr ⟨List.mem_of_getElem? (i := 472) (by decide +kernel), rfl⟩
theorem wA_473 : (Cond.static arraycopyName) ∈ wsA := List.mem_filter.mpr ⟨List.mem_of_getElem? (i := 473) (by decide +kernel), rfl⟩
theorem wA_474 : (Cond.native arraycopyName) ∈ wsA := List.mem_filter.mpr ⟨List.mem_of_getElem? (i := 474) (by decide +kernel), rfl⟩
theorem wA_475 : (Cond.methodLink R_T 149 y_Ar_addOneDeparture) ∈ wsA := List.mem_filter.mpr ⟨List.mem_of_getElem? (i := 475) (by decide +kernel), rfl⟩
theorem wA_480 : (Cond.methodLink R_T 153 y_T_isSpan) ∈ wsA := List.mem_filter.mpr ⟨List.mem_of_getElem? (i := 480) (by decide +kernel), rfl⟩
theorem wA_481 : (Cond.static y_T_isSpan) ∈ wsA := List.mem_filter.mpr ⟨List.mem_of_getElem? (i := 481) (by decide +kernel), rfl⟩
set_option maxRecDepth 20000 in
theorem wA_482 : (Cond.code y_T_isSpan b_T_isSpan 2 (some .boolean)) ∈ wsA := List.mem_filter.mpr ⟨List.mem_of_getElem? (i := 482) rfl, rfl⟩
theorem wA_483 : (Cond.methodLink R_T 156 y_Sp_find) ∈ wsA := List.mem_filter.mpr ⟨List.mem_of_getElem? (i := 483) (by decide +kernel), rfl⟩
theorem wA_484 : (Cond.instanceMethod y_Sp_find) ∈ wsA := List.mem_filter.mpr ⟨List.mem_of_getElem? (i := 484) (by decide +kernel), rfl⟩
theorem wA_485 : (Cond.selects R_Sp y_Sp_find y_Sp_find) ∈ wsA := List.mem_filter.mpr ⟨List.mem_of_getElem? (i := 485) (by decide +kernel), rfl⟩
set_option maxRecDepth 20000 in
theorem wA_486 : (Cond.code y_Sp_find b_Sp_find 8 none) ∈ wsA := List.mem_filter.mpr ⟨List.mem_of_getElem? (i := 486) rfl, rfl⟩
theorem wA_487 : (Cond.methodLink R_Sp 19 y_J_fill) ∈ wsA := List.mem_filter.mpr ⟨List.mem_of_getElem? (i := 487) (by decide +kernel), rfl⟩
theorem wA_488 : (Cond.methodLink R_Sp 62 y_Sp_spread) ∈ wsA := List.mem_filter.mpr ⟨List.mem_of_getElem? (i := 488) (by decide +kernel), rfl⟩
theorem wA_490 : (Cond.instanceMethod y_Sp_spread) ∈ wsA := List.mem_filter.mpr ⟨List.mem_of_getElem? (i := 490) (by decide +kernel), rfl⟩
set_option maxRecDepth 20000 in
theorem wA_491 : (Cond.code y_Sp_spread b_Sp_spread 6 none) ∈ wsA := List.mem_filter.mpr ⟨List.mem_of_getElem? (i := 491) rfl, rfl⟩
theorem wA_492 : (Cond.methodLink R_T 159 y_Sp_leastMinutes) ∈ wsA := List.mem_filter.mpr ⟨List.mem_of_getElem? (i := 492) (by decide +kernel), rfl⟩
theorem wA_493 : (Cond.instanceMethod y_Sp_leastMinutes) ∈ wsA := List.mem_filter.mpr ⟨List.mem_of_getElem? (i := 493) (by decide +kernel), rfl⟩
theorem wA_494 : (Cond.selects R_Sp y_Sp_leastMinutes y_Sp_leastMinutes) ∈ wsA := List.mem_filter.mpr ⟨List.mem_of_getElem? (i := 494) (by decide +kernel), rfl⟩
set_option maxRecDepth 20000 in
theorem wA_495 : (Cond.code y_Sp_leastMinutes b_Sp_leastMinutes 6 (some .int)) ∈ wsA := List.mem_filter.mpr ⟨List.mem_of_getElem? (i := 495) rfl, rfl⟩
theorem wA_500 : (Cond.methodLink R_T 163 y_St_take) ∈ wsA := List.mem_filter.mpr ⟨List.mem_of_getElem? (i := 500) (by decide +kernel), rfl⟩
theorem wA_501 : (Cond.instanceMethod y_St_take) ∈ wsA := List.mem_filter.mpr ⟨List.mem_of_getElem? (i := 501) (by decide +kernel), rfl⟩
theorem wA_502 : (Cond.selects R_St y_St_take y_St_take) ∈ wsA := List.mem_filter.mpr ⟨List.mem_of_getElem? (i := 502) (by decide +kernel), rfl⟩
set_option maxRecDepth 20000 in
theorem wA_503 : (Cond.code y_St_take b_St_take 5 none) ∈ wsA := List.mem_filter.mpr ⟨List.mem_of_getElem? (i := 503) rfl, rfl⟩
theorem wA_516 : (Cond.methodLink R_T 174 y_Ac_trace) ∈ wsA := List.mem_filter.mpr ⟨List.mem_of_getElem? (i := 516) (by decide +kernel), rfl⟩
theorem wA_517 : (Cond.instanceMethod y_Ac_trace) ∈ wsA := List.mem_filter.mpr ⟨List.mem_of_getElem? (i := 517) (by decide +kernel), rfl⟩
theorem wA_518 : (Cond.selects R_Ac y_Ac_trace y_Ac_trace) ∈ wsA := List.mem_filter.mpr ⟨List.mem_of_getElem? (i := 518) (by decide +kernel), rfl⟩
set_option maxRecDepth 20000 in
theorem wA_519 : (Cond.code y_Ac_trace b_Ac_trace 8 none) ∈ wsA := List.mem_filter.mpr ⟨List.mem_of_getElem? (i := 519) rfl, rfl⟩
theorem wA_520 : (Cond.methodLink R_Ac 28 y_Ar_first) ∈ wsA := List.mem_filter.mpr ⟨List.mem_of_getElem? (i := 520) (by decide +kernel), rfl⟩
theorem wA_521 : (Cond.methodLink R_Ac 34 y_Ar_isByWalk) ∈ wsA := List.mem_filter.mpr ⟨List.mem_of_getElem? (i := 521) (by decide +kernel), rfl⟩
theorem wA_522 : (Cond.instanceMethod y_Ar_isByWalk) ∈ wsA := List.mem_filter.mpr ⟨List.mem_of_getElem? (i := 522) (by decide +kernel), rfl⟩
theorem wA_523 : (Cond.selects R_Ar y_Ar_isByWalk y_Ar_isByWalk) ∈ wsA := List.mem_filter.mpr ⟨List.mem_of_getElem? (i := 523) (by decide +kernel), rfl⟩
set_option maxRecDepth 20000 in
theorem wA_524 : (Cond.code y_Ar_isByWalk b_Ar_isByWalk 3 (some .boolean)) ∈ wsA := List.mem_filter.mpr ⟨List.mem_of_getElem? (i := 524) rfl, rfl⟩
theorem wA_525 : (Cond.methodLink R_Ac 38 y_Ac_addWalk) ∈ wsA := List.mem_filter.mpr ⟨List.mem_of_getElem? (i := 525) (by decide +kernel), rfl⟩
theorem wA_527 : (Cond.instanceMethod y_Ac_addWalk) ∈ wsA := List.mem_filter.mpr ⟨List.mem_of_getElem? (i := 527) (by decide +kernel), rfl⟩
set_option maxRecDepth 20000 in
theorem wA_528 : (Cond.code y_Ac_addWalk b_Ac_addWalk 6 (some .int)) ∈ wsA := List.mem_filter.mpr ⟨List.mem_of_getElem? (i := 528) rfl, rfl⟩
theorem wA_529 : (Cond.methodLink R_Ac 45 y_Ar_lastWalk) ∈ wsA := List.mem_filter.mpr ⟨List.mem_of_getElem? (i := 529) (by decide +kernel), rfl⟩
theorem wA_530 : (Cond.instanceMethod y_Ar_lastWalk) ∈ wsA := List.mem_filter.mpr ⟨List.mem_of_getElem? (i := 530) (by decide +kernel), rfl⟩
theorem wA_531 : (Cond.selects R_Ar y_Ar_lastWalk y_Ar_lastWalk) ∈ wsA := List.mem_filter.mpr ⟨List.mem_of_getElem? (i := 531) (by decide +kernel), rfl⟩
set_option maxRecDepth 20000 in
theorem wA_532 : (Cond.code y_Ar_lastWalk b_Ar_lastWalk 5 (some .int)) ∈ wsA := List.mem_filter.mpr ⟨List.mem_of_getElem? (i := 532) rfl, rfl⟩
theorem wA_533 : (Cond.methodLink R_Ar 100 y_Ar_first) ∈ wsA := List.mem_filter.mpr ⟨List.mem_of_getElem? (i := 533) (by decide +kernel), rfl⟩
theorem wA_534 : (Cond.methodLink R_Ac 63 y_Ac_put) ∈ wsA := List.mem_filter.mpr ⟨List.mem_of_getElem? (i := 534) (by decide +kernel), rfl⟩
theorem wA_536 : (Cond.instanceMethod y_Ac_put) ∈ wsA := List.mem_filter.mpr ⟨List.mem_of_getElem? (i := 536) (by decide +kernel), rfl⟩
set_option maxRecDepth 20000 in
theorem wA_537 : (Cond.code y_Ac_put b_Ac_put 5 none) ∈ wsA := List.mem_filter.mpr ⟨List.mem_of_getElem? (i := 537) rfl, rfl⟩
theorem wA_538 : (Cond.methodLink R_Ac 42 y_Ac_addDeparture) ∈ wsA := List.mem_filter.mpr ⟨List.mem_of_getElem? (i := 538) (by decide +kernel), rfl⟩
theorem wA_540 : (Cond.instanceMethod y_Ac_addDeparture) ∈ wsA := List.mem_filter.mpr ⟨List.mem_of_getElem? (i := 540) (by decide +kernel), rfl⟩
set_option maxRecDepth 20000 in
theorem wA_541 : (Cond.code y_Ac_addDeparture b_Ac_addDeparture 6 (some .int)) ∈ wsA := List.mem_filter.mpr ⟨List.mem_of_getElem? (i := 541) rfl, rfl⟩
theorem wA_542 : (Cond.methodLink R_Ac 67 y_Ar_lastDeparture) ∈ wsA := List.mem_filter.mpr ⟨List.mem_of_getElem? (i := 542) (by decide +kernel), rfl⟩
theorem wA_543 : (Cond.instanceMethod y_Ar_lastDeparture) ∈ wsA := List.mem_filter.mpr ⟨List.mem_of_getElem? (i := 543) (by decide +kernel), rfl⟩
theorem wA_544 : (Cond.selects R_Ar y_Ar_lastDeparture y_Ar_lastDeparture) ∈ wsA := List.mem_filter.mpr ⟨List.mem_of_getElem? (i := 544) (by decide +kernel), rfl⟩
set_option maxRecDepth 20000 in
theorem wA_545 : (Cond.code y_Ar_lastDeparture b_Ar_lastDeparture 5 (some .int)) ∈ wsA := List.mem_filter.mpr ⟨List.mem_of_getElem? (i := 545) rfl, rfl⟩
theorem wA_546 : (Cond.methodLink R_Ar 106 y_Ar_endsByRide) ∈ wsA := List.mem_filter.mpr ⟨List.mem_of_getElem? (i := 546) (by decide +kernel), rfl⟩
theorem wA_548 : (Cond.instanceMethod y_Ar_endsByRide) ∈ wsA := List.mem_filter.mpr ⟨List.mem_of_getElem? (i := 548) (by decide +kernel), rfl⟩
set_option maxRecDepth 20000 in
theorem wA_549 : (Cond.code y_Ar_endsByRide b_Ar_endsByRide 6 (some .boolean)) ∈ wsA := List.mem_filter.mpr ⟨List.mem_of_getElem? (i := 549) rfl, rfl⟩
theorem wA_550 : (Cond.methodLink R_Ar 109 y_Ri_goes) ∈ wsA := List.mem_filter.mpr ⟨List.mem_of_getElem? (i := 550) (by decide +kernel), rfl⟩
theorem wA_551 : (Cond.methodLink R_Ar 113 y_Ri_leaves) ∈ wsA := List.mem_filter.mpr ⟨List.mem_of_getElem? (i := 551) (by decide +kernel), rfl⟩
theorem wA_552 : (Cond.methodLink R_Ac 74 y_Ri_leaves) ∈ wsA := List.mem_filter.mpr ⟨List.mem_of_getElem? (i := 552) (by decide +kernel), rfl⟩
theorem wA_561 : (Cond.methodLink R_T 188 y_Bo_firstFrom) ∈ wsA := List.mem_filter.mpr ⟨List.mem_of_getElem? (i := 561) (by decide +kernel), rfl⟩
theorem wA_562 : (Cond.instanceMethod y_Bo_firstFrom) ∈ wsA := List.mem_filter.mpr ⟨List.mem_of_getElem? (i := 562) (by decide +kernel), rfl⟩
theorem wA_563 : (Cond.selects R_Bo y_Bo_firstFrom y_Bo_firstFrom) ∈ wsA := List.mem_filter.mpr ⟨List.mem_of_getElem? (i := 563) (by decide +kernel), rfl⟩
set_option maxRecDepth 20000 in
theorem wA_564 : (Cond.code y_Bo_firstFrom b_Bo_firstFrom 5 (some .int)) ∈ wsA := List.mem_filter.mpr ⟨List.mem_of_getElem? (i := 564) rfl, rfl⟩
theorem wA_565 : (Cond.methodLink R_Bo 42 y_Bo_rideAt) ∈ wsA := List.mem_filter.mpr ⟨List.mem_of_getElem? (i := 565) (by decide +kernel), rfl⟩
theorem wA_570 : (Cond.methodLink R_T 205 y_Ri_goingDays) ∈ wsA := List.mem_filter.mpr ⟨List.mem_of_getElem? (i := 570) (by decide +kernel), rfl⟩
theorem wA_571 : (Cond.instanceMethod y_Ri_goingDays) ∈ wsA := List.mem_filter.mpr ⟨List.mem_of_getElem? (i := 571) (by decide +kernel), rfl⟩
theorem wA_572 : (Cond.selects R_Ri y_Ri_goingDays y_Ri_goingDays) ∈ wsA := List.mem_filter.mpr ⟨List.mem_of_getElem? (i := 572) (by decide +kernel), rfl⟩
set_option maxRecDepth 20000 in
theorem wA_573 : (Cond.code y_Ri_goingDays b_Ri_goingDays 4 (some .int)) ∈ wsA := List.mem_filter.mpr ⟨List.mem_of_getElem? (i := 573) rfl, rfl⟩
theorem wA_574 : (Cond.methodLink R_Ri 42 y_Ri_goes) ∈ wsA := List.mem_filter.mpr ⟨List.mem_of_getElem? (i := 574) (by decide +kernel), rfl⟩
theorem wA_579 : (Cond.methodLink R_T 209 y_Bo_countLate) ∈ wsA := List.mem_filter.mpr ⟨List.mem_of_getElem? (i := 579) (by decide +kernel), rfl⟩
theorem wA_580 : (Cond.instanceMethod y_Bo_countLate) ∈ wsA := List.mem_filter.mpr ⟨List.mem_of_getElem? (i := 580) (by decide +kernel), rfl⟩
theorem wA_581 : (Cond.selects R_Bo y_Bo_countLate y_Bo_countLate) ∈ wsA := List.mem_filter.mpr ⟨List.mem_of_getElem? (i := 581) (by decide +kernel), rfl⟩
set_option maxRecDepth 20000 in
theorem wA_582 : (Cond.code y_Bo_countLate b_Bo_countLate 4 (some .int)) ∈ wsA := List.mem_filter.mpr ⟨List.mem_of_getElem? (i := 582) rfl, rfl⟩
end
section
/-- the nest's words: within() is called from two classes beside its own -/
def tN (U : State) : Prop := va_Nw (.methodLinkNest R_Ne 47 y_T_within "TimedWays") U ∧ va_Nw (.methodLinkNest R_Ri 34 y_T_within "TimedWays") U
theorem tN_warm {s U : State} (hW : s.WarmedH U.vm) (h : tN s) : tN U := ⟨va_Nw.warmM hW h.1, va_Nw.warmM hW h.2⟩
/-! STATES AND WORLDS. A state: the int fields by number, the int arrays by number. A world: a function from states to cells. -/
abbrev tS : Type := (Nat → Int32) × (Nat → Nat → Int32)
def tI (u : tS) (k : Nat) (v : Int32) : tS := (upd u.1 k v, u.2)
def tA (u : tS) (j : Nat) (i v : Int32) : tS := (u.1, va_up u.2 j (upd (u.2 j) i.toNatClampNeg v))
/-- the first n of array j0 into array j1 -/
def tY (u : tS) (j0 j1 n : Nat) : tS := (u.1, va_up u.2 j1 (va_cpy (u.2 j0) (u.2 j1) 0 0 n))
def tX (D : va_G) (cl : List vw_C) (tys : List (ClassId × FieldType)) (A : Nat → Prop) (s : State) (H : Heap) (locs : List Loc) (ws : va_W) : Prop := va_K D cl tys s ∧ va_P D cl ws H ∧ va_D A ws ∧ va_S A s.heap H locs
def tC (p : Program) (s : State) (m : MethodId) (meth : Method) (c : Code) (args : Array Value) (cc : ByteArray) (nL : Nat) (ret : Option FieldType) (Ts : List Cond) (own : String) (A : Nat → Prop) : Prop :=
  p.tables.exec = Jvm.exec ∧ c.code = cc ∧ meth.sig.returnType = ret ∧ c.maxLocals = nL ∧ s.vm.findClass own = some m.cls ∧ (∀ w ∈ Ts, w.before args s = true) ∧ meth.locks = false ∧ (∀ q : Nat, s.heap.size ≤ q → A q) ∧ tN s
def tB (D : va_G) (cl : List vw_C) (tys : List (ClassId × FieldType)) (A : Nat → Prop) (w : tS → va_W) (u : tS) (t : State) : Prop := va_P D cl (w u) t.heap ∧ va_K D cl tys t ∧ va_D A (w u)
def tP (D : va_G) (cl : List vw_C) (tys : List (ClassId × FieldType)) (w : tS → va_W) (u : tS) (sz : Nat) (wp : Prop) (U : State) : Prop := U.heap.size = sz ∧ va_P D cl (w u) U.heap ∧ va_K D cl tys U ∧ va_D (fun _ => True) (w u) ∧ tN U ∧ wp
theorem tP_blind {D : va_G} {cl : List vw_C} {tys : List (ClassId × FieldType)} {w : tS → va_W} {u : tS} {sz : Nat} {wp : Prop} (av : List Value) : FrameBlind (va_Pc av (tP D cl tys w u sz wp)) := fun a U g mk q => by
  obtain ⟨q0, q1, qP, qK, qD, qN, qw⟩ := q
  exact ⟨q0, q1, qP, va_K.moved (u := U) (U := U.calling g mk a) (Vm.Alike.refl U.vm) qK, qD, ⟨va_Nw.same rfl (U := U.calling g mk a) rfl qN.1, va_Nw.same rfl (U := U.calling g mk a) rfl qN.2⟩, qw⟩
section TR
variable {p : Program} {l : Launch} {e : Env} {R : Room} {s : State} {m : MethodId} {args : Array Value} {below : List Frame} {meth : Method} {c : Code} {H : Heap} {locs : List Loc} {cells slots : Nat} {Q : State → Prop} {pc : Nat} {ls : Array Slot} {rest : List Value} {cc : ByteArray}
variable {D : va_G} {cl : List vw_C} {tys : List (ClassId × FieldType)} {A : Nat → Prop} {w : tS → va_W} {u : tS}
theorem tr_iast (hx : p.tables.exec = Jvm.exec) (hb : c.code = cc) (hI : tX D cl tys A s H locs (w u)) (q0 t0 j : Nat) {b n : Nat} {cA : ClassId} {i x : Int32} (hq : (w u)[q0]? = some (b, .inl (cA, n, .inl (u.2 j)))) (ht : tys[t0]? = some (cA, .int)) (hset : (w u).set q0 (b, .inl (cA, n, .inl (upd (u.2 j) i.toNatClampNeg x))) = w (tA u j i x)) (hin : vp_in i n) (hdg : decode cc pc = .ok (.iastore, 1))
    (kk : ∀ (H1 : Heap) (locs1 : List Loc), tX D cl tys A s H1 locs1 (w (tA u j i x)) → W p l e R s m args below meth c H1 locs1 cells slots Q (F0 m (pc + 1) ls rest)) : W p l e R s m args below meth c H locs cells slots Q (F0 m pc ls (.int x :: .int i :: .ref b :: rest)) := by
  obtain ⟨hK, hP, hD, hS⟩ := hI
  refine va_iast hx hb hK hP hD hS q0 t0 hq ht hin hdg (fun H1 locs1 hP1 hD1 hS1 => kk H1 locs1 ⟨hK, ?_, ?_, hS1⟩)
  · rw [← hset]; exact hP1
  · rw [← hset]; exact hD1
theorem tr_put (hx : p.tables.exec = Jvm.exec) (hb : c.code = cc) {own C : String} {T : u_T} {N ci index : Nat} {Ts : List Cond} (hts : ∀ w ∈ Ts, w.before args s = true) (hin : ∀ w ∈ u_ws C T N, w ∈ Ts) (ty0 : Nat → FieldType) (hty : ∀ k, k < N → parseFieldDescriptor (T k).2.2.1 = some (ty0 k)) (hnm : ∀ a, a < N → ∀ b, b < N → a ≠ b → (T a).2.1 ≠ (T b).2.1) (hown : s.vm.findClass own = some m.cls) (hI : tX D cl tys A s H locs (w u)) (q0 j : Nat) {b : Nat} {fs : List Value} {v : Int32} (hq : (w u)[q0]? = some (b, .inr (ci, fs))) (hc : cl[ci]? = some (C, T, N)) (k : Nat) (hk : k < N) (hlink : (Cond.fieldLink own index (T k).1 (T k).2.1 (T k).2.2.1).before args s = true) (hfin : (T k).2.2.2 = false) (hd : parseFieldDescriptor (T k).2.2.1 = some .int) (hl : k < fs.length) (hset : (w u).set q0 (b, .inr (ci, fs.set k (.int v))) = w (tI u j v)) (hdg : decode cc pc = .ok (.putfield index, 3))
    (kk : ∀ (H1 : Heap) (locs1 : List Loc), tX D cl tys A s H1 locs1 (w (tI u j v)) → W p l e R s m args below meth c H1 locs1 cells slots Q (F0 m (pc + 3) ls rest)) : W p l e R s m args below meth c H locs cells slots Q (F0 m pc ls (.int v :: .ref b :: rest)) := by
  obtain ⟨hK, hP, hD, hS⟩ := hI
  refine va_put (ty := .int) (v := .int v) hx hb hts hin ty0 hty hnm hown hK hP hD hS q0 hq hc k hk hlink (fun _ h9 => h9) hfin hd rfl rfl hl hdg (fun H1 locs1 hP1 hD1 hS1 => kk H1 locs1 ⟨hK, ?_, ?_, hS1⟩)
  · rw [← hset]; exact hP1
  · rw [← hset]; exact hD1
theorem tr_copy {own : String} {index : Nat} (hx : p.tables.exec = Jvm.exec) (hb : c.code = cc) (hml : c.maxLocals = ls.size) (hown : s.vm.findClass own = some m.cls) (hlink : (Cond.methodLink own index arraycopyName).before args s = true) (hnat : (Cond.native arraycopyName).before args s = true) (hstat : (Cond.static arraycopyName).before args s = true) (hini : (Cond.initialized "java/lang/System").before args s = true)
    (hI : tX D cl tys A s H locs (w u)) (q0 q1 j0 j1 t0 : Nat) {b0 b n0 n1 k : Nat} {cA : ClassId} {n : Int32} (hq0 : (w u)[q0]? = some (b0, .inl (cA, n0, .inl (u.2 j0)))) (hq1 : (w u)[q1]? = some (b, .inl (cA, n1, .inl (u.2 j1)))) (ht : tys[t0]? = some (cA, .int)) (hset : (w u).set q1 (b, .inl (cA, n1, .inl (va_cpy (u.2 j0) (u.2 j1) 0 0 k))) = w (tY u j0 j1 k)) (hn : n.toNatClampNeg = k) (h3 : ¬ n < 0) (h4 : k ≤ n0) (h5 : k ≤ n1)
    (hframes : 1 ≤ R.frames) (hlocals : (rest.map fun v => v.category).sum + (nativeFrameWords "java/lang/System" "arraycopy" 5 + 11) ≤ R.locals) (hdg : decode cc pc = .ok (.invokestatic index, 3))
    (kk : ∀ (H1 : Heap) (locs1 : List Loc), tX D cl tys A s H1 locs1 (w (tY u j0 j1 k)) → W p l e R s m args below meth c H1 locs1 cells slots Q (F0 m (pc + 3) ls rest)) : W p l e R s m args below meth c H locs cells slots Q (F0 m pc ls (.int n :: .int 0 :: .ref b :: .int 0 :: .ref b0 :: rest)) := by
  obtain ⟨hK, hP, hD, hS⟩ := hI
  have e0 : (0 : Int32).toNatClampNeg = 0 := by decide
  refine va_copyi hx hb hml hown hlink hnat hstat hini hK hP hD hS q0 q1 t0 t0 hq0 hq1 ht ht rfl (by decide) (by decide) h3 (by rw [e0, hn]; omega) (by rw [e0, hn]; omega) (fun i _ => rfl) hframes hlocals hdg (fun H1 locs1 hP1 hD1 hS1 => kk H1 locs1 ⟨hK, ?_, ?_, hS1⟩)
  · rw [e0, hn, hset] at hP1; exact hP1
  · rw [e0, hn, hset] at hD1; exact hD1
theorem tr_putz (hx : p.tables.exec = Jvm.exec) (hb : c.code = cc) {own C : String} {T : u_T} {N ci index : Nat} {Ts : List Cond} (hts : ∀ w ∈ Ts, w.before args s = true) (hin : ∀ w ∈ u_ws C T N, w ∈ Ts) (ty0 : Nat → FieldType) (hty : ∀ k, k < N → parseFieldDescriptor (T k).2.2.1 = some (ty0 k)) (hnm : ∀ a, a < N → ∀ b, b < N → a ≠ b → (T a).2.1 ≠ (T b).2.1) (hown : s.vm.findClass own = some m.cls) (hI : tX D cl tys A s H locs (w u)) (q0 j : Nat) {b : Nat} {fs : List Value} {v : Int32} (hq : (w u)[q0]? = some (b, .inr (ci, fs))) (hc : cl[ci]? = some (C, T, N)) (k : Nat) (hk : k < N) (hlink : (Cond.fieldLink own index (T k).1 (T k).2.1 (T k).2.2.1).before args s = true) (hfin : (T k).2.2.2 = false) (hd : parseFieldDescriptor (T k).2.2.1 = some .boolean) (hn : narrow .boolean (.int v) = .int v) (hfit : fits .boolean (.int v) = true) (hl : k < fs.length) (hset : (w u).set q0 (b, .inr (ci, fs.set k (.int v))) = w (tI u j v)) (hdg : decode cc pc = .ok (.putfield index, 3))
    (kk : ∀ (H1 : Heap) (locs1 : List Loc), tX D cl tys A s H1 locs1 (w (tI u j v)) → W p l e R s m args below meth c H1 locs1 cells slots Q (F0 m (pc + 3) ls rest)) : W p l e R s m args below meth c H locs cells slots Q (F0 m pc ls (.int v :: .ref b :: rest)) := by
  obtain ⟨hK, hP, hD, hS⟩ := hI
  refine va_put (ty := .boolean) (v := .int v) hx hb hts hin ty0 hty hnm hown hK hP hD hS q0 hq hc k hk hlink (fun _ h9 => h9) hfin hd hn hfit hl hdg (fun H1 locs1 hP1 hD1 hS1 => kk H1 locs1 ⟨hK, ?_, ?_, hS1⟩)
  · rw [← hset]; exact hP1
  · rw [← hset]; exact hD1
theorem tr_iret {post : Int32 → tS → Prop} {v : Int32} (hx : p.tables.exec = Jvm.exec) (hb : c.code = cc) (hr : meth.sig.returnType = some .int) (hlocks : meth.locks = false) (hI : tX D cl tys A s H locs (w u)) (hw : post v u) (hdg : decode cc pc = .ok (.ireturn, 1)) : W p l e R s m args below meth c H locs 0 0 (MQ below (va_Qi post (tB D cl tys A w) A) args s 0 0 A) (F0 m pc ls [.int v]) := by
  obtain ⟨hK, hP, hD, hS⟩ := hI
  exact W.iret (v := v) hx hb hr (fun t ht hW => ⟨⟨v, u, rfl, hw, by rw [ht]; exact hP, va_K.moved hW.alike hK, hD⟩, hS.F ht⟩) hS.2.2 hdg
theorem tr_zret {post : Int32 → tS → Prop} {v : Int32} (hx : p.tables.exec = Jvm.exec) (hb : c.code = cc) (hr : meth.sig.returnType = some .boolean) (hlocks : meth.locks = false) (hI : tX D cl tys A s H locs (w u)) (hn : narrow .boolean (.int v) = .int v) (hw : post v u) (hdg : decode cc pc = .ok (.ireturn, 1)) : W p l e R s m args below meth c H locs 0 0 (MQ below (va_Qi post (tB D cl tys A w) A) args s 0 0 A) (F0 m pc ls [.int v]) := by
  obtain ⟨hK, hP, hD, hS⟩ := hI
  exact W.zret (v := v) hx hb hr hn (fun t ht hW => ⟨⟨v, u, rfl, hw, by rw [ht]; exact hP, va_K.moved hW.alike hK, hD⟩, hS.F ht⟩) hS.2.2 hdg
theorem tr_vret {post : tS → Prop} (hx : p.tables.exec = Jvm.exec) (hb : c.code = cc) (hr : meth.sig.returnType = none) (hlocks : meth.locks = false) (hI : tX D cl tys A s H locs (w u)) (hw : post u) (hdg : decode cc pc = .ok (.return_, 1)) : W p l e R s m args below meth c H locs 0 0 (MQ below (va_Qv post (tB D cl tys A w) A) args s 0 0 A) (F0 m pc ls []) := by
  obtain ⟨hK, hP, hD, hS⟩ := hI
  exact W.vret hx hb hr (fun t ht hW => ⟨⟨u, rfl, hw, by rw [ht]; exact hP, va_K.moved hW.alike hK, hD⟩, hS.F ht⟩) hS.2.2 hdg
theorem tX_free (hI : tX D cl tys A s H locs (w u)) (hA : ∀ q : Nat, s.heap.size ≤ q → A q) : ∀ q, va_A (w u) H.size q → A q := by
  obtain ⟨hK, hP, hD, hS⟩ := hI
  intro q h
  rcases h with ⟨k, x, h⟩ | h
  · exact hD.2 k _ h
  · exact hA q (Nat.le_trans hS.1 h)
theorem tr_goi {post : Int32 → tS → Prop} {free : Addr → Prop} {a0 : Array Value} {st0 : List Value} (hI : tX D cl tys A s H locs (w u)) (hA : ∀ q : Nat, s.heap.size ≤ q → A q)
    (hrun : va_Run p l e R s m args below meth c H locs cells slots 0 0 (F0 m pc ls st0) rest (va_Qi post (tB D cl tys (va_A (w u) H.size) w) (va_A (w u) H.size) a0) (va_A (w u) H.size))
    (kk : ∀ (r : Int32) (u1 : tS) (H1 : Heap) (locs1 : List Loc), post r u1 → tX D cl tys A s H1 locs1 (w u1) → W p l e R s m args below meth c H1 locs1 cells slots Q (F0 m (pc + 3) ls (.int r :: rest))) : W p l e R s m args below meth c H locs cells slots Q (F0 m pc ls st0) := by
  have hF := tX_free hI hA
  obtain ⟨hK, hP, hD, hS⟩ := hI
  refine va_calli hrun hS (fun q _ h => hF q h) hF (fun r u1 t H1 locs1 ht hvm hp hB hz hk hS1 => ?_)
  obtain ⟨hP1, hK1, hD1⟩ := hB
  rw [ht] at hP1
  exact kk r u1 H1 locs1 hp ⟨hK, hP1, hD1.weaken (fun _ q _ h => hF q.1 h), hS1⟩
theorem tr_gov {post : tS → Prop} {free : Addr → Prop} {a0 : Array Value} {st0 : List Value} (hI : tX D cl tys A s H locs (w u)) (hA : ∀ q : Nat, s.heap.size ≤ q → A q)
    (hrun : va_Run p l e R s m args below meth c H locs cells slots 0 0 (F0 m pc ls st0) rest (va_Qv post (tB D cl tys (va_A (w u) H.size) w) (va_A (w u) H.size) a0) (va_A (w u) H.size))
    (kk : ∀ (u1 : tS) (H1 : Heap) (locs1 : List Loc), post u1 → tX D cl tys A s H1 locs1 (w u1) → W p l e R s m args below meth c H1 locs1 cells slots Q (F0 m (pc + 3) ls rest)) : W p l e R s m args below meth c H locs cells slots Q (F0 m pc ls st0) := by
  have hF := tX_free hI hA
  obtain ⟨hK, hP, hD, hS⟩ := hI
  refine va_callv hrun hS (fun q _ h => hF q h) hF (fun u1 t H1 locs1 ht hvm hp hB hz hk hS1 => ?_)
  obtain ⟨hP1, hK1, hD1⟩ := hB
  rw [ht] at hP1
  exact kk u1 H1 locs1 hp ⟨hK, hP1, hD1.weaken (fun _ q _ h => hF q.1 h), hS1⟩
/-- a callee's start, an object's method -/
theorem tr_preV {C : String} {b : Nat} {As : List Value} {wp : Prop} {ci q0 : Nat} {q : vw_C} {fs : List Value} (hI : tX D cl tys A s H locs (w u)) (hc : cl[ci]? = some q) (hq : (w u)[q0]? = some (b, .inr (ci, fs))) (hC : q.1 = C) (hN : tN s) (hw : wp) : PreV s H C b (va_Pc (.ref b :: As) (tP D cl tys w u H.size wp)) As := by
  obtain ⟨hK, hP, hD, hS⟩ := hI
  subst hC
  exact ⟨tP_blind _, va_recv hK hP hc hq, fun U hU hW => ⟨rfl, by rw [hU], by rw [hU]; exact hP, va_K.moved hW.alike hK, hD.weaken (fun _ _ _ _ => trivial), tN_warm hW hN, hw⟩⟩
theorem tr_preS {As : List Value} {wp : Prop} (hI : tX D cl tys A s H locs (w u)) (hN : tN s) (hw : wp) : PreS s H (va_Pc As (tP D cl tys w u H.size wp)) As := by
  obtain ⟨hK, hP, hD, hS⟩ := hI
  exact ⟨tP_blind _, fun U hU hW => ⟨rfl, by rw [hU], by rw [hU]; exact hP, va_K.moved hW.alike hK, hD.weaken (fun _ _ _ _ => trivial), tN_warm hW hN, hw⟩⟩
end TR
theorem tab_out2 {x : Int32} (h0 : ¬ x = 0) (h1 : ¬ x = 1) : x.toInt < 0 ∨ 1 < x.toInt := by
  have a0 := lv_neT h0 (show (0 : Int32).toInt = 0 from rfl); have a1 := lv_neT h1 (show (1 : Int32).toInt = 1 from rfl); omega
theorem tab_out3 {x : Int32} (h0 : ¬ x = 0) (h1 : ¬ x = 1) (h2 : ¬ x = 2) : x.toInt < 0 ∨ 2 < x.toInt := by
  have a0 := tab_out2 h0 h1; have a1 := lv_neT h2 (show (2 : Int32).toInt = 2 from rfl); omega
theorem tab_out4 {x : Int32} (h0 : ¬ x = 0) (h1 : ¬ x = 1) (h2 : ¬ x = 2) (h3 : ¬ x = 3) : x.toInt < 0 ∨ 3 < x.toInt := by
  have a0 := tab_out3 h0 h1 h2; have a1 := lv_neT h3 (show (3 : Int32).toInt = 3 from rfl); omega
theorem tab_out5 {x : Int32} (h0 : ¬ x = 0) (h1 : ¬ x = 1) (h2 : ¬ x = 2) (h3 : ¬ x = 3) (h4 : ¬ x = 4) : x.toInt < 0 ∨ 4 < x.toInt := by
  have a0 := tab_out4 h0 h1 h2 h3; have a1 := lv_neT h4 (show (4 : Int32).toInt = 4 from rfl); omega
theorem tab_out6 {x : Int32} (h0 : ¬ x = 0) (h1 : ¬ x = 1) (h2 : ¬ x = 2) (h3 : ¬ x = 3) (h4 : ¬ x = 4) (h5 : ¬ x = 5) : x.toInt < 0 ∨ 5 < x.toInt := by
  have a0 := tab_out5 h0 h1 h2 h3 h4; have a1 := lv_neT h5 (show (5 : Int32).toInt = 5 from rfl); omega
end
