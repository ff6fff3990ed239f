section
-- ===== PART A: goes FIRST, ahead of the names: the tables' words, and 'selects' of the private methods out of them =====
/-- a private method of a class that the tables say can be made, by its rows of tables_1 -/
def lw_okq (q : MethodName × Nat) : Prop := (q.1.cls ≠ "java/lang/invoke/MethodHandle" ∧ q.1.cls ≠ "java/lang/invoke/VarHandle") ∧ Cond.instantiable q.1.cls q.2 ∈ tables_1 ∧ Cond.privateMethod q.1 ∈ tables_1 ∧ Cond.instanceMethod q.1 ∈ tables_1
theorem lw_p0 : lw_okq (⟨"ShopWindow$Pad", "comesTo", "(II)J"⟩, 4) := ⟨⟨by decide +kernel, by decide +kernel⟩, List.mem_of_getElem? (i := 21) (by decide +kernel), List.mem_of_getElem? (i := 197) (by decide +kernel), List.mem_of_getElem? (i := 198) (by decide +kernel)⟩
theorem lw_p1 : lw_okq (⟨"ShopWindow$Passers", "lookBeside", "([I)V"⟩, 8) := ⟨⟨by decide +kernel, by decide +kernel⟩, List.mem_of_getElem? (i := 93) (by decide +kernel), List.mem_of_getElem? (i := 328) (by decide +kernel), List.mem_of_getElem? (i := 329) (by decide +kernel)⟩
theorem lw_p2 : lw_okq (⟨"ShopWindow$Passers", "glance", "(III)V"⟩, 8) := ⟨⟨by decide +kernel, by decide +kernel⟩, List.mem_of_getElem? (i := 93) (by decide +kernel), List.mem_of_getElem? (i := 375) (by decide +kernel), List.mem_of_getElem? (i := 376) (by decide +kernel)⟩
theorem lw_p3 : lw_okq (⟨"ShopWindow$Windows", "makeReady", "()V"⟩, 12) := ⟨⟨by decide +kernel, by decide +kernel⟩, List.mem_of_getElem? (i := 129) (by decide +kernel), List.mem_of_getElem? (i := 421) (by decide +kernel), List.mem_of_getElem? (i := 422) (by decide +kernel)⟩
theorem lw_p4 : lw_okq (⟨"ShopWindow$Windows", "add", "(II)V"⟩, 12) := ⟨⟨by decide +kernel, by decide +kernel⟩, List.mem_of_getElem? (i := 129) (by decide +kernel), List.mem_of_getElem? (i := 428) (by decide +kernel), List.mem_of_getElem? (i := 429) (by decide +kernel)⟩
theorem lw_p5 : lw_okq (⟨"ShopWindow$Windows", "whichClimbs", "()I"⟩, 12) := ⟨⟨by decide +kernel, by decide +kernel⟩, List.mem_of_getElem? (i := 129) (by decide +kernel), List.mem_of_getElem? (i := 461) (by decide +kernel), List.mem_of_getElem? (i := 462) (by decide +kernel)⟩
theorem lw_p6 : lw_okq (⟨"ShopWindow$Windows", "offerChangesAbout", "()V"⟩, 12) := ⟨⟨by decide +kernel, by decide +kernel⟩, List.mem_of_getElem? (i := 129) (by decide +kernel), List.mem_of_getElem? (i := 465) (by decide +kernel), List.mem_of_getElem? (i := 466) (by decide +kernel)⟩
theorem lw_p7 : lw_okq (⟨"ShopWindow$Windows", "changeAbout", "(II)V"⟩, 12) := ⟨⟨by decide +kernel, by decide +kernel⟩, List.mem_of_getElem? (i := 129) (by decide +kernel), List.mem_of_getElem? (i := 469) (by decide +kernel), List.mem_of_getElem? (i := 470) (by decide +kernel)⟩
theorem lw_p8 : lw_okq (⟨"ShopWindow$Windows", "offer", "()V"⟩, 12) := ⟨⟨by decide +kernel, by decide +kernel⟩, List.mem_of_getElem? (i := 129) (by decide +kernel), List.mem_of_getElem? (i := 473) (by decide +kernel), List.mem_of_getElem? (i := 474) (by decide +kernel)⟩
theorem lw_p9 : lw_okq (⟨"ShopWindow$Windows", "offerPuttings", "()V"⟩, 12) := ⟨⟨by decide +kernel, by decide +kernel⟩, List.mem_of_getElem? (i := 129) (by decide +kernel), List.mem_of_getElem? (i := 477) (by decide +kernel), List.mem_of_getElem? (i := 478) (by decide +kernel)⟩
theorem lw_p10 : lw_okq (⟨"ShopWindow$Windows", "offerTakings", "()V"⟩, 12) := ⟨⟨by decide +kernel, by decide +kernel⟩, List.mem_of_getElem? (i := 129) (by decide +kernel), List.mem_of_getElem? (i := 481) (by decide +kernel), List.mem_of_getElem? (i := 482) (by decide +kernel)⟩
theorem lw_p11 : lw_okq (⟨"ShopWindow$Windows", "greatestOffer", "()I"⟩, 12) := ⟨⟨by decide +kernel, by decide +kernel⟩, List.mem_of_getElem? (i := 129) (by decide +kernel), List.mem_of_getElem? (i := 485) (by decide +kernel), List.mem_of_getElem? (i := 486) (by decide +kernel)⟩
theorem lw_p12 : lw_okq (⟨"ShopWindow", "greatestWeek", "()I"⟩, 8) := ⟨⟨by decide +kernel, by decide +kernel⟩, List.mem_of_getElem? (i := 13) (by decide +kernel), List.mem_of_getElem? (i := 489) (by decide +kernel), List.mem_of_getElem? (i := 490) (by decide +kernel)⟩
theorem lw_p13 : lw_okq (⟨"ShopWindow", "firstWeekUnder", "(I)I"⟩, 8) := ⟨⟨by decide +kernel, by decide +kernel⟩, List.mem_of_getElem? (i := 13) (by decide +kernel), List.mem_of_getElem? (i := 501) (by decide +kernel), List.mem_of_getElem? (i := 502) (by decide +kernel)⟩
theorem lw_p14 : lw_okq (⟨"ShopWindow", "firstChangeThatMends", "(II)I"⟩, 8) := ⟨⟨by decide +kernel, by decide +kernel⟩, List.mem_of_getElem? (i := 13) (by decide +kernel), List.mem_of_getElem? (i := 513) (by decide +kernel), List.mem_of_getElem? (i := 514) (by decide +kernel)⟩
theorem lw_p15 : lw_okq (⟨"ShopWindow", "toldOfRows", "(I)I"⟩, 8) := ⟨⟨by decide +kernel, by decide +kernel⟩, List.mem_of_getElem? (i := 13) (by decide +kernel), List.mem_of_getElem? (i := 561) (by decide +kernel), List.mem_of_getElem? (i := 562) (by decide +kernel)⟩
def lw_privs_1 : List (MethodName × Nat) := [(⟨"ShopWindow$Pad", "comesTo", "(II)J"⟩, 4), (⟨"ShopWindow$Passers", "lookBeside", "([I)V"⟩, 8), (⟨"ShopWindow$Passers", "glance", "(III)V"⟩, 8), (⟨"ShopWindow$Windows", "makeReady", "()V"⟩, 12), (⟨"ShopWindow$Windows", "add", "(II)V"⟩, 12), (⟨"ShopWindow$Windows", "whichClimbs", "()I"⟩, 12), (⟨"ShopWindow$Windows", "offerChangesAbout", "()V"⟩, 12), (⟨"ShopWindow$Windows", "changeAbout", "(II)V"⟩, 12), (⟨"ShopWindow$Windows", "offer", "()V"⟩, 12), (⟨"ShopWindow$Windows", "offerPuttings", "()V"⟩, 12), (⟨"ShopWindow$Windows", "offerTakings", "()V"⟩, 12), (⟨"ShopWindow$Windows", "greatestOffer", "()I"⟩, 12), (⟨"ShopWindow", "greatestWeek", "()I"⟩, 8), (⟨"ShopWindow", "firstWeekUnder", "(I)I"⟩, 8), (⟨"ShopWindow", "firstChangeThatMends", "(II)I"⟩, 8), (⟨"ShopWindow", "toldOfRows", "(I)I"⟩, 8)]
theorem lw_r1 : ∀ q ∈ lw_privs_1, lw_okq q := List.forall_mem_cons.mpr ⟨lw_p0, List.forall_mem_cons.mpr ⟨lw_p1, List.forall_mem_cons.mpr ⟨lw_p2, List.forall_mem_cons.mpr ⟨lw_p3, List.forall_mem_cons.mpr ⟨lw_p4, List.forall_mem_cons.mpr ⟨lw_p5, List.forall_mem_cons.mpr ⟨lw_p6, List.forall_mem_cons.mpr ⟨lw_p7, List.forall_mem_cons.mpr ⟨lw_p8, List.forall_mem_cons.mpr ⟨lw_p9, List.forall_mem_cons.mpr ⟨lw_p10, List.forall_mem_cons.mpr ⟨lw_p11, List.forall_mem_cons.mpr ⟨lw_p12, List.forall_mem_cons.mpr ⟨lw_p13, List.forall_mem_cons.mpr ⟨lw_p14, List.forall_mem_cons.mpr ⟨lw_p15, fun _ h => absurd h List.not_mem_nil⟩⟩⟩⟩⟩⟩⟩⟩⟩⟩⟩⟩⟩⟩⟩⟩
theorem lw_p16 : lw_okq (⟨"ShopWindowModel", "windowFault", "()I"⟩, 26) := ⟨⟨by decide +kernel, by decide +kernel⟩, List.mem_of_getElem? (i := 565) (by decide +kernel), List.mem_of_getElem? (i := 676) (by decide +kernel), List.mem_of_getElem? (i := 677) (by decide +kernel)⟩
theorem lw_p17 : lw_okq (⟨"ShopWindowModel", "lawFault", "()I"⟩, 26) := ⟨⟨by decide +kernel, by decide +kernel⟩, List.mem_of_getElem? (i := 565) (by decide +kernel), List.mem_of_getElem? (i := 680) (by decide +kernel), List.mem_of_getElem? (i := 681) (by decide +kernel)⟩
theorem lw_p18 : lw_okq (⟨"ShopWindowModel", "lookAtWindow", "()V"⟩, 26) := ⟨⟨by decide +kernel, by decide +kernel⟩, List.mem_of_getElem? (i := 565) (by decide +kernel), List.mem_of_getElem? (i := 699) (by decide +kernel), List.mem_of_getElem? (i := 700) (by decide +kernel)⟩
theorem lw_p19 : lw_okq (⟨"ShopWindowModel", "drawsOf", "(II)I"⟩, 26) := ⟨⟨by decide +kernel, by decide +kernel⟩, List.mem_of_getElem? (i := 565) (by decide +kernel), List.mem_of_getElem? (i := 703) (by decide +kernel), List.mem_of_getElem? (i := 704) (by decide +kernel)⟩
theorem lw_p20 : lw_okq (⟨"ShopWindowModel", "looks", "(I)I"⟩, 26) := ⟨⟨by decide +kernel, by decide +kernel⟩, List.mem_of_getElem? (i := 565) (by decide +kernel), List.mem_of_getElem? (i := 707) (by decide +kernel), List.mem_of_getElem? (i := 708) (by decide +kernel)⟩
theorem lw_p21 : lw_okq (⟨"ShopWindowModel", "saysOf", "(III)I"⟩, 26) := ⟨⟨by decide +kernel, by decide +kernel⟩, List.mem_of_getElem? (i := 565) (by decide +kernel), List.mem_of_getElem? (i := 729) (by decide +kernel), List.mem_of_getElem? (i := 730) (by decide +kernel)⟩
theorem lw_p22 : lw_okq (⟨"ShopWindowModel", "layParts", "(II)V"⟩, 26) := ⟨⟨by decide +kernel, by decide +kernel⟩, List.mem_of_getElem? (i := 565) (by decide +kernel), List.mem_of_getElem? (i := 739) (by decide +kernel), List.mem_of_getElem? (i := 740) (by decide +kernel)⟩
theorem lw_p23 : lw_okq (⟨"ShopWindowModel", "glance", "(II)V"⟩, 26) := ⟨⟨by decide +kernel, by decide +kernel⟩, List.mem_of_getElem? (i := 565) (by decide +kernel), List.mem_of_getElem? (i := 744) (by decide +kernel), List.mem_of_getElem? (i := 745) (by decide +kernel)⟩
theorem lw_p24 : lw_okq (⟨"ShopWindowModel", "mayFall", "(II)Z"⟩, 26) := ⟨⟨by decide +kernel, by decide +kernel⟩, List.mem_of_getElem? (i := 565) (by decide +kernel), List.mem_of_getElem? (i := 748) (by decide +kernel), List.mem_of_getElem? (i := 749) (by decide +kernel)⟩
theorem lw_p25 : lw_okq (⟨"ShopWindowModel", "layLaws", "()V"⟩, 26) := ⟨⟨by decide +kernel, by decide +kernel⟩, List.mem_of_getElem? (i := 565) (by decide +kernel), List.mem_of_getElem? (i := 760) (by decide +kernel), List.mem_of_getElem? (i := 761) (by decide +kernel)⟩
theorem lw_p26 : lw_okq (⟨"ShopWindowModel", "layDeeds", "(II)V"⟩, 26) := ⟨⟨by decide +kernel, by decide +kernel⟩, List.mem_of_getElem? (i := 565) (by decide +kernel), List.mem_of_getElem? (i := 764) (by decide +kernel), List.mem_of_getElem? (i := 765) (by decide +kernel)⟩
theorem lw_p27 : lw_okq (⟨"ShopWindowModel", "weekOf", "(I)I"⟩, 26) := ⟨⟨by decide +kernel, by decide +kernel⟩, List.mem_of_getElem? (i := 565) (by decide +kernel), List.mem_of_getElem? (i := 775) (by decide +kernel), List.mem_of_getElem? (i := 776) (by decide +kernel)⟩
theorem lw_p28 : lw_okq (⟨"ShopWindowModel", "bestOf", "(III)I"⟩, 26) := ⟨⟨by decide +kernel, by decide +kernel⟩, List.mem_of_getElem? (i := 565) (by decide +kernel), List.mem_of_getElem? (i := 787) (by decide +kernel), List.mem_of_getElem? (i := 788) (by decide +kernel)⟩
theorem lw_p29 : lw_okq (⟨"ShopWindowModel", "layWeeks", "()V"⟩, 26) := ⟨⟨by decide +kernel, by decide +kernel⟩, List.mem_of_getElem? (i := 565) (by decide +kernel), List.mem_of_getElem? (i := 791) (by decide +kernel), List.mem_of_getElem? (i := 792) (by decide +kernel)⟩
theorem lw_p30 : lw_okq (⟨"ShopWindowModel", "windowCode", "()I"⟩, 26) := ⟨⟨by decide +kernel, by decide +kernel⟩, List.mem_of_getElem? (i := 565) (by decide +kernel), List.mem_of_getElem? (i := 809) (by decide +kernel), List.mem_of_getElem? (i := 810) (by decide +kernel)⟩
theorem lw_p31 : lw_okq (⟨"ShopWindowModel", "exchanged", "(I)I"⟩, 26) := ⟨⟨by decide +kernel, by decide +kernel⟩, List.mem_of_getElem? (i := 565) (by decide +kernel), List.mem_of_getElem? (i := 813) (by decide +kernel), List.mem_of_getElem? (i := 814) (by decide +kernel)⟩
def lw_privs_2 : List (MethodName × Nat) := [(⟨"ShopWindowModel", "windowFault", "()I"⟩, 26), (⟨"ShopWindowModel", "lawFault", "()I"⟩, 26), (⟨"ShopWindowModel", "lookAtWindow", "()V"⟩, 26), (⟨"ShopWindowModel", "drawsOf", "(II)I"⟩, 26), (⟨"ShopWindowModel", "looks", "(I)I"⟩, 26), (⟨"ShopWindowModel", "saysOf", "(III)I"⟩, 26), (⟨"ShopWindowModel", "layParts", "(II)V"⟩, 26), (⟨"ShopWindowModel", "glance", "(II)V"⟩, 26), (⟨"ShopWindowModel", "mayFall", "(II)Z"⟩, 26), (⟨"ShopWindowModel", "layLaws", "()V"⟩, 26), (⟨"ShopWindowModel", "layDeeds", "(II)V"⟩, 26), (⟨"ShopWindowModel", "weekOf", "(I)I"⟩, 26), (⟨"ShopWindowModel", "bestOf", "(III)I"⟩, 26), (⟨"ShopWindowModel", "layWeeks", "()V"⟩, 26), (⟨"ShopWindowModel", "windowCode", "()I"⟩, 26), (⟨"ShopWindowModel", "exchanged", "(I)I"⟩, 26)]
theorem lw_r2 : ∀ q ∈ lw_privs_2, lw_okq q := List.forall_mem_cons.mpr ⟨lw_p16, List.forall_mem_cons.mpr ⟨lw_p17, List.forall_mem_cons.mpr ⟨lw_p18, List.forall_mem_cons.mpr ⟨lw_p19, List.forall_mem_cons.mpr ⟨lw_p20, List.forall_mem_cons.mpr ⟨lw_p21, List.forall_mem_cons.mpr ⟨lw_p22, List.forall_mem_cons.mpr ⟨lw_p23, List.forall_mem_cons.mpr ⟨lw_p24, List.forall_mem_cons.mpr ⟨lw_p25, List.forall_mem_cons.mpr ⟨lw_p26, List.forall_mem_cons.mpr ⟨lw_p27, List.forall_mem_cons.mpr ⟨lw_p28, List.forall_mem_cons.mpr ⟨lw_p29, List.forall_mem_cons.mpr ⟨lw_p30, List.forall_mem_cons.mpr ⟨lw_p31, fun _ h => absurd h List.not_mem_nil⟩⟩⟩⟩⟩⟩⟩⟩⟩⟩⟩⟩⟩⟩⟩⟩
theorem lw_p32 : lw_okq (⟨"ShopWindowModel", "staleBy", "(IJ)I"⟩, 26) := ⟨⟨by decide +kernel, by decide +kernel⟩, List.mem_of_getElem? (i := 565) (by decide +kernel), List.mem_of_getElem? (i := 831) (by decide +kernel), List.mem_of_getElem? (i := 832) (by decide +kernel)⟩
def lw_privs_3 : List (MethodName × Nat) := [(⟨"ShopWindowModel", "staleBy", "(IJ)I"⟩, 26)]
theorem lw_r3 : ∀ q ∈ lw_privs_3, lw_okq q := List.forall_mem_cons.mpr ⟨lw_p32, fun _ h => absurd h List.not_mem_nil⟩
def lw_privs : List (MethodName × Nat) := lw_privs_1 ++ (lw_privs_2 ++ (lw_privs_3))
def lw_tbl : List Cond := k2_sels lw_privs ++ tables_1
theorem lw_privs_ok : ∀ q ∈ lw_privs, lw_okq q := by
  show ∀ q ∈ lw_privs_1 ++ (lw_privs_2 ++ (lw_privs_3)), lw_okq q
  exact List.forall_mem_append.mpr ⟨lw_r1, List.forall_mem_append.mpr ⟨lw_r2, lw_r3⟩⟩
end
section
def RX0 : String := "ShopWindow$Lottery"
def TX0 : u_T := fun k => match k with
  | 0 => ("ShopWindow$Lottery", "upper", "J", false)
  | _ => ("ShopWindow$Lottery", "lower", "J", false)
def tyX0 : Nat → FieldType := fun k => match k with
  | 0 => .long
  | _ => .long
abbrev wsX00 : List Cond := u_ws RX0 TX0 2
theorem nmX0 : ∀ a, a < 2 → ∀ b, b < 2 → a ≠ b → (TX0 a).2.1 ≠ (TX0 b).2.1 := by decide +kernel
theorem tyX0_ok : ∀ k, k < 2 → parseFieldDescriptor (TX0 k).2.2.1 = some (tyX0 k) := by decide +kernel
abbrev cX0_init : ByteArray := prog_2_method_1_code
def yX0_init : MethodName := ⟨RX0, "<init>", "()V"⟩
abbrev cX0_draw : ByteArray := prog_2_method_2_code
def yX0_draw : MethodName := ⟨RX0, "draw", "([II)V"⟩
abbrev cX0_sumOf : ByteArray := prog_2_method_3_code
def yX0_sumOf : MethodName := ⟨RX0, "sumOf", "([II)I"⟩
abbrev cX0_commonDivisor : ByteArray := prog_2_method_4_code
def yX0_commonDivisor : MethodName := ⟨RX0, "commonDivisor", "(II)I"⟩
def RX1 : String := "ShopWindow$Pad"
def TX1 : u_T := fun k => match k with
  | 0 => ("ShopWindow$Pad", "signs", "[I", true)
  | 1 => ("ShopWindow$Pad", "within", "[I", true)
  | 2 => ("ShopWindow$Pad", "values", "[J", true)
  | _ => ("ShopWindow$Pad", "count", "I", false)
def tyX1 : Nat → FieldType := fun k => match k with
  | 0 => .array .int
  | 1 => .array .int
  | 2 => .array .long
  | _ => .int
abbrev wsX10 : List Cond := u_ws RX1 TX1 4
theorem nmX1 : ∀ a, a < 4 → ∀ b, b < 4 → a ≠ b → (TX1 a).2.1 ≠ (TX1 b).2.1 := by decide +kernel
theorem tyX1_ok : ∀ k, k < 4 → parseFieldDescriptor (TX1 k).2.2.1 = some (tyX1 k) := by decide +kernel
abbrev cX1_init : ByteArray := prog_3_method_1_code
def yX1_init : MethodName := ⟨RX1, "<init>", "()V"⟩
abbrev cX1_add : ByteArray := prog_3_method_2_code
def yX1_add : MethodName := ⟨RX1, "add", "(I)Z"⟩
abbrev cX1_faultAsWindow : ByteArray := prog_3_method_3_code
def yX1_faultAsWindow : MethodName := ⟨RX1, "faultAsWindow", "()I"⟩
abbrev cX1_faultAsLaw : ByteArray := prog_3_method_4_code
def yX1_faultAsLaw : MethodName := ⟨RX1, "faultAsLaw", "()I"⟩
abbrev cX1_becomeWindow : ByteArray := prog_3_method_5_code
def yX1_becomeWindow : MethodName := ⟨RX1, "becomeWindow", "(LShopWindow$Scene;)V"⟩
abbrev cX1_becomeLaw : ByteArray := prog_3_method_6_code
def yX1_becomeLaw : MethodName := ⟨RX1, "becomeLaw", "(LShopWindow$Scene;I)V"⟩
abbrev cX1_comesTo : ByteArray := prog_3_method_7_code
def yX1_comesTo : MethodName := ⟨RX1, "comesTo", "(II)J"⟩
abbrev cX1_joinsTwo : ByteArray := prog_3_method_8_code
def yX1_joinsTwo : MethodName := ⟨RX1, "joinsTwo", "(I)Z"⟩
abbrev cX1_standsAlone : ByteArray := prog_3_method_9_code
def yX1_standsAlone : MethodName := ⟨RX1, "standsAlone", "(I)Z"⟩
abbrev cX1_alone : ByteArray := prog_3_method_10_code
def yX1_alone : MethodName := ⟨RX1, "alone", "(III)J"⟩
abbrev cX1_joined : ByteArray := prog_3_method_11_code
def yX1_joined : MethodName := ⟨RX1, "joined", "(IJJ)J"⟩
def RX2 : String := "ShopWindow$Passers"
def TX2 : u_T := fun k => match k with
  | 0 => ("ShopWindow$Passers", "scene", "LShopWindow$Scene;", true)
  | 1 => ("ShopWindow$Passers", "bits", "[I", true)
  | 2 => ("ShopWindow$Passers", "pulls", "[I", true)
  | 3 => ("ShopWindow$Passers", "drawn", "[I", true)
  | 4 => ("ShopWindow$Passers", "parts", "[I", true)
  | 5 => ("ShopWindow$Passers", "stop", "I", false)
  | 6 => ("ShopWindow$Passers", "come", "I", false)
  | _ => ("ShopWindow$Passers", "pay", "I", false)
def tyX2 : Nat → FieldType := fun k => match k with
  | 0 => .object "ShopWindow$Scene"
  | 1 => .array .int
  | 2 => .array .int
  | 3 => .array .int
  | 4 => .array .int
  | 5 => .int
  | 6 => .int
  | _ => .int
abbrev wsX20 : List Cond := u_ws RX2 TX2 8
theorem nmX2 : ∀ a, a < 8 → ∀ b, b < 8 → a ≠ b → (TX2 a).2.1 ≠ (TX2 b).2.1 := by decide +kernel
theorem tyX2_ok : ∀ k, k < 8 → parseFieldDescriptor (TX2 k).2.2.1 = some (tyX2 k) := by decide +kernel
abbrev cX2_init : ByteArray := prog_4_method_1_code
def yX2_init : MethodName := ⟨RX2, "<init>", "(LShopWindow$Scene;)V"⟩
abbrev cX2_standBefore : ByteArray := prog_4_method_2_code
def yX2_standBefore : MethodName := ⟨RX2, "standBefore", "([I)V"⟩
abbrev cX2_lookBeside : ByteArray := prog_4_method_3_code
def yX2_lookBeside : MethodName := ⟨RX2, "lookBeside", "([I)V"⟩
abbrev cX2_pullOn : ByteArray := prog_4_method_4_code
def yX2_pullOn : MethodName := ⟨RX2, "pullOn", "(II)I"⟩
abbrev cX2_goBy : ByteArray := prog_4_method_5_code
def yX2_goBy : MethodName := ⟨RX2, "goBy", "(II)V"⟩
abbrev cX2_glance : ByteArray := prog_4_method_6_code
def yX2_glance : MethodName := ⟨RX2, "glance", "(III)V"⟩
abbrev cX2_sawIt : ByteArray := prog_4_method_7_code
def yX2_sawIt : MethodName := ⟨RX2, "sawIt", "(I)I"⟩
abbrev cX2_reckon : ByteArray := prog_4_method_8_code
def yX2_reckon : MethodName := ⟨RX2, "reckon", "(I)V"⟩
abbrev cX2_weekOf : ByteArray := prog_4_method_9_code
def yX2_weekOf : MethodName := ⟨RX2, "weekOf", "([II)I"⟩
def RX3 : String := "ShopWindow$Scene"
def TX3 : u_T := fun k => match k with
  | 0 => ("ShopWindow$Scene", "traits", "[I", true)
  | 1 => ("ShopWindow$Scene", "lights", "[I", true)
  | 2 => ("ShopWindow$Scene", "row", "[I", true)
  | 3 => ("ShopWindow$Scene", "habits", "[I", true)
  | 4 => ("ShopWindow$Scene", "answers", "[I", true)
  | 5 => ("ShopWindow$Scene", "taken", "[I", true)
  | 6 => ("ShopWindow$Scene", "triedIn", "I", false)
  | _ => ("ShopWindow$Scene", "otherCoin", "I", false)
def tyX3 : Nat → FieldType := fun k => match k with
  | 0 => .array .int
  | 1 => .array .int
  | 2 => .array .int
  | 3 => .array .int
  | 4 => .array .int
  | 5 => .array .int
  | 6 => .int
  | _ => .int
abbrev wsX30 : List Cond := u_ws RX3 TX3 8
theorem nmX3 : ∀ a, a < 8 → ∀ b, b < 8 → a ≠ b → (TX3 a).2.1 ≠ (TX3 b).2.1 := by decide +kernel
theorem tyX3_ok : ∀ k, k < 8 → parseFieldDescriptor (TX3 k).2.2.1 = some (tyX3 k) := by decide +kernel
abbrev cX3_init : ByteArray := prog_5_method_1_code
def yX3_init : MethodName := ⟨RX3, "<init>", "()V"⟩
abbrev cX3_takeFrom : ByteArray := prog_5_method_2_code
def yX3_takeFrom : MethodName := ⟨RX3, "takeFrom", "(LShopWindow$Scene;)V"⟩
abbrev cX3_trait : ByteArray := prog_5_method_3_code
def yX3_trait : MethodName := ⟨RX3, "trait", "(II)I"⟩
abbrev cX3_habit : ByteArray := prog_5_method_4_code
def yX3_habit : MethodName := ⟨RX3, "habit", "(II)I"⟩
abbrev cX3_answer : ByteArray := prog_5_method_5_code
def yX3_answer : MethodName := ⟨RX3, "answer", "(III)I"⟩
abbrev cX3_standing : ByteArray := prog_5_method_6_code
def yX3_standing : MethodName := ⟨RX3, "standing", "()I"⟩
def RX4 : String := "ShopWindow$Windows"
def TX4 : u_T := fun k => match k with
  | 0 => ("ShopWindow$Windows", "passers", "LShopWindow$Passers;", true)
  | 1 => ("ShopWindow$Windows", "numbers", "[I", true)
  | 2 => ("ShopWindow$Windows", "sets", "[I", true)
  | 3 => ("ShopWindow$Windows", "listed", "I", false)
  | 4 => ("ShopWindow$Windows", "weeks", "[I", true)
  | 5 => ("ShopWindow$Windows", "weeksHold", "Z", false)
  | 6 => ("ShopWindow$Windows", "shown", "[I", true)
  | 7 => ("ShopWindow$Windows", "climbing", "[I", true)
  | 8 => ("ShopWindow$Windows", "offers", "[I", true)
  | 9 => ("ShopWindow$Windows", "offered", "I", false)
  | 10 => ("ShopWindow$Windows", "steps", "I", false)
  | _ => ("ShopWindow$Windows", "reached", "I", false)
def tyX4 : Nat → FieldType := fun k => match k with
  | 0 => .object "ShopWindow$Passers"
  | 1 => .array .int
  | 2 => .array .int
  | 3 => .int
  | 4 => .array .int
  | 5 => .boolean
  | 6 => .array .int
  | 7 => .array .int
  | 8 => .array .int
  | 9 => .int
  | 10 => .int
  | _ => .int
abbrev wsX40 : List Cond := u_ws RX4 TX4 12
theorem nmX4 : ∀ a, a < 12 → ∀ b, b < 12 → a ≠ b → (TX4 a).2.1 ≠ (TX4 b).2.1 := by decide +kernel
theorem tyX4_ok : ∀ k, k < 12 → parseFieldDescriptor (TX4 k).2.2.1 = some (tyX4 k) := by decide +kernel
abbrev cX4_init : ByteArray := prog_6_method_1_code
def yX4_init : MethodName := ⟨RX4, "<init>", "(LShopWindow$Passers;)V"⟩
abbrev cX4_forget : ByteArray := prog_6_method_2_code
def yX4_forget : MethodName := ⟨RX4, "forget", "()V"⟩
abbrev cX4_makeReady : ByteArray := prog_6_method_3_code
def yX4_makeReady : MethodName := ⟨RX4, "makeReady", "()V"⟩
abbrev cX4_list : ByteArray := prog_6_method_4_code
def yX4_list : MethodName := ⟨RX4, "list", "(LShopWindow$Windows;III)V"⟩
abbrev cX4_add : ByteArray := prog_6_method_5_code
def yX4_add : MethodName := ⟨RX4, "add", "(II)V"⟩
abbrev cX4_weekAt : ByteArray := prog_6_method_6_code
def yX4_weekAt : MethodName := ⟨RX4, "weekAt", "(I)I"⟩
abbrev cX4_thingAt : ByteArray := prog_6_method_7_code
def yX4_thingAt : MethodName := ⟨RX4, "thingAt", "(II)I"⟩
abbrev cX4_greatest : ByteArray := prog_6_method_8_code
def yX4_greatest : MethodName := ⟨RX4, "greatest", "(III)I"⟩
abbrev cX4_climb : ByteArray := prog_6_method_9_code
def yX4_climb : MethodName := ⟨RX4, "climb", "([I)V"⟩
abbrev cX4_greatestOffer : ByteArray := prog_6_method_10_code
def yX4_greatestOffer : MethodName := ⟨RX4, "greatestOffer", "()I"⟩
abbrev cX4_offerChangesAbout : ByteArray := prog_6_method_11_code
def yX4_offerChangesAbout : MethodName := ⟨RX4, "offerChangesAbout", "()V"⟩
abbrev cX4_changeAbout : ByteArray := prog_6_method_12_code
def yX4_changeAbout : MethodName := ⟨RX4, "changeAbout", "(II)V"⟩
abbrev cX4_offerPuttings : ByteArray := prog_6_method_13_code
def yX4_offerPuttings : MethodName := ⟨RX4, "offerPuttings", "()V"⟩
abbrev cX4_offerTakings : ByteArray := prog_6_method_14_code
def yX4_offerTakings : MethodName := ⟨RX4, "offerTakings", "()V"⟩
abbrev cX4_offer : ByteArray := prog_6_method_15_code
def yX4_offer : MethodName := ⟨RX4, "offer", "()V"⟩
abbrev cX4_whichClimbs : ByteArray := prog_6_method_16_code
def yX4_whichClimbs : MethodName := ⟨RX4, "whichClimbs", "()I"⟩
def RX5 : String := "ShopWindow"
def TX5 : u_T := fun k => match k with
  | 0 => ("ShopWindow", "pad", "LShopWindow$Pad;", true)
  | 1 => ("ShopWindow", "scene", "LShopWindow$Scene;", true)
  | 2 => ("ShopWindow", "images", "[LShopWindow$Scene;", true)
  | 3 => ("ShopWindow", "imageKept", "[Z", true)
  | 4 => ("ShopWindow", "passers", "LShopWindow$Passers;", true)
  | 5 => ("ShopWindow", "windows", "LShopWindow$Windows;", true)
  | 6 => ("ShopWindow", "lottery", "LShopWindow$Lottery;", true)
  | _ => ("ShopWindow", "changed", "[I", true)
def tyX5 : Nat → FieldType := fun k => match k with
  | 0 => .object "ShopWindow$Pad"
  | 1 => .object "ShopWindow$Scene"
  | 2 => .array (.object "ShopWindow$Scene")
  | 3 => .array .boolean
  | 4 => .object "ShopWindow$Passers"
  | 5 => .object "ShopWindow$Windows"
  | 6 => .object "ShopWindow$Lottery"
  | _ => .array .int
abbrev wsX50 : List Cond := u_ws RX5 TX5 8
theorem nmX5 : ∀ a, a < 8 → ∀ b, b < 8 → a ≠ b → (TX5 a).2.1 ≠ (TX5 b).2.1 := by decide +kernel
theorem tyX5_ok : ∀ k, k < 8 → parseFieldDescriptor (TX5 k).2.2.1 = some (tyX5 k) := by decide +kernel
abbrev cX5_init : ByteArray := prog_1_method_1_code
def yX5_init : MethodName := ⟨RX5, "<init>", "()V"⟩
abbrev cX5_thing : ByteArray := prog_1_method_2_code
def yX5_thing : MethodName := ⟨RX5, "thing", "(III)I"⟩
abbrev cX5_light : ByteArray := prog_1_method_3_code
def yX5_light : MethodName := ⟨RX5, "light", "(II)I"⟩
abbrev cX5_say : ByteArray := prog_1_method_4_code
def yX5_say : MethodName := ⟨RX5, "say", "(I)I"⟩
abbrev cX5_wipe : ByteArray := prog_1_method_5_code
def yX5_wipe : MethodName := ⟨RX5, "wipe", "()I"⟩
abbrev cX5_fault : ByteArray := prog_1_method_6_code
def yX5_fault : MethodName := ⟨RX5, "fault", "(I)I"⟩
abbrev cX5_window : ByteArray := prog_1_method_7_code
def yX5_window : MethodName := ⟨RX5, "window", "()I"⟩
abbrev cX5_stands : ByteArray := prog_1_method_8_code
def yX5_stands : MethodName := ⟨RX5, "stands", "(I)I"⟩
abbrev cX5_draws : ByteArray := prog_1_method_9_code
def yX5_draws : MethodName := ⟨RX5, "draws", "(II)I"⟩
abbrev cX5_kind : ByteArray := prog_1_method_10_code
def yX5_kind : MethodName := ⟨RX5, "kind", "(III)I"⟩
abbrev cX5_law : ByteArray := prog_1_method_11_code
def yX5_law : MethodName := ⟨RX5, "law", "(I)I"⟩
abbrev cX5_says : ByteArray := prog_1_method_12_code
def yX5_says : MethodName := ⟨RX5, "says", "(III)I"⟩
abbrev cX5_part : ByteArray := prog_1_method_13_code
def yX5_part : MethodName := ⟨RX5, "part", "(II)I"⟩
abbrev cX5_seen : ByteArray := prog_1_method_14_code
def yX5_seen : MethodName := ⟨RX5, "seen", "(II)I"⟩
abbrev cX5_does : ByteArray := prog_1_method_15_code
def yX5_does : MethodName := ⟨RX5, "does", "(II)I"⟩
abbrev cX5_week : ByteArray := prog_1_method_16_code
def yX5_week : MethodName := ⟨RX5, "week", "()I"⟩
abbrev cX5_other : ByteArray := prog_1_method_17_code
def yX5_other : MethodName := ⟨RX5, "other", "(I)I"⟩
abbrev cX5_best : ByteArray := prog_1_method_18_code
def yX5_best : MethodName := ⟨RX5, "best", "(II)I"⟩
abbrev cX5_many : ByteArray := prog_1_method_19_code
def yX5_many : MethodName := ⟨RX5, "many", "(I)I"⟩
abbrev cX5_exchanges : ByteArray := prog_1_method_20_code
def yX5_exchanges : MethodName := ⟨RX5, "exchanges", "(I)I"⟩
abbrev cX5_rid : ByteArray := prog_1_method_21_code
def yX5_rid : MethodName := ⟨RX5, "rid", "(II)I"⟩
abbrev cX5_stale : ByteArray := prog_1_method_22_code
def yX5_stale : MethodName := ⟨RX5, "stale", "(I)I"⟩
abbrev cX5_mends : ByteArray := prog_1_method_23_code
def yX5_mends : MethodName := ⟨RX5, "mends", "(I)I"⟩
abbrev cX5_greatestWeek : ByteArray := prog_1_method_24_code
def yX5_greatestWeek : MethodName := ⟨RX5, "greatestWeek", "()I"⟩
abbrev cX5_firstWeekUnder : ByteArray := prog_1_method_25_code
def yX5_firstWeekUnder : MethodName := ⟨RX5, "firstWeekUnder", "(I)I"⟩
abbrev cX5_firstChangeThatMends : ByteArray := prog_1_method_26_code
def yX5_firstChangeThatMends : MethodName := ⟨RX5, "firstChangeThatMends", "(II)I"⟩
abbrev cX5_isUnder : ByteArray := prog_1_method_27_code
def yX5_isUnder : MethodName := ⟨RX5, "isUnder", "(III)Z"⟩
abbrev cX5_shop : ByteArray := prog_1_method_28_code
def yX5_shop : MethodName := ⟨RX5, "shop", "(IIZ)I"⟩
abbrev cX5_lot : ByteArray := prog_1_method_29_code
def yX5_lot : MethodName := ⟨RX5, "lot", "(I)J"⟩
abbrev cX5_boys : ByteArray := prog_1_method_30_code
def yX5_boys : MethodName := ⟨RX5, "boys", "(IIII)I"⟩
abbrev cX5_image : ByteArray := prog_1_method_31_code
def yX5_image : MethodName := ⟨RX5, "image", "(I)I"⟩
abbrev cX5_restore : ByteArray := prog_1_method_32_code
def yX5_restore : MethodName := ⟨RX5, "restore", "(I)I"⟩
abbrev cX5_told : ByteArray := prog_1_method_33_code
def yX5_told : MethodName := ⟨RX5, "told", "(I)I"⟩
abbrev cX5_toldOfRows : ByteArray := prog_1_method_34_code
def yX5_toldOfRows : MethodName := ⟨RX5, "toldOfRows", "(I)I"⟩
abbrev cX5_below : ByteArray := prog_1_method_35_code
def yX5_below : MethodName := ⟨RX5, "below", "(II)Z"⟩
abbrev cX5_between : ByteArray := prog_1_method_36_code
def yX5_between : MethodName := ⟨RX5, "between", "(III)Z"⟩
def RX6 : String := "ShopWindowModel"
def TX6 : u_T := fun k => match k with
  | 0 => ("ShopWindowModel", "things", "[I", true)
  | 1 => ("ShopWindowModel", "lights", "[I", true)
  | 2 => ("ShopWindowModel", "signs", "I", false)
  | 3 => ("ShopWindowModel", "pad", "[I", true)
  | 4 => ("ShopWindowModel", "stand", "[I", true)
  | 5 => ("ShopWindowModel", "kinds", "[I", true)
  | 6 => ("ShopWindowModel", "many", "[I", true)
  | 7 => ("ShopWindowModel", "rule", "[I", true)
  | 8 => ("ShopWindowModel", "coinOfOther", "I", false)
  | 9 => ("ShopWindowModel", "came", "[I", true)
  | 10 => ("ShopWindowModel", "isTried", "[Z", true)
  | 11 => ("ShopWindowModel", "isLaid", "Z", false)
  | 12 => ("ShopWindowModel", "rest", "[I", true)
  | 13 => ("ShopWindowModel", "at", "[I", true)
  | 14 => ("ShopWindowModel", "draw", "[I", true)
  | 15 => ("ShopWindowModel", "pile", "[J", true)
  | 16 => ("ShopWindowModel", "part", "[I", true)
  | 17 => ("ShopWindowModel", "then", "[I", true)
  | 18 => ("ShopWindowModel", "stops", "[I", true)
  | 19 => ("ShopWindowModel", "comes", "[I", true)
  | 20 => ("ShopWindowModel", "stopped", "J", false)
  | 21 => ("ShopWindowModel", "came1", "J", false)
  | 22 => ("ShopWindowModel", "paid", "J", false)
  | 23 => ("ShopWindowModel", "weeks", "[I", true)
  | 24 => ("ShopWindowModel", "image", "[I", true)
  | _ => ("ShopWindowModel", "isKept", "[Z", true)
def tyX6 : Nat → FieldType := fun k => match k with
  | 0 => .array .int
  | 1 => .array .int
  | 2 => .int
  | 3 => .array .int
  | 4 => .array .int
  | 5 => .array .int
  | 6 => .array .int
  | 7 => .array .int
  | 8 => .int
  | 9 => .array .int
  | 10 => .array .boolean
  | 11 => .boolean
  | 12 => .array .int
  | 13 => .array .int
  | 14 => .array .int
  | 15 => .array .long
  | 16 => .array .int
  | 17 => .array .int
  | 18 => .array .int
  | 19 => .array .int
  | 20 => .long
  | 21 => .long
  | 22 => .long
  | 23 => .array .int
  | 24 => .array .int
  | _ => .array .boolean
abbrev wsX60 : List Cond := u_ws RX6 TX6 26
theorem nmX6 : ∀ a, a < 26 → ∀ b, b < 26 → a ≠ b → (TX6 a).2.1 ≠ (TX6 b).2.1 := by decide +kernel
theorem tyX6_ok : ∀ k, k < 26 → parseFieldDescriptor (TX6 k).2.2.1 = some (tyX6 k) := by decide +kernel
abbrev cX6_init : ByteArray := prog_8_method_1_code
def yX6_init : MethodName := ⟨RX6, "<init>", "()V"⟩
abbrev cX6_in : ByteArray := prog_8_method_2_code
def yX6_in : MethodName := ⟨RX6, "in", "(III)Z"⟩
abbrev cX6_isFive : ByteArray := prog_8_method_3_code
def yX6_isFive : MethodName := ⟨RX6, "isFive", "(I)Z"⟩
abbrev cX6_thing : ByteArray := prog_8_method_4_code
def yX6_thing : MethodName := ⟨RX6, "thing", "(III)I"⟩
abbrev cX6_light : ByteArray := prog_8_method_5_code
def yX6_light : MethodName := ⟨RX6, "light", "(II)I"⟩
abbrev cX6_say : ByteArray := prog_8_method_6_code
def yX6_say : MethodName := ⟨RX6, "say", "(I)I"⟩
abbrev cX6_wipe : ByteArray := prog_8_method_7_code
def yX6_wipe : MethodName := ⟨RX6, "wipe", "()I"⟩
abbrev cX6_windowFault : ByteArray := prog_8_method_8_code
def yX6_windowFault : MethodName := ⟨RX6, "windowFault", "()I"⟩
abbrev cX6_partsOf : ByteArray := prog_8_method_9_code
def yX6_partsOf : MethodName := ⟨RX6, "partsOf", "(I)I"⟩
abbrev cX6_lawFault : ByteArray := prog_8_method_10_code
def yX6_lawFault : MethodName := ⟨RX6, "lawFault", "()I"⟩
abbrev cX6_fault : ByteArray := prog_8_method_11_code
def yX6_fault : MethodName := ⟨RX6, "fault", "(I)I"⟩
abbrev cX6_window : ByteArray := prog_8_method_12_code
def yX6_window : MethodName := ⟨RX6, "window", "()I"⟩
abbrev cX6_stands : ByteArray := prog_8_method_13_code
def yX6_stands : MethodName := ⟨RX6, "stands", "(I)I"⟩
abbrev cX6_looks : ByteArray := prog_8_method_14_code
def yX6_looks : MethodName := ⟨RX6, "looks", "(I)I"⟩
abbrev cX6_drawsOf : ByteArray := prog_8_method_15_code
def yX6_drawsOf : MethodName := ⟨RX6, "drawsOf", "(II)I"⟩
abbrev cX6_lookAtWindow : ByteArray := prog_8_method_16_code
def yX6_lookAtWindow : MethodName := ⟨RX6, "lookAtWindow", "()V"⟩
abbrev cX6_draws : ByteArray := prog_8_method_17_code
def yX6_draws : MethodName := ⟨RX6, "draws", "(II)I"⟩
abbrev cX6_leastOf : ByteArray := prog_8_method_18_code
def yX6_leastOf : MethodName := ⟨RX6, "leastOf", "(I)I"⟩
abbrev cX6_mostOf : ByteArray := prog_8_method_19_code
def yX6_mostOf : MethodName := ⟨RX6, "mostOf", "(I)I"⟩
abbrev cX6_kind : ByteArray := prog_8_method_20_code
def yX6_kind : MethodName := ⟨RX6, "kind", "(III)I"⟩
abbrev cX6_law : ByteArray := prog_8_method_21_code
def yX6_law : MethodName := ⟨RX6, "law", "(I)I"⟩
abbrev cX6_saysOf : ByteArray := prog_8_method_22_code
def yX6_saysOf : MethodName := ⟨RX6, "saysOf", "(III)I"⟩
abbrev cX6_says : ByteArray := prog_8_method_23_code
def yX6_says : MethodName := ⟨RX6, "says", "(III)I"⟩
abbrev cX6_layParts : ByteArray := prog_8_method_24_code
def yX6_layParts : MethodName := ⟨RX6, "layParts", "(II)V"⟩
abbrev cX6_mayFall : ByteArray := prog_8_method_25_code
def yX6_mayFall : MethodName := ⟨RX6, "mayFall", "(II)Z"⟩
abbrev cX6_glance : ByteArray := prog_8_method_26_code
def yX6_glance : MethodName := ⟨RX6, "glance", "(II)V"⟩
abbrev cX6_part : ByteArray := prog_8_method_27_code
def yX6_part : MethodName := ⟨RX6, "part", "(II)I"⟩
abbrev cX6_seen : ByteArray := prog_8_method_28_code
def yX6_seen : MethodName := ⟨RX6, "seen", "(II)I"⟩
abbrev cX6_bits : ByteArray := prog_8_method_29_code
def yX6_bits : MethodName := ⟨RX6, "bits", "(I)I"⟩
abbrev cX6_layLaws : ByteArray := prog_8_method_30_code
def yX6_layLaws : MethodName := ⟨RX6, "layLaws", "()V"⟩
abbrev cX6_layDeeds : ByteArray := prog_8_method_31_code
def yX6_layDeeds : MethodName := ⟨RX6, "layDeeds", "(II)V"⟩
abbrev cX6_does : ByteArray := prog_8_method_32_code
def yX6_does : MethodName := ⟨RX6, "does", "(II)I"⟩
abbrev cX6_weekOf : ByteArray := prog_8_method_33_code
def yX6_weekOf : MethodName := ⟨RX6, "weekOf", "(I)I"⟩
abbrev cX6_week : ByteArray := prog_8_method_34_code
def yX6_week : MethodName := ⟨RX6, "week", "()I"⟩
abbrev cX6_other : ByteArray := prog_8_method_35_code
def yX6_other : MethodName := ⟨RX6, "other", "(I)I"⟩
abbrev cX6_digit : ByteArray := prog_8_method_36_code
def yX6_digit : MethodName := ⟨RX6, "digit", "(II)I"⟩
abbrev cX6_power : ByteArray := prog_8_method_37_code
def yX6_power : MethodName := ⟨RX6, "power", "(I)I"⟩
abbrev cX6_thingsIn : ByteArray := prog_8_method_38_code
def yX6_thingsIn : MethodName := ⟨RX6, "thingsIn", "(I)I"⟩
abbrev cX6_layWeeks : ByteArray := prog_8_method_39_code
def yX6_layWeeks : MethodName := ⟨RX6, "layWeeks", "()V"⟩
abbrev cX6_bestOf : ByteArray := prog_8_method_40_code
def yX6_bestOf : MethodName := ⟨RX6, "bestOf", "(III)I"⟩
abbrev cX6_best : ByteArray := prog_8_method_41_code
def yX6_best : MethodName := ⟨RX6, "best", "(II)I"⟩
abbrev cX6_many : ByteArray := prog_8_method_42_code
def yX6_many : MethodName := ⟨RX6, "many", "(I)I"⟩
abbrev cX6_windowCode : ByteArray := prog_8_method_43_code
def yX6_windowCode : MethodName := ⟨RX6, "windowCode", "()I"⟩
abbrev cX6_change : ByteArray := prog_8_method_44_code
def yX6_change : MethodName := ⟨RX6, "change", "(III)I"⟩
abbrev cX6_exchanged : ByteArray := prog_8_method_45_code
def yX6_exchanged : MethodName := ⟨RX6, "exchanged", "(I)I"⟩
abbrev cX6_exchanges : ByteArray := prog_8_method_46_code
def yX6_exchanges : MethodName := ⟨RX6, "exchanges", "(I)I"⟩
abbrev cX6_rid : ByteArray := prog_8_method_47_code
def yX6_rid : MethodName := ⟨RX6, "rid", "(II)I"⟩
abbrev cX6_staleBy : ByteArray := prog_8_method_48_code
def yX6_staleBy : MethodName := ⟨RX6, "staleBy", "(IJ)I"⟩
abbrev cX6_stale : ByteArray := prog_8_method_49_code
def yX6_stale : MethodName := ⟨RX6, "stale", "(I)I"⟩
abbrev cX6_mends : ByteArray := prog_8_method_50_code
def yX6_mends : MethodName := ⟨RX6, "mends", "(I)I"⟩
abbrev cX6_shop : ByteArray := prog_8_method_51_code
def yX6_shop : MethodName := ⟨RX6, "shop", "(IIZ)I"⟩
abbrev cX6_lot : ByteArray := prog_8_method_52_code
def yX6_lot : MethodName := ⟨RX6, "lot", "(I)J"⟩
abbrev cX6_boys : ByteArray := prog_8_method_53_code
def yX6_boys : MethodName := ⟨RX6, "boys", "(IIII)I"⟩
abbrev cX6_image : ByteArray := prog_8_method_54_code
def yX6_image : MethodName := ⟨RX6, "image", "(I)I"⟩
abbrev cX6_restore : ByteArray := prog_8_method_55_code
def yX6_restore : MethodName := ⟨RX6, "restore", "(I)I"⟩
abbrev cX6_told : ByteArray := prog_8_method_56_code
def yX6_told : MethodName := ⟨RX6, "told", "(I)I"⟩
def RJ6 : String := "java/lang/Integer"
def TJ6 : u_T := fun k => match k with
  | _ => ("", "", "", false)
def tyJ6 : Nat → FieldType := fun k => match k with
  | _ => .int
abbrev wsJ60 : List Cond := u_ws RJ6 TJ6 0
theorem nmJ6 : ∀ a, a < 0 → ∀ b, b < 0 → a ≠ b → (TJ6 a).2.1 ≠ (TJ6 b).2.1 := by decide +kernel
theorem tyJ6_ok : ∀ k, k < 0 → parseFieldDescriptor (TJ6 k).2.2.1 = some (tyJ6 k) := by decide +kernel
abbrev cJ6_bitCount_0f7a4 : ByteArray := prog_9_method_49_code
def yJ6_bitCount_0f7a4 : MethodName := ⟨RJ6, "bitCount", "(I)I"⟩
def RJ9 : String := "java/lang/Math"
def TJ9 : u_T := fun k => match k with
  | _ => ("", "", "", false)
def tyJ9 : Nat → FieldType := fun k => match k with
  | _ => .int
abbrev wsJ90 : List Cond := u_ws RJ9 TJ9 0
theorem nmJ9 : ∀ a, a < 0 → ∀ b, b < 0 → a ≠ b → (TJ9 a).2.1 ≠ (TJ9 b).2.1 := by decide +kernel
theorem tyJ9_ok : ∀ k, k < 0 → parseFieldDescriptor (TJ9 k).2.2.1 = some (tyJ9 k) := by decide +kernel
abbrev cJ9_max_7cf53 : ByteArray := prog_10_method_65_code
def yJ9_max_7cf53 : MethodName := ⟨RJ9, "max", "(II)I"⟩
abbrev cJ9_max_f86c9 : ByteArray := prog_10_method_66_code
def yJ9_max_f86c9 : MethodName := ⟨RJ9, "max", "(JJ)J"⟩
abbrev cJ9_min_7cf53 : ByteArray := prog_10_method_69_code
def yJ9_min_7cf53 : MethodName := ⟨RJ9, "min", "(II)I"⟩
abbrev cJ9_min_f86c9 : ByteArray := prog_10_method_70_code
def yJ9_min_f86c9 : MethodName := ⟨RJ9, "min", "(JJ)J"⟩
def RJ10 : String := "java/lang/System"
def TJ10 : u_T := fun k => match k with
  | _ => ("", "", "", false)
def tyJ10 : Nat → FieldType := fun k => match k with
  | _ => .int
abbrev wsJ100 : List Cond := u_ws RJ10 TJ10 0
theorem nmJ10 : ∀ a, a < 0 → ∀ b, b < 0 → a ≠ b → (TJ10 a).2.1 ≠ (TJ10 b).2.1 := by decide +kernel
theorem tyJ10_ok : ∀ k, k < 0 → parseFieldDescriptor (TJ10 k).2.2.1 = some (tyJ10 k) := by decide +kernel
def RJ7 : String := "java/util/Arrays"
def TJ7 : u_T := fun k => match k with
  | _ => ("", "", "", false)
def tyJ7 : Nat → FieldType := fun k => match k with
  | _ => .int
abbrev wsJ70 : List Cond := u_ws RJ7 TJ7 0
theorem nmJ7 : ∀ a, a < 0 → ∀ b, b < 0 → a ≠ b → (TJ7 a).2.1 ≠ (TJ7 b).2.1 := by decide +kernel
theorem tyJ7_ok : ∀ k, k < 0 → parseFieldDescriptor (TJ7 k).2.2.1 = some (tyJ7 k) := by decide +kernel
abbrev cJ7_fill_53178 : ByteArray := prog_12_method_103_code
def yJ7_fill_53178 : MethodName := ⟨RJ7, "fill", "([II)V"⟩
def RL : String := "ShopWindowLaw"
abbrev cL_law : ByteArray := code
def yL_law : MethodName := ⟨RL, "law", "([I)Z"⟩
abbrev vwCl : List vw_C := [(RX0, TX0, 2), (RX1, TX1, 4), (RX2, TX2, 8), (RX3, TX3, 8), (RX4, TX4, 12), (RX5, TX5, 8), (RX6, TX6, 26)]
end
section
/-- a code table: at each place what stands there, decoded -/
def xtOk (cc : ByteArray) (tb : List (Option (Instr × Nat))) : Bool := tb.zipIdx.all (fun e => match e.1 with | none => true | some i => decide (decode cc e.2 = .ok i))
theorem xtOk_at {cc : ByteArray} {tb : List (Option (Instr × Nat))} (h : xtOk cc tb = true) {pc : Nat} {i : Instr × Nat} (hp : tb[pc]? = some (some i)) : decode cc pc = .ok i := by
  have h1 := List.all_eq_true.mp h (some i, pc) (by rw [List.mem_zipIdx_iff_getElem?]; exact hp)
  exact of_decide_eq_true h1
def xtOkR (cc : ByteArray) (tb : List (Option (Instr × Nat))) (lo n : Nat) : Bool := (((tb.drop lo).take n).zipIdx lo).all (fun e => match e.1 with | none => true | some i => decide (decode cc e.2 = .ok i))
theorem xtOkR_at {cc : ByteArray} {tb : List (Option (Instr × Nat))} {K : Nat} (h : ∀ j, j < K → xtOkR cc tb (40 * j) 40 = true) (hl : tb.length ≤ 40 * K) {pc : Nat} {i : Instr × Nat} (hp : tb[pc]? = some (some i)) : decode cc pc = .ok i := by
  have hlt : pc < tb.length := (List.getElem?_eq_some_iff.mp hp).1
  have hj : pc / 40 < K := by omega
  have h1 := List.all_eq_true.mp (h _ hj) (some i, pc) (by
    rw [List.mem_zipIdx_iff_le_and_getElem?_sub]
    refine ⟨by show 40 * (pc / 40) ≤ pc; omega, ?_⟩
    show ((tb.drop (40 * (pc / 40))).take 40)[pc - 40 * (pc / 40)]? = some (some i)
    rw [List.getElem?_take_of_lt (by omega), List.getElem?_drop, show 40 * (pc / 40) + (pc - 40 * (pc / 40)) = pc by omega]
    exact hp)
  exact of_decide_eq_true h1
def xt0 : List (Option (Instr × Nat)) := [some (.aload_n 0, 1), some (.invokespecial 3, 3), none, none, some (.aload_n 0, 1), some (.lconst 1, 1), some (.putfield 9, 3), none, none, some (.aload_n 0, 1), some (.lconst 1, 1), some (.putfield 15, 3), none, none, some (.return_, 1)]
def xt1 : List (Option (Instr × Nat)) := [some (.iload_n 2, 1), some (.invokestatic 18, 3), none, none, some (.istore_n 3, 1), some (.aload_n 1, 1), some (.iload_n 2, 1), some (.invokestatic 24, 3), none, none, some (.istore 4, 2), none, some (.iconst 0, 1), some (.istore 5, 2), none, some (.iconst 0, 1), some (.istore 6, 2), none, some (.iconst 0, 1), some (.istore 7, 2), none, some (.iload 7, 2), none, some (.sipush 2048, 3), none, none, some (.if_icmp .ge 42, 3), none, none, some (.iload 7, 2), none, some (.invokestatic 18, 3), none, none, some (.iload_n 3, 1), some (.if_icmp .ne 27, 3), none, none, some (.iinc 5 1, 3), none, none, some (.iload 6, 2), none, some (.aload_n 1, 1), some (.iload 7, 2), none, some (.invokestatic 24, 3), none, none, some (.iload 4, 2), none, some (.if_icmp .lt 7, 3), none, none, some (.iconst 1, 1), some (.goto 4, 3), none, none, some (.iconst 0, 1), some (.iadd, 1), some (.istore 6, 2), none, some (.iinc 7 1, 3), none, none, some (.goto (-44), 3), none, none, some (.iconst 1, 1), some (.iload 5, 2), none, some (.iload 6, 2), none, some (.invokestatic 28, 3), none, none, some (.invokestatic 32, 3), none, none, some (.istore 7, 2), none, some (.aload_n 0, 1), some (.iload 6, 2), none, some (.iload 7, 2), none, some (.idiv, 1), some (.i2l, 1), some (.putfield 9, 3), none, none, some (.aload_n 0, 1), some (.iload 5, 2), none, some (.iload 7, 2), none, some (.idiv, 1), some (.i2l, 1), some (.putfield 15, 3), none, none, some (.return_, 1)]
def xt2 : List (Option (Instr × Nat)) := [some (.iconst 0, 1), some (.istore_n 2, 1), some (.iconst 0, 1), some (.istore_n 3, 1), some (.iload_n 3, 1), some (.bipush 11, 2), none, some (.if_icmp .ge 24, 3), none, none, some (.iload_n 1, 1), some (.iload_n 3, 1), some (.ishr, 1), some (.iconst 1, 1), some (.iand, 1), some (.iconst 1, 1), some (.if_icmp .ne 9, 3), none, none, some (.iload_n 2, 1), some (.aload_n 0, 1), some (.iload_n 3, 1), some (.iaload, 1), some (.iadd, 1), some (.istore_n 2, 1), some (.iinc 3 1, 3), none, none, some (.goto (-24), 3), none, none, some (.iload_n 2, 1), some (.ireturn, 1)]
def xt3 : List (Option (Instr × Nat)) := [some (.iload_n 0, 1), some (.istore_n 2, 1), some (.iload_n 1, 1), some (.istore_n 3, 1), some (.iconst 0, 1), some (.istore 4, 2), none, some (.iload 4, 2), none, some (.bipush 64, 2), none, some (.if_icmp .ge 23, 3), none, none, some (.iload_n 3, 1), some (.ifCond .le 19, 3), none, none, some (.iload_n 2, 1), some (.iload_n 3, 1), some (.irem, 1), some (.istore 5, 2), none, some (.iload_n 3, 1), some (.istore_n 2, 1), some (.iload 5, 2), none, some (.istore_n 3, 1), some (.iinc 4 1, 3), none, none, some (.goto (-24), 3), none, none, some (.iload_n 2, 1), some (.ireturn, 1)]
def xt4 : List (Option (Instr × Nat)) := [some (.aload_n 0, 1), some (.invokespecial 3, 3), none, none, some (.aload_n 0, 1), some (.bipush 40, 2), none, some (.newarray .int, 2), none, some (.putfield 11, 3), none, none, some (.aload_n 0, 1), some (.bipush 16, 2), none, some (.newarray .int, 2), none, some (.putfield 15, 3), none, none, some (.aload_n 0, 1), some (.bipush 40, 2), none, some (.newarray .long, 2), none, some (.putfield 18, 3), none, none, some (.aload_n 0, 1), some (.iconst 0, 1), some (.putfield 22, 3), none, none, some (.return_, 1)]
def xt5 : List (Option (Instr × Nat)) := [some (.aload_n 0, 1), some (.getfield 22, 3), none, none, some (.bipush 40, 2), none, some (.if_icmp .lt 5, 3), none, none, some (.iconst 0, 1), some (.ireturn, 1), some (.aload_n 0, 1), some (.getfield 11, 3), none, none, some (.aload_n 0, 1), some (.getfield 22, 3), none, none, some (.iload_n 1, 1), some (.iastore, 1), some (.aload_n 0, 1), some (.dup, 1), some (.getfield 22, 3), none, none, some (.iconst 1, 1), some (.iadd, 1), some (.putfield 22, 3), none, none, some (.iconst 1, 1), some (.ireturn, 1)]
def xt6 : List (Option (Instr × Nat)) := [some (.iconst 0, 1), some (.istore_n 1, 1), some (.iconst 0, 1), some (.istore_n 2, 1), some (.iload_n 2, 1), some (.aload_n 0, 1), some (.getfield 22, 3), none, none, some (.if_icmp .ge 65, 3), none, none, some (.iload_n 2, 1), some (.iconst 5, 1), some (.if_icmp .lt 5, 3), none, none, some (.iload_n 2, 1), some (.ireturn, 1), some (.aload_n 0, 1), some (.getfield 11, 3), none, none, some (.iload_n 2, 1), some (.iaload, 1), some (.bipush 45, 2), none, some (.if_icmp .ne 6, 3), none, none, some (.goto 38, 3), none, none, some (.aload_n 0, 1), some (.getfield 11, 3), none, none, some (.iload_n 2, 1), some (.iaload, 1), some (.bipush 97, 2), none, some (.isub, 1), some (.istore_n 3, 1), some (.iload_n 3, 1), some (.iconst 5, 1), some (.invokestatic 26, 3), none, none, some (.ifCond .eq 12, 3), none, none, some (.iload_n 1, 1), some (.iload_n 3, 1), some (.ishr, 1), some (.iconst 1, 1), some (.iand, 1), some (.iconst 1, 1), some (.if_icmp .ne 5, 3), none, none, some (.iload_n 2, 1), some (.ireturn, 1), some (.iload_n 1, 1), some (.iconst 1, 1), some (.iload_n 3, 1), some (.ishl, 1), some (.ior, 1), some (.istore_n 1, 1), some (.iinc 2 1, 3), none, none, some (.goto (-67), 3), none, none, some (.bipush (-6), 2), none, some (.ireturn, 1)]
def xt7 : List (Option (Instr × Nat)) := [some (.aload_n 0, 1), some (.getfield 15, 3), none, none, some (.iconst 0, 1), some (.iconst 0, 1), some (.iastore, 1), some (.iconst 1, 1), some (.istore_n 1, 1), some (.iconst 0, 1), some (.istore_n 2, 1), some (.iload_n 2, 1), some (.aload_n 0, 1), some (.getfield 22, 3), none, none, some (.if_icmp .ge 91, 3), none, none, some (.iload_n 2, 1), some (.bipush 15, 2), none, some (.if_icmp .ge 7, 3), none, none, some (.iload_n 1, 1), some (.ifCond .gt 5, 3), none, none, some (.iload_n 2, 1), some (.ireturn, 1), some (.iinc 1 (-1), 3), none, none, some (.aload_n 0, 1), some (.getfield 15, 3), none, none, some (.iload_n 1, 1), some (.iaload, 1), some (.istore_n 3, 1), some (.aload_n 0, 1), some (.getfield 11, 3), none, none, some (.iload_n 2, 1), some (.iaload, 1), some (.invokestatic 30, 3), none, none, some (.ifCond .eq 37, 3), none, none, some (.iload_n 3, 1), some (.bipush 6, 2), none, some (.if_icmp .lt 5, 3), none, none, some (.iload_n 2, 1), some (.ireturn, 1), some (.aload_n 0, 1), some (.getfield 15, 3), none, none, some (.iload_n 1, 1), some (.iload_n 3, 1), some (.iconst 1, 1), some (.iadd, 1), some (.iastore, 1), some (.aload_n 0, 1), some (.getfield 15, 3), none, none, some (.iload_n 1, 1), some (.iconst 1, 1), some (.iadd, 1), some (.iload_n 3, 1), some (.iconst 1, 1), some (.iadd, 1), some (.iastore, 1), some (.iinc 1 2, 3), none, none, some (.goto 17, 3), none, none, some (.aload_n 0, 1), some (.getfield 11, 3), none, none, some (.iload_n 2, 1), some (.iaload, 1), some (.invokestatic 34, 3), none, none, some (.ifCond .ne 5, 3), none, none, some (.iload_n 2, 1), some (.ireturn, 1), some (.iinc 2 1, 3), none, none, some (.goto (-93), 3), none, none, some (.iload_n 1, 1), some (.ifCond .ne 8, 3), none, none, some (.bipush (-6), 2), none, some (.goto 7, 3), none, none, some (.aload_n 0, 1), some (.getfield 22, 3), none, none, some (.ireturn, 1)]
def xt8 : List (Option (Instr × Nat)) := [some (.iconst 0, 1), some (.istore_n 2, 1), some (.iload_n 2, 1), some (.iconst 5, 1), some (.if_icmp .ge 52, 3), none, none, some (.iload_n 2, 1), some (.aload_n 0, 1), some (.getfield 22, 3), none, none, some (.if_icmp .ge 15, 3), none, none, some (.aload_n 0, 1), some (.getfield 11, 3), none, none, some (.iload_n 2, 1), some (.iaload, 1), some (.bipush 97, 2), none, some (.isub, 1), some (.goto 5, 3), none, none, some (.bipush (-6), 2), none, some (.istore_n 3, 1), some (.aload_n 1, 1), some (.getfield 37, 3), none, none, some (.iload_n 2, 1), some (.iload_n 3, 1), some (.iconst 5, 1), some (.invokestatic 26, 3), none, none, some (.ifCond .eq 7, 3), none, none, some (.iload_n 3, 1), some (.goto 5, 3), none, none, some (.bipush (-6), 2), none, some (.iastore, 1), some (.iinc 2 1, 3), none, none, some (.goto (-51), 3), none, none, some (.aload_n 0, 1), some (.iconst 0, 1), some (.putfield 22, 3), none, none, some (.return_, 1)]
def xt9 : List (Option (Instr × Nat)) := [some (.iconst 0, 1), some (.istore_n 3, 1), some (.iload_n 3, 1), some (.bipush 10, 2), none, some (.if_icmp .ge 45, 3), none, none, some (.aload_n 0, 1), some (.iload_n 3, 1), some (.iconst 2, 1), some (.idiv, 1), some (.iload_n 3, 1), some (.iconst 2, 1), some (.irem, 1), some (.invokevirtual 42, 3), none, none, some (.lstore 4, 2), none, some (.aload_n 1, 1), some (.getfield 46, 3), none, none, some (.iload_n 2, 1), some (.bipush 10, 2), none, some (.imul, 1), some (.iload_n 3, 1), some (.iadd, 1), some (.lconst 0, 1), some (.ldc2_w 49, 3), none, none, some (.lload 4, 2), none, some (.invokestatic 51, 3), none, none, some (.invokestatic 57, 3), none, none, some (.l2i, 1), some (.iastore, 1), some (.iinc 3 1, 3), none, none, some (.goto (-45), 3), none, none, some (.aload_n 0, 1), some (.iconst 0, 1), some (.putfield 22, 3), none, none, some (.return_, 1)]
def xt10 : List (Option (Instr × Nat)) := [some (.iconst 0, 1), some (.istore_n 3, 1), some (.aload_n 0, 1), some (.getfield 22, 3), none, none, some (.iconst 1, 1), some (.isub, 1), some (.istore 4, 2), none, some (.iload 4, 2), none, some (.ifCond .lt 86, 3), none, none, some (.aload_n 0, 1), some (.getfield 11, 3), none, none, some (.iload 4, 2), none, some (.iaload, 1), some (.invokestatic 30, 3), none, none, some (.ifCond .ne 27, 3), none, none, some (.aload_n 0, 1), some (.getfield 18, 3), none, none, some (.iload_n 3, 1), some (.aload_n 0, 1), some (.getfield 11, 3), none, none, some (.iload 4, 2), none, some (.iaload, 1), some (.iload_n 1, 1), some (.iload_n 2, 1), some (.invokestatic 60, 3), none, none, some (.lastore, 1), some (.iinc 3 1, 3), none, none, some (.goto 43, 3), none, none, some (.iload_n 3, 1), some (.iconst 2, 1), some (.if_icmp .lt 38, 3), none, none, some (.iinc 3 (-1), 3), none, none, some (.aload_n 0, 1), some (.getfield 18, 3), none, none, some (.iload_n 3, 1), some (.iconst 1, 1), some (.isub, 1), some (.aload_n 0, 1), some (.getfield 11, 3), none, none, some (.iload 4, 2), none, some (.iaload, 1), some (.aload_n 0, 1), some (.getfield 18, 3), none, none, some (.iload_n 3, 1), some (.laload, 1), some (.aload_n 0, 1), some (.getfield 18, 3), none, none, some (.iload_n 3, 1), some (.iconst 1, 1), some (.isub, 1), some (.laload, 1), some (.invokestatic 64, 3), none, none, some (.lastore, 1), some (.iinc 4 (-1), 3), none, none, some (.goto (-85), 3), none, none, some (.aload_n 0, 1), some (.getfield 18, 3), none, none, some (.iconst 0, 1), some (.laload, 1), some (.lreturn, 1)]
def xt11 : List (Option (Instr × Nat)) := [some (.iload_n 0, 1), some (.bipush 43, 2), none, some (.if_icmp .eq 21, 3), none, none, some (.iload_n 0, 1), some (.bipush 45, 2), none, some (.if_icmp .eq 15, 3), none, none, some (.iload_n 0, 1), some (.bipush 42, 2), none, some (.if_icmp .eq 9, 3), none, none, some (.iload_n 0, 1), some (.bipush 109, 2), none, some (.if_icmp .ne 7, 3), none, none, some (.iconst 1, 1), some (.goto 4, 3), none, none, some (.iconst 0, 1), some (.ireturn, 1)]
def xt12 : List (Option (Instr × Nat)) := [some (.iload_n 0, 1), some (.bipush 48, 2), none, some (.bipush 57, 2), none, some (.invokestatic 68, 3), none, none, some (.ifCond .ne 21, 3), none, none, some (.iload_n 0, 1), some (.bipush 115, 2), none, some (.if_icmp .eq 15, 3), none, none, some (.iload_n 0, 1), some (.bipush 119, 2), none, some (.if_icmp .eq 9, 3), none, none, some (.iload_n 0, 1), some (.bipush 104, 2), none, some (.if_icmp .ne 7, 3), none, none, some (.iconst 1, 1), some (.goto 4, 3), none, none, some (.iconst 0, 1), some (.ireturn, 1)]
def xt13 : List (Option (Instr × Nat)) := [some (.iload_n 0, 1), some (.lookupswitch 45 #[(104, 41), (115, 35), (119, 38)], 35), none, none, none, none, none, none, none, none, none, none, none, none, none, none, none, none, none, none, none, none, none, none, none, none, none, none, none, none, none, none, none, none, none, none, some (.iload_n 1, 1), some (.i2l, 1), some (.lreturn, 1), some (.iload_n 2, 1), some (.i2l, 1), some (.lreturn, 1), some (.ldc2_w 72, 3), none, none, some (.lreturn, 1), some (.iload_n 0, 1), some (.bipush 48, 2), none, some (.isub, 1), some (.i2l, 1), some (.lreturn, 1)]
def xt14 : List (Option (Instr × Nat)) := [some (.iload_n 0, 1), some (.tableswitch 43 42 45 #[39, 31, 43, 35], 31), none, none, none, none, none, none, none, none, none, none, none, none, none, none, none, none, none, none, none, none, none, none, none, none, none, none, none, none, none, none, some (.lload_n 1, 1), some (.lload_n 3, 1), some (.ladd, 1), some (.lreturn, 1), some (.lload_n 1, 1), some (.lload_n 3, 1), some (.lsub, 1), some (.lreturn, 1), some (.lload_n 1, 1), some (.lload_n 3, 1), some (.lmul, 1), some (.lreturn, 1), some (.lload_n 1, 1), some (.lload_n 3, 1), some (.invokestatic 51, 3), none, none, some (.lreturn, 1)]
def xt15 : List (Option (Instr × Nat)) := [some (.aload_n 0, 1), some (.invokespecial 3, 3), none, none, some (.aload_n 0, 1), some (.iconst 5, 1), some (.newarray .int, 2), none, some (.putfield 9, 3), none, none, some (.aload_n 0, 1), some (.iconst 5, 1), some (.newarray .int, 2), none, some (.putfield 15, 3), none, none, some (.aload_n 0, 1), some (.iconst 5, 1), some (.newarray .int, 2), none, some (.putfield 18, 3), none, none, some (.aload_n 0, 1), some (.bipush 32, 2), none, some (.newarray .int, 2), none, some (.putfield 21, 3), none, none, some (.aload_n 0, 1), some (.iconst 0, 1), some (.putfield 24, 3), none, none, some (.aload_n 0, 1), some (.iconst 0, 1), some (.putfield 28, 3), none, none, some (.aload_n 0, 1), some (.iconst 0, 1), some (.putfield 31, 3), none, none, some (.aload_n 0, 1), some (.aload_n 1, 1), some (.putfield 34, 3), none, none, some (.return_, 1)]
def xt16 : List (Option (Instr × Nat)) := [some (.iconst 0, 1), some (.istore_n 2, 1), some (.iconst 0, 1), some (.istore_n 3, 1), some (.iload_n 3, 1), some (.iconst 5, 1), some (.if_icmp .ge 87, 3), none, none, some (.aload_n 1, 1), some (.iload_n 3, 1), some (.iaload, 1), some (.iconst 5, 1), some (.invokestatic 38, 3), none, none, some (.istore 4, 2), none, some (.aload_n 0, 1), some (.getfield 9, 3), none, none, some (.iload_n 3, 1), some (.iload 4, 2), none, some (.ifCond .eq 11, 3), none, none, some (.iconst 1, 1), some (.aload_n 1, 1), some (.iload_n 3, 1), some (.iaload, 1), some (.ishl, 1), some (.goto 4, 3), none, none, some (.iconst 0, 1), some (.iastore, 1), some (.aload_n 0, 1), some (.getfield 15, 3), none, none, some (.iload_n 3, 1), some (.iload 4, 2), none, some (.ifCond .eq 27, 3), none, none, some (.aload_n 0, 1), some (.getfield 34, 3), none, none, some (.aload_n 1, 1), some (.iload_n 3, 1), some (.iaload, 1), some (.iconst 0, 1), some (.invokevirtual 42, 3), none, none, some (.aload_n 0, 1), some (.getfield 34, 3), none, none, some (.getfield 48, 3), none, none, some (.iload_n 3, 1), some (.iaload, 1), some (.imul, 1), some (.goto 4, 3), none, none, some (.iconst 0, 1), some (.iastore, 1), some (.iload_n 2, 1), some (.iload 4, 2), none, some (.ifCond .eq 7, 3), none, none, some (.iconst 1, 1), some (.goto 4, 3), none, none, some (.iconst 0, 1), some (.iadd, 1), some (.istore_n 2, 1), some (.iinc 3 1, 3), none, none, some (.goto (-86), 3), none, none, some (.iconst 3, 1), some (.iconst 0, 1), some (.iload_n 2, 1), some (.iconst 3, 1), some (.isub, 1), some (.invokestatic 51, 3), none, none, some (.imul, 1), some (.istore_n 3, 1), some (.aload_n 0, 1), some (.aload_n 1, 1), some (.invokevirtual 56, 3), none, none, some (.iconst 0, 1), some (.istore 4, 2), none, some (.iload 4, 2), none, some (.iconst 5, 1), some (.if_icmp .ge 43, 3), none, none, some (.aload_n 0, 1), some (.getfield 15, 3), none, none, some (.iload 4, 2), none, some (.aload_n 0, 1), some (.getfield 9, 3), none, none, some (.iload 4, 2), none, some (.iaload, 1), some (.ifCond .ne 7, 3), none, none, some (.iconst 0, 1), some (.goto 16, 3), none, none, some (.iconst 1, 1), some (.aload_n 0, 1), some (.getfield 15, 3), none, none, some (.iload 4, 2), none, some (.iaload, 1), some (.iload_n 3, 1), some (.isub, 1), some (.invokestatic 51, 3), none, none, some (.iastore, 1), some (.iinc 4 1, 3), none, none, some (.goto (-43), 3), none, none, some (.return_, 1)]
def xt17 : List (Option (Instr × Nat)) := [some (.iconst 0, 1), some (.istore_n 2, 1), some (.iload_n 2, 1), some (.iconst 5, 1), some (.if_icmp .ge 82, 3), none, none, some (.aload_n 0, 1), some (.getfield 9, 3), none, none, some (.iload_n 2, 1), some (.iaload, 1), some (.ifCond .ne 7, 3), none, none, some (.iconst 0, 1), some (.goto 14, 3), none, none, some (.aload_n 0, 1), some (.getfield 34, 3), none, none, some (.aload_n 1, 1), some (.iload_n 2, 1), some (.iaload, 1), some (.iconst 2, 1), some (.invokevirtual 42, 3), none, none, some (.istore_n 3, 1), some (.iload_n 3, 1), some (.iconst 1, 1), some (.if_icmp .ne 23, 3), none, none, some (.iload_n 2, 1), some (.ifCond .le 19, 3), none, none, some (.aload_n 0, 1), some (.getfield 15, 3), none, none, some (.iload_n 2, 1), some (.iconst 1, 1), some (.isub, 1), some (.dup2, 1), some (.iaload, 1), some (.bipush 10, 2), none, some (.iadd, 1), some (.iastore, 1), some (.goto 26, 3), none, none, some (.iload_n 3, 1), some (.iconst 2, 1), some (.if_icmp .ne 21, 3), none, none, some (.iload_n 2, 1), some (.iconst 4, 1), some (.if_icmp .ge 16, 3), none, none, some (.aload_n 0, 1), some (.getfield 15, 3), none, none, some (.iload_n 2, 1), some (.iconst 1, 1), some (.iadd, 1), some (.dup2, 1), some (.iaload, 1), some (.bipush 10, 2), none, some (.iadd, 1), some (.iastore, 1), some (.iinc 2 1, 3), none, none, some (.goto (-81), 3), none, none, some (.return_, 1)]
def xt18 : List (Option (Instr × Nat)) := [some (.iconst 1, 1), some (.iconst 1, 1), some (.iload_n 2, 1), some (.iadd, 1), some (.invokestatic 51, 3), none, none, some (.istore_n 3, 1), some (.aload_n 0, 1), some (.getfield 15, 3), none, none, some (.iload_n 1, 1), some (.iaload, 1), some (.ifCond .ne 7, 3), none, none, some (.iconst 0, 1), some (.goto 15, 3), none, none, some (.iconst 1, 1), some (.aload_n 0, 1), some (.getfield 15, 3), none, none, some (.iload_n 1, 1), some (.iaload, 1), some (.iload_n 3, 1), some (.idiv, 1), some (.invokestatic 51, 3), none, none, some (.ireturn, 1)]
def xt19 : List (Option (Instr × Nat)) := [some (.aload_n 0, 1), some (.getfield 34, 3), none, none, some (.iload_n 1, 1), some (.iconst 3, 1), some (.invokevirtual 60, 3), none, none, some (.iload_n 2, 1), some (.iadd, 1), some (.istore_n 3, 1), some (.iconst 0, 1), some (.istore 4, 2), none, some (.iload 4, 2), none, some (.iconst 5, 1), some (.if_icmp .ge 23, 3), none, none, some (.aload_n 0, 1), some (.getfield 18, 3), none, none, some (.iload 4, 2), none, some (.aload_n 0, 1), some (.iload 4, 2), none, some (.iload_n 3, 1), some (.invokevirtual 63, 3), none, none, some (.iastore, 1), some (.iinc 4 1, 3), none, none, some (.goto (-23), 3), none, none, some (.aload_n 0, 1), some (.getfield 21, 3), none, none, some (.iconst 0, 1), some (.invokestatic 66, 3), none, none, some (.aload_n 0, 1), some (.getfield 21, 3), none, none, some (.iconst 0, 1), some (.ldc 72, 2), none, some (.iastore, 1), some (.aload_n 0, 1), some (.getfield 34, 3), none, none, some (.iload_n 1, 1), some (.iconst 0, 1), some (.invokevirtual 60, 3), none, none, some (.iconst 1, 1), some (.if_icmp .ne 7, 3), none, none, some (.iconst 1, 1), some (.goto 4, 3), none, none, some (.iconst 0, 1), some (.istore 4, 2), none, some (.iconst 5, 1), some (.aload_n 0, 1), some (.getfield 34, 3), none, none, some (.iload_n 1, 1), some (.iconst 1, 1), some (.invokevirtual 60, 3), none, none, some (.invokestatic 73, 3), none, none, some (.istore 5, 2), none, some (.iconst 0, 1), some (.istore 6, 2), none, some (.iload 6, 2), none, some (.iload 5, 2), none, some (.if_icmp .ge 96, 3), none, none, some (.iconst 5, 1), some (.iload 6, 2), none, some (.aload_n 0, 1), some (.getfield 34, 3), none, none, some (.iload_n 1, 1), some (.iconst 2, 1), some (.invokevirtual 60, 3), none, none, some (.iadd, 1), some (.invokestatic 73, 3), none, none, some (.iconst 1, 1), some (.isub, 1), some (.istore 7, 2), none, some (.iload 4, 2), none, some (.ifCond .eq 10, 3), none, none, some (.iconst 4, 1), some (.iload 7, 2), none, some (.isub, 1), some (.goto 5, 3), none, none, some (.iload 6, 2), none, some (.istore 8, 2), none, some (.iload 4, 2), none, some (.ifCond .eq 10, 3), none, none, some (.iconst 4, 1), some (.iload 6, 2), none, some (.isub, 1), some (.goto 5, 3), none, none, some (.iload 7, 2), none, some (.istore 9, 2), none, some (.bipush 31, 2), none, some (.istore 10, 2), none, some (.iload 10, 2), none, some (.ifCond .lt 29, 3), none, none, some (.aload_n 0, 1), some (.getfield 21, 3), none, none, some (.iload 10, 2), none, some (.iaload, 1), some (.ifCond .le 13, 3), none, none, some (.aload_n 0, 1), some (.iload 10, 2), none, some (.iload 8, 2), none, some (.iload 9, 2), none, some (.invokevirtual 76, 3), none, none, some (.iinc 10 (-1), 3), none, none, some (.goto (-28), 3), none, none, some (.iinc 6 1, 3), none, none, some (.goto (-97), 3), none, none, some (.return_, 1)]
def xt20 : List (Option (Instr × Nat)) := [some (.iconst 0, 1), some (.istore 4, 2), none, some (.iconst (-1), 1), some (.istore 5, 2), none, some (.iload_n 2, 1), some (.istore 6, 2), none, some (.iload 6, 2), none, some (.iload_n 3, 1), some (.if_icmp .gt 39, 3), none, none, some (.aload_n 0, 1), some (.getfield 9, 3), none, none, some (.iload 6, 2), none, some (.iaload, 1), some (.iload_n 1, 1), some (.iconst (-1), 1), some (.ixor, 1), some (.iand, 1), some (.ifCond .eq 19, 3), none, none, some (.iload 4, 2), none, some (.aload_n 0, 1), some (.getfield 18, 3), none, none, some (.iload 6, 2), none, some (.iaload, 1), some (.iadd, 1), some (.istore 4, 2), none, some (.iload 6, 2), none, some (.istore 5, 2), none, some (.iinc 6 1, 3), none, none, some (.goto (-39), 3), none, none, some (.iload 5, 2), none, some (.ifCond .lt 8, 3), none, none, some (.iload 4, 2), none, some (.ifCond .gt 4, 3), none, none, some (.return_, 1), some (.aload_n 0, 1), some (.getfield 21, 3), none, none, some (.iload_n 1, 1), some (.iaload, 1), some (.istore 6, 2), none, some (.iload 6, 2), none, some (.istore 7, 2), none, some (.aload_n 0, 1), some (.getfield 21, 3), none, none, some (.iload_n 1, 1), some (.iconst 0, 1), some (.iastore, 1), some (.iload_n 2, 1), some (.istore 8, 2), none, some (.iload 8, 2), none, some (.iload 5, 2), none, some (.if_icmp .ge 64, 3), none, none, some (.aload_n 0, 1), some (.getfield 9, 3), none, none, some (.iload 8, 2), none, some (.iaload, 1), some (.iload_n 1, 1), some (.iconst (-1), 1), some (.ixor, 1), some (.iand, 1), some (.ifCond .eq 44, 3), none, none, some (.iload 6, 2), none, some (.aload_n 0, 1), some (.getfield 18, 3), none, none, some (.iload 8, 2), none, some (.iaload, 1), some (.imul, 1), some (.iload 4, 2), none, some (.idiv, 1), some (.istore 9, 2), none, some (.aload_n 0, 1), some (.getfield 21, 3), none, none, some (.iload_n 1, 1), some (.aload_n 0, 1), some (.getfield 9, 3), none, none, some (.iload 8, 2), none, some (.iaload, 1), some (.ior, 1), some (.dup2, 1), some (.iaload, 1), some (.iload 9, 2), none, some (.iadd, 1), some (.iastore, 1), some (.iload 7, 2), none, some (.iload 9, 2), none, some (.isub, 1), some (.istore 7, 2), none, some (.iinc 8 1, 3), none, none, some (.goto (-65), 3), none, none, some (.aload_n 0, 1), some (.getfield 21, 3), none, none, some (.iload_n 1, 1), some (.aload_n 0, 1), some (.getfield 9, 3), none, none, some (.iload 5, 2), none, some (.iaload, 1), some (.ior, 1), some (.dup2, 1), some (.iaload, 1), some (.iload 7, 2), none, some (.iadd, 1), some (.iastore, 1), some (.return_, 1)]
def xt21 : List (Option (Instr × Nat)) := [some (.iconst 0, 1), some (.istore_n 2, 1), some (.iconst 0, 1), some (.istore_n 3, 1), some (.iload_n 3, 1), some (.bipush 32, 2), none, some (.if_icmp .ge 27, 3), none, none, some (.iload_n 3, 1), some (.iload_n 1, 1), some (.ishr, 1), some (.iconst 1, 1), some (.iand, 1), some (.iconst 1, 1), some (.if_icmp .ne 12, 3), none, none, some (.iload_n 2, 1), some (.aload_n 0, 1), some (.getfield 21, 3), none, none, some (.iload_n 3, 1), some (.iaload, 1), some (.iadd, 1), some (.istore_n 2, 1), some (.iinc 3 1, 3), none, none, some (.goto (-27), 3), none, none, some (.iload_n 2, 1), some (.ireturn, 1)]
def xt22 : List (Option (Instr × Nat)) := [some (.aload_n 0, 1), some (.iconst 0, 1), some (.putfield 24, 3), none, none, some (.aload_n 0, 1), some (.iconst 0, 1), some (.putfield 28, 3), none, none, some (.aload_n 0, 1), some (.iconst 0, 1), some (.putfield 31, 3), none, none, some (.aload_n 0, 1), some (.getfield 34, 3), none, none, some (.iload_n 1, 1), some (.iconst 4, 1), some (.invokevirtual 60, 3), none, none, some (.istore_n 2, 1), some (.iload_n 2, 1), some (.iconst 5, 1), some (.invokestatic 38, 3), none, none, some (.istore_n 3, 1), some (.iload_n 3, 1), some (.ifCond .eq 15, 3), none, none, some (.aload_n 0, 1), some (.getfield 34, 3), none, none, some (.iload_n 2, 1), some (.iconst 1, 1), some (.invokevirtual 42, 3), none, none, some (.goto 4, 3), none, none, some (.iconst 0, 1), some (.istore 4, 2), none, some (.iconst 0, 1), some (.istore 5, 2), none, some (.iload 5, 2), none, some (.bipush 32, 2), none, some (.if_icmp .ge 150, 3), none, none, some (.iload 5, 2), none, some (.invokestatic 80, 3), none, none, some (.istore 6, 2), none, some (.aload_n 0, 1), some (.getfield 21, 3), none, none, some (.iload 5, 2), none, some (.iaload, 1), some (.ifCond .eq 127, 3), none, none, some (.iload 6, 2), none, some (.iconst 4, 1), some (.if_icmp .le 6, 3), none, none, some (.goto 118, 3), none, none, some (.iload_n 3, 1), some (.ifCond .eq 12, 3), none, none, some (.iload 5, 2), none, some (.iload_n 2, 1), some (.ishr, 1), some (.iconst 1, 1), some (.iand, 1), some (.goto 4, 3), none, none, some (.iconst 0, 1), some (.istore 7, 2), none, some (.aload_n 0, 1), some (.getfield 21, 3), none, none, some (.iload 5, 2), none, some (.iaload, 1), some (.aload_n 0, 1), some (.getfield 34, 3), none, none, some (.iconst 0, 1), some (.iload 6, 2), none, some (.iload 7, 2), none, some (.invokevirtual 86, 3), none, none, some (.imul, 1), some (.sipush 1000, 3), none, none, some (.idiv, 1), some (.istore 8, 2), none, some (.iload 8, 2), none, some (.aload_n 0, 1), some (.getfield 34, 3), none, none, some (.iconst 1, 1), some (.iload 6, 2), none, some (.iload 7, 2), none, some (.invokevirtual 86, 3), none, none, some (.imul, 1), some (.sipush 1000, 3), none, none, some (.idiv, 1), some (.istore 9, 2), none, some (.aload_n 0, 1), some (.dup, 1), some (.getfield 24, 3), none, none, some (.iload 8, 2), none, some (.iadd, 1), some (.putfield 24, 3), none, none, some (.aload_n 0, 1), some (.dup, 1), some (.getfield 28, 3), none, none, some (.iload 9, 2), none, some (.iadd, 1), some (.putfield 28, 3), none, none, some (.aload_n 0, 1), some (.dup, 1), some (.getfield 31, 3), none, none, some (.iload 9, 2), none, some (.iload 7, 2), none, some (.iconst 1, 1), some (.if_icmp .ne 8, 3), none, none, some (.iload 4, 2), none, some (.goto 10, 3), none, none, some (.aload_n 0, 1), some (.getfield 34, 3), none, none, some (.getfield 90, 3), none, none, some (.imul, 1), some (.iadd, 1), some (.putfield 31, 3), none, none, some (.iinc 5 1, 3), none, none, some (.goto (-151), 3), none, none, some (.return_, 1)]
def xt23 : List (Option (Instr × Nat)) := [some (.aload_n 0, 1), some (.aload_n 1, 1), some (.invokevirtual 93, 3), none, none, some (.lconst 0, 1), some (.lstore_n 3, 1), some (.iconst 0, 1), some (.istore 5, 2), none, some (.iload 5, 2), none, some (.iconst 4, 1), some (.if_icmp .ge 51, 3), none, none, some (.aload_n 0, 1), some (.getfield 34, 3), none, none, some (.iload 5, 2), none, some (.iconst 5, 1), some (.invokevirtual 60, 3), none, none, some (.istore 6, 2), none, some (.iload 6, 2), none, some (.ifCond .le 28, 3), none, none, some (.aload_n 0, 1), some (.iload 5, 2), none, some (.iload_n 2, 1), some (.invokevirtual 96, 3), none, none, some (.aload_n 0, 1), some (.iload 5, 2), none, some (.invokevirtual 100, 3), none, none, some (.lload_n 3, 1), some (.aload_n 0, 1), some (.getfield 31, 3), none, none, some (.i2l, 1), some (.iload 6, 2), none, some (.i2l, 1), some (.lmul, 1), some (.ladd, 1), some (.lstore_n 3, 1), some (.iinc 5 1, 3), none, none, some (.goto (-51), 3), none, none, some (.lload_n 3, 1), some (.ldc2_w 104, 3), none, none, some (.ldiv, 1), some (.l2i, 1), some (.ireturn, 1)]
def xt24 : List (Option (Instr × Nat)) := [some (.aload_n 0, 1), some (.invokespecial 3, 3), none, none, some (.aload_n 0, 1), some (.bipush 15, 2), none, some (.newarray .int, 2), none, some (.putfield 9, 3), none, none, some (.aload_n 0, 1), some (.iconst 5, 1), some (.newarray .int, 2), none, some (.putfield 15, 3), none, none, some (.aload_n 0, 1), some (.iconst 5, 1), some (.newarray .int, 2), none, some (.putfield 18, 3), none, none, some (.aload_n 0, 1), some (.bipush 24, 2), none, some (.newarray .int, 2), none, some (.putfield 21, 3), none, none, some (.aload_n 0, 1), some (.bipush 20, 2), none, some (.newarray .int, 2), none, some (.putfield 24, 3), none, none, some (.aload_n 0, 1), some (.bipush 11, 2), none, some (.newarray .int, 2), none, some (.putfield 27, 3), none, none, some (.aload_n 0, 1), some (.iconst 0, 1), some (.putfield 30, 3), none, none, some (.aload_n 0, 1), some (.iconst 2, 1), some (.putfield 34, 3), none, none, some (.iconst 0, 1), some (.istore_n 1, 1), some (.iload_n 1, 1), some (.aload_n 0, 1), some (.getfield 9, 3), none, none, some (.arraylength, 1), some (.if_icmp .ge 22, 3), none, none, some (.aload_n 0, 1), some (.getfield 9, 3), none, none, some (.iload_n 1, 1), some (.getstatic 37, 3), none, none, some (.iload_n 1, 1), some (.iconst 5, 1), some (.idiv, 1), some (.iaload, 1), some (.iastore, 1), some (.iinc 1 1, 3), none, none, some (.goto (-25), 3), none, none, some (.iconst 0, 1), some (.istore_n 1, 1), some (.iload_n 1, 1), some (.aload_n 0, 1), some (.getfield 21, 3), none, none, some (.arraylength, 1), some (.if_icmp .ge 23, 3), none, none, some (.aload_n 0, 1), some (.getfield 21, 3), none, none, some (.iload_n 1, 1), some (.getstatic 40, 3), none, none, some (.iload_n 1, 1), some (.bipush 6, 2), none, some (.irem, 1), some (.iaload, 1), some (.iastore, 1), some (.iinc 1 1, 3), none, none, some (.goto (-26), 3), none, none, some (.aload_n 0, 1), some (.getfield 15, 3), none, none, some (.iconst 5, 1), some (.invokestatic 43, 3), none, none, some (.aload_n 0, 1), some (.getfield 18, 3), none, none, some (.bipush (-6), 2), none, some (.invokestatic 43, 3), none, none, some (.return_, 1)]
def xt25 : List (Option (Instr × Nat)) := [some (.aload_n 1, 1), some (.getfield 9, 3), none, none, some (.iconst 0, 1), some (.aload_n 0, 1), some (.getfield 9, 3), none, none, some (.iconst 0, 1), some (.aload_n 0, 1), some (.getfield 9, 3), none, none, some (.arraylength, 1), some (.invokestatic 49, 3), none, none, some (.aload_n 1, 1), some (.getfield 15, 3), none, none, some (.iconst 0, 1), some (.aload_n 0, 1), some (.getfield 15, 3), none, none, some (.iconst 0, 1), some (.aload_n 0, 1), some (.getfield 15, 3), none, none, some (.arraylength, 1), some (.invokestatic 49, 3), none, none, some (.aload_n 1, 1), some (.getfield 18, 3), none, none, some (.iconst 0, 1), some (.aload_n 0, 1), some (.getfield 18, 3), none, none, some (.iconst 0, 1), some (.aload_n 0, 1), some (.getfield 18, 3), none, none, some (.arraylength, 1), some (.invokestatic 49, 3), none, none, some (.aload_n 1, 1), some (.getfield 21, 3), none, none, some (.iconst 0, 1), some (.aload_n 0, 1), some (.getfield 21, 3), none, none, some (.iconst 0, 1), some (.aload_n 0, 1), some (.getfield 21, 3), none, none, some (.arraylength, 1), some (.invokestatic 49, 3), none, none, some (.aload_n 1, 1), some (.getfield 24, 3), none, none, some (.iconst 0, 1), some (.aload_n 0, 1), some (.getfield 24, 3), none, none, some (.iconst 0, 1), some (.aload_n 0, 1), some (.getfield 24, 3), none, none, some (.arraylength, 1), some (.invokestatic 49, 3), none, none, some (.aload_n 1, 1), some (.getfield 27, 3), none, none, some (.iconst 0, 1), some (.aload_n 0, 1), some (.getfield 27, 3), none, none, some (.iconst 0, 1), some (.aload_n 0, 1), some (.getfield 27, 3), none, none, some (.arraylength, 1), some (.invokestatic 49, 3), none, none, some (.aload_n 0, 1), some (.aload_n 1, 1), some (.getfield 30, 3), none, none, some (.putfield 30, 3), none, none, some (.aload_n 0, 1), some (.aload_n 1, 1), some (.getfield 34, 3), none, none, some (.putfield 34, 3), none, none, some (.return_, 1)]
def xt26 : List (Option (Instr × Nat)) := [some (.aload_n 0, 1), some (.getfield 9, 3), none, none, some (.iload_n 2, 1), some (.iconst 5, 1), some (.imul, 1), some (.iload_n 1, 1), some (.iadd, 1), some (.iaload, 1), some (.ireturn, 1)]
def xt27 : List (Option (Instr × Nat)) := [some (.aload_n 0, 1), some (.getfield 21, 3), none, none, some (.iload_n 1, 1), some (.bipush 6, 2), none, some (.imul, 1), some (.iload_n 2, 1), some (.iadd, 1), some (.iaload, 1), some (.ireturn, 1)]
def xt28 : List (Option (Instr × Nat)) := [some (.aload_n 0, 1), some (.getfield 24, 3), none, none, some (.iload_n 1, 1), some (.bipush 10, 2), none, some (.imul, 1), some (.iconst 2, 1), some (.iload_n 2, 1), some (.imul, 1), some (.iadd, 1), some (.iload_n 3, 1), some (.iadd, 1), some (.iaload, 1), some (.ireturn, 1)]
def xt29 : List (Option (Instr × Nat)) := [some (.iconst 0, 1), some (.istore_n 1, 1), some (.iconst 0, 1), some (.istore_n 2, 1), some (.iload_n 2, 1), some (.iconst 5, 1), some (.if_icmp .ge 33, 3), none, none, some (.aload_n 0, 1), some (.getfield 18, 3), none, none, some (.iload_n 2, 1), some (.iaload, 1), some (.iconst 5, 1), some (.invokestatic 55, 3), none, none, some (.ifCond .eq 14, 3), none, none, some (.iload_n 1, 1), some (.iconst 1, 1), some (.aload_n 0, 1), some (.getfield 18, 3), none, none, some (.iload_n 2, 1), some (.iaload, 1), some (.ishl, 1), some (.ior, 1), some (.istore_n 1, 1), some (.iinc 2 1, 3), none, none, some (.goto (-32), 3), none, none, some (.iload_n 1, 1), some (.ireturn, 1)]
def xt30 : List (Option (Instr × Nat)) := [some (.aload_n 0, 1), some (.invokespecial 3, 3), none, none, some (.aload_n 0, 1), some (.sipush 1546, 3), none, none, some (.newarray .int, 2), none, some (.putfield 11, 3), none, none, some (.aload_n 0, 1), some (.sipush 1546, 3), none, none, some (.newarray .int, 2), none, some (.putfield 15, 3), none, none, some (.aload_n 0, 1), some (.iconst 0, 1), some (.putfield 18, 3), none, none, some (.aload_n 0, 1), some (.sipush 1546, 3), none, none, some (.newarray .int, 2), none, some (.putfield 22, 3), none, none, some (.aload_n 0, 1), some (.iconst 0, 1), some (.putfield 25, 3), none, none, some (.aload_n 0, 1), some (.iconst 5, 1), some (.newarray .int, 2), none, some (.putfield 29, 3), none, none, some (.aload_n 0, 1), some (.iconst 5, 1), some (.newarray .int, 2), none, some (.putfield 32, 3), none, none, some (.aload_n 0, 1), some (.bipush 40, 2), none, some (.newarray .int, 2), none, some (.putfield 35, 3), none, none, some (.aload_n 0, 1), some (.iconst 0, 1), some (.putfield 38, 3), none, none, some (.aload_n 0, 1), some (.iconst 0, 1), some (.putfield 41, 3), none, none, some (.aload_n 0, 1), some (.iconst 0, 1), some (.putfield 44, 3), none, none, some (.aload_n 0, 1), some (.aload_n 1, 1), some (.putfield 47, 3), none, none, some (.return_, 1)]
def xt31 : List (Option (Instr × Nat)) := [some (.aload_n 0, 1), some (.iconst 0, 1), some (.putfield 25, 3), none, none, some (.return_, 1)]
def xt32 : List (Option (Instr × Nat)) := [some (.aload_n 0, 1), some (.getfield 18, 3), none, none, some (.ifCond .ne 10, 3), none, none, some (.aload_n 0, 1), some (.iconst 0, 1), some (.iconst 0, 1), some (.iconst 0, 1), some (.invokestatic 51, 3), none, none, some (.aload_n 0, 1), some (.getfield 25, 3), none, none, some (.ifCond .ne 16, 3), none, none, some (.aload_n 0, 1), some (.getfield 22, 3), none, none, some (.iconst (-1), 1), some (.invokestatic 55, 3), none, none, some (.aload_n 0, 1), some (.iconst 1, 1), some (.putfield 25, 3), none, none, some (.return_, 1)]
def xt33 : List (Option (Instr × Nat)) := [some (.iload_n 1, 1), some (.iconst 5, 1), some (.if_icmp .lt 10, 3), none, none, some (.aload_n 0, 1), some (.iload_n 2, 1), some (.iload_n 3, 1), some (.invokevirtual 61, 3), none, none, some (.return_, 1), some (.aload_n 0, 1), some (.iload_n 1, 1), some (.iconst 1, 1), some (.iadd, 1), some (.iload_n 2, 1), some (.iconst 3, 1), some (.ishl, 1), some (.iload_n 3, 1), some (.invokestatic 51, 3), none, none, some (.iconst 0, 1), some (.istore 4, 2), none, some (.iload 4, 2), none, some (.iconst 5, 1), some (.if_icmp .ge 39, 3), none, none, some (.iload_n 3, 1), some (.iload 4, 2), none, some (.ishr, 1), some (.iconst 1, 1), some (.iand, 1), some (.ifCond .ne 24, 3), none, none, some (.aload_n 0, 1), some (.iload_n 1, 1), some (.iconst 1, 1), some (.iadd, 1), some (.iload_n 2, 1), some (.iconst 3, 1), some (.ishl, 1), some (.iload 4, 2), none, some (.iconst 1, 1), some (.iadd, 1), some (.ior, 1), some (.iload_n 3, 1), some (.iconst 1, 1), some (.iload 4, 2), none, some (.ishl, 1), some (.ior, 1), some (.invokestatic 51, 3), none, none, some (.iinc 4 1, 3), none, none, some (.goto (-39), 3), none, none, some (.return_, 1)]
def xt34 : List (Option (Instr × Nat)) := [some (.aload_n 0, 1), some (.getfield 18, 3), none, none, some (.sipush 1546, 3), none, none, some (.if_icmp .ge 33, 3), none, none, some (.aload_n 0, 1), some (.getfield 11, 3), none, none, some (.aload_n 0, 1), some (.getfield 18, 3), none, none, some (.iload_n 1, 1), some (.iastore, 1), some (.aload_n 0, 1), some (.getfield 15, 3), none, none, some (.aload_n 0, 1), some (.getfield 18, 3), none, none, some (.iload_n 2, 1), some (.iastore, 1), some (.aload_n 0, 1), some (.dup, 1), some (.getfield 18, 3), none, none, some (.iconst 1, 1), some (.iadd, 1), some (.putfield 18, 3), none, none, some (.return_, 1)]
def xt35 : List (Option (Instr × Nat)) := [some (.iload_n 1, 1), some (.sipush 1546, 3), none, none, some (.invokestatic 65, 3), none, none, some (.ifCond .ne 6, 3), none, none, some (.bipush (-6), 2), none, some (.ireturn, 1), some (.aload_n 0, 1), some (.getfield 22, 3), none, none, some (.iload_n 1, 1), some (.iaload, 1), some (.iconst (-1), 1), some (.if_icmp .ne 46, 3), none, none, some (.iconst 0, 1), some (.istore_n 2, 1), some (.iload_n 2, 1), some (.iconst 5, 1), some (.if_icmp .ge 21, 3), none, none, some (.aload_n 0, 1), some (.getfield 29, 3), none, none, some (.iload_n 2, 1), some (.aload_n 0, 1), some (.iload_n 1, 1), some (.iload_n 2, 1), some (.invokevirtual 69, 3), none, none, some (.iastore, 1), some (.iinc 2 1, 3), none, none, some (.goto (-20), 3), none, none, some (.aload_n 0, 1), some (.getfield 22, 3), none, none, some (.iload_n 1, 1), some (.aload_n 0, 1), some (.getfield 47, 3), none, none, some (.aload_n 0, 1), some (.getfield 29, 3), none, none, some (.iconst 0, 1), some (.invokevirtual 73, 3), none, none, some (.iastore, 1), some (.aload_n 0, 1), some (.getfield 22, 3), none, none, some (.iload_n 1, 1), some (.iaload, 1), some (.ireturn, 1)]
def xt36 : List (Option (Instr × Nat)) := [some (.iload_n 1, 1), some (.sipush 1546, 3), none, none, some (.invokestatic 65, 3), none, none, some (.ifCond .ne 6, 3), none, none, some (.bipush (-6), 2), none, some (.ireturn, 1), some (.aload_n 0, 1), some (.getfield 11, 3), none, none, some (.iload_n 1, 1), some (.iaload, 1), some (.iconst 3, 1), some (.iconst 4, 1), some (.iload_n 2, 1), some (.isub, 1), some (.imul, 1), some (.ishr, 1), some (.bipush 7, 2), none, some (.iand, 1), some (.istore_n 3, 1), some (.iload_n 3, 1), some (.ifCond .ne 8, 3), none, none, some (.bipush (-6), 2), none, some (.goto 6, 3), none, none, some (.iload_n 3, 1), some (.iconst 1, 1), some (.isub, 1), some (.ireturn, 1)]
def xt37 : List (Option (Instr × Nat)) := [some (.aload_n 0, 1), some (.invokevirtual 79, 3), none, none, some (.iconst (-1), 1), some (.istore 4, 2), none, some (.iconst (-1), 1), some (.istore 5, 2), none, some (.iconst 0, 1), some (.istore 6, 2), none, some (.iconst 0, 1), some (.istore 7, 2), none, some (.iload 7, 2), none, some (.sipush 1546, 3), none, none, some (.if_icmp .ge 117, 3), none, none, some (.aload_n 0, 1), some (.getfield 15, 3), none, none, some (.iload 7, 2), none, some (.iaload, 1), some (.invokestatic 82, 3), none, none, some (.istore 8, 2), none, some (.aload_n 0, 1), some (.getfield 15, 3), none, none, some (.iload 7, 2), none, some (.iaload, 1), some (.iload_n 1, 1), some (.iconst (-1), 1), some (.ixor, 1), some (.iand, 1), some (.ifCond .ne 21, 3), none, none, some (.iload_n 2, 1), some (.aload_n 0, 1), some (.getfield 15, 3), none, none, some (.iload 7, 2), none, some (.iaload, 1), some (.iconst (-1), 1), some (.ixor, 1), some (.iand, 1), some (.ifCond .ne 7, 3), none, none, some (.iconst 1, 1), some (.goto 4, 3), none, none, some (.iconst 0, 1), some (.istore 9, 2), none, some (.iload 9, 2), none, some (.ifCond .eq 59, 3), none, none, some (.iload_n 3, 1), some (.bipush (-6), 2), none, some (.if_icmp .eq 12, 3), none, none, some (.iload_n 3, 1), some (.iload 8, 2), none, some (.if_icmp .eq 6, 3), none, none, some (.goto 44, 3), none, none, some (.aload_n 0, 1), some (.iload 7, 2), none, some (.invokevirtual 88, 3), none, none, some (.istore 10, 2), none, some (.iload 10, 2), none, some (.iload 5, 2), none, some (.if_icmp .gt 17, 3), none, none, some (.iload 10, 2), none, some (.iload 5, 2), none, some (.if_icmp .ne 22, 3), none, none, some (.iload 8, 2), none, some (.iload 6, 2), none, some (.if_icmp .ge 15, 3), none, none, some (.iload 7, 2), none, some (.istore 4, 2), none, some (.iload 10, 2), none, some (.istore 5, 2), none, some (.iload 8, 2), none, some (.istore 6, 2), none, some (.iinc 7 1, 3), none, none, some (.goto (-119), 3), none, none, some (.iload 4, 2), none, some (.ireturn, 1)]
def xt38 : List (Option (Instr × Nat)) := [some (.aload_n 0, 1), some (.invokevirtual 79, 3), none, none, some (.aload_n 1, 1), some (.iconst 0, 1), some (.aload_n 0, 1), some (.getfield 32, 3), none, none, some (.iconst 0, 1), some (.iconst 5, 1), some (.invokestatic 91, 3), none, none, some (.aload_n 0, 1), some (.aload_n 0, 1), some (.aload_n 0, 1), some (.invokevirtual 97, 3), none, none, some (.invokevirtual 88, 3), none, none, some (.putfield 44, 3), none, none, some (.aload_n 0, 1), some (.iconst 0, 1), some (.putfield 41, 3), none, none, some (.aload_n 0, 1), some (.getfield 41, 3), none, none, some (.bipush 20, 2), none, some (.if_icmp .ge 68, 3), none, none, some (.aload_n 0, 1), some (.iconst 0, 1), some (.putfield 38, 3), none, none, some (.aload_n 0, 1), some (.invokevirtual 101, 3), none, none, some (.aload_n 0, 1), some (.invokevirtual 104, 3), none, none, some (.aload_n 0, 1), some (.invokevirtual 107, 3), none, none, some (.aload_n 0, 1), some (.invokevirtual 110, 3), none, none, some (.istore_n 2, 1), some (.iload_n 2, 1), some (.ifCond .ge 4, 3), none, none, some (.return_, 1), some (.iconst 0, 1), some (.istore_n 3, 1), some (.iload_n 3, 1), some (.iconst 5, 1), some (.if_icmp .ge 21, 3), none, none, some (.aload_n 0, 1), some (.getfield 32, 3), none, none, some (.iload_n 3, 1), some (.aload_n 0, 1), some (.iload_n 2, 1), some (.iload_n 3, 1), some (.invokevirtual 69, 3), none, none, some (.iastore, 1), some (.iinc 3 1, 3), none, none, some (.goto (-20), 3), none, none, some (.aload_n 0, 1), some (.dup, 1), some (.getfield 41, 3), none, none, some (.iconst 1, 1), some (.iadd, 1), some (.putfield 41, 3), none, none, some (.goto (-71), 3), none, none, some (.return_, 1)]
def xt39 : List (Option (Instr × Nat)) := [some (.iconst (-1), 1), some (.istore_n 1, 1), some (.iconst 0, 1), some (.istore_n 2, 1), some (.iload_n 2, 1), some (.aload_n 0, 1), some (.getfield 38, 3), none, none, some (.if_icmp .ge 40, 3), none, none, some (.aload_n 0, 1), some (.aload_n 0, 1), some (.getfield 35, 3), none, none, some (.iload_n 2, 1), some (.iaload, 1), some (.invokevirtual 88, 3), none, none, some (.istore_n 3, 1), some (.iload_n 3, 1), some (.aload_n 0, 1), some (.getfield 44, 3), none, none, some (.if_icmp .le 15, 3), none, none, some (.aload_n 0, 1), some (.iload_n 3, 1), some (.putfield 44, 3), none, none, some (.aload_n 0, 1), some (.getfield 35, 3), none, none, some (.iload_n 2, 1), some (.iaload, 1), some (.istore_n 1, 1), some (.iinc 2 1, 3), none, none, some (.goto (-42), 3), none, none, some (.iload_n 1, 1), some (.ireturn, 1)]
def xt40 : List (Option (Instr × Nat)) := [some (.iconst 0, 1), some (.istore_n 1, 1), some (.iload_n 1, 1), some (.iconst 5, 1), some (.if_icmp .ge 40, 3), none, none, some (.iload_n 1, 1), some (.iconst 1, 1), some (.iadd, 1), some (.istore_n 2, 1), some (.iload_n 2, 1), some (.iconst 5, 1), some (.if_icmp .ge 25, 3), none, none, some (.aload_n 0, 1), some (.iload_n 1, 1), some (.iload_n 2, 1), some (.invokevirtual 113, 3), none, none, some (.aload_n 0, 1), some (.invokevirtual 116, 3), none, none, some (.aload_n 0, 1), some (.iload_n 1, 1), some (.iload_n 2, 1), some (.invokevirtual 113, 3), none, none, some (.iinc 2 1, 3), none, none, some (.goto (-24), 3), none, none, some (.iinc 1 1, 3), none, none, some (.goto (-39), 3), none, none, some (.return_, 1)]
def xt41 : List (Option (Instr × Nat)) := [some (.aload_n 0, 1), some (.getfield 32, 3), none, none, some (.iload_n 1, 1), some (.iaload, 1), some (.istore_n 3, 1), some (.aload_n 0, 1), some (.getfield 32, 3), none, none, some (.iload_n 1, 1), some (.aload_n 0, 1), some (.getfield 32, 3), none, none, some (.iload_n 2, 1), some (.iaload, 1), some (.iastore, 1), some (.aload_n 0, 1), some (.getfield 32, 3), none, none, some (.iload_n 2, 1), some (.iload_n 3, 1), some (.iastore, 1), some (.return_, 1)]
def xt42 : List (Option (Instr × Nat)) := [some (.aload_n 0, 1), some (.getfield 15, 3), none, none, some (.aload_n 0, 1), some (.invokevirtual 97, 3), none, none, some (.iaload, 1), some (.istore_n 1, 1), some (.iconst 0, 1), some (.istore_n 2, 1), some (.iload_n 2, 1), some (.iconst 5, 1), some (.if_icmp .ge 59, 3), none, none, some (.aload_n 0, 1), some (.getfield 32, 3), none, none, some (.iload_n 2, 1), some (.iaload, 1), some (.istore_n 3, 1), some (.iconst 0, 1), some (.istore 4, 2), none, some (.iload 4, 2), none, some (.iconst 5, 1), some (.if_icmp .ge 30, 3), none, none, some (.iload_n 1, 1), some (.iload 4, 2), none, some (.ishr, 1), some (.iconst 1, 1), some (.iand, 1), some (.ifCond .ne 15, 3), none, none, some (.aload_n 0, 1), some (.getfield 32, 3), none, none, some (.iload_n 2, 1), some (.iload 4, 2), none, some (.iastore, 1), some (.aload_n 0, 1), some (.invokevirtual 116, 3), none, none, some (.iinc 4 1, 3), none, none, some (.goto (-30), 3), none, none, some (.aload_n 0, 1), some (.getfield 32, 3), none, none, some (.iload_n 2, 1), some (.iload_n 3, 1), some (.iastore, 1), some (.iinc 2 1, 3), none, none, some (.goto (-58), 3), none, none, some (.return_, 1)]
def xt43 : List (Option (Instr × Nat)) := [some (.iconst 0, 1), some (.istore_n 1, 1), some (.iload_n 1, 1), some (.iconst 5, 1), some (.if_icmp .ge 35, 3), none, none, some (.aload_n 0, 1), some (.getfield 32, 3), none, none, some (.iload_n 1, 1), some (.iaload, 1), some (.istore_n 2, 1), some (.aload_n 0, 1), some (.getfield 32, 3), none, none, some (.iload_n 1, 1), some (.bipush (-6), 2), none, some (.iastore, 1), some (.aload_n 0, 1), some (.invokevirtual 116, 3), none, none, some (.aload_n 0, 1), some (.getfield 32, 3), none, none, some (.iload_n 1, 1), some (.iload_n 2, 1), some (.iastore, 1), some (.iinc 1 1, 3), none, none, some (.goto (-34), 3), none, none, some (.return_, 1)]
def xt44 : List (Option (Instr × Nat)) := [some (.aload_n 0, 1), some (.getfield 38, 3), none, none, some (.bipush 40, 2), none, some (.if_icmp .ge 26, 3), none, none, some (.aload_n 0, 1), some (.getfield 35, 3), none, none, some (.aload_n 0, 1), some (.getfield 38, 3), none, none, some (.aload_n 0, 1), some (.invokevirtual 97, 3), none, none, some (.iastore, 1), some (.aload_n 0, 1), some (.dup, 1), some (.getfield 38, 3), none, none, some (.iconst 1, 1), some (.iadd, 1), some (.putfield 38, 3), none, none, some (.return_, 1)]
def xt45 : List (Option (Instr × Nat)) := [some (.iconst 0, 1), some (.istore_n 1, 1), some (.iconst 0, 1), some (.istore_n 2, 1), some (.iload_n 2, 1), some (.iconst 5, 1), some (.if_icmp .ge 37, 3), none, none, some (.aload_n 0, 1), some (.getfield 32, 3), none, none, some (.iload_n 2, 1), some (.iaload, 1), some (.ifCond .ge 7, 3), none, none, some (.iconst 0, 1), some (.goto 11, 3), none, none, some (.aload_n 0, 1), some (.getfield 32, 3), none, none, some (.iload_n 2, 1), some (.iaload, 1), some (.iconst 1, 1), some (.iadd, 1), some (.istore_n 3, 1), some (.iload_n 1, 1), some (.iconst 3, 1), some (.ishl, 1), some (.iload_n 3, 1), some (.ior, 1), some (.istore_n 1, 1), some (.iinc 2 1, 3), none, none, some (.goto (-36), 3), none, none, some (.iconst 0, 1), some (.istore_n 2, 1), some (.sipush 1545, 3), none, none, some (.istore_n 3, 1), some (.iconst 0, 1), some (.istore 4, 2), none, some (.iload 4, 2), none, some (.bipush 11, 2), none, some (.if_icmp .ge 43, 3), none, none, some (.iload_n 2, 1), some (.iload_n 3, 1), some (.if_icmp .ge 38, 3), none, none, some (.iload_n 2, 1), some (.iload_n 3, 1), some (.iadd, 1), some (.iconst 2, 1), some (.idiv, 1), some (.istore 5, 2), none, some (.aload_n 0, 1), some (.getfield 11, 3), none, none, some (.iload 5, 2), none, some (.iaload, 1), some (.iload_n 1, 1), some (.if_icmp .ge 11, 3), none, none, some (.iload 5, 2), none, some (.iconst 1, 1), some (.iadd, 1), some (.istore_n 2, 1), some (.goto 6, 3), none, none, some (.iload 5, 2), none, some (.istore_n 3, 1), some (.iinc 4 1, 3), none, none, some (.goto (-44), 3), none, none, some (.iload_n 2, 1), some (.ireturn, 1)]
def xt46 : List (Option (Instr × Nat)) := [some (.aload_n 0, 1), some (.invokespecial 3, 3), none, none, some (.aload_n 0, 1), some (.new 9, 3), none, none, some (.dup, 1), some (.invokespecial 11, 3), none, none, some (.putfield 12, 3), none, none, some (.aload_n 0, 1), some (.new 16, 3), none, none, some (.dup, 1), some (.invokespecial 18, 3), none, none, some (.putfield 19, 3), none, none, some (.aload_n 0, 1), some (.iconst 2, 1), some (.anewarray 16, 3), none, none, some (.putfield 23, 3), none, none, some (.aload_n 0, 1), some (.iconst 2, 1), some (.newarray .boolean, 2), none, some (.putfield 27, 3), none, none, some (.aload_n 0, 1), some (.new 31, 3), none, none, some (.dup, 1), some (.aload_n 0, 1), some (.getfield 19, 3), none, none, some (.invokespecial 33, 3), none, none, some (.putfield 36, 3), none, none, some (.aload_n 0, 1), some (.new 40, 3), none, none, some (.dup, 1), some (.aload_n 0, 1), some (.getfield 36, 3), none, none, some (.invokespecial 42, 3), none, none, some (.putfield 45, 3), none, none, some (.aload_n 0, 1), some (.new 49, 3), none, none, some (.dup, 1), some (.invokespecial 51, 3), none, none, some (.putfield 52, 3), none, none, some (.aload_n 0, 1), some (.iconst 5, 1), some (.newarray .int, 2), none, some (.putfield 56, 3), none, none, some (.iconst 0, 1), some (.istore_n 1, 1), some (.iload_n 1, 1), some (.iconst 2, 1), some (.if_icmp .ge 22, 3), none, none, some (.aload_n 0, 1), some (.getfield 23, 3), none, none, some (.iload_n 1, 1), some (.new 16, 3), none, none, some (.dup, 1), some (.invokespecial 18, 3), none, none, some (.aastore, 1), some (.iinc 1 1, 3), none, none, some (.goto (-21), 3), none, none, some (.aload_n 0, 1), some (.getfield 12, 3), none, none, some (.bipush 42, 2), none, some (.invokevirtual 60, 3), none, none, some (.pop, 1), some (.aload_n 0, 1), some (.getfield 12, 3), none, none, some (.bipush 115, 2), none, some (.invokevirtual 60, 3), none, none, some (.pop, 1), some (.aload_n 0, 1), some (.getfield 12, 3), none, none, some (.bipush 104, 2), none, some (.invokevirtual 60, 3), none, none, some (.pop, 1), some (.aload_n 0, 1), some (.getfield 12, 3), none, none, some (.aload_n 0, 1), some (.getfield 19, 3), none, none, some (.iconst 0, 1), some (.invokevirtual 64, 3), none, none, some (.aload_n 0, 1), some (.getfield 12, 3), none, none, some (.bipush 104, 2), none, some (.invokevirtual 60, 3), none, none, some (.pop, 1), some (.aload_n 0, 1), some (.getfield 12, 3), none, none, some (.aload_n 0, 1), some (.getfield 19, 3), none, none, some (.iconst 1, 1), some (.invokevirtual 64, 3), none, none, some (.return_, 1)]
def xt47 : List (Option (Instr × Nat)) := [some (.iload_n 1, 1), some (.iconst 5, 1), some (.invokestatic 68, 3), none, none, some (.ifCond .ne 5, 3), none, none, some (.iconst (-1), 1), some (.ireturn, 1), some (.iload_n 2, 1), some (.iconst 3, 1), some (.invokestatic 68, 3), none, none, some (.ifCond .eq 16, 3), none, none, some (.iload_n 3, 1), some (.iconst 0, 1), some (.getstatic 72, 3), none, none, some (.iload_n 2, 1), some (.iaload, 1), some (.invokestatic 75, 3), none, none, some (.ifCond .ne 6, 3), none, none, some (.bipush (-2), 2), none, some (.ireturn, 1), some (.aload_n 0, 1), some (.getfield 19, 3), none, none, some (.iload_n 1, 1), some (.iload_n 2, 1), some (.invokevirtual 79, 3), none, none, some (.istore 4, 2), none, some (.aload_n 0, 1), some (.getfield 19, 3), none, none, some (.getfield 83, 3), none, none, some (.iload_n 2, 1), some (.iconst 5, 1), some (.imul, 1), some (.iload_n 1, 1), some (.iadd, 1), some (.iload_n 3, 1), some (.iastore, 1), some (.aload_n 0, 1), some (.getfield 45, 3), none, none, some (.invokevirtual 86, 3), none, none, some (.iload 4, 2), none, some (.ireturn, 1)]
def xt48 : List (Option (Instr × Nat)) := [some (.iload_n 1, 1), some (.iconst 5, 1), some (.invokestatic 68, 3), none, none, some (.ifCond .ne 5, 3), none, none, some (.iconst (-1), 1), some (.ireturn, 1), some (.iload_n 2, 1), some (.iconst 0, 1), some (.bipush 9, 2), none, some (.invokestatic 75, 3), none, none, some (.ifCond .ne 6, 3), none, none, some (.bipush (-2), 2), none, some (.ireturn, 1), some (.aload_n 0, 1), some (.getfield 19, 3), none, none, some (.getfield 89, 3), none, none, some (.iload_n 1, 1), some (.iaload, 1), some (.istore_n 3, 1), some (.aload_n 0, 1), some (.getfield 19, 3), none, none, some (.getfield 89, 3), none, none, some (.iload_n 1, 1), some (.iload_n 2, 1), some (.iastore, 1), some (.aload_n 0, 1), some (.getfield 45, 3), none, none, some (.invokevirtual 86, 3), none, none, some (.iload_n 3, 1), some (.ireturn, 1)]
def xt49 : List (Option (Instr × Nat)) := [some (.iload_n 1, 1), some (.bipush 33, 2), none, some (.bipush 126, 2), none, some (.invokestatic 75, 3), none, none, some (.ifCond .ne 6, 3), none, none, some (.bipush (-2), 2), none, some (.ireturn, 1), some (.aload_n 0, 1), some (.getfield 12, 3), none, none, some (.iload_n 1, 1), some (.invokevirtual 60, 3), none, none, some (.ifCond .eq 13, 3), none, none, some (.aload_n 0, 1), some (.getfield 12, 3), none, none, some (.getfield 92, 3), none, none, some (.goto 5, 3), none, none, some (.bipush (-4), 2), none, some (.ireturn, 1)]
def xt50 : List (Option (Instr × Nat)) := [some (.aload_n 0, 1), some (.getfield 12, 3), none, none, some (.getfield 92, 3), none, none, some (.istore_n 1, 1), some (.aload_n 0, 1), some (.getfield 12, 3), none, none, some (.iconst 0, 1), some (.putfield 92, 3), none, none, some (.iload_n 1, 1), some (.ireturn, 1)]
def xt51 : List (Option (Instr × Nat)) := [some (.iload_n 1, 1), some (.iconst 2, 1), some (.invokestatic 68, 3), none, none, some (.ifCond .ne 6, 3), none, none, some (.bipush (-2), 2), none, some (.ireturn, 1), some (.iload_n 1, 1), some (.ifCond .ne 13, 3), none, none, some (.aload_n 0, 1), some (.getfield 12, 3), none, none, some (.invokevirtual 96, 3), none, none, some (.goto 10, 3), none, none, some (.aload_n 0, 1), some (.getfield 12, 3), none, none, some (.invokevirtual 100, 3), none, none, some (.ireturn, 1)]
def xt52 : List (Option (Instr × Nat)) := [some (.aload_n 0, 1), some (.getfield 12, 3), none, none, some (.invokevirtual 96, 3), none, none, some (.bipush (-6), 2), none, some (.if_icmp .eq 6, 3), none, none, some (.bipush (-5), 2), none, some (.ireturn, 1), some (.aload_n 0, 1), some (.getfield 12, 3), none, none, some (.aload_n 0, 1), some (.getfield 19, 3), none, none, some (.invokevirtual 103, 3), none, none, some (.aload_n 0, 1), some (.getfield 19, 3), none, none, some (.invokevirtual 106, 3), none, none, some (.invokestatic 109, 3), none, none, some (.ireturn, 1)]
def xt53 : List (Option (Instr × Nat)) := [some (.iload_n 1, 1), some (.iconst 5, 1), some (.invokestatic 68, 3), none, none, some (.ifCond .eq 15, 3), none, none, some (.aload_n 0, 1), some (.getfield 19, 3), none, none, some (.getfield 115, 3), none, none, some (.iload_n 1, 1), some (.iaload, 1), some (.goto 4, 3), none, none, some (.iconst (-1), 1), some (.ireturn, 1)]
def xt54 : List (Option (Instr × Nat)) := [some (.iload_n 1, 1), some (.iconst 5, 1), some (.invokestatic 68, 3), none, none, some (.ifCond .ne 5, 3), none, none, some (.iconst (-1), 1), some (.ireturn, 1), some (.iload_n 2, 1), some (.iconst 0, 1), some (.bipush 18, 2), none, some (.invokestatic 75, 3), none, none, some (.ifCond .ne 6, 3), none, none, some (.bipush (-2), 2), none, some (.ireturn, 1), some (.aload_n 0, 1), some (.getfield 36, 3), none, none, some (.aload_n 0, 1), some (.getfield 19, 3), none, none, some (.getfield 115, 3), none, none, some (.invokevirtual 118, 3), none, none, some (.aload_n 0, 1), some (.getfield 36, 3), none, none, some (.iload_n 1, 1), some (.iload_n 2, 1), some (.invokevirtual 122, 3), none, none, some (.ireturn, 1)]
def xt55 : List (Option (Instr × Nat)) := [some (.iload_n 1, 1), some (.iconst 4, 1), some (.invokestatic 68, 3), none, none, some (.ifCond .ne 5, 3), none, none, some (.iconst (-1), 1), some (.ireturn, 1), some (.iload_n 2, 1), some (.bipush 6, 2), none, some (.invokestatic 68, 3), none, none, some (.ifCond .eq 20, 3), none, none, some (.iload_n 3, 1), some (.getstatic 125, 3), none, none, some (.iload_n 2, 1), some (.iaload, 1), some (.getstatic 128, 3), none, none, some (.iload_n 2, 1), some (.iaload, 1), some (.invokestatic 75, 3), none, none, some (.ifCond .ne 6, 3), none, none, some (.bipush (-2), 2), none, some (.ireturn, 1), some (.aload_n 0, 1), some (.getfield 19, 3), none, none, some (.iload_n 1, 1), some (.iload_n 2, 1), some (.invokevirtual 131, 3), none, none, some (.istore 4, 2), none, some (.aload_n 0, 1), some (.getfield 19, 3), none, none, some (.getfield 134, 3), none, none, some (.iload_n 1, 1), some (.bipush 6, 2), none, some (.imul, 1), some (.iload_n 2, 1), some (.iadd, 1), some (.iload_n 3, 1), some (.iastore, 1), some (.aload_n 0, 1), some (.getfield 45, 3), none, none, some (.invokevirtual 86, 3), none, none, some (.iload 4, 2), none, some (.ireturn, 1)]
def xt56 : List (Option (Instr × Nat)) := [some (.iload_n 1, 1), some (.iconst 2, 1), some (.invokestatic 68, 3), none, none, some (.ifCond .ne 6, 3), none, none, some (.bipush (-2), 2), none, some (.ireturn, 1), some (.aload_n 0, 1), some (.getfield 12, 3), none, none, some (.invokevirtual 100, 3), none, none, some (.bipush (-6), 2), none, some (.if_icmp .eq 6, 3), none, none, some (.bipush (-5), 2), none, some (.ireturn, 1), some (.aload_n 0, 1), some (.getfield 12, 3), none, none, some (.getfield 92, 3), none, none, some (.istore_n 2, 1), some (.aload_n 0, 1), some (.getfield 12, 3), none, none, some (.aload_n 0, 1), some (.getfield 19, 3), none, none, some (.iload_n 1, 1), some (.invokevirtual 64, 3), none, none, some (.aload_n 0, 1), some (.getfield 45, 3), none, none, some (.invokevirtual 86, 3), none, none, some (.iload_n 2, 1), some (.ireturn, 1)]
def xt57 : List (Option (Instr × Nat)) := [some (.iload_n 1, 1), some (.iconst 2, 1), some (.invokestatic 68, 3), none, none, some (.ifCond .eq 21, 3), none, none, some (.iload_n 2, 1), some (.iconst 0, 1), some (.iconst 4, 1), some (.invokestatic 75, 3), none, none, some (.ifCond .eq 12, 3), none, none, some (.iload_n 3, 1), some (.iconst 0, 1), some (.iconst 1, 1), some (.invokestatic 75, 3), none, none, some (.ifCond .ne 6, 3), none, none, some (.bipush (-2), 2), none, some (.ireturn, 1), some (.aload_n 0, 1), some (.getfield 19, 3), none, none, some (.iload_n 1, 1), some (.iload_n 2, 1), some (.iload_n 3, 1), some (.invokevirtual 137, 3), none, none, some (.ireturn, 1)]
def xt58 : List (Option (Instr × Nat)) := [some (.iload_n 1, 1), some (.iconst 4, 1), some (.invokestatic 68, 3), none, none, some (.ifCond .ne 5, 3), none, none, some (.iconst (-1), 1), some (.ireturn, 1), some (.iload_n 2, 1), some (.bipush 32, 2), none, some (.invokestatic 68, 3), none, none, some (.ifCond .ne 6, 3), none, none, some (.bipush (-2), 2), none, some (.ireturn, 1), some (.aload_n 0, 1), some (.getfield 36, 3), none, none, some (.aload_n 0, 1), some (.getfield 19, 3), none, none, some (.getfield 115, 3), none, none, some (.invokevirtual 118, 3), none, none, some (.aload_n 0, 1), some (.getfield 36, 3), none, none, some (.iload_n 1, 1), some (.iconst 0, 1), some (.invokevirtual 141, 3), none, none, some (.aload_n 0, 1), some (.getfield 36, 3), none, none, some (.getfield 145, 3), none, none, some (.iload_n 2, 1), some (.iaload, 1), some (.ireturn, 1)]
def xt59 : List (Option (Instr × Nat)) := [some (.iload_n 1, 1), some (.iconst 4, 1), some (.invokestatic 68, 3), none, none, some (.ifCond .eq 11, 3), none, none, some (.iload_n 2, 1), some (.iconst 5, 1), some (.invokestatic 68, 3), none, none, some (.ifCond .ne 5, 3), none, none, some (.iconst (-1), 1), some (.ireturn, 1), some (.aload_n 0, 1), some (.getfield 36, 3), none, none, some (.aload_n 0, 1), some (.getfield 19, 3), none, none, some (.getfield 115, 3), none, none, some (.invokevirtual 118, 3), none, none, some (.aload_n 0, 1), some (.getfield 36, 3), none, none, some (.iload_n 1, 1), some (.iconst 0, 1), some (.invokevirtual 141, 3), none, none, some (.aload_n 0, 1), some (.getfield 36, 3), none, none, some (.iload_n 2, 1), some (.invokevirtual 148, 3), none, none, some (.ireturn, 1)]
def xt60 : List (Option (Instr × Nat)) := [some (.iload_n 1, 1), some (.iconst 4, 1), some (.invokestatic 68, 3), none, none, some (.ifCond .ne 5, 3), none, none, some (.iconst (-1), 1), some (.ireturn, 1), some (.iload_n 2, 1), some (.iconst 3, 1), some (.invokestatic 68, 3), none, none, some (.ifCond .ne 6, 3), none, none, some (.bipush (-2), 2), none, some (.ireturn, 1), some (.aload_n 0, 1), some (.getfield 36, 3), none, none, some (.aload_n 0, 1), some (.getfield 19, 3), none, none, some (.getfield 115, 3), none, none, some (.invokevirtual 118, 3), none, none, some (.aload_n 0, 1), some (.getfield 36, 3), none, none, some (.iload_n 1, 1), some (.iconst 0, 1), some (.invokevirtual 141, 3), none, none, some (.aload_n 0, 1), some (.getfield 36, 3), none, none, some (.iload_n 1, 1), some (.invokevirtual 151, 3), none, none, some (.iload_n 2, 1), some (.ifCond .ne 13, 3), none, none, some (.aload_n 0, 1), some (.getfield 36, 3), none, none, some (.getfield 155, 3), none, none, some (.goto 25, 3), none, none, some (.iload_n 2, 1), some (.iconst 1, 1), some (.if_icmp .ne 13, 3), none, none, some (.aload_n 0, 1), some (.getfield 36, 3), none, none, some (.getfield 158, 3), none, none, some (.goto 10, 3), none, none, some (.aload_n 0, 1), some (.getfield 36, 3), none, none, some (.getfield 161, 3), none, none, some (.ireturn, 1)]
def xt61 : List (Option (Instr × Nat)) := [some (.aload_n 0, 1), some (.getfield 36, 3), none, none, some (.aload_n 0, 1), some (.getfield 19, 3), none, none, some (.getfield 115, 3), none, none, some (.iconst 0, 1), some (.invokevirtual 164, 3), none, none, some (.ireturn, 1)]
def xt62 : List (Option (Instr × Nat)) := [some (.iload_n 1, 1), some (.iconst 0, 1), some (.bipush 99, 2), none, some (.invokestatic 75, 3), none, none, some (.ifCond .ne 6, 3), none, none, some (.bipush (-2), 2), none, some (.ireturn, 1), some (.aload_n 0, 1), some (.getfield 19, 3), none, none, some (.getfield 168, 3), none, none, some (.istore_n 2, 1), some (.aload_n 0, 1), some (.getfield 19, 3), none, none, some (.iload_n 1, 1), some (.putfield 168, 3), none, none, some (.aload_n 0, 1), some (.getfield 45, 3), none, none, some (.invokevirtual 86, 3), none, none, some (.iload_n 2, 1), some (.ireturn, 1)]
def xt63 : List (Option (Instr × Nat)) := [some (.iload_n 2, 1), some (.iconst (-1), 1), some (.if_icmp .eq 13, 3), none, none, some (.iload_n 2, 1), some (.iconst 5, 1), some (.invokestatic 68, 3), none, none, some (.ifCond .ne 5, 3), none, none, some (.iconst (-1), 1), some (.ireturn, 1), some (.iload_n 1, 1), some (.bipush 32, 2), none, some (.invokestatic 68, 3), none, none, some (.ifCond .ne 6, 3), none, none, some (.bipush (-2), 2), none, some (.ireturn, 1), some (.aload_n 0, 1), some (.getfield 45, 3), none, none, some (.iload_n 1, 1), some (.iconst 0, 1), some (.bipush (-6), 2), none, some (.invokevirtual 171, 3), none, none, some (.istore_n 3, 1), some (.iload_n 2, 1), some (.iconst (-1), 1), some (.if_icmp .ne 14, 3), none, none, some (.aload_n 0, 1), some (.getfield 45, 3), none, none, some (.iload_n 3, 1), some (.invokevirtual 174, 3), none, none, some (.goto 12, 3), none, none, some (.aload_n 0, 1), some (.getfield 45, 3), none, none, some (.iload_n 3, 1), some (.iload_n 2, 1), some (.invokevirtual 177, 3), none, none, some (.ireturn, 1)]
def xt64 : List (Option (Instr × Nat)) := [some (.iload_n 1, 1), some (.iconst 0, 1), some (.iconst 5, 1), some (.invokestatic 75, 3), none, none, some (.ifCond .ne 6, 3), none, none, some (.bipush (-2), 2), none, some (.ireturn, 1), some (.aload_n 0, 1), some (.getfield 45, 3), none, none, some (.aload_n 0, 1), some (.getfield 45, 3), none, none, some (.bipush 31, 2), none, some (.iconst 0, 1), some (.iload_n 1, 1), some (.invokevirtual 171, 3), none, none, some (.invokevirtual 174, 3), none, none, some (.ireturn, 1)]
def xt65 : List (Option (Instr × Nat)) := [some (.iload_n 1, 1), some (.iconst 3, 1), some (.invokestatic 68, 3), none, none, some (.ifCond .ne 6, 3), none, none, some (.bipush (-2), 2), none, some (.ireturn, 1), some (.aload_n 0, 1), some (.getfield 45, 3), none, none, some (.aload_n 0, 1), some (.getfield 19, 3), none, none, some (.getfield 115, 3), none, none, some (.invokevirtual 180, 3), none, none, some (.iload_n 1, 1), some (.ifCond .ne 11, 3), none, none, some (.aload_n 0, 1), some (.getfield 45, 3), none, none, some (.getfield 183, 3), none, none, some (.ireturn, 1), some (.iload_n 1, 1), some (.iconst 1, 1), some (.if_icmp .ne 13, 3), none, none, some (.aload_n 0, 1), some (.getfield 45, 3), none, none, some (.getfield 186, 3), none, none, some (.goto 15, 3), none, none, some (.aload_n 0, 1), some (.invokevirtual 189, 3), none, none, some (.aload_n 0, 1), some (.getfield 45, 3), none, none, some (.getfield 186, 3), none, none, some (.isub, 1), some (.ireturn, 1)]
def xt66 : List (Option (Instr × Nat)) := [some (.iload_n 2, 1), some (.iconst (-1), 1), some (.if_icmp .eq 9, 3), none, none, some (.iload_n 2, 1), some (.bipush (-2), 2), none, some (.if_icmp .ne 7, 3), none, none, some (.iconst 1, 1), some (.goto 4, 3), none, none, some (.iconst 0, 1), some (.istore_n 3, 1), some (.iload_n 1, 1), some (.iconst 5, 1), some (.invokestatic 68, 3), none, none, some (.ifCond .eq 15, 3), none, none, some (.iload_n 3, 1), some (.ifCond .ne 13, 3), none, none, some (.iload_n 2, 1), some (.iconst 5, 1), some (.invokestatic 68, 3), none, none, some (.ifCond .ne 5, 3), none, none, some (.iconst (-1), 1), some (.ireturn, 1), some (.aload_n 0, 1), some (.getfield 45, 3), none, none, some (.bipush 31, 2), none, some (.iconst 1, 1), some (.iload_n 1, 1), some (.ishl, 1), some (.bipush (-6), 2), none, some (.invokevirtual 171, 3), none, none, some (.istore 4, 2), none, some (.iload_n 3, 1), some (.ifCond .ne 14, 3), none, none, some (.aload_n 0, 1), some (.getfield 45, 3), none, none, some (.iload 4, 2), none, some (.iload_n 2, 1), some (.invokevirtual 177, 3), none, none, some (.ireturn, 1), some (.aload_n 0, 1), some (.getfield 45, 3), none, none, some (.iload 4, 2), none, some (.invokevirtual 174, 3), none, none, some (.istore 5, 2), none, some (.iload_n 2, 1), some (.iconst (-1), 1), some (.if_icmp .ne 8, 3), none, none, some (.iload 5, 2), none, some (.goto 10, 3), none, none, some (.aload_n 0, 1), some (.invokevirtual 189, 3), none, none, some (.iload 5, 2), none, some (.isub, 1), some (.ireturn, 1)]
def xt67 : List (Option (Instr × Nat)) := [some (.iload_n 1, 1), some (.iconst 0, 1), some (.bipush 100, 2), none, some (.invokestatic 75, 3), none, none, some (.ifCond .eq 11, 3), none, none, some (.aload_n 0, 1), some (.iload_n 1, 1), some (.invokevirtual 192, 3), none, none, some (.goto 5, 3), none, none, some (.bipush (-2), 2), none, some (.ireturn, 1)]
def xt68 : List (Option (Instr × Nat)) := [some (.iload_n 1, 1), some (.iconst 0, 1), some (.bipush 100, 2), none, some (.invokestatic 75, 3), none, none, some (.ifCond .ne 6, 3), none, none, some (.bipush (-2), 2), none, some (.ireturn, 1), some (.aload_n 0, 1), some (.iload_n 1, 1), some (.invokevirtual 192, 3), none, none, some (.istore_n 2, 1), some (.iload_n 2, 1), some (.bipush (-6), 2), none, some (.if_icmp .ne 7, 3), none, none, some (.iconst 0, 1), some (.goto 9, 3), none, none, some (.aload_n 0, 1), some (.iload_n 1, 1), some (.iload_n 2, 1), some (.invokevirtual 195, 3), none, none, some (.ireturn, 1)]
def xt69 : List (Option (Instr × Nat)) := [some (.aload_n 0, 1), some (.getfield 45, 3), none, none, some (.aload_n 0, 1), some (.getfield 45, 3), none, none, some (.bipush 31, 2), none, some (.iconst 0, 1), some (.bipush (-6), 2), none, some (.invokevirtual 171, 3), none, none, some (.invokevirtual 174, 3), none, none, some (.ireturn, 1)]
def xt70 : List (Option (Instr × Nat)) := [some (.aload_n 0, 1), some (.getfield 36, 3), none, none, some (.aload_n 0, 1), some (.getfield 19, 3), none, none, some (.getfield 115, 3), none, none, some (.iconst 0, 1), some (.invokevirtual 164, 3), none, none, some (.istore_n 2, 1), some (.iconst 1, 1), some (.istore_n 3, 1), some (.iload_n 3, 1), some (.bipush 9, 2), none, some (.if_icmp .gt 34, 3), none, none, some (.aload_n 0, 1), some (.getfield 36, 3), none, none, some (.aload_n 0, 1), some (.getfield 19, 3), none, none, some (.getfield 115, 3), none, none, some (.iload_n 3, 1), some (.invokevirtual 164, 3), none, none, some (.iload_n 1, 1), some (.iload_n 2, 1), some (.invokestatic 198, 3), none, none, some (.ifCond .eq 5, 3), none, none, some (.iload_n 3, 1), some (.ireturn, 1), some (.iinc 3 1, 3), none, none, some (.goto (-34), 3), none, none, some (.bipush (-6), 2), none, some (.ireturn, 1)]
def xt71 : List (Option (Instr × Nat)) := [some (.aload_n 0, 1), some (.getfield 36, 3), none, none, some (.aload_n 0, 1), some (.getfield 19, 3), none, none, some (.getfield 115, 3), none, none, some (.iconst 0, 1), some (.invokevirtual 164, 3), none, none, some (.istore_n 3, 1), some (.iconst 0, 1), some (.istore 4, 2), none, some (.iload 4, 2), none, some (.iconst 5, 1), some (.if_icmp .ge 107, 3), none, none, some (.iload 4, 2), none, some (.iconst 1, 1), some (.iadd, 1), some (.istore 5, 2), none, some (.iload 5, 2), none, some (.iconst 5, 1), some (.if_icmp .ge 89, 3), none, none, some (.aload_n 0, 1), some (.getfield 19, 3), none, none, some (.getfield 115, 3), none, none, some (.iconst 0, 1), some (.aload_n 0, 1), some (.getfield 56, 3), none, none, some (.iconst 0, 1), some (.iconst 5, 1), some (.invokestatic 201, 3), none, none, some (.aload_n 0, 1), some (.getfield 56, 3), none, none, some (.iload 4, 2), none, some (.aload_n 0, 1), some (.getfield 19, 3), none, none, some (.getfield 115, 3), none, none, some (.iload 5, 2), none, some (.iaload, 1), some (.iastore, 1), some (.aload_n 0, 1), some (.getfield 56, 3), none, none, some (.iload 5, 2), none, some (.aload_n 0, 1), some (.getfield 19, 3), none, none, some (.getfield 115, 3), none, none, some (.iload 4, 2), none, some (.iaload, 1), some (.iastore, 1), some (.aload_n 0, 1), some (.getfield 36, 3), none, none, some (.aload_n 0, 1), some (.getfield 56, 3), none, none, some (.iload_n 2, 1), some (.invokevirtual 164, 3), none, none, some (.iload_n 1, 1), some (.iload_n 3, 1), some (.invokestatic 198, 3), none, none, some (.ifCond .ne 12, 3), none, none, some (.bipush 10, 2), none, some (.iload 4, 2), none, some (.imul, 1), some (.iload 5, 2), none, some (.iadd, 1), some (.ireturn, 1), some (.iinc 5 1, 3), none, none, some (.goto (-89), 3), none, none, some (.iinc 4 1, 3), none, none, some (.goto (-107), 3), none, none, some (.bipush (-6), 2), none, some (.ireturn, 1)]
def xt72 : List (Option (Instr × Nat)) := [some (.iload_n 0, 1), some (.i2l, 1), some (.ldc2_w 207, 3), none, none, some (.lmul, 1), some (.iload_n 2, 1), some (.i2l, 1), some (.iload_n 1, 1), some (.i2l, 1), some (.lmul, 1), some (.lcmp, 1), some (.ifCond .ge 7, 3), none, none, some (.iconst 1, 1), some (.goto 4, 3), none, none, some (.iconst 0, 1), some (.ireturn, 1)]
def xt73 : List (Option (Instr × Nat)) := [some (.iload_n 1, 1), some (.bipush 11, 2), none, some (.invokestatic 68, 3), none, none, some (.ifCond .ne 5, 3), none, none, some (.iconst (-1), 1), some (.ireturn, 1), some (.iload_n 2, 1), some (.iconst 0, 1), some (.sipush 999, 3), none, none, some (.invokestatic 75, 3), none, none, some (.ifCond .ne 6, 3), none, none, some (.bipush (-2), 2), none, some (.ireturn, 1), some (.aload_n 0, 1), some (.getfield 19, 3), none, none, some (.getfield 209, 3), none, none, some (.iload_n 1, 1), some (.iaload, 1), some (.istore 4, 2), none, some (.aload_n 0, 1), some (.getfield 19, 3), none, none, some (.getfield 209, 3), none, none, some (.iload_n 1, 1), some (.iload_n 2, 1), some (.iastore, 1), some (.iconst 1, 1), some (.iload_n 1, 1), some (.ishl, 1), some (.istore 5, 2), none, some (.aload_n 0, 1), some (.getfield 19, 3), none, none, some (.iload_n 3, 1), some (.ifCond .eq 16, 3), none, none, some (.aload_n 0, 1), some (.getfield 19, 3), none, none, some (.getfield 212, 3), none, none, some (.iload 5, 2), none, some (.ior, 1), some (.goto 15, 3), none, none, some (.aload_n 0, 1), some (.getfield 19, 3), none, none, some (.getfield 212, 3), none, none, some (.iload 5, 2), none, some (.iconst (-1), 1), some (.ixor, 1), some (.iand, 1), some (.putfield 212, 3), none, none, some (.iload 4, 2), none, some (.ireturn, 1)]
def xt74 : List (Option (Instr × Nat)) := [some (.iload_n 1, 1), some (.iconst 2, 1), some (.invokestatic 68, 3), none, none, some (.ifCond .ne 7, 3), none, none, some (.ldc2_w 215, 3), none, none, some (.lreturn, 1), some (.aload_n 0, 1), some (.getfield 52, 3), none, none, some (.aload_n 0, 1), some (.getfield 19, 3), none, none, some (.getfield 209, 3), none, none, some (.aload_n 0, 1), some (.getfield 19, 3), none, none, some (.getfield 212, 3), none, none, some (.invokevirtual 217, 3), none, none, some (.iload_n 1, 1), some (.ifCond .ne 13, 3), none, none, some (.aload_n 0, 1), some (.getfield 52, 3), none, none, some (.getfield 221, 3), none, none, some (.goto 10, 3), none, none, some (.aload_n 0, 1), some (.getfield 52, 3), none, none, some (.getfield 225, 3), none, none, some (.lreturn, 1)]
def xt75 : List (Option (Instr × Nat)) := [some (.iload_n 1, 1), some (.iconst 0, 1), some (.sipush 999, 3), none, none, some (.invokestatic 75, 3), none, none, some (.ifCond .eq 36, 3), none, none, some (.iload_n 2, 1), some (.iconst 0, 1), some (.sipush 999, 3), none, none, some (.invokestatic 75, 3), none, none, some (.ifCond .eq 25, 3), none, none, some (.iload_n 3, 1), some (.iconst 0, 1), some (.iload_n 1, 1), some (.iload_n 2, 1), some (.invokestatic 228, 3), none, none, some (.invokestatic 75, 3), none, none, some (.ifCond .eq 12, 3), none, none, some (.iload 4, 2), none, some (.iconst 3, 1), some (.invokestatic 68, 3), none, none, some (.ifCond .ne 6, 3), none, none, some (.bipush (-2), 2), none, some (.ireturn, 1), some (.iload_n 1, 1), some (.iload_n 2, 1), some (.iadd, 1), some (.iload_n 3, 1), some (.isub, 1), some (.istore 5, 2), none, some (.iload 4, 2), none, some (.ifCond .ne 6, 3), none, none, some (.iload 5, 2), none, some (.ireturn, 1), some (.iload_n 3, 1), some (.ifCond .ne 6, 3), none, none, some (.bipush (-6), 2), none, some (.ireturn, 1), some (.iload_n 1, 1), some (.iload_n 2, 1), some (.imul, 1), some (.iload_n 3, 1), some (.idiv, 1), some (.istore 6, 2), none, some (.iload 4, 2), none, some (.iconst 1, 1), some (.if_icmp .ne 8, 3), none, none, some (.iload 6, 2), none, some (.goto 8, 3), none, none, some (.iload 6, 2), none, some (.iload 5, 2), none, some (.isub, 1), some (.ireturn, 1)]
def xt76 : List (Option (Instr × Nat)) := [some (.iload_n 1, 1), some (.iconst 2, 1), some (.invokestatic 68, 3), none, none, some (.ifCond .ne 6, 3), none, none, some (.bipush (-2), 2), none, some (.ireturn, 1), some (.aload_n 0, 1), some (.getfield 23, 3), none, none, some (.iload_n 1, 1), some (.aaload, 1), some (.aload_n 0, 1), some (.getfield 19, 3), none, none, some (.invokevirtual 233, 3), none, none, some (.aload_n 0, 1), some (.getfield 27, 3), none, none, some (.iload_n 1, 1), some (.iconst 1, 1), some (.bastore, 1), some (.iconst 1, 1), some (.ireturn, 1)]
def xt77 : List (Option (Instr × Nat)) := [some (.iload_n 1, 1), some (.iconst 2, 1), some (.invokestatic 68, 3), none, none, some (.ifCond .ne 6, 3), none, none, some (.bipush (-2), 2), none, some (.ireturn, 1), some (.aload_n 0, 1), some (.getfield 27, 3), none, none, some (.iload_n 1, 1), some (.baload, 1), some (.ifCond .ne 6, 3), none, none, some (.bipush (-3), 2), none, some (.ireturn, 1), some (.aload_n 0, 1), some (.getfield 19, 3), none, none, some (.aload_n 0, 1), some (.getfield 23, 3), none, none, some (.iload_n 1, 1), some (.aaload, 1), some (.invokevirtual 233, 3), none, none, some (.aload_n 0, 1), some (.getfield 45, 3), none, none, some (.invokevirtual 86, 3), none, none, some (.iconst 1, 1), some (.ireturn, 1)]
def xt78 : List (Option (Instr × Nat)) := [some (.iload_n 1, 1), some (.tableswitch 63 0 3 #[31, 39, 47, 55], 31), none, none, none, none, none, none, none, none, none, none, none, none, none, none, none, none, none, none, none, none, none, none, none, none, none, none, none, none, none, none, some (.aload_n 0, 1), some (.getfield 12, 3), none, none, some (.getfield 92, 3), none, none, some (.ireturn, 1), some (.aload_n 0, 1), some (.getfield 19, 3), none, none, some (.invokevirtual 106, 3), none, none, some (.ireturn, 1), some (.aload_n 0, 1), some (.getfield 19, 3), none, none, some (.getfield 168, 3), none, none, some (.ireturn, 1), some (.aload_n 0, 1), some (.getfield 19, 3), none, none, some (.getfield 212, 3), none, none, some (.ireturn, 1), some (.aload_n 0, 1), some (.iload_n 1, 1), some (.invokevirtual 236, 3), none, none, some (.ireturn, 1)]
def xt79 : List (Option (Instr × Nat)) := [some (.iload_n 1, 1), some (.bipush 50, 2), none, some (.bipush 73, 2), none, some (.invokestatic 75, 3), none, none, some (.ifCond .eq 16, 3), none, none, some (.aload_n 0, 1), some (.getfield 19, 3), none, none, some (.getfield 134, 3), none, none, some (.iload_n 1, 1), some (.bipush 50, 2), none, some (.isub, 1), some (.iaload, 1), some (.ireturn, 1), some (.iload_n 1, 1), some (.bipush 10, 2), none, some (.idiv, 1), some (.istore_n 2, 1), some (.iload_n 1, 1), some (.bipush 10, 2), none, some (.irem, 1), some (.istore_n 3, 1), some (.iload_n 2, 1), some (.iconst 1, 1), some (.iconst 4, 1), some (.invokestatic 75, 3), none, none, some (.ifCond .eq 11, 3), none, none, some (.iload_n 3, 1), some (.iconst 5, 1), some (.invokestatic 68, 3), none, none, some (.ifCond .ne 6, 3), none, none, some (.bipush (-2), 2), none, some (.ireturn, 1), some (.iload_n 2, 1), some (.iconst 4, 1), some (.if_icmp .ne 15, 3), none, none, some (.aload_n 0, 1), some (.getfield 19, 3), none, none, some (.getfield 89, 3), none, none, some (.iload_n 3, 1), some (.iaload, 1), some (.goto 14, 3), none, none, some (.aload_n 0, 1), some (.getfield 19, 3), none, none, some (.iload_n 3, 1), some (.iload_n 2, 1), some (.iconst 1, 1), some (.isub, 1), some (.invokevirtual 79, 3), none, none, some (.ireturn, 1)]
def xt80 : List (Option (Instr × Nat)) := [some (.iload_n 0, 1), some (.ifCond .lt 12, 3), none, none, some (.iload_n 0, 1), some (.iload_n 1, 1), some (.if_icmp .ge 7, 3), none, none, some (.iconst 1, 1), some (.goto 4, 3), none, none, some (.iconst 0, 1), some (.ireturn, 1)]
def xt81 : List (Option (Instr × Nat)) := [some (.iload_n 0, 1), some (.iload_n 1, 1), some (.if_icmp .lt 12, 3), none, none, some (.iload_n 0, 1), some (.iload_n 2, 1), some (.if_icmp .gt 7, 3), none, none, some (.iconst 1, 1), some (.goto 4, 3), none, none, some (.iconst 0, 1), some (.ireturn, 1)]
def xt82 : List (Option (Instr × Nat)) := [some (.aload_n 0, 1), some (.invokespecial 1, 3), none, none, some (.aload_n 0, 1), some (.bipush 15, 2), none, some (.newarray .int, 2), none, some (.putfield 7, 3), none, none, some (.aload_n 0, 1), some (.iconst 5, 1), some (.newarray .int, 2), none, some (.putfield 13, 3), none, none, some (.aload_n 0, 1), some (.bipush 40, 2), none, some (.newarray .int, 2), none, some (.putfield 16, 3), none, none, some (.aload_n 0, 1), some (.iconst 5, 1), some (.newarray .int, 2), none, some (.putfield 19, 3), none, none, some (.aload_n 0, 1), some (.bipush 24, 2), none, some (.newarray .int, 2), none, some (.putfield 22, 3), none, none, some (.aload_n 0, 1), some (.iconst 2, 1), some (.newarray .int, 2), none, some (.putfield 25, 3), none, none, some (.aload_n 0, 1), some (.bipush 30, 2), none, some (.newarray .int, 2), none, some (.putfield 28, 3), none, none, some (.aload_n 0, 1), some (.iconst 2, 1), some (.putfield 31, 3), none, none, some (.aload_n 0, 1), some (.bipush 11, 2), none, some (.newarray .int, 2), none, some (.putfield 35, 3), none, none, some (.aload_n 0, 1), some (.bipush 11, 2), none, some (.newarray .boolean, 2), none, some (.putfield 38, 3), none, none, some (.aload_n 0, 1), some (.bipush 7, 2), none, some (.newarray .int, 2), none, some (.putfield 42, 3), none, none, some (.aload_n 0, 1), some (.iconst 5, 1), some (.newarray .int, 2), none, some (.putfield 45, 3), none, none, some (.aload_n 0, 1), some (.iconst 5, 1), some (.newarray .int, 2), none, some (.putfield 48, 3), none, none, some (.aload_n 0, 1), some (.bipush 16, 2), none, some (.newarray .long, 2), none, some (.putfield 51, 3), none, none, some (.aload_n 0, 1), some (.bipush 32, 2), none, some (.newarray .int, 2), none, some (.putfield 55, 3), none, none, some (.aload_n 0, 1), some (.bipush 32, 2), none, some (.newarray .int, 2), none, some (.putfield 58, 3), none, none, some (.aload_n 0, 1), some (.bipush 12, 2), none, some (.newarray .int, 2), none, some (.putfield 61, 3), none, none, some (.aload_n 0, 1), some (.bipush 12, 2), none, some (.newarray .int, 2), none, some (.putfield 64, 3), none, none, some (.aload_n 0, 1), some (.sipush 7776, 3), none, none, some (.newarray .int, 2), none, some (.putfield 67, 3), none, none, some (.aload_n 0, 1), some (.sipush 260, 3), none, none, some (.newarray .int, 2), none, some (.putfield 70, 3), none, none, some (.aload_n 0, 1), some (.iconst 2, 1), some (.newarray .boolean, 2), none, some (.putfield 73, 3), none, none, some (.iconst 0, 1), some (.istore_n 1, 1), some (.iload_n 1, 1), some (.iconst 5, 1), some (.if_icmp .ge 33, 3), none, none, some (.aload_n 0, 1), some (.getfield 7, 3), none, none, some (.iload_n 1, 1), some (.iconst 5, 1), some (.iastore, 1), some (.aload_n 0, 1), some (.getfield 7, 3), none, none, some (.iconst 5, 1), some (.iload_n 1, 1), some (.iadd, 1), some (.bipush 10, 2), none, some (.iastore, 1), some (.aload_n 0, 1), some (.getfield 13, 3), none, none, some (.iload_n 1, 1), some (.iconst 5, 1), some (.iastore, 1), some (.iinc 1 1, 3), none, none, some (.goto (-32), 3), none, none, some (.iconst 0, 1), some (.istore_n 1, 1), some (.iload_n 1, 1), some (.iconst 4, 1), some (.if_icmp .ge 45, 3), none, none, some (.aload_n 0, 1), some (.getfield 22, 3), none, none, some (.bipush 6, 2), none, some (.iload_n 1, 1), some (.imul, 1), some (.iconst 1, 1), some (.iadd, 1), some (.iconst 2, 1), some (.iastore, 1), some (.aload_n 0, 1), some (.getfield 22, 3), none, none, some (.bipush 6, 2), none, some (.iload_n 1, 1), some (.imul, 1), some (.iconst 2, 1), some (.iadd, 1), some (.iconst 3, 1), some (.iastore, 1), some (.aload_n 0, 1), some (.getfield 22, 3), none, none, some (.bipush 6, 2), none, some (.iload_n 1, 1), some (.imul, 1), some (.iconst 4, 1), some (.iadd, 1), some (.iconst 5, 1), some (.iastore, 1), some (.iinc 1 1, 3), none, none, some (.goto (-44), 3), none, none, some (.aload_n 0, 1), some (.getfield 25, 3), none, none, some (.iconst 0, 1), some (.iconst 3, 1), some (.iastore, 1), some (.aload_n 0, 1), some (.getfield 28, 3), none, none, some (.iconst 0, 1), some (.bipush 42, 2), none, some (.iastore, 1), some (.aload_n 0, 1), some (.getfield 28, 3), none, none, some (.iconst 1, 1), some (.bipush 115, 2), none, some (.iastore, 1), some (.aload_n 0, 1), some (.getfield 28, 3), none, none, some (.iconst 2, 1), some (.bipush 104, 2), none, some (.iastore, 1), some (.aload_n 0, 1), some (.getfield 25, 3), none, none, some (.iconst 1, 1), some (.iconst 1, 1), some (.iastore, 1), some (.aload_n 0, 1), some (.getfield 28, 3), none, none, some (.bipush 15, 2), none, some (.bipush 104, 2), none, some (.iastore, 1), some (.return_, 1)]
def xt83 : List (Option (Instr × Nat)) := [some (.iload_n 0, 1), some (.iload_n 1, 1), some (.if_icmp .lt 12, 3), none, none, some (.iload_n 0, 1), some (.iload_n 2, 1), some (.if_icmp .gt 7, 3), none, none, some (.iconst 1, 1), some (.goto 4, 3), none, none, some (.iconst 0, 1), some (.ireturn, 1)]
def xt84 : List (Option (Instr × Nat)) := [some (.iload_n 0, 1), some (.iconst 0, 1), some (.iconst 4, 1), some (.invokestatic 76, 3), none, none, some (.ireturn, 1)]
def xt85 : List (Option (Instr × Nat)) := [some (.iload_n 1, 1), some (.invokestatic 80, 3), none, none, some (.ifCond .ne 5, 3), none, none, some (.iconst (-1), 1), some (.ireturn, 1), some (.iload_n 2, 1), some (.iconst 0, 1), some (.iconst 2, 1), some (.invokestatic 76, 3), none, none, some (.ifCond .eq 31, 3), none, none, some (.iload_n 3, 1), some (.iconst 0, 1), some (.iload_n 2, 1), some (.ifCond .ne 8, 3), none, none, some (.bipush 9, 2), none, some (.goto 14, 3), none, none, some (.iload_n 2, 1), some (.iconst 1, 1), some (.if_icmp .ne 8, 3), none, none, some (.bipush 99, 2), none, some (.goto 4, 3), none, none, some (.iconst 2, 1), some (.invokestatic 76, 3), none, none, some (.ifCond .ne 6, 3), none, none, some (.bipush (-2), 2), none, some (.ireturn, 1), some (.aload_n 0, 1), some (.getfield 7, 3), none, none, some (.iconst 5, 1), some (.iload_n 2, 1), some (.imul, 1), some (.iload_n 1, 1), some (.iadd, 1), some (.iaload, 1), some (.istore 4, 2), none, some (.aload_n 0, 1), some (.getfield 7, 3), none, none, some (.iconst 5, 1), some (.iload_n 2, 1), some (.imul, 1), some (.iload_n 1, 1), some (.iadd, 1), some (.iload_n 3, 1), some (.iastore, 1), some (.aload_n 0, 1), some (.iconst 0, 1), some (.putfield 84, 3), none, none, some (.iload 4, 2), none, some (.ireturn, 1)]
def xt86 : List (Option (Instr × Nat)) := [some (.iload_n 1, 1), some (.invokestatic 80, 3), none, none, some (.ifCond .ne 5, 3), none, none, some (.iconst (-1), 1), some (.ireturn, 1), some (.iload_n 2, 1), some (.iconst 0, 1), some (.bipush 9, 2), none, some (.invokestatic 76, 3), none, none, some (.ifCond .ne 6, 3), none, none, some (.bipush (-2), 2), none, some (.ireturn, 1), some (.aload_n 0, 1), some (.getfield 13, 3), none, none, some (.iload_n 1, 1), some (.iaload, 1), some (.istore_n 3, 1), some (.aload_n 0, 1), some (.getfield 13, 3), none, none, some (.iload_n 1, 1), some (.iload_n 2, 1), some (.iastore, 1), some (.aload_n 0, 1), some (.iconst 0, 1), some (.putfield 84, 3), none, none, some (.iload_n 3, 1), some (.ireturn, 1)]
def xt87 : List (Option (Instr × Nat)) := [some (.iload_n 1, 1), some (.bipush 33, 2), none, some (.bipush 126, 2), none, some (.invokestatic 76, 3), none, none, some (.ifCond .ne 6, 3), none, none, some (.bipush (-2), 2), none, some (.ireturn, 1), some (.aload_n 0, 1), some (.getfield 88, 3), none, none, some (.bipush 40, 2), none, some (.if_icmp .ne 6, 3), none, none, some (.bipush (-4), 2), none, some (.ireturn, 1), some (.aload_n 0, 1), some (.getfield 16, 3), none, none, some (.aload_n 0, 1), some (.getfield 88, 3), none, none, some (.iload_n 1, 1), some (.iastore, 1), some (.aload_n 0, 1), some (.dup, 1), some (.getfield 88, 3), none, none, some (.iconst 1, 1), some (.iadd, 1), some (.putfield 88, 3), none, none, some (.aload_n 0, 1), some (.getfield 88, 3), none, none, some (.ireturn, 1)]
def xt88 : List (Option (Instr × Nat)) := [some (.aload_n 0, 1), some (.getfield 88, 3), none, none, some (.istore_n 1, 1), some (.aload_n 0, 1), some (.iconst 0, 1), some (.putfield 88, 3), none, none, some (.iload_n 1, 1), some (.ireturn, 1)]
def xt89 : List (Option (Instr × Nat)) := [some (.iconst 0, 1), some (.istore_n 1, 1), some (.iconst 0, 1), some (.istore_n 2, 1), some (.iload_n 2, 1), some (.aload_n 0, 1), some (.getfield 88, 3), none, none, some (.if_icmp .ge 78, 3), none, none, some (.aload_n 0, 1), some (.getfield 16, 3), none, none, some (.iload_n 2, 1), some (.iaload, 1), some (.bipush 97, 2), none, some (.bipush 101, 2), none, some (.invokestatic 76, 3), none, none, some (.istore_n 3, 1), some (.iload_n 3, 1), some (.ifCond .eq 17, 3), none, none, some (.iconst 1, 1), some (.aload_n 0, 1), some (.getfield 16, 3), none, none, some (.iload_n 2, 1), some (.iaload, 1), some (.bipush 97, 2), none, some (.isub, 1), some (.ishl, 1), some (.goto 4, 3), none, none, some (.iconst 0, 1), some (.istore 4, 2), none, some (.iload_n 2, 1), some (.iconst 5, 1), some (.if_icmp .eq 25, 3), none, none, some (.iload_n 3, 1), some (.ifCond .ne 14, 3), none, none, some (.aload_n 0, 1), some (.getfield 16, 3), none, none, some (.iload_n 2, 1), some (.iaload, 1), some (.bipush 45, 2), none, some (.if_icmp .ne 10, 3), none, none, some (.iload_n 1, 1), some (.iload 4, 2), none, some (.iand, 1), some (.ifCond .eq 5, 3), none, none, some (.iload_n 2, 1), some (.ireturn, 1), some (.iload_n 1, 1), some (.iload 4, 2), none, some (.ior, 1), some (.istore_n 1, 1), some (.iinc 2 1, 3), none, none, some (.goto (-80), 3), none, none, some (.bipush (-6), 2), none, some (.ireturn, 1)]
def xt90 : List (Option (Instr × Nat)) := [some (.iload_n 0, 1), some (.bipush 48, 2), none, some (.bipush 57, 2), none, some (.invokestatic 76, 3), none, none, some (.ifCond .ne 21, 3), none, none, some (.iload_n 0, 1), some (.bipush 115, 2), none, some (.if_icmp .eq 15, 3), none, none, some (.iload_n 0, 1), some (.bipush 119, 2), none, some (.if_icmp .eq 9, 3), none, none, some (.iload_n 0, 1), some (.bipush 104, 2), none, some (.if_icmp .ne 7, 3), none, none, some (.iconst 0, 1), some (.goto 33, 3), none, none, some (.iload_n 0, 1), some (.bipush 43, 2), none, some (.if_icmp .eq 21, 3), none, none, some (.iload_n 0, 1), some (.bipush 45, 2), none, some (.if_icmp .eq 15, 3), none, none, some (.iload_n 0, 1), some (.bipush 42, 2), none, some (.if_icmp .eq 9, 3), none, none, some (.iload_n 0, 1), some (.bipush 109, 2), none, some (.if_icmp .ne 7, 3), none, none, some (.iconst 2, 1), some (.goto 5, 3), none, none, some (.bipush (-6), 2), none, some (.ireturn, 1)]
def xt91 : List (Option (Instr × Nat)) := [some (.iconst 0, 1), some (.istore_n 1, 1), some (.iconst 0, 1), some (.istore_n 2, 1), some (.iload_n 2, 1), some (.aload_n 0, 1), some (.getfield 88, 3), none, none, some (.if_icmp .ge 159, 3), none, none, some (.aload_n 0, 1), some (.getfield 16, 3), none, none, some (.iload_n 2, 1), some (.iaload, 1), some (.invokestatic 91, 3), none, none, some (.istore_n 3, 1), some (.iload_n 2, 1), some (.bipush 15, 2), none, some (.if_icmp .eq 17, 3), none, none, some (.iload_n 3, 1), some (.ifCond .lt 13, 3), none, none, some (.iload_n 3, 1), some (.ifCond .le 11, 3), none, none, some (.iload_n 1, 1), some (.bipush 6, 2), none, some (.if_icmp .ne 5, 3), none, none, some (.iload_n 2, 1), some (.ireturn, 1), some (.iload_n 3, 1), some (.ifCond .le 16, 3), none, none, some (.aload_n 0, 1), some (.getfield 42, 3), none, none, some (.iload_n 1, 1), some (.iload_n 3, 1), some (.iastore, 1), some (.iinc 1 1, 3), none, none, some (.goto 104, 3), none, none, some (.iload_n 1, 1), some (.ifCond .le 7, 3), none, none, some (.iconst 1, 1), some (.goto 4, 3), none, none, some (.iconst 0, 1), some (.istore 4, 2), none, some (.iload 4, 2), none, some (.ifCond .eq 65, 3), none, none, some (.aload_n 0, 1), some (.getfield 42, 3), none, none, some (.iload_n 1, 1), some (.iconst 1, 1), some (.isub, 1), some (.dup2, 1), some (.iaload, 1), some (.iconst 1, 1), some (.isub, 1), some (.iastore, 1), some (.aload_n 0, 1), some (.getfield 42, 3), none, none, some (.iload_n 1, 1), some (.iconst 1, 1), some (.isub, 1), some (.iaload, 1), some (.ifCond .ne 7, 3), none, none, some (.iconst 1, 1), some (.goto 4, 3), none, none, some (.iconst 0, 1), some (.istore 4, 2), none, some (.iload_n 1, 1), some (.iload 4, 2), none, some (.ifCond .eq 7, 3), none, none, some (.iconst 1, 1), some (.goto 4, 3), none, none, some (.iconst 0, 1), some (.isub, 1), some (.istore_n 1, 1), some (.iload 4, 2), none, some (.ifCond .eq 11, 3), none, none, some (.iload_n 1, 1), some (.ifCond .le 7, 3), none, none, some (.iconst 1, 1), some (.goto 4, 3), none, none, some (.iconst 0, 1), some (.istore 4, 2), none, some (.goto (-64), 3), none, none, some (.iload_n 1, 1), some (.ifCond .ne 22, 3), none, none, some (.iload_n 2, 1), some (.iconst 1, 1), some (.iadd, 1), some (.aload_n 0, 1), some (.getfield 88, 3), none, none, some (.if_icmp .ne 8, 3), none, none, some (.bipush (-6), 2), none, some (.goto 6, 3), none, none, some (.iload_n 2, 1), some (.iconst 1, 1), some (.iadd, 1), some (.ireturn, 1), some (.iinc 2 1, 3), none, none, some (.goto (-161), 3), none, none, some (.aload_n 0, 1), some (.getfield 88, 3), none, none, some (.ireturn, 1)]
def xt92 : List (Option (Instr × Nat)) := [some (.iload_n 1, 1), some (.ifCond .ne 10, 3), none, none, some (.aload_n 0, 1), some (.invokevirtual 95, 3), none, none, some (.goto 17, 3), none, none, some (.iload_n 1, 1), some (.iconst 1, 1), some (.if_icmp .ne 10, 3), none, none, some (.aload_n 0, 1), some (.invokevirtual 99, 3), none, none, some (.goto 5, 3), none, none, some (.bipush (-2), 2), none, some (.ireturn, 1)]
def xt93 : List (Option (Instr × Nat)) := [some (.aload_n 0, 1), some (.invokevirtual 95, 3), none, none, some (.ifCond .lt 6, 3), none, none, some (.bipush (-5), 2), none, some (.ireturn, 1), some (.iconst 0, 1), some (.istore_n 1, 1), some (.iconst 0, 1), some (.istore_n 2, 1), some (.iload_n 2, 1), some (.iconst 5, 1), some (.if_icmp .ge 66, 3), none, none, some (.aload_n 0, 1), some (.getfield 19, 3), none, none, some (.iload_n 2, 1), some (.iload_n 2, 1), some (.aload_n 0, 1), some (.getfield 88, 3), none, none, some (.if_icmp .ge 28, 3), none, none, some (.aload_n 0, 1), some (.getfield 16, 3), none, none, some (.iload_n 2, 1), some (.iaload, 1), some (.bipush 45, 2), none, some (.if_icmp .eq 17, 3), none, none, some (.aload_n 0, 1), some (.getfield 16, 3), none, none, some (.iload_n 2, 1), some (.iaload, 1), some (.bipush 97, 2), none, some (.isub, 1), some (.iconst 1, 1), some (.iadd, 1), some (.goto 4, 3), none, none, some (.iconst 0, 1), some (.iastore, 1), some (.iload_n 1, 1), some (.aload_n 0, 1), some (.getfield 19, 3), none, none, some (.iload_n 2, 1), some (.iaload, 1), some (.ifCond .le 7, 3), none, none, some (.iconst 1, 1), some (.goto 4, 3), none, none, some (.iconst 0, 1), some (.iadd, 1), some (.istore_n 1, 1), some (.iinc 2 1, 3), none, none, some (.goto (-65), 3), none, none, some (.aload_n 0, 1), some (.iconst 0, 1), some (.putfield 88, 3), none, none, some (.iload_n 1, 1), some (.ireturn, 1)]
def xt94 : List (Option (Instr × Nat)) := [some (.iload_n 1, 1), some (.invokestatic 80, 3), none, none, some (.ifCond .ne 7, 3), none, none, some (.iconst (-1), 1), some (.goto 25, 3), none, none, some (.aload_n 0, 1), some (.getfield 19, 3), none, none, some (.iload_n 1, 1), some (.iaload, 1), some (.ifCond .ne 8, 3), none, none, some (.bipush (-6), 2), none, some (.goto 11, 3), none, none, some (.aload_n 0, 1), some (.getfield 19, 3), none, none, some (.iload_n 1, 1), some (.iaload, 1), some (.iconst 1, 1), some (.isub, 1), some (.ireturn, 1)]
def xt95 : List (Option (Instr × Nat)) := [some (.iload_n 1, 1), some (.ifCond .lt 17, 3), none, none, some (.iload_n 1, 1), some (.iconst 4, 1), some (.if_icmp .gt 12, 3), none, none, some (.aload_n 0, 1), some (.getfield 45, 3), none, none, some (.iload_n 1, 1), some (.iaload, 1), some (.ifCond .ne 7, 3), none, none, some (.iconst 0, 1), some (.goto 17, 3), none, none, some (.aload_n 0, 1), some (.getfield 7, 3), none, none, some (.bipush 9, 2), none, some (.aload_n 0, 1), some (.getfield 45, 3), none, none, some (.iload_n 1, 1), some (.iaload, 1), some (.iadd, 1), some (.iaload, 1), some (.ireturn, 1)]
def xt96 : List (Option (Instr × Nat)) := [some (.aload_n 0, 1), some (.getfield 45, 3), none, none, some (.iload_n 1, 1), some (.iaload, 1), some (.ifCond .ne 5, 3), none, none, some (.iconst 0, 1), some (.ireturn, 1), some (.iconst 0, 1), some (.istore_n 3, 1), some (.iconst 0, 1), some (.istore 4, 2), none, some (.iload 4, 2), none, some (.iconst 5, 1), some (.if_icmp .ge 27, 3), none, none, some (.iload_n 3, 1), some (.aload_n 0, 1), some (.getfield 45, 3), none, none, some (.iload 4, 2), none, some (.iaload, 1), some (.ifCond .le 7, 3), none, none, some (.iconst 1, 1), some (.goto 4, 3), none, none, some (.iconst 0, 1), some (.iadd, 1), some (.istore_n 3, 1), some (.iinc 4 1, 3), none, none, some (.goto (-27), 3), none, none, some (.aload_n 0, 1), some (.getfield 7, 3), none, none, some (.aload_n 0, 1), some (.getfield 45, 3), none, none, some (.iload_n 1, 1), some (.iaload, 1), some (.iconst 1, 1), some (.isub, 1), some (.iaload, 1), some (.aload_n 0, 1), some (.getfield 13, 3), none, none, some (.iload_n 1, 1), some (.iaload, 1), some (.imul, 1), some (.istore 4, 2), none, some (.iload 4, 2), none, some (.aload_n 0, 1), some (.iload_n 1, 1), some (.iconst 1, 1), some (.isub, 1), some (.invokevirtual 102, 3), none, none, some (.iconst 2, 1), some (.if_icmp .ne 8, 3), none, none, some (.bipush 10, 2), none, some (.goto 4, 3), none, none, some (.iconst 0, 1), some (.iadd, 1), some (.istore 4, 2), none, some (.iload 4, 2), none, some (.aload_n 0, 1), some (.iload_n 1, 1), some (.iconst 1, 1), some (.iadd, 1), some (.invokevirtual 102, 3), none, none, some (.iconst 1, 1), some (.if_icmp .ne 8, 3), none, none, some (.bipush 10, 2), none, some (.goto 4, 3), none, none, some (.iconst 0, 1), some (.iadd, 1), some (.istore 4, 2), none, some (.iload 4, 2), none, some (.iload_n 3, 1), some (.iconst 3, 1), some (.if_icmp .le 11, 3), none, none, some (.iconst 3, 1), some (.iload_n 3, 1), some (.iconst 3, 1), some (.isub, 1), some (.imul, 1), some (.goto 4, 3), none, none, some (.iconst 0, 1), some (.isub, 1), some (.istore 4, 2), none, some (.iload 4, 2), none, some (.iconst 1, 1), some (.if_icmp .ge 7, 3), none, none, some (.iconst 1, 1), some (.goto 5, 3), none, none, some (.iload 4, 2), none, some (.istore 4, 2), none, some (.iload 4, 2), none, some (.iconst 1, 1), some (.iload_n 2, 1), some (.iadd, 1), some (.idiv, 1), some (.istore 4, 2), none, some (.iload 4, 2), none, some (.iconst 1, 1), some (.if_icmp .ge 7, 3), none, none, some (.iconst 1, 1), some (.goto 5, 3), none, none, some (.iload 4, 2), none, some (.ireturn, 1)]
def xt97 : List (Option (Instr × Nat)) := [some (.iconst 0, 1), some (.istore_n 1, 1), some (.iload_n 1, 1), some (.iconst 5, 1), some (.if_icmp .ge 21, 3), none, none, some (.aload_n 0, 1), some (.getfield 45, 3), none, none, some (.iload_n 1, 1), some (.aload_n 0, 1), some (.getfield 19, 3), none, none, some (.iload_n 1, 1), some (.iaload, 1), some (.iastore, 1), some (.iinc 1 1, 3), none, none, some (.goto (-20), 3), none, none, some (.return_, 1)]
def xt98 : List (Option (Instr × Nat)) := [some (.iload_n 1, 1), some (.invokestatic 80, 3), none, none, some (.ifCond .ne 5, 3), none, none, some (.iconst (-1), 1), some (.ireturn, 1), some (.iload_n 2, 1), some (.iconst 0, 1), some (.bipush 18, 2), none, some (.invokestatic 76, 3), none, none, some (.ifCond .ne 6, 3), none, none, some (.bipush (-2), 2), none, some (.ireturn, 1), some (.aload_n 0, 1), some (.invokevirtual 105, 3), none, none, some (.aload_n 0, 1), some (.iload_n 1, 1), some (.iload_n 2, 1), some (.invokevirtual 108, 3), none, none, some (.ireturn, 1)]
def xt99 : List (Option (Instr × Nat)) := [some (.iload_n 0, 1), some (.iconst 1, 1), some (.if_icmp .eq 8, 3), none, none, some (.iload_n 0, 1), some (.iconst 2, 1), some (.if_icmp .ne 7, 3), none, none, some (.iconst 1, 1), some (.goto 4, 3), none, none, some (.iconst 0, 1), some (.ireturn, 1)]
def xt100 : List (Option (Instr × Nat)) := [some (.iload_n 0, 1), some (.tableswitch 50 0 5 #[39, 41, 50, 43, 50, 46], 39), none, none, none, none, none, none, none, none, none, none, none, none, none, none, none, none, none, none, none, none, none, none, none, none, none, none, none, none, none, none, none, none, none, none, none, none, none, none, some (.iconst 1, 1), some (.ireturn, 1), some (.iconst 4, 1), some (.ireturn, 1), some (.bipush 9, 2), none, some (.ireturn, 1), some (.sipush 999, 3), none, none, some (.ireturn, 1), some (.iconst 5, 1), some (.ireturn, 1)]
def xt101 : List (Option (Instr × Nat)) := [some (.iload_n 1, 1), some (.iconst 0, 1), some (.iconst 3, 1), some (.invokestatic 76, 3), none, none, some (.ifCond .ne 5, 3), none, none, some (.iconst (-1), 1), some (.ireturn, 1), some (.iload_n 2, 1), some (.iconst 0, 1), some (.iconst 5, 1), some (.invokestatic 76, 3), none, none, some (.ifCond .eq 18, 3), none, none, some (.iload_n 3, 1), some (.iload_n 2, 1), some (.invokestatic 112, 3), none, none, some (.iload_n 2, 1), some (.invokestatic 115, 3), none, none, some (.invokestatic 76, 3), none, none, some (.ifCond .ne 6, 3), none, none, some (.bipush (-2), 2), none, some (.ireturn, 1), some (.aload_n 0, 1), some (.getfield 22, 3), none, none, some (.bipush 6, 2), none, some (.iload_n 1, 1), some (.imul, 1), some (.iload_n 2, 1), some (.iadd, 1), some (.iaload, 1), some (.istore 4, 2), none, some (.aload_n 0, 1), some (.getfield 22, 3), none, none, some (.bipush 6, 2), none, some (.iload_n 1, 1), some (.imul, 1), some (.iload_n 2, 1), some (.iadd, 1), some (.iload_n 3, 1), some (.iastore, 1), some (.aload_n 0, 1), some (.iconst 0, 1), some (.putfield 84, 3), none, none, some (.iload 4, 2), none, some (.ireturn, 1)]
def xt102 : List (Option (Instr × Nat)) := [some (.iload_n 1, 1), some (.iconst 0, 1), some (.iconst 1, 1), some (.invokestatic 76, 3), none, none, some (.ifCond .ne 6, 3), none, none, some (.bipush (-2), 2), none, some (.ireturn, 1), some (.aload_n 0, 1), some (.invokevirtual 99, 3), none, none, some (.ifCond .lt 6, 3), none, none, some (.bipush (-5), 2), none, some (.ireturn, 1), some (.aload_n 0, 1), some (.getfield 25, 3), none, none, some (.iload_n 1, 1), some (.aload_n 0, 1), some (.getfield 88, 3), none, none, some (.iastore, 1), some (.iconst 0, 1), some (.istore_n 2, 1), some (.iload_n 2, 1), some (.aload_n 0, 1), some (.getfield 88, 3), none, none, some (.if_icmp .ge 26, 3), none, none, some (.aload_n 0, 1), some (.getfield 28, 3), none, none, some (.bipush 15, 2), none, some (.iload_n 1, 1), some (.imul, 1), some (.iload_n 2, 1), some (.iadd, 1), some (.aload_n 0, 1), some (.getfield 16, 3), none, none, some (.iload_n 2, 1), some (.iaload, 1), some (.iastore, 1), some (.iinc 2 1, 3), none, none, some (.goto (-28), 3), none, none, some (.aload_n 0, 1), some (.iconst 0, 1), some (.putfield 88, 3), none, none, some (.aload_n 0, 1), some (.iconst 0, 1), some (.putfield 84, 3), none, none, some (.aload_n 0, 1), some (.getfield 25, 3), none, none, some (.iload_n 1, 1), some (.iaload, 1), some (.ireturn, 1)]
def xt103 : List (Option (Instr × Nat)) := [some (.iconst 0, 1), some (.istore 4, 2), none, some (.bipush 15, 2), none, some (.iload_n 1, 1), some (.imul, 1), some (.aload_n 0, 1), some (.getfield 25, 3), none, none, some (.iload_n 1, 1), some (.iaload, 1), some (.iadd, 1), some (.iconst 1, 1), some (.isub, 1), some (.istore 5, 2), none, some (.iload 5, 2), none, some (.bipush 15, 2), none, some (.iload_n 1, 1), some (.imul, 1), some (.if_icmp .lt 176, 3), none, none, some (.aload_n 0, 1), some (.getfield 28, 3), none, none, some (.iload 5, 2), none, some (.iaload, 1), some (.istore 6, 2), none, some (.iload 6, 2), none, some (.invokestatic 91, 3), none, none, some (.ifCond .ne 59, 3), none, none, some (.aload_n 0, 1), some (.getfield 51, 3), none, none, some (.iload 4, 2), none, some (.iload 6, 2), none, some (.bipush 115, 2), none, some (.if_icmp .ne 8, 3), none, none, some (.iload_n 2, 1), some (.i2l, 1), some (.goto 34, 3), none, none, some (.iload 6, 2), none, some (.bipush 119, 2), none, some (.if_icmp .ne 8, 3), none, none, some (.iload_n 3, 1), some (.i2l, 1), some (.goto 22, 3), none, none, some (.iload 6, 2), none, some (.bipush 104, 2), none, some (.if_icmp .ne 9, 3), none, none, some (.ldc2_w 118, 3), none, none, some (.goto 9, 3), none, none, some (.iload 6, 2), none, some (.bipush 48, 2), none, some (.isub, 1), some (.i2l, 1), some (.lastore, 1), some (.iinc 4 1, 3), none, none, some (.goto 97, 3), none, none, some (.aload_n 0, 1), some (.getfield 51, 3), none, none, some (.iload 4, 2), none, some (.iconst 1, 1), some (.isub, 1), some (.laload, 1), some (.lstore 7, 2), none, some (.aload_n 0, 1), some (.getfield 51, 3), none, none, some (.iload 4, 2), none, some (.iconst 2, 1), some (.isub, 1), some (.laload, 1), some (.lstore 9, 2), none, some (.aload_n 0, 1), some (.getfield 51, 3), none, none, some (.iload 4, 2), none, some (.iconst 2, 1), some (.isub, 1), some (.iload 6, 2), none, some (.bipush 43, 2), none, some (.if_icmp .ne 11, 3), none, none, some (.lload 7, 2), none, some (.lload 9, 2), none, some (.ladd, 1), some (.goto 48, 3), none, none, some (.iload 6, 2), none, some (.bipush 45, 2), none, some (.if_icmp .ne 11, 3), none, none, some (.lload 7, 2), none, some (.lload 9, 2), none, some (.lsub, 1), some (.goto 33, 3), none, none, some (.iload 6, 2), none, some (.bipush 42, 2), none, some (.if_icmp .ne 11, 3), none, none, some (.lload 7, 2), none, some (.lload 9, 2), none, some (.lmul, 1), some (.goto 18, 3), none, none, some (.lload 7, 2), none, some (.lload 9, 2), none, some (.lcmp, 1), some (.ifCond .ge 8, 3), none, none, some (.lload 7, 2), none, some (.goto 5, 3), none, none, some (.lload 9, 2), none, some (.lastore, 1), some (.iinc 4 (-1), 3), none, none, some (.iinc 5 (-1), 3), none, none, some (.goto (-179), 3), none, none, some (.aload_n 0, 1), some (.getfield 51, 3), none, none, some (.iconst 0, 1), some (.laload, 1), some (.lconst 0, 1), some (.lcmp, 1), some (.ifCond .ge 7, 3), none, none, some (.iconst 0, 1), some (.goto 29, 3), none, none, some (.aload_n 0, 1), some (.getfield 51, 3), none, none, some (.iconst 0, 1), some (.laload, 1), some (.ldc2_w 120, 3), none, none, some (.lcmp, 1), some (.ifCond .le 9, 3), none, none, some (.sipush 1000, 3), none, none, some (.goto 10, 3), none, none, some (.aload_n 0, 1), some (.getfield 51, 3), none, none, some (.iconst 0, 1), some (.laload, 1), some (.l2i, 1), some (.ireturn, 1)]
def xt104 : List (Option (Instr × Nat)) := [some (.iload_n 1, 1), some (.iconst 0, 1), some (.iconst 1, 1), some (.invokestatic 76, 3), none, none, some (.ifCond .eq 31, 3), none, none, some (.iload_n 2, 1), some (.iconst 0, 1), some (.iconst 4, 1), some (.invokestatic 76, 3), none, none, some (.ifCond .eq 22, 3), none, none, some (.iload_n 3, 1), some (.iconst 0, 1), some (.iconst 1, 1), some (.invokestatic 76, 3), none, none, some (.ifCond .eq 13, 3), none, none, some (.aload_n 0, 1), some (.iload_n 1, 1), some (.iload_n 2, 1), some (.iload_n 3, 1), some (.invokevirtual 122, 3), none, none, some (.goto 5, 3), none, none, some (.bipush (-2), 2), none, some (.ireturn, 1)]
def xt105 : List (Option (Instr × Nat)) := [some (.iconst 0, 1), some (.istore_n 3, 1), some (.iload_n 3, 1), some (.iconst 5, 1), some (.if_icmp .ge 33, 3), none, none, some (.aload_n 0, 1), some (.getfield 48, 3), none, none, some (.iload_n 3, 1), some (.aload_n 0, 1), some (.iload_n 3, 1), some (.aload_n 0, 1), some (.getfield 22, 3), none, none, some (.bipush 6, 2), none, some (.iload_n 1, 1), some (.imul, 1), some (.iconst 3, 1), some (.iadd, 1), some (.iaload, 1), some (.iload_n 2, 1), some (.iadd, 1), some (.invokevirtual 108, 3), none, none, some (.iastore, 1), some (.iinc 3 1, 3), none, none, some (.goto (-32), 3), none, none, some (.iconst 0, 1), some (.istore_n 3, 1), some (.iload_n 3, 1), some (.bipush 32, 2), none, some (.if_icmp .ge 16, 3), none, none, some (.aload_n 0, 1), some (.getfield 55, 3), none, none, some (.iload_n 3, 1), some (.iconst 0, 1), some (.iastore, 1), some (.iinc 3 1, 3), none, none, some (.goto (-16), 3), none, none, some (.aload_n 0, 1), some (.getfield 55, 3), none, none, some (.iconst 0, 1), some (.ldc 126, 2), none, some (.iastore, 1), some (.iconst 0, 1), some (.istore_n 3, 1), some (.iload_n 3, 1), some (.aload_n 0, 1), some (.getfield 22, 3), none, none, some (.bipush 6, 2), none, some (.iload_n 1, 1), some (.imul, 1), some (.iconst 1, 1), some (.iadd, 1), some (.iaload, 1), some (.if_icmp .ge 90, 3), none, none, some (.aload_n 0, 1), some (.getfield 22, 3), none, none, some (.bipush 6, 2), none, some (.iload_n 1, 1), some (.imul, 1), some (.iaload, 1), some (.ifCond .ne 7, 3), none, none, some (.iload_n 3, 1), some (.goto 18, 3), none, none, some (.iconst 5, 1), some (.iload_n 3, 1), some (.isub, 1), some (.aload_n 0, 1), some (.getfield 22, 3), none, none, some (.bipush 6, 2), none, some (.iload_n 1, 1), some (.imul, 1), some (.iconst 2, 1), some (.iadd, 1), some (.iaload, 1), some (.isub, 1), some (.istore 4, 2), none, some (.aload_n 0, 1), some (.iload 4, 2), none, some (.ifCond .ge 7, 3), none, none, some (.iconst 0, 1), some (.goto 5, 3), none, none, some (.iload 4, 2), none, some (.aload_n 0, 1), some (.getfield 22, 3), none, none, some (.bipush 6, 2), none, some (.iload_n 1, 1), some (.imul, 1), some (.iaload, 1), some (.ifCond .ne 21, 3), none, none, some (.iload_n 3, 1), some (.aload_n 0, 1), some (.getfield 22, 3), none, none, some (.bipush 6, 2), none, some (.iload_n 1, 1), some (.imul, 1), some (.iconst 2, 1), some (.iadd, 1), some (.iaload, 1), some (.iadd, 1), some (.iconst 1, 1), some (.isub, 1), some (.goto 6, 3), none, none, some (.iconst 4, 1), some (.iload_n 3, 1), some (.isub, 1), some (.invokevirtual 127, 3), none, none, some (.iinc 3 1, 3), none, none, some (.goto (-99), 3), none, none, some (.return_, 1)]
def xt106 : List (Option (Instr × Nat)) := [some (.aload_n 0, 1), some (.getfield 45, 3), none, none, some (.iload_n 1, 1), some (.iaload, 1), some (.ifCond .le 22, 3), none, none, some (.iload_n 2, 1), some (.aload_n 0, 1), some (.getfield 45, 3), none, none, some (.iload_n 1, 1), some (.iaload, 1), some (.iconst 1, 1), some (.isub, 1), some (.ishr, 1), some (.iconst 1, 1), some (.iand, 1), some (.ifCond .ne 7, 3), none, none, some (.iconst 1, 1), some (.goto 4, 3), none, none, some (.iconst 0, 1), some (.ireturn, 1)]
def xt107 : List (Option (Instr × Nat)) := [some (.iload_n 2, 1), some (.iconst 4, 1), some (.if_icmp .le 7, 3), none, none, some (.iconst 4, 1), some (.goto 4, 3), none, none, some (.iload_n 2, 1), some (.istore_n 3, 1), some (.iconst 0, 1), some (.istore 4, 2), none, some (.iload 4, 2), none, some (.bipush 32, 2), none, some (.if_icmp .ge 17, 3), none, none, some (.aload_n 0, 1), some (.getfield 58, 3), none, none, some (.iload 4, 2), none, some (.iconst 0, 1), some (.iastore, 1), some (.iinc 4 1, 3), none, none, some (.goto (-18), 3), none, none, some (.iconst 0, 1), some (.istore 4, 2), none, some (.iload 4, 2), none, some (.bipush 32, 2), none, some (.if_icmp .ge 202, 3), none, none, some (.aload_n 0, 1), some (.getfield 55, 3), none, none, some (.iload 4, 2), none, some (.iaload, 1), some (.ifCond .le 186, 3), none, none, some (.iconst 0, 1), some (.istore 5, 2), none, some (.bipush (-6), 2), none, some (.istore 6, 2), none, some (.iload_n 1, 1), some (.istore 7, 2), none, some (.iload 7, 2), none, some (.iload_n 3, 1), some (.if_icmp .gt 56, 3), none, none, some (.iload 5, 2), none, some (.aload_n 0, 1), some (.iload 7, 2), none, some (.iload 4, 2), none, some (.invokevirtual 131, 3), none, none, some (.ifCond .eq 13, 3), none, none, some (.aload_n 0, 1), some (.getfield 48, 3), none, none, some (.iload 7, 2), none, some (.iaload, 1), some (.goto 4, 3), none, none, some (.iconst 0, 1), some (.iadd, 1), some (.istore 5, 2), none, some (.aload_n 0, 1), some (.iload 7, 2), none, some (.iload 4, 2), none, some (.invokevirtual 131, 3), none, none, some (.ifCond .eq 8, 3), none, none, some (.iload 7, 2), none, some (.goto 5, 3), none, none, some (.iload 6, 2), none, some (.istore 6, 2), none, some (.iinc 7 1, 3), none, none, some (.goto (-56), 3), none, none, some (.aload_n 0, 1), some (.getfield 55, 3), none, none, some (.iload 4, 2), none, some (.iaload, 1), some (.istore 7, 2), none, some (.iload_n 1, 1), some (.istore 8, 2), none, some (.iload 8, 2), none, some (.iload_n 3, 1), some (.if_icmp .gt 87, 3), none, none, some (.aload_n 0, 1), some (.iload 8, 2), none, some (.iload 4, 2), none, some (.invokevirtual 131, 3), none, none, some (.ifCond .eq 70, 3), none, none, some (.iload 8, 2), none, some (.iload 6, 2), none, some (.if_icmp .ne 8, 3), none, none, some (.iload 7, 2), none, some (.goto 25, 3), none, none, some (.aload_n 0, 1), some (.getfield 55, 3), none, none, some (.iload 4, 2), none, some (.iaload, 1), some (.i2l, 1), some (.aload_n 0, 1), some (.getfield 48, 3), none, none, some (.iload 8, 2), none, some (.iaload, 1), some (.i2l, 1), some (.lmul, 1), some (.iload 5, 2), none, some (.i2l, 1), some (.ldiv, 1), some (.l2i, 1), some (.istore 9, 2), none, some (.aload_n 0, 1), some (.getfield 58, 3), none, none, some (.iload 4, 2), none, some (.iconst 1, 1), some (.aload_n 0, 1), some (.getfield 45, 3), none, none, some (.iload 8, 2), none, some (.iaload, 1), some (.iconst 1, 1), some (.isub, 1), some (.ishl, 1), some (.ior, 1), some (.dup2, 1), some (.iaload, 1), some (.iload 9, 2), none, some (.iadd, 1), some (.iastore, 1), some (.iload 7, 2), none, some (.iload 9, 2), none, some (.isub, 1), some (.istore 7, 2), none, some (.iinc 8 1, 3), none, none, some (.goto (-87), 3), none, none, some (.aload_n 0, 1), some (.getfield 58, 3), none, none, some (.iload 4, 2), none, some (.dup2, 1), some (.iaload, 1), some (.iload 7, 2), none, some (.iadd, 1), some (.iastore, 1), some (.iinc 4 1, 3), none, none, some (.goto (-203), 3), none, none, some (.iconst 0, 1), some (.istore 4, 2), none, some (.iload 4, 2), none, some (.bipush 32, 2), none, some (.if_icmp .ge 23, 3), none, none, some (.aload_n 0, 1), some (.getfield 55, 3), none, none, some (.iload 4, 2), none, some (.aload_n 0, 1), some (.getfield 58, 3), none, none, some (.iload 4, 2), none, some (.iaload, 1), some (.iastore, 1), some (.iinc 4 1, 3), none, none, some (.goto (-24), 3), none, none, some (.return_, 1)]
def xt108 : List (Option (Instr × Nat)) := [some (.iload_n 1, 1), some (.iconst 0, 1), some (.iconst 3, 1), some (.invokestatic 76, 3), none, none, some (.ifCond .ne 5, 3), none, none, some (.iconst (-1), 1), some (.ireturn, 1), some (.iload_n 2, 1), some (.iconst 0, 1), some (.bipush 31, 2), none, some (.invokestatic 76, 3), none, none, some (.ifCond .ne 6, 3), none, none, some (.bipush (-2), 2), none, some (.ireturn, 1), some (.aload_n 0, 1), some (.invokevirtual 105, 3), none, none, some (.aload_n 0, 1), some (.iload_n 1, 1), some (.iconst 0, 1), some (.invokevirtual 135, 3), none, none, some (.aload_n 0, 1), some (.getfield 55, 3), none, none, some (.iload_n 2, 1), some (.iaload, 1), some (.ireturn, 1)]
def xt109 : List (Option (Instr × Nat)) := [some (.iload_n 1, 1), some (.iconst 0, 1), some (.iconst 3, 1), some (.invokestatic 76, 3), none, none, some (.ifCond .eq 10, 3), none, none, some (.iload_n 2, 1), some (.invokestatic 80, 3), none, none, some (.ifCond .ne 5, 3), none, none, some (.iconst (-1), 1), some (.ireturn, 1), some (.aload_n 0, 1), some (.invokevirtual 105, 3), none, none, some (.aload_n 0, 1), some (.iload_n 1, 1), some (.iconst 0, 1), some (.invokevirtual 135, 3), none, none, some (.iconst 0, 1), some (.istore_n 3, 1), some (.iconst 0, 1), some (.istore 4, 2), none, some (.iload 4, 2), none, some (.bipush 32, 2), none, some (.if_icmp .ge 33, 3), none, none, some (.iload_n 3, 1), some (.iload 4, 2), none, some (.iload_n 2, 1), some (.ishr, 1), some (.iconst 1, 1), some (.iand, 1), some (.iconst 1, 1), some (.if_icmp .ne 13, 3), none, none, some (.aload_n 0, 1), some (.getfield 55, 3), none, none, some (.iload 4, 2), none, some (.iaload, 1), some (.goto 4, 3), none, none, some (.iconst 0, 1), some (.iadd, 1), some (.istore_n 3, 1), some (.iinc 4 1, 3), none, none, some (.goto (-34), 3), none, none, some (.iload_n 3, 1), some (.ireturn, 1)]
def xt110 : List (Option (Instr × Nat)) := [some (.iconst 0, 1), some (.istore_n 1, 1), some (.iconst 0, 1), some (.istore_n 2, 1), some (.iload_n 2, 1), some (.iconst 5, 1), some (.if_icmp .ge 17, 3), none, none, some (.iload_n 1, 1), some (.iload_n 0, 1), some (.iload_n 2, 1), some (.ishr, 1), some (.iconst 1, 1), some (.iand, 1), some (.iadd, 1), some (.istore_n 1, 1), some (.iinc 2 1, 3), none, none, some (.goto (-16), 3), none, none, some (.iload_n 1, 1), some (.ireturn, 1)]
def xt111 : List (Option (Instr × Nat)) := [some (.iconst 0, 1), some (.istore_n 1, 1), some (.iload_n 1, 1), some (.bipush 6, 2), none, some (.if_icmp .ge 56, 3), none, none, some (.iconst 0, 1), some (.istore_n 2, 1), some (.iload_n 2, 1), some (.iconst 2, 1), some (.if_icmp .ge 43, 3), none, none, some (.aload_n 0, 1), some (.getfield 61, 3), none, none, some (.iconst 2, 1), some (.iload_n 1, 1), some (.imul, 1), some (.iload_n 2, 1), some (.iadd, 1), some (.aload_n 0, 1), some (.iconst 0, 1), some (.iload_n 1, 1), some (.iload_n 2, 1), some (.invokevirtual 122, 3), none, none, some (.iastore, 1), some (.aload_n 0, 1), some (.getfield 64, 3), none, none, some (.iconst 2, 1), some (.iload_n 1, 1), some (.imul, 1), some (.iload_n 2, 1), some (.iadd, 1), some (.aload_n 0, 1), some (.iconst 1, 1), some (.iload_n 1, 1), some (.iload_n 2, 1), some (.invokevirtual 122, 3), none, none, some (.iastore, 1), some (.iinc 2 1, 3), none, none, some (.goto (-42), 3), none, none, some (.iinc 1 1, 3), none, none, some (.goto (-56), 3), none, none, some (.return_, 1)]
def xt112 : List (Option (Instr × Nat)) := [some (.aload_n 0, 1), some (.iload_n 1, 1), some (.iload_n 2, 1), some (.invokevirtual 135, 3), none, none, some (.aload_n 0, 1), some (.getfield 22, 3), none, none, some (.bipush 6, 2), none, some (.iload_n 1, 1), some (.imul, 1), some (.iconst 4, 1), some (.iadd, 1), some (.iaload, 1), some (.istore_n 3, 1), some (.aload_n 0, 1), some (.lconst 0, 1), some (.putfield 138, 3), none, none, some (.aload_n 0, 1), some (.lconst 0, 1), some (.putfield 142, 3), none, none, some (.aload_n 0, 1), some (.lconst 0, 1), some (.putfield 145, 3), none, none, some (.iconst 0, 1), some (.istore 4, 2), none, some (.iload 4, 2), none, some (.bipush 32, 2), none, some (.if_icmp .ge 144, 3), none, none, some (.aload_n 0, 1), some (.getfield 55, 3), none, none, some (.iload 4, 2), none, some (.iaload, 1), some (.ifCond .le 128, 3), none, none, some (.iload_n 3, 1), some (.iconst 5, 1), some (.if_icmp .ge 12, 3), none, none, some (.iload 4, 2), none, some (.iload_n 3, 1), some (.ishr, 1), some (.iconst 1, 1), some (.iand, 1), some (.goto 4, 3), none, none, some (.iconst 0, 1), some (.istore 5, 2), none, some (.iconst 2, 1), some (.iload 4, 2), none, some (.invokestatic 148, 3), none, none, some (.imul, 1), some (.iload 5, 2), none, some (.iadd, 1), some (.istore 6, 2), none, some (.aload_n 0, 1), some (.getfield 55, 3), none, none, some (.iload 4, 2), none, some (.iaload, 1), some (.i2l, 1), some (.aload_n 0, 1), some (.getfield 61, 3), none, none, some (.iload 6, 2), none, some (.iaload, 1), some (.i2l, 1), some (.lmul, 1), some (.ldc2_w 120, 3), none, none, some (.ldiv, 1), some (.lstore 7, 2), none, some (.lload 7, 2), none, some (.aload_n 0, 1), some (.getfield 64, 3), none, none, some (.iload 6, 2), none, some (.iaload, 1), some (.i2l, 1), some (.lmul, 1), some (.ldc2_w 120, 3), none, none, some (.ldiv, 1), some (.lstore 9, 2), none, some (.aload_n 0, 1), some (.dup, 1), some (.getfield 138, 3), none, none, some (.lload 7, 2), none, some (.ladd, 1), some (.putfield 138, 3), none, none, some (.aload_n 0, 1), some (.dup, 1), some (.getfield 142, 3), none, none, some (.lload 9, 2), none, some (.ladd, 1), some (.putfield 142, 3), none, none, some (.aload_n 0, 1), some (.dup, 1), some (.getfield 145, 3), none, none, some (.lload 9, 2), none, some (.iload 5, 2), none, some (.iconst 1, 1), some (.if_icmp .ne 14, 3), none, none, some (.aload_n 0, 1), some (.getfield 7, 3), none, none, some (.iconst 5, 1), some (.iload_n 3, 1), some (.iadd, 1), some (.iaload, 1), some (.goto 7, 3), none, none, some (.aload_n 0, 1), some (.getfield 31, 3), none, none, some (.i2l, 1), some (.lmul, 1), some (.ladd, 1), some (.putfield 145, 3), none, none, some (.iinc 4 1, 3), none, none, some (.goto (-145), 3), none, none, some (.return_, 1)]
def xt113 : List (Option (Instr × Nat)) := [some (.iload_n 1, 1), some (.iconst 0, 1), some (.iconst 3, 1), some (.invokestatic 76, 3), none, none, some (.ifCond .ne 5, 3), none, none, some (.iconst (-1), 1), some (.ireturn, 1), some (.iload_n 2, 1), some (.iconst 0, 1), some (.iconst 2, 1), some (.invokestatic 76, 3), none, none, some (.ifCond .ne 6, 3), none, none, some (.bipush (-2), 2), none, some (.ireturn, 1), some (.aload_n 0, 1), some (.invokevirtual 151, 3), none, none, some (.aload_n 0, 1), some (.invokevirtual 105, 3), none, none, some (.aload_n 0, 1), some (.iload_n 1, 1), some (.iconst 0, 1), some (.invokevirtual 154, 3), none, none, some (.iload_n 2, 1), some (.ifCond .ne 10, 3), none, none, some (.aload_n 0, 1), some (.getfield 138, 3), none, none, some (.goto 19, 3), none, none, some (.iload_n 2, 1), some (.iconst 1, 1), some (.if_icmp .ne 10, 3), none, none, some (.aload_n 0, 1), some (.getfield 142, 3), none, none, some (.goto 7, 3), none, none, some (.aload_n 0, 1), some (.getfield 145, 3), none, none, some (.l2i, 1), some (.ireturn, 1)]
def xt114 : List (Option (Instr × Nat)) := [some (.lconst 0, 1), some (.lstore_n 2, 1), some (.iconst 0, 1), some (.istore 4, 2), none, some (.iload 4, 2), none, some (.iconst 4, 1), some (.if_icmp .ge 52, 3), none, none, some (.aload_n 0, 1), some (.getfield 22, 3), none, none, some (.bipush 6, 2), none, some (.iload 4, 2), none, some (.imul, 1), some (.iconst 5, 1), some (.iadd, 1), some (.iaload, 1), some (.ifCond .le 31, 3), none, none, some (.aload_n 0, 1), some (.iload 4, 2), none, some (.iload_n 1, 1), some (.invokevirtual 154, 3), none, none, some (.lload_n 2, 1), some (.aload_n 0, 1), some (.getfield 145, 3), none, none, some (.aload_n 0, 1), some (.getfield 22, 3), none, none, some (.bipush 6, 2), none, some (.iload 4, 2), none, some (.imul, 1), some (.iconst 5, 1), some (.iadd, 1), some (.iaload, 1), some (.i2l, 1), some (.lmul, 1), some (.ladd, 1), some (.lstore_n 2, 1), some (.iinc 4 1, 3), none, none, some (.goto (-52), 3), none, none, some (.lload_n 2, 1), some (.ldc2_w 120, 3), none, none, some (.ldiv, 1), some (.l2i, 1), some (.ireturn, 1)]
def xt115 : List (Option (Instr × Nat)) := [some (.aload_n 0, 1), some (.invokevirtual 151, 3), none, none, some (.aload_n 0, 1), some (.invokevirtual 105, 3), none, none, some (.aload_n 0, 1), some (.iconst 0, 1), some (.invokevirtual 157, 3), none, none, some (.ireturn, 1)]
def xt116 : List (Option (Instr × Nat)) := [some (.iload_n 1, 1), some (.iconst 0, 1), some (.bipush 99, 2), none, some (.invokestatic 76, 3), none, none, some (.ifCond .ne 6, 3), none, none, some (.bipush (-2), 2), none, some (.ireturn, 1), some (.aload_n 0, 1), some (.getfield 31, 3), none, none, some (.istore_n 2, 1), some (.aload_n 0, 1), some (.iload_n 1, 1), some (.putfield 31, 3), none, none, some (.aload_n 0, 1), some (.iconst 0, 1), some (.putfield 84, 3), none, none, some (.iload_n 2, 1), some (.ireturn, 1)]
def xt117 : List (Option (Instr × Nat)) := [some (.iload_n 1, 1), some (.ifCond .ne 11, 3), none, none, some (.iload_n 0, 1), some (.sipush 1296, 3), none, none, some (.idiv, 1), some (.goto 41, 3), none, none, some (.iload_n 1, 1), some (.iconst 1, 1), some (.if_icmp .ne 11, 3), none, none, some (.iload_n 0, 1), some (.sipush 216, 3), none, none, some (.idiv, 1), some (.goto 28, 3), none, none, some (.iload_n 1, 1), some (.iconst 2, 1), some (.if_icmp .ne 10, 3), none, none, some (.iload_n 0, 1), some (.bipush 36, 2), none, some (.idiv, 1), some (.goto 16, 3), none, none, some (.iload_n 1, 1), some (.iconst 3, 1), some (.if_icmp .ne 10, 3), none, none, some (.iload_n 0, 1), some (.bipush 6, 2), none, some (.idiv, 1), some (.goto 4, 3), none, none, some (.iload_n 0, 1), some (.bipush 6, 2), none, some (.irem, 1), some (.ireturn, 1)]
def xt118 : List (Option (Instr × Nat)) := [some (.iload_n 0, 1), some (.ifCond .ne 9, 3), none, none, some (.sipush 1296, 3), none, none, some (.goto 35, 3), none, none, some (.iload_n 0, 1), some (.iconst 1, 1), some (.if_icmp .ne 9, 3), none, none, some (.sipush 216, 3), none, none, some (.goto 24, 3), none, none, some (.iload_n 0, 1), some (.iconst 2, 1), some (.if_icmp .ne 8, 3), none, none, some (.bipush 36, 2), none, some (.goto 14, 3), none, none, some (.iload_n 0, 1), some (.iconst 3, 1), some (.if_icmp .ne 8, 3), none, none, some (.bipush 6, 2), none, some (.goto 4, 3), none, none, some (.iconst 1, 1), some (.ireturn, 1)]
def xt119 : List (Option (Instr × Nat)) := [some (.iconst 0, 1), some (.istore_n 1, 1), some (.iconst 0, 1), some (.istore_n 2, 1), some (.iload_n 2, 1), some (.iconst 5, 1), some (.if_icmp .ge 49, 3), none, none, some (.iload_n 0, 1), some (.iload_n 2, 1), some (.invokestatic 160, 3), none, none, some (.istore_n 3, 1), some (.iload_n 3, 1), some (.ifCond .le 17, 3), none, none, some (.iload_n 1, 1), some (.iload_n 3, 1), some (.iconst 1, 1), some (.isub, 1), some (.ishr, 1), some (.iconst 1, 1), some (.iand, 1), some (.iconst 1, 1), some (.if_icmp .ne 6, 3), none, none, some (.bipush (-6), 2), none, some (.ireturn, 1), some (.iload_n 1, 1), some (.iload_n 3, 1), some (.ifCond .le 11, 3), none, none, some (.iconst 1, 1), some (.iload_n 3, 1), some (.iconst 1, 1), some (.isub, 1), some (.ishl, 1), some (.goto 4, 3), none, none, some (.iconst 0, 1), some (.ior, 1), some (.istore_n 1, 1), some (.iinc 2 1, 3), none, none, some (.goto (-48), 3), none, none, some (.iload_n 1, 1), some (.ireturn, 1)]
def xt120 : List (Option (Instr × Nat)) := [some (.aload_n 0, 1), some (.getfield 84, 3), none, none, some (.ifCond .eq 4, 3), none, none, some (.return_, 1), some (.aload_n 0, 1), some (.iconst 1, 1), some (.putfield 84, 3), none, none, some (.aload_n 0, 1), some (.invokevirtual 151, 3), none, none, some (.iconst 0, 1), some (.istore_n 1, 1), some (.iload_n 1, 1), some (.sipush 7776, 3), none, none, some (.if_icmp .ge 59, 3), none, none, some (.aload_n 0, 1), some (.getfield 67, 3), none, none, some (.iload_n 1, 1), some (.bipush (-6), 2), none, some (.iastore, 1), some (.iload_n 1, 1), some (.invokestatic 163, 3), none, none, some (.ifCond .lt 38, 3), none, none, some (.iconst 0, 1), some (.istore_n 2, 1), some (.iload_n 2, 1), some (.iconst 5, 1), some (.if_icmp .ge 20, 3), none, none, some (.aload_n 0, 1), some (.getfield 45, 3), none, none, some (.iload_n 2, 1), some (.iload_n 1, 1), some (.iload_n 2, 1), some (.invokestatic 160, 3), none, none, some (.iastore, 1), some (.iinc 2 1, 3), none, none, some (.goto (-19), 3), none, none, some (.aload_n 0, 1), some (.getfield 67, 3), none, none, some (.iload_n 1, 1), some (.aload_n 0, 1), some (.iconst 0, 1), some (.invokevirtual 157, 3), none, none, some (.iastore, 1), some (.iinc 1 1, 3), none, none, some (.goto (-60), 3), none, none, some (.return_, 1)]
def xt121 : List (Option (Instr × Nat)) := [some (.aload_n 0, 1), some (.invokevirtual 166, 3), none, none, some (.bipush (-6), 2), none, some (.istore 4, 2), none, some (.iconst 0, 1), some (.istore 5, 2), none, some (.iconst 0, 1), some (.istore 6, 2), none, some (.iload 6, 2), none, some (.sipush 7776, 3), none, none, some (.if_icmp .ge 139, 3), none, none, some (.iload 6, 2), none, some (.invokestatic 163, 3), none, none, some (.istore 7, 2), none, some (.iload 7, 2), none, some (.ifCond .lt 121, 3), none, none, some (.iload 7, 2), none, some (.iload_n 1, 1), some (.iconst (-1), 1), some (.ixor, 1), some (.iand, 1), some (.ifCond .ne 112, 3), none, none, some (.iload_n 2, 1), some (.iload 7, 2), none, some (.iconst (-1), 1), some (.ixor, 1), some (.iand, 1), some (.ifCond .ne 103, 3), none, none, some (.iload_n 3, 1), some (.ifCond .lt 12, 3), none, none, some (.iload 7, 2), none, some (.invokestatic 148, 3), none, none, some (.iload_n 3, 1), some (.if_icmp .ne 90, 3), none, none, some (.iload 4, 2), none, some (.ifCond .lt 47, 3), none, none, some (.aload_n 0, 1), some (.getfield 67, 3), none, none, some (.iload 6, 2), none, some (.iaload, 1), some (.aload_n 0, 1), some (.getfield 67, 3), none, none, some (.iload 4, 2), none, some (.iaload, 1), some (.if_icmp .gt 30, 3), none, none, some (.aload_n 0, 1), some (.getfield 67, 3), none, none, some (.iload 6, 2), none, some (.iaload, 1), some (.aload_n 0, 1), some (.getfield 67, 3), none, none, some (.iload 4, 2), none, some (.iaload, 1), some (.if_icmp .ne 17, 3), none, none, some (.iload 7, 2), none, some (.invokestatic 148, 3), none, none, some (.iload 5, 2), none, some (.if_icmp .ge 7, 3), none, none, some (.iconst 1, 1), some (.goto 4, 3), none, none, some (.iconst 0, 1), some (.istore 8, 2), none, some (.iload 8, 2), none, some (.ifCond .eq 8, 3), none, none, some (.iload 6, 2), none, some (.goto 5, 3), none, none, some (.iload 4, 2), none, some (.istore 4, 2), none, some (.iload 8, 2), none, some (.ifCond .eq 11, 3), none, none, some (.iload 7, 2), none, some (.invokestatic 148, 3), none, none, some (.goto 5, 3), none, none, some (.iload 5, 2), none, some (.istore 5, 2), none, some (.iinc 6 1, 3), none, none, some (.goto (-141), 3), none, none, some (.iload 4, 2), none, some (.ireturn, 1)]
def xt122 : List (Option (Instr × Nat)) := [some (.iload_n 2, 1), some (.iconst (-1), 1), some (.if_icmp .eq 12, 3), none, none, some (.iload_n 2, 1), some (.invokestatic 80, 3), none, none, some (.ifCond .ne 5, 3), none, none, some (.iconst (-1), 1), some (.ireturn, 1), some (.iload_n 1, 1), some (.iconst 0, 1), some (.bipush 31, 2), none, some (.invokestatic 76, 3), none, none, some (.ifCond .ne 6, 3), none, none, some (.bipush (-2), 2), none, some (.ireturn, 1), some (.aload_n 0, 1), some (.iload_n 1, 1), some (.iconst 0, 1), some (.bipush (-6), 2), none, some (.invokevirtual 169, 3), none, none, some (.istore_n 3, 1), some (.iload_n 2, 1), some (.iconst (-1), 1), some (.if_icmp .ne 12, 3), none, none, some (.aload_n 0, 1), some (.getfield 67, 3), none, none, some (.iload_n 3, 1), some (.iaload, 1), some (.goto 23, 3), none, none, some (.iload_n 3, 1), some (.iload_n 2, 1), some (.invokestatic 160, 3), none, none, some (.ifCond .ne 8, 3), none, none, some (.bipush (-6), 2), none, some (.goto 10, 3), none, none, some (.iload_n 3, 1), some (.iload_n 2, 1), some (.invokestatic 160, 3), none, none, some (.iconst 1, 1), some (.isub, 1), some (.ireturn, 1)]
def xt123 : List (Option (Instr × Nat)) := [some (.iload_n 1, 1), some (.iconst 0, 1), some (.iconst 5, 1), some (.invokestatic 76, 3), none, none, some (.ifCond .eq 19, 3), none, none, some (.aload_n 0, 1), some (.getfield 67, 3), none, none, some (.aload_n 0, 1), some (.bipush 31, 2), none, some (.iconst 0, 1), some (.iload_n 1, 1), some (.invokevirtual 169, 3), none, none, some (.iaload, 1), some (.goto 5, 3), none, none, some (.bipush (-2), 2), none, some (.ireturn, 1)]
def xt124 : List (Option (Instr × Nat)) := [some (.iconst 0, 1), some (.istore_n 1, 1), some (.iconst 0, 1), some (.istore_n 2, 1), some (.iload_n 2, 1), some (.iconst 5, 1), some (.if_icmp .ge 21, 3), none, none, some (.bipush 6, 2), none, some (.iload_n 1, 1), some (.imul, 1), some (.aload_n 0, 1), some (.getfield 19, 3), none, none, some (.iload_n 2, 1), some (.iaload, 1), some (.iadd, 1), some (.istore_n 1, 1), some (.iinc 2 1, 3), none, none, some (.goto (-20), 3), none, none, some (.iload_n 1, 1), some (.ireturn, 1)]
def xt125 : List (Option (Instr × Nat)) := [some (.iload_n 0, 1), some (.iload_n 1, 1), some (.invokestatic 160, 3), none, none, some (.istore_n 3, 1), some (.iload_n 0, 1), some (.iload_n 2, 1), some (.invokestatic 160, 3), none, none, some (.istore 4, 2), none, some (.iload_n 0, 1), some (.iload 4, 2), none, some (.iload_n 3, 1), some (.isub, 1), some (.iload_n 1, 1), some (.invokestatic 172, 3), none, none, some (.imul, 1), some (.iadd, 1), some (.iload_n 3, 1), some (.iload 4, 2), none, some (.isub, 1), some (.iload_n 2, 1), some (.invokestatic 172, 3), none, none, some (.imul, 1), some (.iadd, 1), some (.ireturn, 1)]
def xt126 : List (Option (Instr × Nat)) := [some (.iload_n 1, 1), some (.istore_n 2, 1), some (.iconst 0, 1), some (.istore_n 3, 1), some (.iload_n 3, 1), some (.iconst 5, 1), some (.if_icmp .ge 58, 3), none, none, some (.iload_n 3, 1), some (.iconst 1, 1), some (.iadd, 1), some (.istore 4, 2), none, some (.iload 4, 2), none, some (.iconst 5, 1), some (.if_icmp .ge 41, 3), none, none, some (.iload_n 1, 1), some (.iload_n 3, 1), some (.iload 4, 2), none, some (.invokestatic 175, 3), none, none, some (.istore 5, 2), none, some (.aload_n 0, 1), some (.getfield 67, 3), none, none, some (.iload 5, 2), none, some (.iaload, 1), some (.aload_n 0, 1), some (.getfield 67, 3), none, none, some (.iload_n 2, 1), some (.iaload, 1), some (.if_icmp .le 8, 3), none, none, some (.iload 5, 2), none, some (.goto 4, 3), none, none, some (.iload_n 2, 1), some (.istore_n 2, 1), some (.iinc 4 1, 3), none, none, some (.goto (-41), 3), none, none, some (.iinc 3 1, 3), none, none, some (.goto (-57), 3), none, none, some (.iconst 0, 1), some (.istore_n 3, 1), some (.iload_n 3, 1), some (.iconst 5, 1), some (.if_icmp .ge 78, 3), none, none, some (.iconst 0, 1), some (.istore 4, 2), none, some (.iload 4, 2), none, some (.iconst 5, 1), some (.if_icmp .ge 63, 3), none, none, some (.iload_n 1, 1), some (.invokestatic 163, 3), none, none, some (.iload 4, 2), none, some (.ishr, 1), some (.iconst 1, 1), some (.iand, 1), some (.ifCond .ne 45, 3), none, none, some (.iload_n 1, 1), some (.iload 4, 2), none, some (.iconst 1, 1), some (.iadd, 1), some (.iload_n 1, 1), some (.iload_n 3, 1), some (.invokestatic 160, 3), none, none, some (.isub, 1), some (.iload_n 3, 1), some (.invokestatic 172, 3), none, none, some (.imul, 1), some (.iadd, 1), some (.istore 5, 2), none, some (.aload_n 0, 1), some (.getfield 67, 3), none, none, some (.iload 5, 2), none, some (.iaload, 1), some (.aload_n 0, 1), some (.getfield 67, 3), none, none, some (.iload_n 2, 1), some (.iaload, 1), some (.if_icmp .le 8, 3), none, none, some (.iload 5, 2), none, some (.goto 4, 3), none, none, some (.iload_n 2, 1), some (.istore_n 2, 1), some (.iinc 4 1, 3), none, none, some (.goto (-63), 3), none, none, some (.iinc 3 1, 3), none, none, some (.goto (-77), 3), none, none, some (.iconst 0, 1), some (.istore_n 3, 1), some (.iload_n 3, 1), some (.iconst 5, 1), some (.if_icmp .ge 46, 3), none, none, some (.iload_n 1, 1), some (.iload_n 1, 1), some (.iload_n 3, 1), some (.invokestatic 160, 3), none, none, some (.iload_n 3, 1), some (.invokestatic 172, 3), none, none, some (.imul, 1), some (.isub, 1), some (.istore 4, 2), none, some (.aload_n 0, 1), some (.getfield 67, 3), none, none, some (.iload 4, 2), none, some (.iaload, 1), some (.aload_n 0, 1), some (.getfield 67, 3), none, none, some (.iload_n 2, 1), some (.iaload, 1), some (.if_icmp .le 8, 3), none, none, some (.iload 4, 2), none, some (.goto 4, 3), none, none, some (.iload_n 2, 1), some (.istore_n 2, 1), some (.iinc 3 1, 3), none, none, some (.goto (-45), 3), none, none, some (.iload_n 2, 1), some (.ireturn, 1)]
def xt127 : List (Option (Instr × Nat)) := [some (.iload_n 1, 1), some (.iconst 0, 1), some (.iconst 2, 1), some (.invokestatic 76, 3), none, none, some (.ifCond .ne 6, 3), none, none, some (.bipush (-2), 2), none, some (.ireturn, 1), some (.aload_n 0, 1), some (.invokevirtual 166, 3), none, none, some (.aload_n 0, 1), some (.invokevirtual 178, 3), none, none, some (.istore_n 2, 1), some (.iconst 0, 1), some (.istore_n 3, 1), some (.iconst 1, 1), some (.istore 4, 2), none, some (.iload 4, 2), none, some (.ifCond .eq 48, 3), none, none, some (.iload_n 3, 1), some (.bipush 20, 2), none, some (.if_icmp .ge 42, 3), none, none, some (.aload_n 0, 1), some (.iload_n 2, 1), some (.invokevirtual 181, 3), none, none, some (.istore 5, 2), none, some (.iload 5, 2), none, some (.iload_n 2, 1), some (.if_icmp .eq 7, 3), none, none, some (.iconst 1, 1), some (.goto 4, 3), none, none, some (.iconst 0, 1), some (.istore 4, 2), none, some (.iload_n 3, 1), some (.iload 4, 2), none, some (.ifCond .eq 7, 3), none, none, some (.iconst 1, 1), some (.goto 4, 3), none, none, some (.iconst 0, 1), some (.iadd, 1), some (.istore_n 3, 1), some (.iload 5, 2), none, some (.istore_n 2, 1), some (.goto (-47), 3), none, none, some (.iload_n 1, 1), some (.ifCond .ne 7, 3), none, none, some (.iload_n 3, 1), some (.goto 38, 3), none, none, some (.iload_n 1, 1), some (.iconst 1, 1), some (.if_icmp .ne 12, 3), none, none, some (.aload_n 0, 1), some (.getfield 67, 3), none, none, some (.iload_n 2, 1), some (.iaload, 1), some (.goto 24, 3), none, none, some (.aload_n 0, 1), some (.getfield 67, 3), none, none, some (.aload_n 0, 1), some (.bipush 31, 2), none, some (.iconst 0, 1), some (.bipush (-6), 2), none, some (.invokevirtual 169, 3), none, none, some (.iaload, 1), some (.aload_n 0, 1), some (.getfield 67, 3), none, none, some (.iload_n 2, 1), some (.iaload, 1), some (.isub, 1), some (.ireturn, 1)]
def xt128 : List (Option (Instr × Nat)) := [some (.iload_n 1, 1), some (.invokestatic 80, 3), none, none, some (.ifCond .eq 21, 3), none, none, some (.iload_n 2, 1), some (.iconst (-1), 1), some (.if_icmp .eq 18, 3), none, none, some (.iload_n 2, 1), some (.bipush (-2), 2), none, some (.if_icmp .eq 12, 3), none, none, some (.iload_n 2, 1), some (.invokestatic 80, 3), none, none, some (.ifCond .ne 5, 3), none, none, some (.iconst (-1), 1), some (.ireturn, 1), some (.aload_n 0, 1), some (.bipush 31, 2), none, some (.iconst 1, 1), some (.iload_n 1, 1), some (.ishl, 1), some (.bipush (-6), 2), none, some (.invokevirtual 169, 3), none, none, some (.istore_n 3, 1), some (.iload_n 2, 1), some (.bipush (-2), 2), none, some (.if_icmp .ne 25, 3), none, none, some (.aload_n 0, 1), some (.getfield 67, 3), none, none, some (.aload_n 0, 1), some (.bipush 31, 2), none, some (.iconst 0, 1), some (.bipush (-6), 2), none, some (.invokevirtual 169, 3), none, none, some (.iaload, 1), some (.aload_n 0, 1), some (.getfield 67, 3), none, none, some (.iload_n 3, 1), some (.iaload, 1), some (.isub, 1), some (.ireturn, 1), some (.iload_n 2, 1), some (.iconst (-1), 1), some (.if_icmp .ne 12, 3), none, none, some (.aload_n 0, 1), some (.getfield 67, 3), none, none, some (.iload_n 3, 1), some (.iaload, 1), some (.goto 23, 3), none, none, some (.iload_n 3, 1), some (.iload_n 2, 1), some (.invokestatic 160, 3), none, none, some (.ifCond .ne 8, 3), none, none, some (.bipush (-6), 2), none, some (.goto 10, 3), none, none, some (.iload_n 3, 1), some (.iload_n 2, 1), some (.invokestatic 160, 3), none, none, some (.iconst 1, 1), some (.isub, 1), some (.ireturn, 1)]
def xt129 : List (Option (Instr × Nat)) := [some (.iconst 1, 1), some (.istore 4, 2), none, some (.iload 4, 2), none, some (.bipush 10, 2), none, some (.if_icmp .ge 31, 3), none, none, some (.ldc2_w 118, 3), none, none, some (.aload_n 0, 1), some (.iload 4, 2), none, some (.invokevirtual 157, 3), none, none, some (.i2l, 1), some (.lmul, 1), some (.iload_n 1, 1), some (.i2l, 1), some (.lload_n 2, 1), some (.lmul, 1), some (.lcmp, 1), some (.ifCond .ge 6, 3), none, none, some (.iload 4, 2), none, some (.ireturn, 1), some (.iinc 4 1, 3), none, none, some (.goto (-32), 3), none, none, some (.bipush (-6), 2), none, some (.ireturn, 1)]
def xt130 : List (Option (Instr × Nat)) := [some (.iload_n 1, 1), some (.iconst 0, 1), some (.bipush 100, 2), none, some (.invokestatic 76, 3), none, none, some (.ifCond .ne 6, 3), none, none, some (.bipush (-2), 2), none, some (.ireturn, 1), some (.aload_n 0, 1), some (.invokevirtual 151, 3), none, none, some (.aload_n 0, 1), some (.invokevirtual 105, 3), none, none, some (.aload_n 0, 1), some (.iload_n 1, 1), some (.aload_n 0, 1), some (.iconst 0, 1), some (.invokevirtual 157, 3), none, none, some (.i2l, 1), some (.invokevirtual 184, 3), none, none, some (.ireturn, 1)]
def xt131 : List (Option (Instr × Nat)) := [some (.iload_n 1, 1), some (.iconst 0, 1), some (.bipush 100, 2), none, some (.invokestatic 76, 3), none, none, some (.ifCond .ne 6, 3), none, none, some (.bipush (-2), 2), none, some (.ireturn, 1), some (.aload_n 0, 1), some (.invokevirtual 151, 3), none, none, some (.aload_n 0, 1), some (.invokevirtual 105, 3), none, none, some (.aload_n 0, 1), some (.iconst 0, 1), some (.invokevirtual 157, 3), none, none, some (.i2l, 1), some (.lstore_n 2, 1), some (.aload_n 0, 1), some (.iload_n 1, 1), some (.lload_n 2, 1), some (.invokevirtual 184, 3), none, none, some (.istore 4, 2), none, some (.iload 4, 2), none, some (.ifCond .ge 5, 3), none, none, some (.iconst 0, 1), some (.ireturn, 1), some (.iconst 0, 1), some (.istore 5, 2), none, some (.iload 5, 2), none, some (.iconst 5, 1), some (.if_icmp .ge 87, 3), none, none, some (.iload 5, 2), none, some (.iconst 1, 1), some (.iadd, 1), some (.istore 6, 2), none, some (.iload 6, 2), none, some (.iconst 5, 1), some (.if_icmp .ge 69, 3), none, none, some (.aload_n 0, 1), some (.invokevirtual 105, 3), none, none, some (.aload_n 0, 1), some (.getfield 45, 3), none, none, some (.iload 5, 2), none, some (.aload_n 0, 1), some (.getfield 19, 3), none, none, some (.iload 6, 2), none, some (.iaload, 1), some (.iastore, 1), some (.aload_n 0, 1), some (.getfield 45, 3), none, none, some (.iload 6, 2), none, some (.aload_n 0, 1), some (.getfield 19, 3), none, none, some (.iload 5, 2), none, some (.iaload, 1), some (.iastore, 1), some (.ldc2_w 118, 3), none, none, some (.aload_n 0, 1), some (.iload 4, 2), none, some (.invokevirtual 157, 3), none, none, some (.i2l, 1), some (.lmul, 1), some (.iload_n 1, 1), some (.i2l, 1), some (.lload_n 2, 1), some (.lmul, 1), some (.lcmp, 1), some (.ifCond .lt 12, 3), none, none, some (.bipush 10, 2), none, some (.iload 5, 2), none, some (.imul, 1), some (.iload 6, 2), none, some (.iadd, 1), some (.ireturn, 1), some (.iinc 6 1, 3), none, none, some (.goto (-69), 3), none, none, some (.iinc 5 1, 3), none, none, some (.goto (-87), 3), none, none, some (.bipush (-6), 2), none, some (.ireturn, 1)]
def xt132 : List (Option (Instr × Nat)) := [some (.iload_n 1, 1), some (.iconst 0, 1), some (.bipush 10, 2), none, some (.invokestatic 76, 3), none, none, some (.ifCond .ne 5, 3), none, none, some (.iconst (-1), 1), some (.ireturn, 1), some (.iload_n 2, 1), some (.iconst 0, 1), some (.sipush 999, 3), none, none, some (.invokestatic 76, 3), none, none, some (.ifCond .ne 6, 3), none, none, some (.bipush (-2), 2), none, some (.ireturn, 1), some (.aload_n 0, 1), some (.getfield 35, 3), none, none, some (.iload_n 1, 1), some (.iaload, 1), some (.istore 4, 2), none, some (.aload_n 0, 1), some (.getfield 35, 3), none, none, some (.iload_n 1, 1), some (.iload_n 2, 1), some (.iastore, 1), some (.aload_n 0, 1), some (.getfield 38, 3), none, none, some (.iload_n 1, 1), some (.iload_n 3, 1), some (.bastore, 1), some (.iload 4, 2), none, some (.ireturn, 1)]
def xt133 : List (Option (Instr × Nat)) := [some (.iload_n 1, 1), some (.iconst 0, 1), some (.iconst 1, 1), some (.invokestatic 76, 3), none, none, some (.ifCond .ne 7, 3), none, none, some (.ldc2_w 188, 3), none, none, some (.lreturn, 1), some (.iconst 0, 1), some (.istore_n 2, 1), some (.iconst 0, 1), some (.istore_n 3, 1), some (.iconst 0, 1), some (.istore 4, 2), none, some (.iload 4, 2), none, some (.bipush 11, 2), none, some (.if_icmp .ge 51, 3), none, none, some (.iload_n 2, 1), some (.aload_n 0, 1), some (.getfield 38, 3), none, none, some (.iload 4, 2), none, some (.baload, 1), some (.ifCond .eq 7, 3), none, none, some (.iconst 1, 1), some (.goto 4, 3), none, none, some (.iconst 0, 1), some (.iadd, 1), some (.istore_n 2, 1), some (.iload_n 3, 1), some (.aload_n 0, 1), some (.getfield 38, 3), none, none, some (.iload 4, 2), none, some (.baload, 1), some (.ifCond .eq 13, 3), none, none, some (.aload_n 0, 1), some (.getfield 35, 3), none, none, some (.iload 4, 2), none, some (.iaload, 1), some (.goto 4, 3), none, none, some (.iconst 0, 1), some (.iadd, 1), some (.istore_n 3, 1), some (.iinc 4 1, 3), none, none, some (.goto (-52), 3), none, none, some (.lconst 0, 1), some (.lstore 4, 2), none, some (.lconst 0, 1), some (.lstore 6, 2), none, some (.iconst 0, 1), some (.istore 8, 2), none, some (.iload 8, 2), none, some (.sipush 2048, 3), none, none, some (.if_icmp .ge 101, 3), none, none, some (.iconst 0, 1), some (.istore 9, 2), none, some (.iconst 0, 1), some (.istore 10, 2), none, some (.iconst 0, 1), some (.istore 11, 2), none, some (.iload 11, 2), none, some (.bipush 11, 2), none, some (.if_icmp .ge 41, 3), none, none, some (.iload 10, 2), none, some (.iload 8, 2), none, some (.iload 11, 2), none, some (.ishr, 1), some (.iconst 1, 1), some (.iand, 1), some (.iadd, 1), some (.istore 10, 2), none, some (.iload 9, 2), none, some (.iload 8, 2), none, some (.iload 11, 2), none, some (.ishr, 1), some (.iconst 1, 1), some (.iand, 1), some (.aload_n 0, 1), some (.getfield 35, 3), none, none, some (.iload 11, 2), none, some (.iaload, 1), some (.imul, 1), some (.iadd, 1), some (.istore 9, 2), none, some (.iinc 11 1, 3), none, none, some (.goto (-42), 3), none, none, some (.lload 4, 2), none, some (.iload 10, 2), none, some (.iload_n 2, 1), some (.if_icmp .ne 7, 3), none, none, some (.lconst 1, 1), some (.goto 4, 3), none, none, some (.lconst 0, 1), some (.ladd, 1), some (.lstore 4, 2), none, some (.lload 6, 2), none, some (.iload 10, 2), none, some (.iload_n 2, 1), some (.if_icmp .ne 13, 3), none, none, some (.iload 9, 2), none, some (.iload_n 3, 1), some (.if_icmp .lt 7, 3), none, none, some (.lconst 1, 1), some (.goto 4, 3), none, none, some (.lconst 0, 1), some (.ladd, 1), some (.lstore 6, 2), none, some (.iinc 8 1, 3), none, none, some (.goto (-103), 3), none, none, some (.lload 6, 2), none, some (.lstore 8, 2), none, some (.lload 4, 2), none, some (.lstore 10, 2), none, some (.lload 10, 2), none, some (.lconst 0, 1), some (.lcmp, 1), some (.ifCond .eq 21, 3), none, none, some (.lload 8, 2), none, some (.lload 10, 2), none, some (.lrem, 1), some (.lstore 12, 2), none, some (.lload 10, 2), none, some (.lstore 8, 2), none, some (.lload 12, 2), none, some (.lstore 10, 2), none, some (.goto (-22), 3), none, none, some (.iload_n 1, 1), some (.ifCond .ne 11, 3), none, none, some (.lload 6, 2), none, some (.lload 8, 2), none, some (.ldiv, 1), some (.goto 8, 3), none, none, some (.lload 4, 2), none, some (.lload 8, 2), none, some (.ldiv, 1), some (.lreturn, 1)]
def xt134 : List (Option (Instr × Nat)) := [some (.iload_n 1, 1), some (.iconst 0, 1), some (.sipush 999, 3), none, none, some (.invokestatic 76, 3), none, none, some (.ifCond .eq 42, 3), none, none, some (.iload_n 2, 1), some (.iconst 0, 1), some (.sipush 999, 3), none, none, some (.invokestatic 76, 3), none, none, some (.ifCond .eq 31, 3), none, none, some (.iload_n 3, 1), some (.iconst 0, 1), some (.iload_n 1, 1), some (.iload_n 2, 1), some (.if_icmp .ge 7, 3), none, none, some (.iload_n 1, 1), some (.goto 4, 3), none, none, some (.iload_n 2, 1), some (.invokestatic 76, 3), none, none, some (.ifCond .eq 13, 3), none, none, some (.iload 4, 2), none, some (.iconst 0, 1), some (.iconst 2, 1), some (.invokestatic 76, 3), none, none, some (.ifCond .ne 6, 3), none, none, some (.bipush (-2), 2), none, some (.ireturn, 1), some (.iload_n 1, 1), some (.iload_n 2, 1), some (.iadd, 1), some (.iload_n 3, 1), some (.isub, 1), some (.istore 5, 2), none, some (.iload 4, 2), none, some (.ifCond .ne 6, 3), none, none, some (.iload 5, 2), none, some (.ireturn, 1), some (.iload_n 3, 1), some (.ifCond .ne 8, 3), none, none, some (.bipush (-6), 2), none, some (.goto 25, 3), none, none, some (.iload 4, 2), none, some (.iconst 1, 1), some (.if_icmp .ne 11, 3), none, none, some (.iload_n 1, 1), some (.iload_n 2, 1), some (.imul, 1), some (.iload_n 3, 1), some (.idiv, 1), some (.goto 11, 3), none, none, some (.iload_n 1, 1), some (.iload_n 2, 1), some (.imul, 1), some (.iload_n 3, 1), some (.idiv, 1), some (.iload 5, 2), none, some (.isub, 1), some (.ireturn, 1)]
def xt135 : List (Option (Instr × Nat)) := [some (.iload_n 1, 1), some (.iconst 0, 1), some (.iconst 1, 1), some (.invokestatic 76, 3), none, none, some (.ifCond .ne 6, 3), none, none, some (.bipush (-2), 2), none, some (.ireturn, 1), some (.sipush 130, 3), none, none, some (.iload_n 1, 1), some (.imul, 1), some (.istore_n 2, 1), some (.iconst 0, 1), some (.istore_n 3, 1), some (.iload_n 3, 1), some (.bipush 15, 2), none, some (.if_icmp .ge 23, 3), none, none, some (.aload_n 0, 1), some (.getfield 70, 3), none, none, some (.iload_n 2, 1), some (.iload_n 3, 1), some (.iadd, 1), some (.aload_n 0, 1), some (.getfield 7, 3), none, none, some (.iload_n 3, 1), some (.iaload, 1), some (.iastore, 1), some (.iinc 3 1, 3), none, none, some (.goto (-23), 3), none, none, some (.iconst 0, 1), some (.istore_n 3, 1), some (.iload_n 3, 1), some (.iconst 5, 1), some (.if_icmp .ge 43, 3), none, none, some (.aload_n 0, 1), some (.getfield 70, 3), none, none, some (.iload_n 2, 1), some (.bipush 15, 2), none, some (.iadd, 1), some (.iload_n 3, 1), some (.iadd, 1), some (.aload_n 0, 1), some (.getfield 13, 3), none, none, some (.iload_n 3, 1), some (.iaload, 1), some (.iastore, 1), some (.aload_n 0, 1), some (.getfield 70, 3), none, none, some (.iload_n 2, 1), some (.bipush 20, 2), none, some (.iadd, 1), some (.iload_n 3, 1), some (.iadd, 1), some (.aload_n 0, 1), some (.getfield 19, 3), none, none, some (.iload_n 3, 1), some (.iaload, 1), some (.iastore, 1), some (.iinc 3 1, 3), none, none, some (.goto (-42), 3), none, none, some (.iconst 0, 1), some (.istore_n 3, 1), some (.iload_n 3, 1), some (.bipush 24, 2), none, some (.if_icmp .ge 26, 3), none, none, some (.aload_n 0, 1), some (.getfield 70, 3), none, none, some (.iload_n 2, 1), some (.bipush 25, 2), none, some (.iadd, 1), some (.iload_n 3, 1), some (.iadd, 1), some (.aload_n 0, 1), some (.getfield 22, 3), none, none, some (.iload_n 3, 1), some (.iaload, 1), some (.iastore, 1), some (.iinc 3 1, 3), none, none, some (.goto (-26), 3), none, none, some (.iconst 0, 1), some (.istore_n 3, 1), some (.iload_n 3, 1), some (.bipush 30, 2), none, some (.if_icmp .ge 26, 3), none, none, some (.aload_n 0, 1), some (.getfield 70, 3), none, none, some (.iload_n 2, 1), some (.bipush 49, 2), none, some (.iadd, 1), some (.iload_n 3, 1), some (.iadd, 1), some (.aload_n 0, 1), some (.getfield 28, 3), none, none, some (.iload_n 3, 1), some (.iaload, 1), some (.iastore, 1), some (.iinc 3 1, 3), none, none, some (.goto (-26), 3), none, none, some (.aload_n 0, 1), some (.getfield 70, 3), none, none, some (.iload_n 2, 1), some (.bipush 79, 2), none, some (.iadd, 1), some (.aload_n 0, 1), some (.getfield 25, 3), none, none, some (.iconst 0, 1), some (.iaload, 1), some (.iastore, 1), some (.aload_n 0, 1), some (.getfield 70, 3), none, none, some (.iload_n 2, 1), some (.bipush 80, 2), none, some (.iadd, 1), some (.aload_n 0, 1), some (.getfield 25, 3), none, none, some (.iconst 1, 1), some (.iaload, 1), some (.iastore, 1), some (.aload_n 0, 1), some (.getfield 70, 3), none, none, some (.iload_n 2, 1), some (.bipush 81, 2), none, some (.iadd, 1), some (.aload_n 0, 1), some (.getfield 31, 3), none, none, some (.iastore, 1), some (.iconst 0, 1), some (.istore_n 3, 1), some (.iload_n 3, 1), some (.bipush 11, 2), none, some (.if_icmp .ge 51, 3), none, none, some (.aload_n 0, 1), some (.getfield 70, 3), none, none, some (.iload_n 2, 1), some (.bipush 82, 2), none, some (.iadd, 1), some (.iload_n 3, 1), some (.iadd, 1), some (.aload_n 0, 1), some (.getfield 35, 3), none, none, some (.iload_n 3, 1), some (.iaload, 1), some (.iastore, 1), some (.aload_n 0, 1), some (.getfield 70, 3), none, none, some (.iload_n 2, 1), some (.bipush 93, 2), none, some (.iadd, 1), some (.iload_n 3, 1), some (.iadd, 1), some (.aload_n 0, 1), some (.getfield 38, 3), none, none, some (.iload_n 3, 1), some (.baload, 1), some (.ifCond .eq 7, 3), none, none, some (.iconst 1, 1), some (.goto 4, 3), none, none, some (.iconst 0, 1), some (.iastore, 1), some (.iinc 3 1, 3), none, none, some (.goto (-51), 3), none, none, some (.aload_n 0, 1), some (.getfield 73, 3), none, none, some (.iload_n 1, 1), some (.iconst 1, 1), some (.bastore, 1), some (.iconst 1, 1), some (.ireturn, 1)]
def xt136 : List (Option (Instr × Nat)) := [some (.iload_n 1, 1), some (.iconst 0, 1), some (.iconst 1, 1), some (.invokestatic 76, 3), none, none, some (.ifCond .ne 6, 3), none, none, some (.bipush (-2), 2), none, some (.ireturn, 1), some (.aload_n 0, 1), some (.getfield 73, 3), none, none, some (.iload_n 1, 1), some (.baload, 1), some (.ifCond .ne 6, 3), none, none, some (.bipush (-3), 2), none, some (.ireturn, 1), some (.sipush 130, 3), none, none, some (.iload_n 1, 1), some (.imul, 1), some (.istore_n 2, 1), some (.iconst 0, 1), some (.istore_n 3, 1), some (.iload_n 3, 1), some (.bipush 15, 2), none, some (.if_icmp .ge 23, 3), none, none, some (.aload_n 0, 1), some (.getfield 7, 3), none, none, some (.iload_n 3, 1), some (.aload_n 0, 1), some (.getfield 70, 3), none, none, some (.iload_n 2, 1), some (.iload_n 3, 1), some (.iadd, 1), some (.iaload, 1), some (.iastore, 1), some (.iinc 3 1, 3), none, none, some (.goto (-23), 3), none, none, some (.iconst 0, 1), some (.istore_n 3, 1), some (.iload_n 3, 1), some (.iconst 5, 1), some (.if_icmp .ge 43, 3), none, none, some (.aload_n 0, 1), some (.getfield 13, 3), none, none, some (.iload_n 3, 1), some (.aload_n 0, 1), some (.getfield 70, 3), none, none, some (.iload_n 2, 1), some (.bipush 15, 2), none, some (.iadd, 1), some (.iload_n 3, 1), some (.iadd, 1), some (.iaload, 1), some (.iastore, 1), some (.aload_n 0, 1), some (.getfield 19, 3), none, none, some (.iload_n 3, 1), some (.aload_n 0, 1), some (.getfield 70, 3), none, none, some (.iload_n 2, 1), some (.bipush 20, 2), none, some (.iadd, 1), some (.iload_n 3, 1), some (.iadd, 1), some (.iaload, 1), some (.iastore, 1), some (.iinc 3 1, 3), none, none, some (.goto (-42), 3), none, none, some (.iconst 0, 1), some (.istore_n 3, 1), some (.iload_n 3, 1), some (.bipush 24, 2), none, some (.if_icmp .ge 26, 3), none, none, some (.aload_n 0, 1), some (.getfield 22, 3), none, none, some (.iload_n 3, 1), some (.aload_n 0, 1), some (.getfield 70, 3), none, none, some (.iload_n 2, 1), some (.bipush 25, 2), none, some (.iadd, 1), some (.iload_n 3, 1), some (.iadd, 1), some (.iaload, 1), some (.iastore, 1), some (.iinc 3 1, 3), none, none, some (.goto (-26), 3), none, none, some (.iconst 0, 1), some (.istore_n 3, 1), some (.iload_n 3, 1), some (.bipush 30, 2), none, some (.if_icmp .ge 26, 3), none, none, some (.aload_n 0, 1), some (.getfield 28, 3), none, none, some (.iload_n 3, 1), some (.aload_n 0, 1), some (.getfield 70, 3), none, none, some (.iload_n 2, 1), some (.bipush 49, 2), none, some (.iadd, 1), some (.iload_n 3, 1), some (.iadd, 1), some (.iaload, 1), some (.iastore, 1), some (.iinc 3 1, 3), none, none, some (.goto (-26), 3), none, none, some (.aload_n 0, 1), some (.getfield 25, 3), none, none, some (.iconst 0, 1), some (.aload_n 0, 1), some (.getfield 70, 3), none, none, some (.iload_n 2, 1), some (.bipush 79, 2), none, some (.iadd, 1), some (.iaload, 1), some (.iastore, 1), some (.aload_n 0, 1), some (.getfield 25, 3), none, none, some (.iconst 1, 1), some (.aload_n 0, 1), some (.getfield 70, 3), none, none, some (.iload_n 2, 1), some (.bipush 80, 2), none, some (.iadd, 1), some (.iaload, 1), some (.iastore, 1), some (.aload_n 0, 1), some (.aload_n 0, 1), some (.getfield 70, 3), none, none, some (.iload_n 2, 1), some (.bipush 81, 2), none, some (.iadd, 1), some (.iaload, 1), some (.putfield 31, 3), none, none, some (.iconst 0, 1), some (.istore_n 3, 1), some (.iload_n 3, 1), some (.bipush 11, 2), none, some (.if_icmp .ge 52, 3), none, none, some (.aload_n 0, 1), some (.getfield 35, 3), none, none, some (.iload_n 3, 1), some (.aload_n 0, 1), some (.getfield 70, 3), none, none, some (.iload_n 2, 1), some (.bipush 82, 2), none, some (.iadd, 1), some (.iload_n 3, 1), some (.iadd, 1), some (.iaload, 1), some (.iastore, 1), some (.aload_n 0, 1), some (.getfield 38, 3), none, none, some (.iload_n 3, 1), some (.aload_n 0, 1), some (.getfield 70, 3), none, none, some (.iload_n 2, 1), some (.bipush 93, 2), none, some (.iadd, 1), some (.iload_n 3, 1), some (.iadd, 1), some (.iaload, 1), some (.iconst 1, 1), some (.if_icmp .ne 7, 3), none, none, some (.iconst 1, 1), some (.goto 4, 3), none, none, some (.iconst 0, 1), some (.bastore, 1), some (.iinc 3 1, 3), none, none, some (.goto (-52), 3), none, none, some (.aload_n 0, 1), some (.iconst 0, 1), some (.putfield 84, 3), none, none, some (.iconst 1, 1), some (.ireturn, 1)]
def xt137 : List (Option (Instr × Nat)) := [some (.iload_n 1, 1), some (.bipush 50, 2), none, some (.bipush 73, 2), none, some (.invokestatic 76, 3), none, none, some (.ifCond .eq 13, 3), none, none, some (.aload_n 0, 1), some (.getfield 22, 3), none, none, some (.iload_n 1, 1), some (.bipush 50, 2), none, some (.isub, 1), some (.iaload, 1), some (.ireturn, 1), some (.iload_n 1, 1), some (.bipush 10, 2), none, some (.irem, 1), some (.istore_n 2, 1), some (.iload_n 1, 1), some (.bipush 10, 2), none, some (.bipush 44, 2), none, some (.invokestatic 76, 3), none, none, some (.ifCond .eq 39, 3), none, none, some (.iload_n 2, 1), some (.iconst 5, 1), some (.if_icmp .ge 34, 3), none, none, some (.iload_n 1, 1), some (.bipush 40, 2), none, some (.if_icmp .ge 21, 3), none, none, some (.aload_n 0, 1), some (.getfield 7, 3), none, none, some (.iconst 5, 1), some (.iload_n 1, 1), some (.bipush 10, 2), none, some (.idiv, 1), some (.iconst 1, 1), some (.isub, 1), some (.imul, 1), some (.iload_n 2, 1), some (.iadd, 1), some (.iaload, 1), some (.goto 9, 3), none, none, some (.aload_n 0, 1), some (.getfield 13, 3), none, none, some (.iload_n 2, 1), some (.iaload, 1), some (.ireturn, 1), some (.iconst 0, 1), some (.istore_n 3, 1), some (.iconst 0, 1), some (.istore 4, 2), none, some (.iconst 0, 1), some (.istore 5, 2), none, some (.iload 5, 2), none, some (.iconst 5, 1), some (.if_icmp .ge 37, 3), none, none, some (.iload_n 3, 1), some (.aload_n 0, 1), some (.getfield 19, 3), none, none, some (.iload 5, 2), none, some (.iaload, 1), some (.ifCond .le 17, 3), none, none, some (.iconst 1, 1), some (.aload_n 0, 1), some (.getfield 19, 3), none, none, some (.iload 5, 2), none, some (.iaload, 1), some (.iconst 1, 1), some (.isub, 1), some (.ishl, 1), some (.goto 4, 3), none, none, some (.iconst 0, 1), some (.ior, 1), some (.istore_n 3, 1), some (.iinc 5 1, 3), none, none, some (.goto (-37), 3), none, none, some (.iconst 0, 1), some (.istore 5, 2), none, some (.iload 5, 2), none, some (.bipush 11, 2), none, some (.if_icmp .ge 32, 3), none, none, some (.iload 4, 2), none, some (.aload_n 0, 1), some (.getfield 38, 3), none, none, some (.iload 5, 2), none, some (.baload, 1), some (.ifCond .eq 10, 3), none, none, some (.iconst 1, 1), some (.iload 5, 2), none, some (.ishl, 1), some (.goto 4, 3), none, none, some (.iconst 0, 1), some (.ior, 1), some (.istore 4, 2), none, some (.iinc 5 1, 3), none, none, some (.goto (-33), 3), none, none, some (.iload_n 1, 1), some (.ifCond .ne 10, 3), none, none, some (.aload_n 0, 1), some (.getfield 88, 3), none, none, some (.goto 36, 3), none, none, some (.iload_n 1, 1), some (.iconst 1, 1), some (.if_icmp .ne 7, 3), none, none, some (.iload_n 3, 1), some (.goto 27, 3), none, none, some (.iload_n 1, 1), some (.iconst 2, 1), some (.if_icmp .ne 10, 3), none, none, some (.aload_n 0, 1), some (.getfield 31, 3), none, none, some (.goto 15, 3), none, none, some (.iload_n 1, 1), some (.iconst 3, 1), some (.if_icmp .ne 8, 3), none, none, some (.iload 4, 2), none, some (.goto 5, 3), none, none, some (.bipush (-2), 2), none, some (.ireturn, 1)]
def xt138 : List (Option (Instr × Nat)) := [some (.iload_n 0, 1), some (.iload_n 0, 1), some (.iconst 1, 1), some (.iushr, 1), some (.ldc_w 265, 3), none, none, some (.iand, 1), some (.isub, 1), some (.istore_n 0, 1), some (.iload_n 0, 1), some (.ldc_w 266, 3), none, none, some (.iand, 1), some (.iload_n 0, 1), some (.iconst 2, 1), some (.iushr, 1), some (.ldc_w 266, 3), none, none, some (.iand, 1), some (.iadd, 1), some (.istore_n 0, 1), some (.iload_n 0, 1), some (.iload_n 0, 1), some (.iconst 4, 1), some (.iushr, 1), some (.iadd, 1), some (.ldc_w 267, 3), none, none, some (.iand, 1), some (.istore_n 0, 1), some (.iload_n 0, 1), some (.iload_n 0, 1), some (.bipush 8, 2), none, some (.iushr, 1), some (.iadd, 1), some (.istore_n 0, 1), some (.iload_n 0, 1), some (.iload_n 0, 1), some (.bipush 16, 2), none, some (.iushr, 1), some (.iadd, 1), some (.istore_n 0, 1), some (.iload_n 0, 1), some (.bipush 63, 2), none, some (.iand, 1), some (.ireturn, 1)]
def xt139 : List (Option (Instr × Nat)) := [some (.iload_n 0, 1), some (.iload_n 1, 1), some (.if_icmp .lt 7, 3), none, none, some (.iload_n 0, 1), some (.goto 4, 3), none, none, some (.iload_n 1, 1), some (.ireturn, 1)]
def xt140 : List (Option (Instr × Nat)) := [some (.lload_n 0, 1), some (.lload_n 2, 1), some (.lcmp, 1), some (.ifCond .lt 7, 3), none, none, some (.lload_n 0, 1), some (.goto 4, 3), none, none, some (.lload_n 2, 1), some (.lreturn, 1)]
def xt141 : List (Option (Instr × Nat)) := [some (.iload_n 0, 1), some (.iload_n 1, 1), some (.if_icmp .gt 7, 3), none, none, some (.iload_n 0, 1), some (.goto 4, 3), none, none, some (.iload_n 1, 1), some (.ireturn, 1)]
def xt142 : List (Option (Instr × Nat)) := [some (.lload_n 0, 1), some (.lload_n 2, 1), some (.lcmp, 1), some (.ifCond .gt 7, 3), none, none, some (.lload_n 0, 1), some (.goto 4, 3), none, none, some (.lload_n 2, 1), some (.lreturn, 1)]
def xt143 : List (Option (Instr × Nat)) := [some (.iconst 0, 1), some (.istore_n 2, 1), some (.aload_n 0, 1), some (.arraylength, 1), some (.istore_n 3, 1), some (.iload_n 2, 1), some (.iload_n 3, 1), some (.if_icmp .ge 13, 3), none, none, some (.aload_n 0, 1), some (.iload_n 2, 1), some (.iload_n 1, 1), some (.iastore, 1), some (.iinc 2 1, 3), none, none, some (.goto (-12), 3), none, none, some (.return_, 1)]
def xt144 : List (Option (Instr × Nat)) := [some (.new 7, 3), none, none, some (.dup, 1), some (.invokespecial 9, 3), none, none, some (.astore_n 1, 1), some (.new 10, 3), none, none, some (.dup, 1), some (.invokespecial 12, 3), none, none, some (.astore_n 2, 1), some (.iconst 0, 1), some (.istore_n 3, 1), some (.iload_n 3, 1), some (.aload_n 0, 1), some (.arraylength, 1), some (.iconst 5, 1), some (.isub, 1), some (.if_icmp .gt 954, 3), none, none, some (.aload_n 0, 1), some (.iload_n 3, 1), some (.iaload, 1), some (.bipush 31, 2), none, some (.iand, 1), some (.tableswitch 939 0 27 #[128, 171, 204, 227, 240, 263, 276, 299, 332, 375, 398, 441, 474, 507, 540, 553, 576, 609, 632, 655, 688, 711, 734, 793, 817, 870, 893, 916], 128), none, none, none, none, none, none, none, none, none, none, none, none, none, none, none, none, none, none, none, none, none, none, none, none, none, none, none, none, none, none, none, none, none, none, none, none, none, none, none, none, none, none, none, none, none, none, none, none, none, none, none, none, none, none, none, none, none, none, none, none, none, none, none, none, none, none, none, none, none, none, none, none, none, none, none, none, none, none, none, none, none, none, none, none, none, none, none, none, none, none, none, none, none, none, none, none, none, none, none, none, none, none, none, none, none, none, none, none, none, none, none, none, none, none, none, none, none, none, none, none, none, none, none, none, none, none, none, some (.aload_n 1, 1), some (.aload_n 0, 1), some (.iload_n 3, 1), some (.iconst 1, 1), some (.iadd, 1), some (.iaload, 1), some (.aload_n 0, 1), some (.iload_n 3, 1), some (.iconst 2, 1), some (.iadd, 1), some (.iaload, 1), some (.aload_n 0, 1), some (.iload_n 3, 1), some (.iconst 3, 1), some (.iadd, 1), some (.iaload, 1), some (.invokevirtual 13, 3), none, none, some (.aload_n 2, 1), some (.aload_n 0, 1), some (.iload_n 3, 1), some (.iconst 1, 1), some (.iadd, 1), some (.iaload, 1), some (.aload_n 0, 1), some (.iload_n 3, 1), some (.iconst 2, 1), some (.iadd, 1), some (.iaload, 1), some (.aload_n 0, 1), some (.iload_n 3, 1), some (.iconst 3, 1), some (.iadd, 1), some (.iaload, 1), some (.invokevirtual 17, 3), none, none, some (.if_icmp .eq 773, 3), none, none, some (.iconst 0, 1), some (.ireturn, 1), some (.aload_n 1, 1), some (.aload_n 0, 1), some (.iload_n 3, 1), some (.iconst 1, 1), some (.iadd, 1), some (.iaload, 1), some (.aload_n 0, 1), some (.iload_n 3, 1), some (.iconst 2, 1), some (.iadd, 1), some (.iaload, 1), some (.invokevirtual 18, 3), none, none, some (.aload_n 2, 1), some (.aload_n 0, 1), some (.iload_n 3, 1), some (.iconst 1, 1), some (.iadd, 1), some (.iaload, 1), some (.aload_n 0, 1), some (.iload_n 3, 1), some (.iconst 2, 1), some (.iadd, 1), some (.iaload, 1), some (.invokevirtual 22, 3), none, none, some (.if_icmp .eq 740, 3), none, none, some (.iconst 0, 1), some (.ireturn, 1), some (.aload_n 1, 1), some (.aload_n 0, 1), some (.iload_n 3, 1), some (.iconst 1, 1), some (.iadd, 1), some (.iaload, 1), some (.invokevirtual 23, 3), none, none, some (.aload_n 2, 1), some (.aload_n 0, 1), some (.iload_n 3, 1), some (.iconst 1, 1), some (.iadd, 1), some (.iaload, 1), some (.invokevirtual 27, 3), none, none, some (.if_icmp .eq 717, 3), none, none, some (.iconst 0, 1), some (.ireturn, 1), some (.aload_n 1, 1), some (.invokevirtual 28, 3), none, none, some (.aload_n 2, 1), some (.invokevirtual 32, 3), none, none, some (.if_icmp .eq 704, 3), none, none, some (.iconst 0, 1), some (.ireturn, 1), some (.aload_n 1, 1), some (.aload_n 0, 1), some (.iload_n 3, 1), some (.iconst 1, 1), some (.iadd, 1), some (.iaload, 1), some (.invokevirtual 33, 3), none, none, some (.aload_n 2, 1), some (.aload_n 0, 1), some (.iload_n 3, 1), some (.iconst 1, 1), some (.iadd, 1), some (.iaload, 1), some (.invokevirtual 36, 3), none, none, some (.if_icmp .eq 681, 3), none, none, some (.iconst 0, 1), some (.ireturn, 1), some (.aload_n 1, 1), some (.invokevirtual 37, 3), none, none, some (.aload_n 2, 1), some (.invokevirtual 40, 3), none, none, some (.if_icmp .eq 668, 3), none, none, some (.iconst 0, 1), some (.ireturn, 1), some (.aload_n 1, 1), some (.aload_n 0, 1), some (.iload_n 3, 1), some (.iconst 1, 1), some (.iadd, 1), some (.iaload, 1), some (.invokevirtual 41, 3), none, none, some (.aload_n 2, 1), some (.aload_n 0, 1), some (.iload_n 3, 1), some (.iconst 1, 1), some (.iadd, 1), some (.iaload, 1), some (.invokevirtual 44, 3), none, none, some (.if_icmp .eq 645, 3), none, none, some (.iconst 0, 1), some (.ireturn, 1), some (.aload_n 1, 1), some (.aload_n 0, 1), some (.iload_n 3, 1), some (.iconst 1, 1), some (.iadd, 1), some (.iaload, 1), some (.aload_n 0, 1), some (.iload_n 3, 1), some (.iconst 2, 1), some (.iadd, 1), some (.iaload, 1), some (.invokevirtual 45, 3), none, none, some (.aload_n 2, 1), some (.aload_n 0, 1), some (.iload_n 3, 1), some (.iconst 1, 1), some (.iadd, 1), some (.iaload, 1), some (.aload_n 0, 1), some (.iload_n 3, 1), some (.iconst 2, 1), some (.iadd, 1), some (.iaload, 1), some (.invokevirtual 48, 3), none, none, some (.if_icmp .eq 612, 3), none, none, some (.iconst 0, 1), some (.ireturn, 1), some (.aload_n 1, 1), some (.aload_n 0, 1), some (.iload_n 3, 1), some (.iconst 1, 1), some (.iadd, 1), some (.iaload, 1), some (.aload_n 0, 1), some (.iload_n 3, 1), some (.iconst 2, 1), some (.iadd, 1), some (.iaload, 1), some (.aload_n 0, 1), some (.iload_n 3, 1), some (.iconst 3, 1), some (.iadd, 1), some (.iaload, 1), some (.invokevirtual 49, 3), none, none, some (.aload_n 2, 1), some (.aload_n 0, 1), some (.iload_n 3, 1), some (.iconst 1, 1), some (.iadd, 1), some (.iaload, 1), some (.aload_n 0, 1), some (.iload_n 3, 1), some (.iconst 2, 1), some (.iadd, 1), some (.iaload, 1), some (.aload_n 0, 1), some (.iload_n 3, 1), some (.iconst 3, 1), some (.iadd, 1), some (.iaload, 1), some (.invokevirtual 52, 3), none, none, some (.if_icmp .eq 569, 3), none, none, some (.iconst 0, 1), some (.ireturn, 1), some (.aload_n 1, 1), some (.aload_n 0, 1), some (.iload_n 3, 1), some (.iconst 1, 1), some (.iadd, 1), some (.iaload, 1), some (.invokevirtual 53, 3), none, none, some (.aload_n 2, 1), some (.aload_n 0, 1), some (.iload_n 3, 1), some (.iconst 1, 1), some (.iadd, 1), some (.iaload, 1), some (.invokevirtual 56, 3), none, none, some (.if_icmp .eq 546, 3), none, none, some (.iconst 0, 1), some (.ireturn, 1), some (.aload_n 1, 1), some (.aload_n 0, 1), some (.iload_n 3, 1), some (.iconst 1, 1), some (.iadd, 1), some (.iaload, 1), some (.aload_n 0, 1), some (.iload_n 3, 1), some (.iconst 2, 1), some (.iadd, 1), some (.iaload, 1), some (.aload_n 0, 1), some (.iload_n 3, 1), some (.iconst 3, 1), some (.iadd, 1), some (.iaload, 1), some (.invokevirtual 57, 3), none, none, some (.aload_n 2, 1), some (.aload_n 0, 1), some (.iload_n 3, 1), some (.iconst 1, 1), some (.iadd, 1), some (.iaload, 1), some (.aload_n 0, 1), some (.iload_n 3, 1), some (.iconst 2, 1), some (.iadd, 1), some (.iaload, 1), some (.aload_n 0, 1), some (.iload_n 3, 1), some (.iconst 3, 1), some (.iadd, 1), some (.iaload, 1), some (.invokevirtual 60, 3), none, none, some (.if_icmp .eq 503, 3), none, none, some (.iconst 0, 1), some (.ireturn, 1), some (.aload_n 1, 1), some (.aload_n 0, 1), some (.iload_n 3, 1), some (.iconst 1, 1), some (.iadd, 1), some (.iaload, 1), some (.aload_n 0, 1), some (.iload_n 3, 1), some (.iconst 2, 1), some (.iadd, 1), some (.iaload, 1), some (.invokevirtual 61, 3), none, none, some (.aload_n 2, 1), some (.aload_n 0, 1), some (.iload_n 3, 1), some (.iconst 1, 1), some (.iadd, 1), some (.iaload, 1), some (.aload_n 0, 1), some (.iload_n 3, 1), some (.iconst 2, 1), some (.iadd, 1), some (.iaload, 1), some (.invokevirtual 64, 3), none, none, some (.if_icmp .eq 470, 3), none, none, some (.iconst 0, 1), some (.ireturn, 1), some (.aload_n 1, 1), some (.aload_n 0, 1), some (.iload_n 3, 1), some (.iconst 1, 1), some (.iadd, 1), some (.iaload, 1), some (.aload_n 0, 1), some (.iload_n 3, 1), some (.iconst 2, 1), some (.iadd, 1), some (.iaload, 1), some (.invokevirtual 65, 3), none, none, some (.aload_n 2, 1), some (.aload_n 0, 1), some (.iload_n 3, 1), some (.iconst 1, 1), some (.iadd, 1), some (.iaload, 1), some (.aload_n 0, 1), some (.iload_n 3, 1), some (.iconst 2, 1), some (.iadd, 1), some (.iaload, 1), some (.invokevirtual 68, 3), none, none, some (.if_icmp .eq 437, 3), none, none, some (.iconst 0, 1), some (.ireturn, 1), some (.aload_n 1, 1), some (.aload_n 0, 1), some (.iload_n 3, 1), some (.iconst 1, 1), some (.iadd, 1), some (.iaload, 1), some (.aload_n 0, 1), some (.iload_n 3, 1), some (.iconst 2, 1), some (.iadd, 1), some (.iaload, 1), some (.invokevirtual 69, 3), none, none, some (.aload_n 2, 1), some (.aload_n 0, 1), some (.iload_n 3, 1), some (.iconst 1, 1), some (.iadd, 1), some (.iaload, 1), some (.aload_n 0, 1), some (.iload_n 3, 1), some (.iconst 2, 1), some (.iadd, 1), some (.iaload, 1), some (.invokevirtual 72, 3), none, none, some (.if_icmp .eq 404, 3), none, none, some (.iconst 0, 1), some (.ireturn, 1), some (.aload_n 1, 1), some (.invokevirtual 73, 3), none, none, some (.aload_n 2, 1), some (.invokevirtual 76, 3), none, none, some (.if_icmp .eq 391, 3), none, none, some (.iconst 0, 1), some (.ireturn, 1), some (.aload_n 1, 1), some (.aload_n 0, 1), some (.iload_n 3, 1), some (.iconst 1, 1), some (.iadd, 1), some (.iaload, 1), some (.invokevirtual 77, 3), none, none, some (.aload_n 2, 1), some (.aload_n 0, 1), some (.iload_n 3, 1), some (.iconst 1, 1), some (.iadd, 1), some (.iaload, 1), some (.invokevirtual 80, 3), none, none, some (.if_icmp .eq 368, 3), none, none, some (.iconst 0, 1), some (.ireturn, 1), some (.aload_n 1, 1), some (.aload_n 0, 1), some (.iload_n 3, 1), some (.iconst 1, 1), some (.iadd, 1), some (.iaload, 1), some (.aload_n 0, 1), some (.iload_n 3, 1), some (.iconst 2, 1), some (.iadd, 1), some (.iaload, 1), some (.invokevirtual 81, 3), none, none, some (.aload_n 2, 1), some (.aload_n 0, 1), some (.iload_n 3, 1), some (.iconst 1, 1), some (.iadd, 1), some (.iaload, 1), some (.aload_n 0, 1), some (.iload_n 3, 1), some (.iconst 2, 1), some (.iadd, 1), some (.iaload, 1), some (.invokevirtual 84, 3), none, none, some (.if_icmp .eq 335, 3), none, none, some (.iconst 0, 1), some (.ireturn, 1), some (.aload_n 1, 1), some (.aload_n 0, 1), some (.iload_n 3, 1), some (.iconst 1, 1), some (.iadd, 1), some (.iaload, 1), some (.invokevirtual 85, 3), none, none, some (.aload_n 2, 1), some (.aload_n 0, 1), some (.iload_n 3, 1), some (.iconst 1, 1), some (.iadd, 1), some (.iaload, 1), some (.invokevirtual 88, 3), none, none, some (.if_icmp .eq 312, 3), none, none, some (.iconst 0, 1), some (.ireturn, 1), some (.aload_n 1, 1), some (.aload_n 0, 1), some (.iload_n 3, 1), some (.iconst 1, 1), some (.iadd, 1), some (.iaload, 1), some (.invokevirtual 89, 3), none, none, some (.aload_n 2, 1), some (.aload_n 0, 1), some (.iload_n 3, 1), some (.iconst 1, 1), some (.iadd, 1), some (.iaload, 1), some (.invokevirtual 92, 3), none, none, some (.if_icmp .eq 289, 3), none, none, some (.iconst 0, 1), some (.ireturn, 1), some (.aload_n 1, 1), some (.aload_n 0, 1), some (.iload_n 3, 1), some (.iconst 1, 1), some (.iadd, 1), some (.iaload, 1), some (.aload_n 0, 1), some (.iload_n 3, 1), some (.iconst 2, 1), some (.iadd, 1), some (.iaload, 1), some (.invokevirtual 93, 3), none, none, some (.aload_n 2, 1), some (.aload_n 0, 1), some (.iload_n 3, 1), some (.iconst 1, 1), some (.iadd, 1), some (.iaload, 1), some (.aload_n 0, 1), some (.iload_n 3, 1), some (.iconst 2, 1), some (.iadd, 1), some (.iaload, 1), some (.invokevirtual 96, 3), none, none, some (.if_icmp .eq 256, 3), none, none, some (.iconst 0, 1), some (.ireturn, 1), some (.aload_n 1, 1), some (.aload_n 0, 1), some (.iload_n 3, 1), some (.iconst 1, 1), some (.iadd, 1), some (.iaload, 1), some (.invokevirtual 97, 3), none, none, some (.aload_n 2, 1), some (.aload_n 0, 1), some (.iload_n 3, 1), some (.iconst 1, 1), some (.iadd, 1), some (.iaload, 1), some (.invokevirtual 100, 3), none, none, some (.if_icmp .eq 233, 3), none, none, some (.iconst 0, 1), some (.ireturn, 1), some (.aload_n 1, 1), some (.aload_n 0, 1), some (.iload_n 3, 1), some (.iconst 1, 1), some (.iadd, 1), some (.iaload, 1), some (.invokevirtual 101, 3), none, none, some (.aload_n 2, 1), some (.aload_n 0, 1), some (.iload_n 3, 1), some (.iconst 1, 1), some (.iadd, 1), some (.iaload, 1), some (.invokevirtual 104, 3), none, none, some (.if_icmp .eq 210, 3), none, none, some (.iconst 0, 1), some (.ireturn, 1), some (.aload_n 1, 1), some (.aload_n 0, 1), some (.iload_n 3, 1), some (.iconst 1, 1), some (.iadd, 1), some (.iaload, 1), some (.aload_n 0, 1), some (.iload_n 3, 1), some (.iconst 2, 1), some (.iadd, 1), some (.iaload, 1), some (.aload_n 0, 1), some (.iload_n 3, 1), some (.iconst 3, 1), some (.iadd, 1), some (.iaload, 1), some (.ifCond .eq 7, 3), none, none, some (.iconst 1, 1), some (.goto 4, 3), none, none, some (.iconst 0, 1), some (.invokevirtual 105, 3), none, none, some (.aload_n 2, 1), some (.aload_n 0, 1), some (.iload_n 3, 1), some (.iconst 1, 1), some (.iadd, 1), some (.iaload, 1), some (.aload_n 0, 1), some (.iload_n 3, 1), some (.iconst 2, 1), some (.iadd, 1), some (.iaload, 1), some (.aload_n 0, 1), some (.iload_n 3, 1), some (.iconst 3, 1), some (.iadd, 1), some (.iaload, 1), some (.ifCond .eq 7, 3), none, none, some (.iconst 1, 1), some (.goto 4, 3), none, none, some (.iconst 0, 1), some (.invokevirtual 109, 3), none, none, some (.if_icmp .eq 151, 3), none, none, some (.iconst 0, 1), some (.ireturn, 1), some (.aload_n 1, 1), some (.aload_n 0, 1), some (.iload_n 3, 1), some (.iconst 1, 1), some (.iadd, 1), some (.iaload, 1), some (.invokevirtual 110, 3), none, none, some (.aload_n 2, 1), some (.aload_n 0, 1), some (.iload_n 3, 1), some (.iconst 1, 1), some (.iadd, 1), some (.iaload, 1), some (.invokevirtual 114, 3), none, none, some (.lcmp, 1), some (.ifCond .eq 127, 3), none, none, some (.iconst 0, 1), some (.ireturn, 1), some (.aload_n 1, 1), some (.aload_n 0, 1), some (.iload_n 3, 1), some (.iconst 1, 1), some (.iadd, 1), some (.iaload, 1), some (.aload_n 0, 1), some (.iload_n 3, 1), some (.iconst 2, 1), some (.iadd, 1), some (.iaload, 1), some (.aload_n 0, 1), some (.iload_n 3, 1), some (.iconst 3, 1), some (.iadd, 1), some (.iaload, 1), some (.aload_n 0, 1), some (.iload_n 3, 1), some (.iconst 4, 1), some (.iadd, 1), some (.iaload, 1), some (.invokevirtual 115, 3), none, none, some (.aload_n 2, 1), some (.aload_n 0, 1), some (.iload_n 3, 1), some (.iconst 1, 1), some (.iadd, 1), some (.iaload, 1), some (.aload_n 0, 1), some (.iload_n 3, 1), some (.iconst 2, 1), some (.iadd, 1), some (.iaload, 1), some (.aload_n 0, 1), some (.iload_n 3, 1), some (.iconst 3, 1), some (.iadd, 1), some (.iaload, 1), some (.aload_n 0, 1), some (.iload_n 3, 1), some (.iconst 4, 1), some (.iadd, 1), some (.iaload, 1), some (.invokevirtual 119, 3), none, none, some (.if_icmp .eq 74, 3), none, none, some (.iconst 0, 1), some (.ireturn, 1), some (.aload_n 1, 1), some (.aload_n 0, 1), some (.iload_n 3, 1), some (.iconst 1, 1), some (.iadd, 1), some (.iaload, 1), some (.invokevirtual 120, 3), none, none, some (.aload_n 2, 1), some (.aload_n 0, 1), some (.iload_n 3, 1), some (.iconst 1, 1), some (.iadd, 1), some (.iaload, 1), some (.invokevirtual 123, 3), none, none, some (.if_icmp .eq 51, 3), none, none, some (.iconst 0, 1), some (.ireturn, 1), some (.aload_n 1, 1), some (.aload_n 0, 1), some (.iload_n 3, 1), some (.iconst 1, 1), some (.iadd, 1), some (.iaload, 1), some (.invokevirtual 124, 3), none, none, some (.aload_n 2, 1), some (.aload_n 0, 1), some (.iload_n 3, 1), some (.iconst 1, 1), some (.iadd, 1), some (.iaload, 1), some (.invokevirtual 127, 3), none, none, some (.if_icmp .eq 28, 3), none, none, some (.iconst 0, 1), some (.ireturn, 1), some (.aload_n 1, 1), some (.aload_n 0, 1), some (.iload_n 3, 1), some (.iconst 1, 1), some (.iadd, 1), some (.iaload, 1), some (.invokevirtual 128, 3), none, none, some (.aload_n 2, 1), some (.aload_n 0, 1), some (.iload_n 3, 1), some (.iconst 1, 1), some (.iadd, 1), some (.iaload, 1), some (.invokevirtual 131, 3), none, none, some (.if_icmp .eq 5, 3), none, none, some (.iconst 0, 1), some (.ireturn, 1), some (.iinc 3 5, 3), none, none, some (.goto (-956), 3), none, none, some (.iconst 1, 1), some (.ireturn, 1)]
theorem xt0_ok : xtOk cX0_init xt0 = true := by decide +kernel
theorem xt0_at : ∀ (pc : Nat) (i : Instr × Nat), xt0[pc]? = some (some i) → decode cX0_init pc = .ok i := fun _ _ h => xtOk_at xt0_ok h
theorem xt1_ok : xtOk cX0_draw xt1 = true := by decide +kernel
theorem xt1_at : ∀ (pc : Nat) (i : Instr × Nat), xt1[pc]? = some (some i) → decode cX0_draw pc = .ok i := fun _ _ h => xtOk_at xt1_ok h
theorem xt2_ok : xtOk cX0_sumOf xt2 = true := by decide +kernel
theorem xt2_at : ∀ (pc : Nat) (i : Instr × Nat), xt2[pc]? = some (some i) → decode cX0_sumOf pc = .ok i := fun _ _ h => xtOk_at xt2_ok h
theorem xt3_ok : xtOk cX0_commonDivisor xt3 = true := by decide +kernel
theorem xt3_at : ∀ (pc : Nat) (i : Instr × Nat), xt3[pc]? = some (some i) → decode cX0_commonDivisor pc = .ok i := fun _ _ h => xtOk_at xt3_ok h
theorem xt4_ok : xtOk cX1_init xt4 = true := by decide +kernel
theorem xt4_at : ∀ (pc : Nat) (i : Instr × Nat), xt4[pc]? = some (some i) → decode cX1_init pc = .ok i := fun _ _ h => xtOk_at xt4_ok h
theorem xt5_ok : xtOk cX1_add xt5 = true := by decide +kernel
theorem xt5_at : ∀ (pc : Nat) (i : Instr × Nat), xt5[pc]? = some (some i) → decode cX1_add pc = .ok i := fun _ _ h => xtOk_at xt5_ok h
theorem xt6_ok : xtOk cX1_faultAsWindow xt6 = true := by decide +kernel
theorem xt6_at : ∀ (pc : Nat) (i : Instr × Nat), xt6[pc]? = some (some i) → decode cX1_faultAsWindow pc = .ok i := fun _ _ h => xtOk_at xt6_ok h
theorem xt7_ok : xtOk cX1_faultAsLaw xt7 = true := by decide +kernel
theorem xt7_at : ∀ (pc : Nat) (i : Instr × Nat), xt7[pc]? = some (some i) → decode cX1_faultAsLaw pc = .ok i := fun _ _ h => xtOk_at xt7_ok h
theorem xt8_ok : xtOk cX1_becomeWindow xt8 = true := by decide +kernel
theorem xt8_at : ∀ (pc : Nat) (i : Instr × Nat), xt8[pc]? = some (some i) → decode cX1_becomeWindow pc = .ok i := fun _ _ h => xtOk_at xt8_ok h
theorem xt9_ok : xtOk cX1_becomeLaw xt9 = true := by decide +kernel
theorem xt9_at : ∀ (pc : Nat) (i : Instr × Nat), xt9[pc]? = some (some i) → decode cX1_becomeLaw pc = .ok i := fun _ _ h => xtOk_at xt9_ok h
theorem xt10_ok : xtOk cX1_comesTo xt10 = true := by decide +kernel
theorem xt10_at : ∀ (pc : Nat) (i : Instr × Nat), xt10[pc]? = some (some i) → decode cX1_comesTo pc = .ok i := fun _ _ h => xtOk_at xt10_ok h
theorem xt11_ok : xtOk cX1_joinsTwo xt11 = true := by decide +kernel
theorem xt11_at : ∀ (pc : Nat) (i : Instr × Nat), xt11[pc]? = some (some i) → decode cX1_joinsTwo pc = .ok i := fun _ _ h => xtOk_at xt11_ok h
theorem xt12_ok : xtOk cX1_standsAlone xt12 = true := by decide +kernel
theorem xt12_at : ∀ (pc : Nat) (i : Instr × Nat), xt12[pc]? = some (some i) → decode cX1_standsAlone pc = .ok i := fun _ _ h => xtOk_at xt12_ok h
theorem xt13_ok : xtOk cX1_alone xt13 = true := by decide +kernel
theorem xt13_at : ∀ (pc : Nat) (i : Instr × Nat), xt13[pc]? = some (some i) → decode cX1_alone pc = .ok i := fun _ _ h => xtOk_at xt13_ok h
theorem xt14_ok : xtOk cX1_joined xt14 = true := by decide +kernel
theorem xt14_at : ∀ (pc : Nat) (i : Instr × Nat), xt14[pc]? = some (some i) → decode cX1_joined pc = .ok i := fun _ _ h => xtOk_at xt14_ok h
theorem xt15_ok : xtOk cX2_init xt15 = true := by decide +kernel
theorem xt15_at : ∀ (pc : Nat) (i : Instr × Nat), xt15[pc]? = some (some i) → decode cX2_init pc = .ok i := fun _ _ h => xtOk_at xt15_ok h
theorem xt16_ok : xtOk cX2_standBefore xt16 = true := by decide +kernel
theorem xt16_at : ∀ (pc : Nat) (i : Instr × Nat), xt16[pc]? = some (some i) → decode cX2_standBefore pc = .ok i := fun _ _ h => xtOk_at xt16_ok h
theorem xt17_ok : xtOk cX2_lookBeside xt17 = true := by decide +kernel
theorem xt17_at : ∀ (pc : Nat) (i : Instr × Nat), xt17[pc]? = some (some i) → decode cX2_lookBeside pc = .ok i := fun _ _ h => xtOk_at xt17_ok h
theorem xt18_ok : xtOk cX2_pullOn xt18 = true := by decide +kernel
theorem xt18_at : ∀ (pc : Nat) (i : Instr × Nat), xt18[pc]? = some (some i) → decode cX2_pullOn pc = .ok i := fun _ _ h => xtOk_at xt18_ok h
theorem xt19_ok : xtOk cX2_goBy xt19 = true := by decide +kernel
theorem xt19_at : ∀ (pc : Nat) (i : Instr × Nat), xt19[pc]? = some (some i) → decode cX2_goBy pc = .ok i := fun _ _ h => xtOk_at xt19_ok h
theorem xt20_ok : xtOk cX2_glance xt20 = true := by decide +kernel
theorem xt20_at : ∀ (pc : Nat) (i : Instr × Nat), xt20[pc]? = some (some i) → decode cX2_glance pc = .ok i := fun _ _ h => xtOk_at xt20_ok h
theorem xt21_ok : xtOk cX2_sawIt xt21 = true := by decide +kernel
theorem xt21_at : ∀ (pc : Nat) (i : Instr × Nat), xt21[pc]? = some (some i) → decode cX2_sawIt pc = .ok i := fun _ _ h => xtOk_at xt21_ok h
theorem xt22_ok : xtOk cX2_reckon xt22 = true := by decide +kernel
theorem xt22_at : ∀ (pc : Nat) (i : Instr × Nat), xt22[pc]? = some (some i) → decode cX2_reckon pc = .ok i := fun _ _ h => xtOk_at xt22_ok h
theorem xt23_ok : xtOk cX2_weekOf xt23 = true := by decide +kernel
theorem xt23_at : ∀ (pc : Nat) (i : Instr × Nat), xt23[pc]? = some (some i) → decode cX2_weekOf pc = .ok i := fun _ _ h => xtOk_at xt23_ok h
theorem xt24_ok : xtOk cX3_init xt24 = true := by decide +kernel
theorem xt24_at : ∀ (pc : Nat) (i : Instr × Nat), xt24[pc]? = some (some i) → decode cX3_init pc = .ok i := fun _ _ h => xtOk_at xt24_ok h
theorem xt25_ok : xtOk cX3_takeFrom xt25 = true := by decide +kernel
theorem xt25_at : ∀ (pc : Nat) (i : Instr × Nat), xt25[pc]? = some (some i) → decode cX3_takeFrom pc = .ok i := fun _ _ h => xtOk_at xt25_ok h
theorem xt26_ok : xtOk cX3_trait xt26 = true := by decide +kernel
theorem xt26_at : ∀ (pc : Nat) (i : Instr × Nat), xt26[pc]? = some (some i) → decode cX3_trait pc = .ok i := fun _ _ h => xtOk_at xt26_ok h
theorem xt27_ok : xtOk cX3_habit xt27 = true := by decide +kernel
theorem xt27_at : ∀ (pc : Nat) (i : Instr × Nat), xt27[pc]? = some (some i) → decode cX3_habit pc = .ok i := fun _ _ h => xtOk_at xt27_ok h
theorem xt28_ok : xtOk cX3_answer xt28 = true := by decide +kernel
theorem xt28_at : ∀ (pc : Nat) (i : Instr × Nat), xt28[pc]? = some (some i) → decode cX3_answer pc = .ok i := fun _ _ h => xtOk_at xt28_ok h
theorem xt29_ok : xtOk cX3_standing xt29 = true := by decide +kernel
theorem xt29_at : ∀ (pc : Nat) (i : Instr × Nat), xt29[pc]? = some (some i) → decode cX3_standing pc = .ok i := fun _ _ h => xtOk_at xt29_ok h
theorem xt30_ok : xtOk cX4_init xt30 = true := by decide +kernel
theorem xt30_at : ∀ (pc : Nat) (i : Instr × Nat), xt30[pc]? = some (some i) → decode cX4_init pc = .ok i := fun _ _ h => xtOk_at xt30_ok h
theorem xt31_ok : xtOk cX4_forget xt31 = true := by decide +kernel
theorem xt31_at : ∀ (pc : Nat) (i : Instr × Nat), xt31[pc]? = some (some i) → decode cX4_forget pc = .ok i := fun _ _ h => xtOk_at xt31_ok h
theorem xt32_ok : xtOk cX4_makeReady xt32 = true := by decide +kernel
theorem xt32_at : ∀ (pc : Nat) (i : Instr × Nat), xt32[pc]? = some (some i) → decode cX4_makeReady pc = .ok i := fun _ _ h => xtOk_at xt32_ok h
theorem xt33_ok : xtOk cX4_list xt33 = true := by decide +kernel
theorem xt33_at : ∀ (pc : Nat) (i : Instr × Nat), xt33[pc]? = some (some i) → decode cX4_list pc = .ok i := fun _ _ h => xtOk_at xt33_ok h
theorem xt34_ok : xtOk cX4_add xt34 = true := by decide +kernel
theorem xt34_at : ∀ (pc : Nat) (i : Instr × Nat), xt34[pc]? = some (some i) → decode cX4_add pc = .ok i := fun _ _ h => xtOk_at xt34_ok h
theorem xt35_ok : xtOk cX4_weekAt xt35 = true := by decide +kernel
theorem xt35_at : ∀ (pc : Nat) (i : Instr × Nat), xt35[pc]? = some (some i) → decode cX4_weekAt pc = .ok i := fun _ _ h => xtOk_at xt35_ok h
theorem xt36_ok : xtOk cX4_thingAt xt36 = true := by decide +kernel
theorem xt36_at : ∀ (pc : Nat) (i : Instr × Nat), xt36[pc]? = some (some i) → decode cX4_thingAt pc = .ok i := fun _ _ h => xtOk_at xt36_ok h
theorem xt37_ok : xtOk cX4_greatest xt37 = true := by decide +kernel
theorem xt37_at : ∀ (pc : Nat) (i : Instr × Nat), xt37[pc]? = some (some i) → decode cX4_greatest pc = .ok i := fun _ _ h => xtOk_at xt37_ok h
theorem xt38_ok : xtOk cX4_climb xt38 = true := by decide +kernel
theorem xt38_at : ∀ (pc : Nat) (i : Instr × Nat), xt38[pc]? = some (some i) → decode cX4_climb pc = .ok i := fun _ _ h => xtOk_at xt38_ok h
theorem xt39_ok : xtOk cX4_greatestOffer xt39 = true := by decide +kernel
theorem xt39_at : ∀ (pc : Nat) (i : Instr × Nat), xt39[pc]? = some (some i) → decode cX4_greatestOffer pc = .ok i := fun _ _ h => xtOk_at xt39_ok h
theorem xt40_ok : xtOk cX4_offerChangesAbout xt40 = true := by decide +kernel
theorem xt40_at : ∀ (pc : Nat) (i : Instr × Nat), xt40[pc]? = some (some i) → decode cX4_offerChangesAbout pc = .ok i := fun _ _ h => xtOk_at xt40_ok h
theorem xt41_ok : xtOk cX4_changeAbout xt41 = true := by decide +kernel
theorem xt41_at : ∀ (pc : Nat) (i : Instr × Nat), xt41[pc]? = some (some i) → decode cX4_changeAbout pc = .ok i := fun _ _ h => xtOk_at xt41_ok h
theorem xt42_ok : xtOk cX4_offerPuttings xt42 = true := by decide +kernel
theorem xt42_at : ∀ (pc : Nat) (i : Instr × Nat), xt42[pc]? = some (some i) → decode cX4_offerPuttings pc = .ok i := fun _ _ h => xtOk_at xt42_ok h
theorem xt43_ok : xtOk cX4_offerTakings xt43 = true := by decide +kernel
theorem xt43_at : ∀ (pc : Nat) (i : Instr × Nat), xt43[pc]? = some (some i) → decode cX4_offerTakings pc = .ok i := fun _ _ h => xtOk_at xt43_ok h
theorem xt44_ok : xtOk cX4_offer xt44 = true := by decide +kernel
theorem xt44_at : ∀ (pc : Nat) (i : Instr × Nat), xt44[pc]? = some (some i) → decode cX4_offer pc = .ok i := fun _ _ h => xtOk_at xt44_ok h
theorem xt45_ok : xtOk cX4_whichClimbs xt45 = true := by decide +kernel
theorem xt45_at : ∀ (pc : Nat) (i : Instr × Nat), xt45[pc]? = some (some i) → decode cX4_whichClimbs pc = .ok i := fun _ _ h => xtOk_at xt45_ok h
theorem xt46_ok : xtOk cX5_init xt46 = true := by decide +kernel
theorem xt46_at : ∀ (pc : Nat) (i : Instr × Nat), xt46[pc]? = some (some i) → decode cX5_init pc = .ok i := fun _ _ h => xtOk_at xt46_ok h
theorem xt47_ok : xtOk cX5_thing xt47 = true := by decide +kernel
theorem xt47_at : ∀ (pc : Nat) (i : Instr × Nat), xt47[pc]? = some (some i) → decode cX5_thing pc = .ok i := fun _ _ h => xtOk_at xt47_ok h
theorem xt48_ok : xtOk cX5_light xt48 = true := by decide +kernel
theorem xt48_at : ∀ (pc : Nat) (i : Instr × Nat), xt48[pc]? = some (some i) → decode cX5_light pc = .ok i := fun _ _ h => xtOk_at xt48_ok h
theorem xt49_ok : xtOk cX5_say xt49 = true := by decide +kernel
theorem xt49_at : ∀ (pc : Nat) (i : Instr × Nat), xt49[pc]? = some (some i) → decode cX5_say pc = .ok i := fun _ _ h => xtOk_at xt49_ok h
theorem xt50_ok : xtOk cX5_wipe xt50 = true := by decide +kernel
theorem xt50_at : ∀ (pc : Nat) (i : Instr × Nat), xt50[pc]? = some (some i) → decode cX5_wipe pc = .ok i := fun _ _ h => xtOk_at xt50_ok h
theorem xt51_ok : xtOk cX5_fault xt51 = true := by decide +kernel
theorem xt51_at : ∀ (pc : Nat) (i : Instr × Nat), xt51[pc]? = some (some i) → decode cX5_fault pc = .ok i := fun _ _ h => xtOk_at xt51_ok h
theorem xt52_ok : xtOk cX5_window xt52 = true := by decide +kernel
theorem xt52_at : ∀ (pc : Nat) (i : Instr × Nat), xt52[pc]? = some (some i) → decode cX5_window pc = .ok i := fun _ _ h => xtOk_at xt52_ok h
theorem xt53_ok : xtOk cX5_stands xt53 = true := by decide +kernel
theorem xt53_at : ∀ (pc : Nat) (i : Instr × Nat), xt53[pc]? = some (some i) → decode cX5_stands pc = .ok i := fun _ _ h => xtOk_at xt53_ok h
theorem xt54_ok : xtOk cX5_draws xt54 = true := by decide +kernel
theorem xt54_at : ∀ (pc : Nat) (i : Instr × Nat), xt54[pc]? = some (some i) → decode cX5_draws pc = .ok i := fun _ _ h => xtOk_at xt54_ok h
theorem xt55_ok : xtOk cX5_kind xt55 = true := by decide +kernel
theorem xt55_at : ∀ (pc : Nat) (i : Instr × Nat), xt55[pc]? = some (some i) → decode cX5_kind pc = .ok i := fun _ _ h => xtOk_at xt55_ok h
theorem xt56_ok : xtOk cX5_law xt56 = true := by decide +kernel
theorem xt56_at : ∀ (pc : Nat) (i : Instr × Nat), xt56[pc]? = some (some i) → decode cX5_law pc = .ok i := fun _ _ h => xtOk_at xt56_ok h
theorem xt57_ok : xtOk cX5_says xt57 = true := by decide +kernel
theorem xt57_at : ∀ (pc : Nat) (i : Instr × Nat), xt57[pc]? = some (some i) → decode cX5_says pc = .ok i := fun _ _ h => xtOk_at xt57_ok h
theorem xt58_ok : xtOk cX5_part xt58 = true := by decide +kernel
theorem xt58_at : ∀ (pc : Nat) (i : Instr × Nat), xt58[pc]? = some (some i) → decode cX5_part pc = .ok i := fun _ _ h => xtOk_at xt58_ok h
theorem xt59_ok : xtOk cX5_seen xt59 = true := by decide +kernel
theorem xt59_at : ∀ (pc : Nat) (i : Instr × Nat), xt59[pc]? = some (some i) → decode cX5_seen pc = .ok i := fun _ _ h => xtOk_at xt59_ok h
theorem xt60_ok : xtOk cX5_does xt60 = true := by decide +kernel
theorem xt60_at : ∀ (pc : Nat) (i : Instr × Nat), xt60[pc]? = some (some i) → decode cX5_does pc = .ok i := fun _ _ h => xtOk_at xt60_ok h
theorem xt61_ok : xtOk cX5_week xt61 = true := by decide +kernel
theorem xt61_at : ∀ (pc : Nat) (i : Instr × Nat), xt61[pc]? = some (some i) → decode cX5_week pc = .ok i := fun _ _ h => xtOk_at xt61_ok h
theorem xt62_ok : xtOk cX5_other xt62 = true := by decide +kernel
theorem xt62_at : ∀ (pc : Nat) (i : Instr × Nat), xt62[pc]? = some (some i) → decode cX5_other pc = .ok i := fun _ _ h => xtOk_at xt62_ok h
theorem xt63_ok : xtOk cX5_best xt63 = true := by decide +kernel
theorem xt63_at : ∀ (pc : Nat) (i : Instr × Nat), xt63[pc]? = some (some i) → decode cX5_best pc = .ok i := fun _ _ h => xtOk_at xt63_ok h
theorem xt64_ok : xtOk cX5_many xt64 = true := by decide +kernel
theorem xt64_at : ∀ (pc : Nat) (i : Instr × Nat), xt64[pc]? = some (some i) → decode cX5_many pc = .ok i := fun _ _ h => xtOk_at xt64_ok h
theorem xt65_ok : xtOk cX5_exchanges xt65 = true := by decide +kernel
theorem xt65_at : ∀ (pc : Nat) (i : Instr × Nat), xt65[pc]? = some (some i) → decode cX5_exchanges pc = .ok i := fun _ _ h => xtOk_at xt65_ok h
theorem xt66_ok : xtOk cX5_rid xt66 = true := by decide +kernel
theorem xt66_at : ∀ (pc : Nat) (i : Instr × Nat), xt66[pc]? = some (some i) → decode cX5_rid pc = .ok i := fun _ _ h => xtOk_at xt66_ok h
theorem xt67_ok : xtOk cX5_stale xt67 = true := by decide +kernel
theorem xt67_at : ∀ (pc : Nat) (i : Instr × Nat), xt67[pc]? = some (some i) → decode cX5_stale pc = .ok i := fun _ _ h => xtOk_at xt67_ok h
theorem xt68_ok : xtOk cX5_mends xt68 = true := by decide +kernel
theorem xt68_at : ∀ (pc : Nat) (i : Instr × Nat), xt68[pc]? = some (some i) → decode cX5_mends pc = .ok i := fun _ _ h => xtOk_at xt68_ok h
theorem xt69_ok : xtOk cX5_greatestWeek xt69 = true := by decide +kernel
theorem xt69_at : ∀ (pc : Nat) (i : Instr × Nat), xt69[pc]? = some (some i) → decode cX5_greatestWeek pc = .ok i := fun _ _ h => xtOk_at xt69_ok h
theorem xt70_ok : xtOk cX5_firstWeekUnder xt70 = true := by decide +kernel
theorem xt70_at : ∀ (pc : Nat) (i : Instr × Nat), xt70[pc]? = some (some i) → decode cX5_firstWeekUnder pc = .ok i := fun _ _ h => xtOk_at xt70_ok h
theorem xt71_ok : xtOk cX5_firstChangeThatMends xt71 = true := by decide +kernel
theorem xt71_at : ∀ (pc : Nat) (i : Instr × Nat), xt71[pc]? = some (some i) → decode cX5_firstChangeThatMends pc = .ok i := fun _ _ h => xtOk_at xt71_ok h
theorem xt72_ok : xtOk cX5_isUnder xt72 = true := by decide +kernel
theorem xt72_at : ∀ (pc : Nat) (i : Instr × Nat), xt72[pc]? = some (some i) → decode cX5_isUnder pc = .ok i := fun _ _ h => xtOk_at xt72_ok h
theorem xt73_ok : xtOk cX5_shop xt73 = true := by decide +kernel
theorem xt73_at : ∀ (pc : Nat) (i : Instr × Nat), xt73[pc]? = some (some i) → decode cX5_shop pc = .ok i := fun _ _ h => xtOk_at xt73_ok h
theorem xt74_ok : xtOk cX5_lot xt74 = true := by decide +kernel
theorem xt74_at : ∀ (pc : Nat) (i : Instr × Nat), xt74[pc]? = some (some i) → decode cX5_lot pc = .ok i := fun _ _ h => xtOk_at xt74_ok h
theorem xt75_ok : xtOk cX5_boys xt75 = true := by decide +kernel
theorem xt75_at : ∀ (pc : Nat) (i : Instr × Nat), xt75[pc]? = some (some i) → decode cX5_boys pc = .ok i := fun _ _ h => xtOk_at xt75_ok h
theorem xt76_ok : xtOk cX5_image xt76 = true := by decide +kernel
theorem xt76_at : ∀ (pc : Nat) (i : Instr × Nat), xt76[pc]? = some (some i) → decode cX5_image pc = .ok i := fun _ _ h => xtOk_at xt76_ok h
theorem xt77_ok : xtOk cX5_restore xt77 = true := by decide +kernel
theorem xt77_at : ∀ (pc : Nat) (i : Instr × Nat), xt77[pc]? = some (some i) → decode cX5_restore pc = .ok i := fun _ _ h => xtOk_at xt77_ok h
theorem xt78_ok : xtOk cX5_told xt78 = true := by decide +kernel
theorem xt78_at : ∀ (pc : Nat) (i : Instr × Nat), xt78[pc]? = some (some i) → decode cX5_told pc = .ok i := fun _ _ h => xtOk_at xt78_ok h
theorem xt79_ok : xtOk cX5_toldOfRows xt79 = true := by decide +kernel
theorem xt79_at : ∀ (pc : Nat) (i : Instr × Nat), xt79[pc]? = some (some i) → decode cX5_toldOfRows pc = .ok i := fun _ _ h => xtOk_at xt79_ok h
theorem xt80_ok : xtOk cX5_below xt80 = true := by decide +kernel
theorem xt80_at : ∀ (pc : Nat) (i : Instr × Nat), xt80[pc]? = some (some i) → decode cX5_below pc = .ok i := fun _ _ h => xtOk_at xt80_ok h
theorem xt81_ok : xtOk cX5_between xt81 = true := by decide +kernel
theorem xt81_at : ∀ (pc : Nat) (i : Instr × Nat), xt81[pc]? = some (some i) → decode cX5_between pc = .ok i := fun _ _ h => xtOk_at xt81_ok h
theorem xt82_ok : xtOk cX6_init xt82 = true := by decide +kernel
theorem xt82_at : ∀ (pc : Nat) (i : Instr × Nat), xt82[pc]? = some (some i) → decode cX6_init pc = .ok i := fun _ _ h => xtOk_at xt82_ok h
theorem xt83_ok : xtOk cX6_in xt83 = true := by decide +kernel
theorem xt83_at : ∀ (pc : Nat) (i : Instr × Nat), xt83[pc]? = some (some i) → decode cX6_in pc = .ok i := fun _ _ h => xtOk_at xt83_ok h
theorem xt84_ok : xtOk cX6_isFive xt84 = true := by decide +kernel
theorem xt84_at : ∀ (pc : Nat) (i : Instr × Nat), xt84[pc]? = some (some i) → decode cX6_isFive pc = .ok i := fun _ _ h => xtOk_at xt84_ok h
theorem xt85_ok : xtOk cX6_thing xt85 = true := by decide +kernel
theorem xt85_at : ∀ (pc : Nat) (i : Instr × Nat), xt85[pc]? = some (some i) → decode cX6_thing pc = .ok i := fun _ _ h => xtOk_at xt85_ok h
theorem xt86_ok : xtOk cX6_light xt86 = true := by decide +kernel
theorem xt86_at : ∀ (pc : Nat) (i : Instr × Nat), xt86[pc]? = some (some i) → decode cX6_light pc = .ok i := fun _ _ h => xtOk_at xt86_ok h
theorem xt87_ok : xtOk cX6_say xt87 = true := by decide +kernel
theorem xt87_at : ∀ (pc : Nat) (i : Instr × Nat), xt87[pc]? = some (some i) → decode cX6_say pc = .ok i := fun _ _ h => xtOk_at xt87_ok h
theorem xt88_ok : xtOk cX6_wipe xt88 = true := by decide +kernel
theorem xt88_at : ∀ (pc : Nat) (i : Instr × Nat), xt88[pc]? = some (some i) → decode cX6_wipe pc = .ok i := fun _ _ h => xtOk_at xt88_ok h
theorem xt89_ok : xtOk cX6_windowFault xt89 = true := by decide +kernel
theorem xt89_at : ∀ (pc : Nat) (i : Instr × Nat), xt89[pc]? = some (some i) → decode cX6_windowFault pc = .ok i := fun _ _ h => xtOk_at xt89_ok h
theorem xt90_ok : xtOk cX6_partsOf xt90 = true := by decide +kernel
theorem xt90_at : ∀ (pc : Nat) (i : Instr × Nat), xt90[pc]? = some (some i) → decode cX6_partsOf pc = .ok i := fun _ _ h => xtOk_at xt90_ok h
theorem xt91_ok : xtOk cX6_lawFault xt91 = true := by decide +kernel
theorem xt91_at : ∀ (pc : Nat) (i : Instr × Nat), xt91[pc]? = some (some i) → decode cX6_lawFault pc = .ok i := fun _ _ h => xtOk_at xt91_ok h
theorem xt92_ok : xtOk cX6_fault xt92 = true := by decide +kernel
theorem xt92_at : ∀ (pc : Nat) (i : Instr × Nat), xt92[pc]? = some (some i) → decode cX6_fault pc = .ok i := fun _ _ h => xtOk_at xt92_ok h
theorem xt93_ok : xtOk cX6_window xt93 = true := by decide +kernel
theorem xt93_at : ∀ (pc : Nat) (i : Instr × Nat), xt93[pc]? = some (some i) → decode cX6_window pc = .ok i := fun _ _ h => xtOk_at xt93_ok h
theorem xt94_ok : xtOk cX6_stands xt94 = true := by decide +kernel
theorem xt94_at : ∀ (pc : Nat) (i : Instr × Nat), xt94[pc]? = some (some i) → decode cX6_stands pc = .ok i := fun _ _ h => xtOk_at xt94_ok h
theorem xt95_ok : xtOk cX6_looks xt95 = true := by decide +kernel
theorem xt95_at : ∀ (pc : Nat) (i : Instr × Nat), xt95[pc]? = some (some i) → decode cX6_looks pc = .ok i := fun _ _ h => xtOk_at xt95_ok h
theorem xt96_ok : xtOk cX6_drawsOf xt96 = true := by decide +kernel
theorem xt96_at : ∀ (pc : Nat) (i : Instr × Nat), xt96[pc]? = some (some i) → decode cX6_drawsOf pc = .ok i := fun _ _ h => xtOk_at xt96_ok h
theorem xt97_ok : xtOk cX6_lookAtWindow xt97 = true := by decide +kernel
theorem xt97_at : ∀ (pc : Nat) (i : Instr × Nat), xt97[pc]? = some (some i) → decode cX6_lookAtWindow pc = .ok i := fun _ _ h => xtOk_at xt97_ok h
theorem xt98_ok : xtOk cX6_draws xt98 = true := by decide +kernel
theorem xt98_at : ∀ (pc : Nat) (i : Instr × Nat), xt98[pc]? = some (some i) → decode cX6_draws pc = .ok i := fun _ _ h => xtOk_at xt98_ok h
theorem xt99_ok : xtOk cX6_leastOf xt99 = true := by decide +kernel
theorem xt99_at : ∀ (pc : Nat) (i : Instr × Nat), xt99[pc]? = some (some i) → decode cX6_leastOf pc = .ok i := fun _ _ h => xtOk_at xt99_ok h
theorem xt100_ok : xtOk cX6_mostOf xt100 = true := by decide +kernel
theorem xt100_at : ∀ (pc : Nat) (i : Instr × Nat), xt100[pc]? = some (some i) → decode cX6_mostOf pc = .ok i := fun _ _ h => xtOk_at xt100_ok h
theorem xt101_ok : xtOk cX6_kind xt101 = true := by decide +kernel
theorem xt101_at : ∀ (pc : Nat) (i : Instr × Nat), xt101[pc]? = some (some i) → decode cX6_kind pc = .ok i := fun _ _ h => xtOk_at xt101_ok h
theorem xt102_ok : xtOk cX6_law xt102 = true := by decide +kernel
theorem xt102_at : ∀ (pc : Nat) (i : Instr × Nat), xt102[pc]? = some (some i) → decode cX6_law pc = .ok i := fun _ _ h => xtOk_at xt102_ok h
theorem xt103_ok : xtOk cX6_saysOf xt103 = true := by decide +kernel
theorem xt103_at : ∀ (pc : Nat) (i : Instr × Nat), xt103[pc]? = some (some i) → decode cX6_saysOf pc = .ok i := fun _ _ h => xtOk_at xt103_ok h
theorem xt104_ok : xtOk cX6_says xt104 = true := by decide +kernel
theorem xt104_at : ∀ (pc : Nat) (i : Instr × Nat), xt104[pc]? = some (some i) → decode cX6_says pc = .ok i := fun _ _ h => xtOk_at xt104_ok h
theorem xt105_ok : xtOk cX6_layParts xt105 = true := by decide +kernel
theorem xt105_at : ∀ (pc : Nat) (i : Instr × Nat), xt105[pc]? = some (some i) → decode cX6_layParts pc = .ok i := fun _ _ h => xtOk_at xt105_ok h
theorem xt106_ok : xtOk cX6_mayFall xt106 = true := by decide +kernel
theorem xt106_at : ∀ (pc : Nat) (i : Instr × Nat), xt106[pc]? = some (some i) → decode cX6_mayFall pc = .ok i := fun _ _ h => xtOk_at xt106_ok h
theorem xt107_ok : xtOk cX6_glance xt107 = true := by decide +kernel
theorem xt107_at : ∀ (pc : Nat) (i : Instr × Nat), xt107[pc]? = some (some i) → decode cX6_glance pc = .ok i := fun _ _ h => xtOk_at xt107_ok h
theorem xt108_ok : xtOk cX6_part xt108 = true := by decide +kernel
theorem xt108_at : ∀ (pc : Nat) (i : Instr × Nat), xt108[pc]? = some (some i) → decode cX6_part pc = .ok i := fun _ _ h => xtOk_at xt108_ok h
theorem xt109_ok : xtOk cX6_seen xt109 = true := by decide +kernel
theorem xt109_at : ∀ (pc : Nat) (i : Instr × Nat), xt109[pc]? = some (some i) → decode cX6_seen pc = .ok i := fun _ _ h => xtOk_at xt109_ok h
theorem xt110_ok : xtOk cX6_bits xt110 = true := by decide +kernel
theorem xt110_at : ∀ (pc : Nat) (i : Instr × Nat), xt110[pc]? = some (some i) → decode cX6_bits pc = .ok i := fun _ _ h => xtOk_at xt110_ok h
theorem xt111_ok : xtOk cX6_layLaws xt111 = true := by decide +kernel
theorem xt111_at : ∀ (pc : Nat) (i : Instr × Nat), xt111[pc]? = some (some i) → decode cX6_layLaws pc = .ok i := fun _ _ h => xtOk_at xt111_ok h
theorem xt112_ok : xtOk cX6_layDeeds xt112 = true := by decide +kernel
theorem xt112_at : ∀ (pc : Nat) (i : Instr × Nat), xt112[pc]? = some (some i) → decode cX6_layDeeds pc = .ok i := fun _ _ h => xtOk_at xt112_ok h
theorem xt113_ok : xtOk cX6_does xt113 = true := by decide +kernel
theorem xt113_at : ∀ (pc : Nat) (i : Instr × Nat), xt113[pc]? = some (some i) → decode cX6_does pc = .ok i := fun _ _ h => xtOk_at xt113_ok h
theorem xt114_ok : xtOk cX6_weekOf xt114 = true := by decide +kernel
theorem xt114_at : ∀ (pc : Nat) (i : Instr × Nat), xt114[pc]? = some (some i) → decode cX6_weekOf pc = .ok i := fun _ _ h => xtOk_at xt114_ok h
theorem xt115_ok : xtOk cX6_week xt115 = true := by decide +kernel
theorem xt115_at : ∀ (pc : Nat) (i : Instr × Nat), xt115[pc]? = some (some i) → decode cX6_week pc = .ok i := fun _ _ h => xtOk_at xt115_ok h
theorem xt116_ok : xtOk cX6_other xt116 = true := by decide +kernel
theorem xt116_at : ∀ (pc : Nat) (i : Instr × Nat), xt116[pc]? = some (some i) → decode cX6_other pc = .ok i := fun _ _ h => xtOk_at xt116_ok h
theorem xt117_ok : xtOk cX6_digit xt117 = true := by decide +kernel
theorem xt117_at : ∀ (pc : Nat) (i : Instr × Nat), xt117[pc]? = some (some i) → decode cX6_digit pc = .ok i := fun _ _ h => xtOk_at xt117_ok h
theorem xt118_ok : xtOk cX6_power xt118 = true := by decide +kernel
theorem xt118_at : ∀ (pc : Nat) (i : Instr × Nat), xt118[pc]? = some (some i) → decode cX6_power pc = .ok i := fun _ _ h => xtOk_at xt118_ok h
theorem xt119_ok : xtOk cX6_thingsIn xt119 = true := by decide +kernel
theorem xt119_at : ∀ (pc : Nat) (i : Instr × Nat), xt119[pc]? = some (some i) → decode cX6_thingsIn pc = .ok i := fun _ _ h => xtOk_at xt119_ok h
theorem xt120_ok : xtOk cX6_layWeeks xt120 = true := by decide +kernel
theorem xt120_at : ∀ (pc : Nat) (i : Instr × Nat), xt120[pc]? = some (some i) → decode cX6_layWeeks pc = .ok i := fun _ _ h => xtOk_at xt120_ok h
theorem xt121_ok : xtOk cX6_bestOf xt121 = true := by decide +kernel
theorem xt121_at : ∀ (pc : Nat) (i : Instr × Nat), xt121[pc]? = some (some i) → decode cX6_bestOf pc = .ok i := fun _ _ h => xtOk_at xt121_ok h
theorem xt122_ok : xtOk cX6_best xt122 = true := by decide +kernel
theorem xt122_at : ∀ (pc : Nat) (i : Instr × Nat), xt122[pc]? = some (some i) → decode cX6_best pc = .ok i := fun _ _ h => xtOk_at xt122_ok h
theorem xt123_ok : xtOk cX6_many xt123 = true := by decide +kernel
theorem xt123_at : ∀ (pc : Nat) (i : Instr × Nat), xt123[pc]? = some (some i) → decode cX6_many pc = .ok i := fun _ _ h => xtOk_at xt123_ok h
theorem xt124_ok : xtOk cX6_windowCode xt124 = true := by decide +kernel
theorem xt124_at : ∀ (pc : Nat) (i : Instr × Nat), xt124[pc]? = some (some i) → decode cX6_windowCode pc = .ok i := fun _ _ h => xtOk_at xt124_ok h
theorem xt125_ok : xtOk cX6_change xt125 = true := by decide +kernel
theorem xt125_at : ∀ (pc : Nat) (i : Instr × Nat), xt125[pc]? = some (some i) → decode cX6_change pc = .ok i := fun _ _ h => xtOk_at xt125_ok h
theorem xt126_ok : xtOk cX6_exchanged xt126 = true := by decide +kernel
theorem xt126_at : ∀ (pc : Nat) (i : Instr × Nat), xt126[pc]? = some (some i) → decode cX6_exchanged pc = .ok i := fun _ _ h => xtOk_at xt126_ok h
theorem xt127_ok : xtOk cX6_exchanges xt127 = true := by decide +kernel
theorem xt127_at : ∀ (pc : Nat) (i : Instr × Nat), xt127[pc]? = some (some i) → decode cX6_exchanges pc = .ok i := fun _ _ h => xtOk_at xt127_ok h
theorem xt128_ok : xtOk cX6_rid xt128 = true := by decide +kernel
theorem xt128_at : ∀ (pc : Nat) (i : Instr × Nat), xt128[pc]? = some (some i) → decode cX6_rid pc = .ok i := fun _ _ h => xtOk_at xt128_ok h
theorem xt129_ok : xtOk cX6_staleBy xt129 = true := by decide +kernel
theorem xt129_at : ∀ (pc : Nat) (i : Instr × Nat), xt129[pc]? = some (some i) → decode cX6_staleBy pc = .ok i := fun _ _ h => xtOk_at xt129_ok h
theorem xt130_ok : xtOk cX6_stale xt130 = true := by decide +kernel
theorem xt130_at : ∀ (pc : Nat) (i : Instr × Nat), xt130[pc]? = some (some i) → decode cX6_stale pc = .ok i := fun _ _ h => xtOk_at xt130_ok h
theorem xt131_ok : xtOk cX6_mends xt131 = true := by decide +kernel
theorem xt131_at : ∀ (pc : Nat) (i : Instr × Nat), xt131[pc]? = some (some i) → decode cX6_mends pc = .ok i := fun _ _ h => xtOk_at xt131_ok h
theorem xt132_ok : xtOk cX6_shop xt132 = true := by decide +kernel
theorem xt132_at : ∀ (pc : Nat) (i : Instr × Nat), xt132[pc]? = some (some i) → decode cX6_shop pc = .ok i := fun _ _ h => xtOk_at xt132_ok h
theorem xt133_ok : xtOk cX6_lot xt133 = true := by decide +kernel
theorem xt133_at : ∀ (pc : Nat) (i : Instr × Nat), xt133[pc]? = some (some i) → decode cX6_lot pc = .ok i := fun _ _ h => xtOk_at xt133_ok h
theorem xt134_ok : xtOk cX6_boys xt134 = true := by decide +kernel
theorem xt134_at : ∀ (pc : Nat) (i : Instr × Nat), xt134[pc]? = some (some i) → decode cX6_boys pc = .ok i := fun _ _ h => xtOk_at xt134_ok h
theorem xt135_ok : xtOk cX6_image xt135 = true := by decide +kernel
theorem xt135_at : ∀ (pc : Nat) (i : Instr × Nat), xt135[pc]? = some (some i) → decode cX6_image pc = .ok i := fun _ _ h => xtOk_at xt135_ok h
theorem xt136_ok : xtOk cX6_restore xt136 = true := by decide +kernel
theorem xt136_at : ∀ (pc : Nat) (i : Instr × Nat), xt136[pc]? = some (some i) → decode cX6_restore pc = .ok i := fun _ _ h => xtOk_at xt136_ok h
theorem xt137_ok : xtOk cX6_told xt137 = true := by decide +kernel
theorem xt137_at : ∀ (pc : Nat) (i : Instr × Nat), xt137[pc]? = some (some i) → decode cX6_told pc = .ok i := fun _ _ h => xtOk_at xt137_ok h
theorem xt138_ok : xtOk cJ6_bitCount_0f7a4 xt138 = true := by decide +kernel
theorem xt138_at : ∀ (pc : Nat) (i : Instr × Nat), xt138[pc]? = some (some i) → decode cJ6_bitCount_0f7a4 pc = .ok i := fun _ _ h => xtOk_at xt138_ok h
theorem xt139_ok : xtOk cJ9_max_7cf53 xt139 = true := by decide +kernel
theorem xt139_at : ∀ (pc : Nat) (i : Instr × Nat), xt139[pc]? = some (some i) → decode cJ9_max_7cf53 pc = .ok i := fun _ _ h => xtOk_at xt139_ok h
theorem xt140_ok : xtOk cJ9_max_f86c9 xt140 = true := by decide +kernel
theorem xt140_at : ∀ (pc : Nat) (i : Instr × Nat), xt140[pc]? = some (some i) → decode cJ9_max_f86c9 pc = .ok i := fun _ _ h => xtOk_at xt140_ok h
theorem xt141_ok : xtOk cJ9_min_7cf53 xt141 = true := by decide +kernel
theorem xt141_at : ∀ (pc : Nat) (i : Instr × Nat), xt141[pc]? = some (some i) → decode cJ9_min_7cf53 pc = .ok i := fun _ _ h => xtOk_at xt141_ok h
theorem xt142_ok : xtOk cJ9_min_f86c9 xt142 = true := by decide +kernel
theorem xt142_at : ∀ (pc : Nat) (i : Instr × Nat), xt142[pc]? = some (some i) → decode cJ9_min_f86c9 pc = .ok i := fun _ _ h => xtOk_at xt142_ok h
theorem xt143_ok : xtOk cJ7_fill_53178 xt143 = true := by decide +kernel
theorem xt143_at : ∀ (pc : Nat) (i : Instr × Nat), xt143[pc]? = some (some i) → decode cJ7_fill_53178 pc = .ok i := fun _ _ h => xtOk_at xt143_ok h
theorem xt144_ok_0 : xtOkR cL_law xt144 0 40 = true := by decide +kernel
theorem xt144_ok_1 : xtOkR cL_law xt144 40 40 = true := by decide +kernel
theorem xt144_ok_2 : xtOkR cL_law xt144 80 40 = true := by decide +kernel
theorem xt144_ok_3 : xtOkR cL_law xt144 120 40 = true := by decide +kernel
theorem xt144_ok_4 : xtOkR cL_law xt144 160 40 = true := by decide +kernel
theorem xt144_ok_5 : xtOkR cL_law xt144 200 40 = true := by decide +kernel
theorem xt144_ok_6 : xtOkR cL_law xt144 240 40 = true := by decide +kernel
theorem xt144_ok_7 : xtOkR cL_law xt144 280 40 = true := by decide +kernel
theorem xt144_ok_8 : xtOkR cL_law xt144 320 40 = true := by decide +kernel
theorem xt144_ok_9 : xtOkR cL_law xt144 360 40 = true := by decide +kernel
theorem xt144_ok_10 : xtOkR cL_law xt144 400 40 = true := by decide +kernel
theorem xt144_ok_11 : xtOkR cL_law xt144 440 40 = true := by decide +kernel
theorem xt144_ok_12 : xtOkR cL_law xt144 480 40 = true := by decide +kernel
theorem xt144_ok_13 : xtOkR cL_law xt144 520 40 = true := by decide +kernel
theorem xt144_ok_14 : xtOkR cL_law xt144 560 40 = true := by decide +kernel
theorem xt144_ok_15 : xtOkR cL_law xt144 600 40 = true := by decide +kernel
theorem xt144_ok_16 : xtOkR cL_law xt144 640 40 = true := by decide +kernel
theorem xt144_ok_17 : xtOkR cL_law xt144 680 40 = true := by decide +kernel
theorem xt144_ok_18 : xtOkR cL_law xt144 720 40 = true := by decide +kernel
theorem xt144_ok_19 : xtOkR cL_law xt144 760 40 = true := by decide +kernel
theorem xt144_ok_20 : xtOkR cL_law xt144 800 40 = true := by decide +kernel
theorem xt144_ok_21 : xtOkR cL_law xt144 840 40 = true := by decide +kernel
theorem xt144_ok_22 : xtOkR cL_law xt144 880 40 = true := by decide +kernel
theorem xt144_ok_23 : xtOkR cL_law xt144 920 40 = true := by decide +kernel
theorem xt144_ok_24 : xtOkR cL_law xt144 960 40 = true := by decide +kernel
theorem xt144_okR : ∀ j, j < 25 → xtOkR cL_law xt144 (40 * j) 40 = true
  | 0, _ => xt144_ok_0
  | 1, _ => xt144_ok_1
  | 2, _ => xt144_ok_2
  | 3, _ => xt144_ok_3
  | 4, _ => xt144_ok_4
  | 5, _ => xt144_ok_5
  | 6, _ => xt144_ok_6
  | 7, _ => xt144_ok_7
  | 8, _ => xt144_ok_8
  | 9, _ => xt144_ok_9
  | 10, _ => xt144_ok_10
  | 11, _ => xt144_ok_11
  | 12, _ => xt144_ok_12
  | 13, _ => xt144_ok_13
  | 14, _ => xt144_ok_14
  | 15, _ => xt144_ok_15
  | 16, _ => xt144_ok_16
  | 17, _ => xt144_ok_17
  | 18, _ => xt144_ok_18
  | 19, _ => xt144_ok_19
  | 20, _ => xt144_ok_20
  | 21, _ => xt144_ok_21
  | 22, _ => xt144_ok_22
  | 23, _ => xt144_ok_23
  | 24, _ => xt144_ok_24
  | (j + 25), h => absurd h (by omega)
theorem xt144_at : ∀ (pc : Nat) (i : Instr × Nat), xt144[pc]? = some (some i) → decode cL_law pc = .ok i := fun _ _ h => xtOkR_at (K := 25) xt144_okR (by decide +kernel) h
/-- fields: entry, class, slot, place of the word -/
def xfL_0 : List (Nat × Nat × Nat × Nat) := [(9, 0, 0, 212), (15, 0, 1, 214)]
def xfL_1 : List (Nat × Nat × Nat × Nat) := [(11, 1, 0, 59), (15, 1, 1, 60), (18, 1, 2, 61), (22, 1, 3, 62), (37, 3, 2, 94), (46, 3, 4, 99)]
def xfL_2 : List (Nat × Nat × Nat × Nat) := [(48, 3, 1, 91), (90, 3, 7, 105), (34, 2, 0, 131), (9, 2, 1, 132), (15, 2, 2, 133), (18, 2, 3, 134), (21, 2, 4, 135), (24, 2, 5, 137), (28, 2, 6, 139), (31, 2, 7, 141)]
def xfL_3 : List (Nat × Nat × Nat × Nat) := [(9, 3, 0, 88), (15, 3, 1, 90), (18, 3, 2, 93), (21, 3, 3, 96), (24, 3, 4, 98), (27, 3, 5, 100), (30, 3, 6, 102), (34, 3, 7, 104)]
def xfL_4 : List (Nat × Nat × Nat × Nat) := [(47, 4, 0, 167), (11, 4, 1, 168), (15, 4, 2, 169), (18, 4, 3, 170), (22, 4, 4, 171), (25, 4, 5, 172), (29, 4, 6, 173), (32, 4, 7, 174), (35, 4, 8, 175), (38, 4, 9, 176), (41, 4, 10, 177), (44, 4, 11, 179)]
def xfL_5 : List (Nat × Nat × Nat × Nat) := [(92, 1, 3, 63), (83, 3, 0, 89), (89, 3, 1, 92), (115, 3, 2, 95), (134, 3, 3, 97), (209, 3, 5, 101), (212, 3, 6, 103), (168, 3, 7, 106), (145, 2, 4, 136), (155, 2, 5, 138), (158, 2, 6, 140), (161, 2, 7, 142), (183, 4, 10, 178), (186, 4, 11, 180), (221, 0, 0, 213), (225, 0, 1, 215), (12, 5, 0, 250), (19, 5, 1, 251), (23, 5, 2, 252), (27, 5, 3, 253), (36, 5, 4, 254), (45, 5, 5, 255), (52, 5, 6, 256), (56, 5, 7, 257)]
def xfL_6 : List (Nat × Nat × Nat × Nat) := [(7, 6, 0, 603), (13, 6, 1, 604), (88, 6, 2, 605), (16, 6, 3, 606), (19, 6, 4, 607), (22, 6, 5, 608), (25, 6, 6, 609), (28, 6, 7, 610), (31, 6, 8, 611), (35, 6, 9, 612), (38, 6, 10, 613), (84, 6, 11, 614), (42, 6, 12, 615), (45, 6, 13, 616), (48, 6, 14, 617), (51, 6, 15, 618), (55, 6, 16, 619), (58, 6, 17, 620), (61, 6, 18, 621), (64, 6, 19, 622), (138, 6, 20, 623), (142, 6, 21, 624), (145, 6, 22, 625), (67, 6, 23, 626), (70, 6, 24, 627), (73, 6, 25, 628)]
def xfL_7 : List (Nat × Nat × Nat × Nat) := []
def xfL_8 : List (Nat × Nat × Nat × Nat) := []
def xfL_9 : List (Nat × Nat × Nat × Nat) := []
def xfL_10 : List (Nat × Nat × Nat × Nat) := []
def xfL : List (List (Nat × Nat × Nat × Nat)) := [xfL_0, xfL_1, xfL_2, xfL_3, xfL_4, xfL_5, xfL_6, xfL_7, xfL_8, xfL_9, xfL_10]
/-- methods: entry, kind (0 static, 1 virtual, 2 init, 3 Object.<init>, 4 arraycopy; 10 more: nest mate), method, places of the words: link, static or instance, selects, initialized -/
def xmL_0 : List (Nat × Nat × Nat × Nat × Nat × Nat × Nat) := [(3, 3, 0, 211, 0, 0, 0), (18, 0, 138, 563, 338, 0, 43), (24, 0, 2, 564, 565, 0, 40), (28, 0, 3, 567, 568, 0, 40), (32, 0, 139, 570, 358, 0, 41)]
def xmL_1 : List (Nat × Nat × Nat × Nat × Nat × Nat × Nat) := [(3, 3, 0, 58, 0, 0, 0), (42, 1, 10, 229, 231, 0, 35), (30, 0, 11, 233, 234, 0, 35), (60, 0, 13, 236, 237, 0, 35), (64, 0, 14, 240, 241, 0, 35), (51, 0, 142, 243, 244, 0, 41), (57, 0, 140, 247, 248, 0, 41), (26, 10, 80, 315, 280, 0, 34), (34, 0, 12, 320, 321, 0, 35), (68, 10, 81, 323, 285, 0, 34)]
def xmL_2 : List (Nat × Nat × Nat × Nat × Nat × Nat × Nat) := [(3, 3, 0, 130, 0, 0, 0), (38, 10, 80, 355, 280, 0, 34), (42, 1, 26, 356, 288, 289, 36), (51, 0, 139, 357, 358, 0, 41), (56, 1, 17, 360, 362, 1, 38), (60, 1, 27, 400, 377, 378, 36), (63, 1, 18, 401, 365, 366, 38), (66, 0, 143, 402, 86, 0, 37), (73, 0, 141, 404, 405, 0, 41), (76, 1, 20, 407, 409, 2, 38), (80, 0, 138, 427, 338, 0, 43), (86, 1, 28, 428, 389, 390, 36), (93, 1, 16, 437, 352, 353, 38), (96, 1, 19, 438, 397, 398, 38), (100, 1, 22, 439, 424, 425, 38)]
def xmL_3 : List (Nat × Nat × Nat × Nat × Nat × Nat × Nat) := [(3, 3, 0, 80, 0, 0, 0), (43, 0, 143, 85, 86, 0, 37), (55, 10, 80, 336, 280, 0, 34), (49, 4, 0, 584, 0, 0, 0)]
def xmL_4 : List (Nat × Nat × Nat × Nat × Nat × Nat × Nat) := [(3, 3, 0, 166, 0, 0, 0), (79, 1, 32, 453, 455, 3, 39), (51, 0, 33, 457, 458, 0, 39), (61, 1, 34, 460, 462, 4, 39), (55, 0, 143, 464, 86, 0, 37), (82, 0, 138, 465, 338, 0, 43), (88, 1, 35, 466, 467, 468, 39), (65, 10, 80, 470, 280, 0, 34), (69, 1, 36, 471, 472, 473, 39), (73, 1, 23, 475, 434, 435, 38), (91, 4, 0, 490, 0, 0, 0), (97, 1, 45, 493, 495, 5, 39), (101, 1, 40, 497, 499, 6, 39), (113, 1, 41, 501, 503, 7, 39), (116, 1, 44, 505, 507, 8, 39), (104, 1, 42, 509, 511, 9, 39), (107, 1, 43, 513, 515, 10, 39), (110, 1, 39, 517, 519, 11, 39)]
def xmL_5 : List (Nat × Nat × Nat × Nat × Nat × Nat × Nat) := [(3, 3, 0, 50, 0, 0, 0), (11, 12, 4, 55, 56, 0, 35), (18, 2, 24, 77, 78, 0, 36), (33, 2, 15, 127, 128, 0, 38), (42, 2, 30, 163, 164, 0, 39), (51, 12, 0, 208, 209, 0, 40), (60, 1, 5, 221, 222, 223, 35), (64, 1, 9, 225, 226, 227, 35), (68, 0, 80, 279, 280, 0, 34), (75, 0, 81, 284, 285, 0, 34), (79, 1, 26, 287, 288, 289, 36), (86, 1, 31, 291, 292, 293, 39), (96, 1, 6, 311, 312, 313, 35), (100, 1, 7, 316, 317, 318, 35), (103, 1, 8, 328, 329, 330, 35), (106, 1, 29, 332, 333, 334, 36), (109, 0, 138, 337, 338, 0, 43), (118, 1, 16, 351, 352, 353, 38), (122, 1, 18, 364, 365, 366, 38), (131, 1, 27, 376, 377, 378, 36), (137, 1, 28, 388, 389, 390, 36), (141, 1, 19, 396, 397, 398, 38), (148, 1, 21, 415, 416, 417, 38), (151, 1, 22, 423, 424, 425, 38), (164, 1, 23, 433, 434, 435, 38), (171, 1, 37, 449, 450, 451, 39), (174, 1, 35, 476, 467, 468, 39), (177, 1, 36, 477, 472, 473, 39), (180, 1, 38, 486, 487, 488, 39), (189, 1, 69, 521, 523, 12, 34), (192, 1, 70, 533, 535, 13, 34), (198, 0, 72, 537, 538, 0, 34), (195, 1, 71, 545, 547, 14, 34), (201, 4, 0, 549, 0, 0, 0), (217, 1, 1, 559, 560, 561, 40), (228, 0, 141, 575, 405, 0, 41), (233, 1, 25, 580, 581, 582, 36), (236, 1, 79, 593, 595, 15, 34)]
def xmL_6 : List (Nat × Nat × Nat × Nat × Nat × Nat × Nat) := [(1, 3, 0, 602, 0, 0, 0), (80, 0, 84, 686, 687, 0, 42), (76, 0, 83, 689, 690, 0, 42), (95, 1, 89, 708, 710, 16, 42), (99, 1, 91, 712, 714, 17, 42), (91, 0, 90, 716, 717, 0, 42), (105, 1, 97, 731, 733, 18, 42), (108, 1, 96, 735, 737, 19, 42), (102, 1, 95, 739, 741, 20, 42), (112, 0, 99, 747, 748, 0, 42), (115, 0, 100, 750, 751, 0, 42), (122, 1, 103, 761, 763, 21, 42), (135, 1, 105, 771, 773, 22, 42), (127, 1, 107, 776, 778, 23, 42), (131, 1, 106, 780, 782, 24, 42), (151, 1, 111, 792, 794, 25, 42), (154, 1, 112, 796, 798, 26, 42), (148, 0, 110, 800, 801, 0, 42), (157, 1, 114, 807, 809, 27, 42), (169, 1, 121, 819, 821, 28, 42), (166, 1, 120, 823, 825, 29, 42), (163, 0, 119, 827, 828, 0, 42), (160, 0, 117, 830, 831, 0, 42), (178, 1, 124, 841, 843, 30, 42), (181, 1, 126, 845, 847, 31, 42), (175, 0, 125, 849, 850, 0, 42), (172, 0, 118, 852, 853, 0, 42), (184, 1, 129, 863, 865, 32, 42)]
def xmL_7 : List (Nat × Nat × Nat × Nat × Nat × Nat × Nat) := []
def xmL_8 : List (Nat × Nat × Nat × Nat × Nat × Nat × Nat) := []
def xmL_9 : List (Nat × Nat × Nat × Nat × Nat × Nat × Nat) := []
def xmL_10 : List (Nat × Nat × Nat × Nat × Nat × Nat × Nat) := [(9, 2, 46, 47, 48, 0, 34), (13, 1, 47, 275, 276, 277, 34), (18, 1, 48, 295, 296, 297, 34), (23, 1, 49, 299, 300, 301, 34), (28, 1, 50, 303, 304, 305, 34), (33, 1, 51, 307, 308, 309, 34), (37, 1, 52, 324, 325, 326, 34), (41, 1, 53, 343, 344, 345, 34), (45, 1, 54, 347, 348, 349, 34), (49, 1, 55, 368, 369, 370, 34), (53, 1, 56, 380, 381, 382, 34), (57, 1, 57, 384, 385, 386, 34), (61, 1, 58, 392, 393, 394, 34), (65, 1, 59, 411, 412, 413, 34), (69, 1, 60, 419, 420, 421, 34), (73, 1, 61, 429, 430, 431, 34), (77, 1, 62, 441, 442, 443, 34), (81, 1, 63, 445, 446, 447, 34), (85, 1, 64, 478, 479, 480, 34), (89, 1, 65, 482, 483, 484, 34), (93, 1, 66, 525, 526, 527, 34), (97, 1, 67, 529, 530, 531, 34), (101, 1, 68, 541, 542, 543, 34), (105, 1, 73, 550, 551, 552, 34), (110, 1, 74, 554, 555, 556, 34), (115, 1, 75, 571, 572, 573, 34), (120, 1, 76, 576, 577, 578, 34), (124, 1, 77, 585, 586, 587, 34), (128, 1, 78, 589, 590, 591, 34), (12, 2, 82, 599, 600, 0, 42), (17, 1, 85, 682, 683, 684, 42), (22, 1, 86, 692, 693, 694, 42), (27, 1, 87, 696, 697, 698, 42), (32, 1, 88, 700, 701, 702, 42), (36, 1, 92, 704, 705, 706, 42), (40, 1, 93, 719, 720, 721, 42), (44, 1, 94, 723, 724, 725, 42), (48, 1, 98, 727, 728, 729, 42), (52, 1, 101, 743, 744, 745, 42), (56, 1, 102, 753, 754, 755, 42), (60, 1, 104, 757, 758, 759, 42), (64, 1, 108, 767, 768, 769, 42), (68, 1, 109, 784, 785, 786, 42), (72, 1, 113, 788, 789, 790, 42), (76, 1, 115, 803, 804, 805, 42), (80, 1, 116, 811, 812, 813, 42), (84, 1, 122, 815, 816, 817, 42), (88, 1, 123, 833, 834, 835, 42), (92, 1, 127, 837, 838, 839, 42), (96, 1, 128, 855, 856, 857, 42), (100, 1, 130, 859, 860, 861, 42), (104, 1, 131, 867, 868, 869, 42), (109, 1, 132, 871, 872, 873, 42), (114, 1, 133, 875, 876, 877, 42), (119, 1, 134, 880, 881, 882, 42), (123, 1, 135, 884, 885, 886, 42), (127, 1, 136, 888, 889, 890, 42), (131, 1, 137, 892, 893, 894, 42)]
def xmL : List (List (Nat × Nat × Nat × Nat × Nat × Nat × Nat)) := [xmL_0, xmL_1, xmL_2, xmL_3, xmL_4, xmL_5, xmL_6, xmL_7, xmL_8, xmL_9, xmL_10]
/-- classes: entry, class, places: link, instantiable, initialized -/
def xcL_0 : List (Nat × Nat × Nat × Nat × Nat) := []
def xcL_1 : List (Nat × Nat × Nat × Nat × Nat) := []
def xcL_2 : List (Nat × Nat × Nat × Nat × Nat) := []
def xcL_3 : List (Nat × Nat × Nat × Nat × Nat) := []
def xcL_4 : List (Nat × Nat × Nat × Nat × Nat) := []
def xcL_5 : List (Nat × Nat × Nat × Nat × Nat) := [(9, 1, 53, 54, 35), (16, 3, 75, 76, 36), (31, 2, 125, 126, 38), (40, 4, 161, 162, 39), (49, 0, 206, 207, 40)]
def xcL_6 : List (Nat × Nat × Nat × Nat × Nat) := []
def xcL_7 : List (Nat × Nat × Nat × Nat × Nat) := []
def xcL_8 : List (Nat × Nat × Nat × Nat × Nat) := []
def xcL_9 : List (Nat × Nat × Nat × Nat × Nat) := []
def xcL_10 : List (Nat × Nat × Nat × Nat × Nat) := [(7, 5, 45, 46, 34), (10, 6, 597, 598, 42)]
def xcL : List (List (Nat × Nat × Nat × Nat × Nat)) := [xcL_0, xcL_1, xcL_2, xcL_3, xcL_4, xcL_5, xcL_6, xcL_7, xcL_8, xcL_9, xcL_10]
/-- ints -/
def xkL_0 : List (Nat × Int32 × Nat) := []
def xkL_1 : List (Nat × Int32 × Nat) := []
def xkL_2 : List (Nat × Int32 × Nat) := [(72, 1000000, 403)]
def xkL_3 : List (Nat × Int32 × Nat) := []
def xkL_4 : List (Nat × Int32 × Nat) := []
def xkL_5 : List (Nat × Int32 × Nat) := []
def xkL_6 : List (Nat × Int32 × Nat) := [(126, 1000000, 775)]
def xkL_7 : List (Nat × Int32 × Nat) := [(265, 1431655765, 340), (266, 858993459, 341), (267, 252645135, 342)]
def xkL_8 : List (Nat × Int32 × Nat) := []
def xkL_9 : List (Nat × Int32 × Nat) := []
def xkL_10 : List (Nat × Int32 × Nat) := []
def xkL : List (List (Nat × Int32 × Nat)) := [xkL_0, xkL_1, xkL_2, xkL_3, xkL_4, xkL_5, xkL_6, xkL_7, xkL_8, xkL_9, xkL_10]
/-- longs -/
def xqL_0 : List (Nat × Int64 × Nat) := []
def xqL_1 : List (Nat × Int64 × Nat) := [(72, 100, 239), (49, 1000, 246)]
def xqL_2 : List (Nat × Int64 × Nat) := [(104, 1000, 440)]
def xqL_3 : List (Nat × Int64 × Nat) := []
def xqL_4 : List (Nat × Int64 × Nat) := []
def xqL_5 : List (Nat × Int64 × Nat) := [(207, 100, 540), (215, (-1000000000000000002), 558)]
def xqL_6 : List (Nat × Int64 × Nat) := [(118, 100, 765), (120, 1000, 766), (188, (-1000000000000000002), 879)]
def xqL_7 : List (Nat × Int64 × Nat) := []
def xqL_8 : List (Nat × Int64 × Nat) := []
def xqL_9 : List (Nat × Int64 × Nat) := []
def xqL_10 : List (Nat × Int64 × Nat) := []
def xqL : List (List (Nat × Int64 × Nat)) := [xqL_0, xqL_1, xqL_2, xqL_3, xqL_4, xqL_5, xqL_6, xqL_7, xqL_8, xqL_9, xqL_10]
/-- static arrays: entry, which, place of the word, nest -/
def xsL_0 : List (Nat × Nat × Nat × Nat) := []
def xsL_1 : List (Nat × Nat × Nat × Nat) := []
def xsL_2 : List (Nat × Nat × Nat × Nat) := []
def xsL_3 : List (Nat × Nat × Nat × Nat) := [(37, 0, 81, 1), (40, 1, 83, 1)]
def xsL_4 : List (Nat × Nat × Nat × Nat) := []
def xsL_5 : List (Nat × Nat × Nat × Nat) := [(72, 2, 282, 0), (125, 3, 372, 0), (128, 4, 374, 0)]
def xsL_6 : List (Nat × Nat × Nat × Nat) := []
def xsL_7 : List (Nat × Nat × Nat × Nat) := []
def xsL_8 : List (Nat × Nat × Nat × Nat) := []
def xsL_9 : List (Nat × Nat × Nat × Nat) := []
def xsL_10 : List (Nat × Nat × Nat × Nat) := []
def xsL : List (List (Nat × Nat × Nat × Nat)) := [xsL_0, xsL_1, xsL_2, xsL_3, xsL_4, xsL_5, xsL_6, xsL_7, xsL_8, xsL_9, xsL_10]
abbrev xMT : Type := MethodName × ByteArray × Nat × Option FieldType × Nat × Nat × Nat × Bool × Nat × Nat
/-- methods: name, code, locals, what it returns, class, cells, slots, constructor, parameters, place of its code word -/
def xm0 : xMT := (yX0_init, cX0_init, 1, none, 0, 0, 0, true, 0, 210)
def xm1 : xMT := (yX0_draw, cX0_draw, 8, none, 0, 0, 0, false, 2, 562)
def xm2 : xMT := (yX0_sumOf, cX0_sumOf, 4, (some .int), 0, 0, 0, false, 2, 566)
def xm3 : xMT := (yX0_commonDivisor, cX0_commonDivisor, 6, (some .int), 0, 0, 0, false, 2, 569)
def xm4 : xMT := (yX1_init, cX1_init, 1, none, 1, 3, 96, true, 0, 57)
def xm5 : xMT := (yX1_add, cX1_add, 2, (some .boolean), 1, 0, 0, false, 1, 224)
def xm6 : xMT := (yX1_faultAsWindow, cX1_faultAsWindow, 4, (some .int), 1, 0, 0, false, 0, 314)
def xm7 : xMT := (yX1_faultAsLaw, cX1_faultAsLaw, 4, (some .int), 1, 0, 0, false, 0, 319)
def xm8 : xMT := (yX1_becomeWindow, cX1_becomeWindow, 4, none, 1, 0, 0, false, 1, 331)
def xm9 : xMT := (yX1_becomeLaw, cX1_becomeLaw, 6, none, 1, 0, 0, false, 2, 228)
def xm10 : xMT := (yX1_comesTo, cX1_comesTo, 5, (some .long), 1, 0, 0, false, 2, 232)
def xm11 : xMT := (yX1_joinsTwo, cX1_joinsTwo, 1, (some .boolean), 1, 0, 0, false, 1, 235)
def xm12 : xMT := (yX1_standsAlone, cX1_standsAlone, 1, (some .boolean), 1, 0, 0, false, 1, 322)
def xm13 : xMT := (yX1_alone, cX1_alone, 3, (some .long), 1, 0, 0, false, 3, 238)
def xm14 : xMT := (yX1_joined, cX1_joined, 5, (some .long), 1, 0, 0, false, 3, 242)
def xm15 : xMT := (yX2_init, cX2_init, 2, none, 2, 4, 47, true, 1, 129)
def xm16 : xMT := (yX2_standBefore, cX2_standBefore, 5, none, 2, 0, 0, false, 1, 354)
def xm17 : xMT := (yX2_lookBeside, cX2_lookBeside, 4, none, 2, 0, 0, false, 1, 363)
def xm18 : xMT := (yX2_pullOn, cX2_pullOn, 4, (some .int), 2, 0, 0, false, 2, 367)
def xm19 : xMT := (yX2_goBy, cX2_goBy, 11, none, 2, 0, 0, false, 2, 399)
def xm20 : xMT := (yX2_glance, cX2_glance, 10, none, 2, 0, 0, false, 3, 410)
def xm21 : xMT := (yX2_sawIt, cX2_sawIt, 4, (some .int), 2, 0, 0, false, 1, 418)
def xm22 : xMT := (yX2_reckon, cX2_reckon, 10, none, 2, 0, 0, false, 1, 426)
def xm23 : xMT := (yX2_weekOf, cX2_weekOf, 7, (some .int), 2, 0, 0, false, 2, 436)
def xm24 : xMT := (yX3_init, cX3_init, 2, none, 3, 6, 80, true, 0, 79)
def xm25 : xMT := (yX3_takeFrom, cX3_takeFrom, 2, none, 3, 0, 0, false, 1, 583)
def xm26 : xMT := (yX3_trait, cX3_trait, 3, (some .int), 3, 0, 0, false, 2, 290)
def xm27 : xMT := (yX3_habit, cX3_habit, 3, (some .int), 3, 0, 0, false, 2, 379)
def xm28 : xMT := (yX3_answer, cX3_answer, 4, (some .int), 3, 0, 0, false, 3, 391)
def xm29 : xMT := (yX3_standing, cX3_standing, 3, (some .int), 3, 0, 0, false, 0, 335)
def xm30 : xMT := (yX4_init, cX4_init, 2, none, 4, 6, 4688, true, 1, 165)
def xm31 : xMT := (yX4_forget, cX4_forget, 1, none, 4, 0, 0, false, 0, 294)
def xm32 : xMT := (yX4_makeReady, cX4_makeReady, 1, none, 4, 0, 0, false, 0, 456)
def xm33 : xMT := (yX4_list, cX4_list, 5, none, 4, 0, 0, false, 4, 459)
def xm34 : xMT := (yX4_add, cX4_add, 3, none, 4, 0, 0, false, 2, 463)
def xm35 : xMT := (yX4_weekAt, cX4_weekAt, 3, (some .int), 4, 0, 0, false, 1, 469)
def xm36 : xMT := (yX4_thingAt, cX4_thingAt, 4, (some .int), 4, 0, 0, false, 2, 474)
def xm37 : xMT := (yX4_greatest, cX4_greatest, 11, (some .int), 4, 0, 0, false, 3, 452)
def xm38 : xMT := (yX4_climb, cX4_climb, 4, none, 4, 0, 0, false, 1, 489)
def xm39 : xMT := (yX4_greatestOffer, cX4_greatestOffer, 4, (some .int), 4, 0, 0, false, 0, 520)
def xm40 : xMT := (yX4_offerChangesAbout, cX4_offerChangesAbout, 3, none, 4, 0, 0, false, 0, 500)
def xm41 : xMT := (yX4_changeAbout, cX4_changeAbout, 4, none, 4, 0, 0, false, 2, 504)
def xm42 : xMT := (yX4_offerPuttings, cX4_offerPuttings, 5, none, 4, 0, 0, false, 0, 512)
def xm43 : xMT := (yX4_offerTakings, cX4_offerTakings, 3, none, 4, 0, 0, false, 0, 516)
def xm44 : xMT := (yX4_offer, cX4_offer, 1, none, 4, 0, 0, false, 0, 508)
def xm45 : xMT := (yX4_whichClimbs, cX4_whichClimbs, 6, (some .int), 4, 0, 0, false, 0, 496)
def xm46 : xMT := (yX5_init, cX5_init, 2, none, 5, 41, 5130, true, 0, 49)
def xm47 : xMT := (yX5_thing, cX5_thing, 5, (some .int), 5, 0, 0, false, 3, 278)
def xm48 : xMT := (yX5_light, cX5_light, 4, (some .int), 5, 0, 0, false, 2, 298)
def xm49 : xMT := (yX5_say, cX5_say, 2, (some .int), 5, 0, 0, false, 1, 302)
def xm50 : xMT := (yX5_wipe, cX5_wipe, 2, (some .int), 5, 0, 0, false, 0, 306)
def xm51 : xMT := (yX5_fault, cX5_fault, 2, (some .int), 5, 0, 0, false, 1, 310)
def xm52 : xMT := (yX5_window, cX5_window, 1, (some .int), 5, 0, 0, false, 0, 327)
def xm53 : xMT := (yX5_stands, cX5_stands, 2, (some .int), 5, 0, 0, false, 1, 346)
def xm54 : xMT := (yX5_draws, cX5_draws, 3, (some .int), 5, 0, 0, false, 2, 350)
def xm55 : xMT := (yX5_kind, cX5_kind, 5, (some .int), 5, 0, 0, false, 3, 371)
def xm56 : xMT := (yX5_law, cX5_law, 3, (some .int), 5, 0, 0, false, 1, 383)
def xm57 : xMT := (yX5_says, cX5_says, 4, (some .int), 5, 0, 0, false, 3, 387)
def xm58 : xMT := (yX5_part, cX5_part, 3, (some .int), 5, 0, 0, false, 2, 395)
def xm59 : xMT := (yX5_seen, cX5_seen, 3, (some .int), 5, 0, 0, false, 2, 414)
def xm60 : xMT := (yX5_does, cX5_does, 3, (some .int), 5, 0, 0, false, 2, 422)
def xm61 : xMT := (yX5_week, cX5_week, 1, (some .int), 5, 0, 0, false, 0, 432)
def xm62 : xMT := (yX5_other, cX5_other, 3, (some .int), 5, 0, 0, false, 1, 444)
def xm63 : xMT := (yX5_best, cX5_best, 4, (some .int), 5, 0, 0, false, 2, 448)
def xm64 : xMT := (yX5_many, cX5_many, 2, (some .int), 5, 0, 0, false, 1, 481)
def xm65 : xMT := (yX5_exchanges, cX5_exchanges, 2, (some .int), 5, 0, 0, false, 1, 485)
def xm66 : xMT := (yX5_rid, cX5_rid, 6, (some .int), 5, 0, 0, false, 2, 528)
def xm67 : xMT := (yX5_stale, cX5_stale, 2, (some .int), 5, 0, 0, false, 1, 532)
def xm68 : xMT := (yX5_mends, cX5_mends, 3, (some .int), 5, 0, 0, false, 1, 544)
def xm69 : xMT := (yX5_greatestWeek, cX5_greatestWeek, 1, (some .int), 5, 0, 0, false, 0, 524)
def xm70 : xMT := (yX5_firstWeekUnder, cX5_firstWeekUnder, 4, (some .int), 5, 0, 0, false, 1, 536)
def xm71 : xMT := (yX5_firstChangeThatMends, cX5_firstChangeThatMends, 6, (some .int), 5, 0, 0, false, 2, 548)
def xm72 : xMT := (yX5_isUnder, cX5_isUnder, 3, (some .boolean), 5, 0, 0, false, 3, 539)
def xm73 : xMT := (yX5_shop, cX5_shop, 6, (some .int), 5, 0, 0, false, 3, 553)
def xm74 : xMT := (yX5_lot, cX5_lot, 2, (some .long), 5, 0, 0, false, 1, 557)
def xm75 : xMT := (yX5_boys, cX5_boys, 7, (some .int), 5, 0, 0, false, 4, 574)
def xm76 : xMT := (yX5_image, cX5_image, 2, (some .int), 5, 0, 0, false, 1, 579)
def xm77 : xMT := (yX5_restore, cX5_restore, 2, (some .int), 5, 0, 0, false, 1, 588)
def xm78 : xMT := (yX5_told, cX5_told, 2, (some .int), 5, 0, 0, false, 1, 592)
def xm79 : xMT := (yX5_toldOfRows, cX5_toldOfRows, 4, (some .int), 5, 0, 0, false, 1, 596)
def xm80 : xMT := (yX5_below, cX5_below, 2, (some .boolean), 5, 0, 0, false, 2, 281)
def xm81 : xMT := (yX5_between, cX5_between, 3, (some .boolean), 5, 0, 0, false, 3, 286)
def xm82 : xMT := (yX6_init, cX6_init, 2, none, 6, 20, 8302, true, 0, 601)
def xm83 : xMT := (yX6_in, cX6_in, 3, (some .boolean), 6, 0, 0, false, 3, 691)
def xm84 : xMT := (yX6_isFive, cX6_isFive, 1, (some .boolean), 6, 0, 0, false, 1, 688)
def xm85 : xMT := (yX6_thing, cX6_thing, 5, (some .int), 6, 0, 0, false, 3, 685)
def xm86 : xMT := (yX6_light, cX6_light, 4, (some .int), 6, 0, 0, false, 2, 695)
def xm87 : xMT := (yX6_say, cX6_say, 2, (some .int), 6, 0, 0, false, 1, 699)
def xm88 : xMT := (yX6_wipe, cX6_wipe, 2, (some .int), 6, 0, 0, false, 0, 703)
def xm89 : xMT := (yX6_windowFault, cX6_windowFault, 5, (some .int), 6, 0, 0, false, 0, 711)
def xm90 : xMT := (yX6_partsOf, cX6_partsOf, 1, (some .int), 6, 0, 0, false, 1, 718)
def xm91 : xMT := (yX6_lawFault, cX6_lawFault, 5, (some .int), 6, 0, 0, false, 0, 715)
def xm92 : xMT := (yX6_fault, cX6_fault, 2, (some .int), 6, 0, 0, false, 1, 707)
def xm93 : xMT := (yX6_window, cX6_window, 3, (some .int), 6, 0, 0, false, 0, 722)
def xm94 : xMT := (yX6_stands, cX6_stands, 2, (some .int), 6, 0, 0, false, 1, 726)
def xm95 : xMT := (yX6_looks, cX6_looks, 2, (some .int), 6, 0, 0, false, 1, 742)
def xm96 : xMT := (yX6_drawsOf, cX6_drawsOf, 5, (some .int), 6, 0, 0, false, 2, 738)
def xm97 : xMT := (yX6_lookAtWindow, cX6_lookAtWindow, 2, none, 6, 0, 0, false, 0, 734)
def xm98 : xMT := (yX6_draws, cX6_draws, 3, (some .int), 6, 0, 0, false, 2, 730)
def xm99 : xMT := (yX6_leastOf, cX6_leastOf, 1, (some .int), 6, 0, 0, false, 1, 749)
def xm100 : xMT := (yX6_mostOf, cX6_mostOf, 1, (some .int), 6, 0, 0, false, 1, 752)
def xm101 : xMT := (yX6_kind, cX6_kind, 5, (some .int), 6, 0, 0, false, 3, 746)
def xm102 : xMT := (yX6_law, cX6_law, 3, (some .int), 6, 0, 0, false, 1, 756)
def xm103 : xMT := (yX6_saysOf, cX6_saysOf, 11, (some .int), 6, 0, 0, false, 3, 764)
def xm104 : xMT := (yX6_says, cX6_says, 4, (some .int), 6, 0, 0, false, 3, 760)
def xm105 : xMT := (yX6_layParts, cX6_layParts, 5, none, 6, 0, 0, false, 2, 774)
def xm106 : xMT := (yX6_mayFall, cX6_mayFall, 3, (some .boolean), 6, 0, 0, false, 2, 783)
def xm107 : xMT := (yX6_glance, cX6_glance, 10, none, 6, 0, 0, false, 2, 779)
def xm108 : xMT := (yX6_part, cX6_part, 3, (some .int), 6, 0, 0, false, 2, 770)
def xm109 : xMT := (yX6_seen, cX6_seen, 5, (some .int), 6, 0, 0, false, 2, 787)
def xm110 : xMT := (yX6_bits, cX6_bits, 3, (some .int), 6, 0, 0, false, 1, 802)
def xm111 : xMT := (yX6_layLaws, cX6_layLaws, 3, none, 6, 0, 0, false, 0, 795)
def xm112 : xMT := (yX6_layDeeds, cX6_layDeeds, 11, none, 6, 0, 0, false, 2, 799)
def xm113 : xMT := (yX6_does, cX6_does, 3, (some .int), 6, 0, 0, false, 2, 791)
def xm114 : xMT := (yX6_weekOf, cX6_weekOf, 5, (some .int), 6, 0, 0, false, 1, 810)
def xm115 : xMT := (yX6_week, cX6_week, 1, (some .int), 6, 0, 0, false, 0, 806)
def xm116 : xMT := (yX6_other, cX6_other, 3, (some .int), 6, 0, 0, false, 1, 814)
def xm117 : xMT := (yX6_digit, cX6_digit, 2, (some .int), 6, 0, 0, false, 2, 832)
def xm118 : xMT := (yX6_power, cX6_power, 1, (some .int), 6, 0, 0, false, 1, 854)
def xm119 : xMT := (yX6_thingsIn, cX6_thingsIn, 4, (some .int), 6, 0, 0, false, 1, 829)
def xm120 : xMT := (yX6_layWeeks, cX6_layWeeks, 3, none, 6, 0, 0, false, 0, 826)
def xm121 : xMT := (yX6_bestOf, cX6_bestOf, 9, (some .int), 6, 0, 0, false, 3, 822)
def xm122 : xMT := (yX6_best, cX6_best, 4, (some .int), 6, 0, 0, false, 2, 818)
def xm123 : xMT := (yX6_many, cX6_many, 2, (some .int), 6, 0, 0, false, 1, 836)
def xm124 : xMT := (yX6_windowCode, cX6_windowCode, 3, (some .int), 6, 0, 0, false, 0, 844)
def xm125 : xMT := (yX6_change, cX6_change, 5, (some .int), 6, 0, 0, false, 3, 851)
def xm126 : xMT := (yX6_exchanged, cX6_exchanged, 6, (some .int), 6, 0, 0, false, 1, 848)
def xm127 : xMT := (yX6_exchanges, cX6_exchanges, 6, (some .int), 6, 0, 0, false, 1, 840)
def xm128 : xMT := (yX6_rid, cX6_rid, 4, (some .int), 6, 0, 0, false, 2, 858)
def xm129 : xMT := (yX6_staleBy, cX6_staleBy, 5, (some .int), 6, 0, 0, false, 2, 866)
def xm130 : xMT := (yX6_stale, cX6_stale, 2, (some .int), 6, 0, 0, false, 1, 862)
def xm131 : xMT := (yX6_mends, cX6_mends, 7, (some .int), 6, 0, 0, false, 1, 870)
def xm132 : xMT := (yX6_shop, cX6_shop, 5, (some .int), 6, 0, 0, false, 3, 874)
def xm133 : xMT := (yX6_lot, cX6_lot, 14, (some .long), 6, 0, 0, false, 1, 878)
def xm134 : xMT := (yX6_boys, cX6_boys, 6, (some .int), 6, 0, 0, false, 4, 883)
def xm135 : xMT := (yX6_image, cX6_image, 4, (some .int), 6, 0, 0, false, 1, 887)
def xm136 : xMT := (yX6_restore, cX6_restore, 4, (some .int), 6, 0, 0, false, 1, 891)
def xm137 : xMT := (yX6_told, cX6_told, 6, (some .int), 6, 0, 0, false, 1, 895)
def xm138 : xMT := (yJ6_bitCount_0f7a4, cJ6_bitCount_0f7a4, 1, (some .int), 7, 0, 0, false, 1, 339)
def xm139 : xMT := (yJ9_max_7cf53, cJ9_max_7cf53, 2, (some .int), 8, 0, 0, false, 2, 359)
def xm140 : xMT := (yJ9_max_f86c9, cJ9_max_f86c9, 4, (some .long), 8, 0, 0, false, 2, 249)
def xm141 : xMT := (yJ9_min_7cf53, cJ9_min_7cf53, 2, (some .int), 8, 0, 0, false, 2, 406)
def xm142 : xMT := (yJ9_min_f86c9, cJ9_min_f86c9, 4, (some .long), 8, 0, 0, false, 2, 245)
def xm143 : xMT := (yJ7_fill_53178, cJ7_fill_53178, 4, none, 9, 0, 0, false, 2, 87)
def xm144 : xMT := (yL_law, cL_law, 4, (some .boolean), 10, 600000, 7302250, false, 1, 0)
def xM : List xMT := [xm0, xm1, xm2, xm3, xm4, xm5, xm6, xm7, xm8, xm9, xm10, xm11, xm12, xm13, xm14, xm15, xm16, xm17, xm18, xm19, xm20, xm21, xm22, xm23, xm24, xm25, xm26, xm27, xm28, xm29, xm30, xm31, xm32, xm33, xm34, xm35, xm36, xm37, xm38, xm39, xm40, xm41, xm42, xm43, xm44, xm45, xm46, xm47, xm48, xm49, xm50, xm51, xm52, xm53, xm54, xm55, xm56, xm57, xm58, xm59, xm60, xm61, xm62, xm63, xm64, xm65, xm66, xm67, xm68, xm69, xm70, xm71, xm72, xm73, xm74, xm75, xm76, xm77, xm78, xm79, xm80, xm81, xm82, xm83, xm84, xm85, xm86, xm87, xm88, xm89, xm90, xm91, xm92, xm93, xm94, xm95, xm96, xm97, xm98, xm99, xm100, xm101, xm102, xm103, xm104, xm105, xm106, xm107, xm108, xm109, xm110, xm111, xm112, xm113, xm114, xm115, xm116, xm117, xm118, xm119, xm120, xm121, xm122, xm123, xm124, xm125, xm126, xm127, xm128, xm129, xm130, xm131, xm132, xm133, xm134, xm135, xm136, xm137, xm138, xm139, xm140, xm141, xm142, xm143, xm144]
def xTB : List (List (Option (Instr × Nat))) := [xt0, xt1, xt2, xt3, xt4, xt5, xt6, xt7, xt8, xt9, xt10, xt11, xt12, xt13, xt14, xt15, xt16, xt17, xt18, xt19, xt20, xt21, xt22, xt23, xt24, xt25, xt26, xt27, xt28, xt29, xt30, xt31, xt32, xt33, xt34, xt35, xt36, xt37, xt38, xt39, xt40, xt41, xt42, xt43, xt44, xt45, xt46, xt47, xt48, xt49, xt50, xt51, xt52, xt53, xt54, xt55, xt56, xt57, xt58, xt59, xt60, xt61, xt62, xt63, xt64, xt65, xt66, xt67, xt68, xt69, xt70, xt71, xt72, xt73, xt74, xt75, xt76, xt77, xt78, xt79, xt80, xt81, xt82, xt83, xt84, xt85, xt86, xt87, xt88, xt89, xt90, xt91, xt92, xt93, xt94, xt95, xt96, xt97, xt98, xt99, xt100, xt101, xt102, xt103, xt104, xt105, xt106, xt107, xt108, xt109, xt110, xt111, xt112, xt113, xt114, xt115, xt116, xt117, xt118, xt119, xt120, xt121, xt122, xt123, xt124, xt125, xt126, xt127, xt128, xt129, xt130, xt131, xt132, xt133, xt134, xt135, xt136, xt137, xt138, xt139, xt140, xt141, xt142, xt143, xt144]
def xRO : List String := [RX0, RX1, RX2, RX3, RX4, RX5, RX6, RJ6, RJ9, RJ7, RL]
end
section
/-! ===== the small machine: shapes, memory, the judgement xW ===== -/
/-- a cell's shape: an array of numbers (type, length); an object (class, fields: references as they are, .int 0 and .long 0 for numbers that the memory holds); the array of Scenes -/
abbrev xSh : Type := (FieldType × Nat) ⊕ ((Nat × List Value) ⊕ List Value)
abbrev xMem : Type := List xSh × (Nat → Nat → Int32) × (Nat → Nat → Int64)
abbrev xEx : Type := Nat → Option (Nat × (Nat → Int32))
def xfv (I : Nat → Nat → Int32) (L : Nat → Nat → Int64) (c k : Nat) (v : Value) : Value := match v with
  | .int _ => .int (I c k)
  | .long _ => .long (L c k)
  | w => w
def xtr (ad : Nat → Nat) (v : Value) : Value := match v with
  | .ref k => .ref (ad k)
  | w => w
def xro (ad : Nat → Nat) (v : Value) : Option Nat := match v with
  | .ref k => some (ad k)
  | _ => none
abbrev xScn : FieldType := .object "ShopWindow$Scene"
def xcell (ad : Nat → Nat) (cA : FieldType → ClassId) (I : Nat → Nat → Int32) (L : Nat → Nat → Int64) (c : Nat) (s : xSh) : va_E := match s with
  | .inl (.long, n) => .inl (cA .long, n, .inr (.inl (L c)))
  | .inl (ty, n) => .inl (cA ty, n, .inl (I c))
  | .inr (.inl (ci, fs)) => .inr (ci, fs.mapIdx (fun k v => xtr ad (xfv I L c k v)))
  | .inr (.inr vs) => .inl (cA xScn, vs.length, .inr (.inr (.inr (.inr (fun j => xro ad (vs.getD j .null))))))
def xconc (ad : Nat → Nat) (cA : FieldType → ClassId) (σ : xMem) : va_W := σ.1.mapIdx (fun c s => (ad c, xcell ad cA σ.2.1 σ.2.2 c s))
abbrev xtys (cA : FieldType → ClassId) : List (ClassId × FieldType) := [(cA .int, .int), (cA .long, .long), (cA .boolean, .boolean), (cA xScn, xScn)]
/-- the words that every method has: those of the tables that go over to callees -/
def xTbl : List Cond := lw_tbl.filter goodWord
theorem xTbl_at {i : Nat} {w : Cond} (h : lw_tbl[i]? = some w) (hg : goodWord w = true) : w ∈ xTbl := List.mem_filter.mpr ⟨List.mem_of_getElem? h, hg⟩
theorem xTbl_good : GoodIn xTbl xTbl := fun _ hw => ⟨hw, good_of_word (List.mem_filter.mp hw).2⟩
/-- a method's row -/
def xg (mi : Nat) : xMT := xM.getD mi xm0
def xY (mi : Nat) : MethodName := (xg mi).1
def xCC (mi : Nat) : ByteArray := (xg mi).2.1
def xML (mi : Nat) : Nat := (xg mi).2.2.1
def xRT (mi : Nat) : Option FieldType := (xg mi).2.2.2.1
def xOW (mi : Nat) : Nat := (xg mi).2.2.2.2.1
def xBC (mi : Nat) : Nat := (xg mi).2.2.2.2.2.1
def xBS (mi : Nat) : Nat := (xg mi).2.2.2.2.2.2.1
def xIN (mi : Nat) : Bool := (xg mi).2.2.2.2.2.2.2.1
def xNP (mi : Nat) : Nat := (xg mi).2.2.2.2.2.2.2.2.1
def xWI (mi : Nat) : Nat := (xg mi).2.2.2.2.2.2.2.2.2
def xRo (o : Nat) : String := xRO.getD o ""
def xft (mi pc : Nat) : Option (Instr × Nat) := match (xTB.getD mi [])[pc]? with
  | some x => x
  | none => none
/-- the classes' tables by number -/
def xTT (ci : Nat) : u_T := match ci with
  | 0 => TX0
  | 1 => TX1
  | 2 => TX2
  | 3 => TX3
  | 4 => TX4
  | 5 => TX5
  | _ => TX6
def xNN (ci : Nat) : Nat := match ci with
  | 0 => 2
  | 1 => 4
  | 2 => 8
  | 3 => 8
  | 4 => 12
  | 5 => 8
  | _ => 26
def xTy (ci : Nat) : Nat → FieldType := match ci with
  | 0 => tyX0
  | 1 => tyX1
  | 2 => tyX2
  | 3 => tyX3
  | 4 => tyX4
  | 5 => tyX5
  | _ => tyX6
theorem xvw : ∀ ci, ci < 7 → vwCl[ci]? = some (xRo ci, xTT ci, xNN ci)
  | 0, _ => rfl
  | 1, _ => rfl
  | 2, _ => rfl
  | 3, _ => rfl
  | 4, _ => rfl
  | 5, _ => rfl
  | 6, _ => rfl
  | (n + 7), h => absurd h (by omega)
theorem xnm : ∀ ci, ci < 7 → ∀ a, a < xNN ci → ∀ b, b < xNN ci → a ≠ b → (xTT ci a).2.1 ≠ (xTT ci b).2.1
  | 0, _ => nmX0
  | 1, _ => nmX1
  | 2, _ => nmX2
  | 3, _ => nmX3
  | 4, _ => nmX4
  | 5, _ => nmX5
  | 6, _ => nmX6
  | (n + 7), h => absurd h (by omega)
theorem xty_ok : ∀ ci, ci < 7 → ∀ k, k < xNN ci → parseFieldDescriptor (xTT ci k).2.2.1 = some (xTy ci k)
  | 0, _ => tyX0_ok
  | 1, _ => tyX1_ok
  | 2, _ => tyX2_ok
  | 3, _ => tyX3_ok
  | 4, _ => tyX4_ok
  | 5, _ => tyX5_ok
  | 6, _ => tyX6_ok
  | (n + 7), h => absurd h (by omega)
/-- the links -/
def xfd (ow idx : Nat) : Option (Nat × Nat) := ((xfL.getD ow []).find? (fun e => e.1 == idx)).map (fun e => (e.2.1, e.2.2.1))
def xmt (ow idx : Nat) : Option (Nat × Nat) := ((xmL.getD ow []).find? (fun e => e.1 == idx)).map (fun e => (e.2.1, e.2.2.1))
def xcl (ow idx : Nat) : Option Nat := ((xcL.getD ow []).find? (fun e => e.1 == idx)).map (fun e => e.2.1)
def xk1 (ow idx : Nat) : Option Int32 := ((xkL.getD ow []).find? (fun e => e.1 == idx)).map (fun e => e.2.1)
def xk2 (ow idx : Nat) : Option Int64 := ((xqL.getD ow []).find? (fun e => e.1 == idx)).map (fun e => e.2.1)
def xss (ow idx : Nat) : Option (Nat × Nat) := ((xsL.getD ow []).find? (fun e => e.1 == idx)).map (fun e => (e.2.1, e.2.2.2))
def xsn (e : Nat) : String := match e with
  | 0 => "TRAIT_AT_FIRST"
  | 1 => "HABIT_AT_FIRST"
  | 2 => "TRAIT_MOST"
  | 3 => "HABIT_LEAST"
  | _ => "HABIT_MOST"
/-- a word of the tables at a place, one that goes over -/
def xwd (i : Nat) (w : Cond) : Bool := goodWord w && decide (lw_tbl[i]? = some w)
theorem xwd_in {i : Nat} {w : Cond} (h : xwd i w = true) : w ∈ xTbl := by
  unfold xwd at h
  rw [Bool.and_eq_true] at h
  exact xTbl_at (of_decide_eq_true h.2) h.1
theorem xfL_ok : ∀ ow, ow < 11 → ∀ e ∈ xfL.getD ow [], (e.2.1 < 7 ∧ e.2.2.1 < xNN e.2.1) ∧ xwd e.2.2.2 (.fieldLink (xRo ow) e.1 (xTT e.2.1 e.2.2.1).1 (xTT e.2.1 e.2.2.1).2.1 (xTT e.2.1 e.2.2.1).2.2.1) = true := by decide +kernel
theorem xcL_ok : ∀ ow, ow < 11 → ∀ e ∈ xcL.getD ow [], e.2.1 < 7 ∧ xwd e.2.2.1 (.classLink (xRo ow) e.1 (xRo e.2.1)) = true ∧ xwd e.2.2.2.1 (.instantiable (xRo e.2.1) (xNN e.2.1)) = true ∧ xwd e.2.2.2.2 (.initialized (xRo e.2.1)) = true := by decide +kernel
theorem xkL_ok : ∀ ow, ow < 11 → ∀ e ∈ xkL.getD ow [], xwd e.2.2 (.constant (xRo ow) e.1 e.2.1) = true := by decide +kernel
theorem xqL_ok : ∀ ow, ow < 11 → ∀ e ∈ xqL.getD ow [], xwd e.2.2 (.constantLong (xRo ow) e.1 e.2.1) = true := by decide +kernel
theorem xsL_ok : ∀ ow, ow < 11 → ∀ e ∈ xsL.getD ow [], e.2.1 < 5 ∧ ((e.2.2.2 = 0 ∧ xwd e.2.2.1 (.fieldLink (xRo ow) e.1 "ShopWindow" (xsn e.2.1) "[I") = true) ∨ (e.2.2.2 = 1 ∧ lw_tbl[e.2.2.1]? = some (.fieldLinkNest (xRo ow) e.1 "ShopWindow" (xsn e.2.1) "[I" "ShopWindow"))) := by decide +kernel
/-- a method link's words, by kind -/
def xmOk (ow : Nat) (e : Nat × Nat × Nat × Nat × Nat × Nat × Nat) : Bool :=
  let y := xY e.2.2.1
  match e.2.1 with
  | 0 => xwd e.2.2.2.1 (.methodLink (xRo ow) e.1 y) && xwd e.2.2.2.2.1 (.static y) && xwd e.2.2.2.2.2.2 (.initialized y.cls)
  | 10 => decide (lw_tbl[e.2.2.2.1]? = some (.methodLinkNest (xRo ow) e.1 y "ShopWindow")) && xwd e.2.2.2.2.1 (.static y) && xwd e.2.2.2.2.2.2 (.initialized y.cls)
  | 1 => xwd e.2.2.2.1 (.methodLink (xRo ow) e.1 y) && xwd e.2.2.2.2.1 (.instanceMethod y) && xwd e.2.2.2.2.2.1 (.selects y.cls y y) && xwd e.2.2.2.2.2.2 (.initialized y.cls)
  | 2 => xwd e.2.2.2.1 (.methodLink (xRo ow) e.1 y) && xwd e.2.2.2.2.1 (.instanceMethod y) && xwd e.2.2.2.2.2.2 (.initialized y.cls) && decide (y.name = "<init>") && decide (xRT e.2.2.1 = none)
  | 12 => decide (lw_tbl[e.2.2.2.1]? = some (.methodLinkNest (xRo ow) e.1 y "ShopWindow")) && xwd e.2.2.2.2.1 (.instanceMethod y) && xwd e.2.2.2.2.2.2 (.initialized y.cls) && decide (y.name = "<init>") && decide (xRT e.2.2.1 = none)
  | 3 => xwd e.2.2.2.1 (.methodLink (xRo ow) e.1 Lib.objectInit)
  | 4 => xwd e.2.2.2.1 (.methodLink (xRo ow) e.1 arraycopyName)
  | _ => false
theorem xmL_ok0 : ∀ e ∈ xmL.getD 0 [], xmOk 0 e = true := by decide +kernel
theorem xmL_ok1 : ∀ e ∈ xmL.getD 1 [], xmOk 1 e = true := by decide +kernel
theorem xmL_ok2 : ∀ e ∈ xmL.getD 2 [], xmOk 2 e = true := by decide +kernel
theorem xmL_ok3 : ∀ e ∈ xmL.getD 3 [], xmOk 3 e = true := by decide +kernel
theorem xmL_ok4 : ∀ e ∈ xmL.getD 4 [], xmOk 4 e = true := by decide +kernel
theorem xmL_ok5 : ∀ e ∈ xmL.getD 5 [], xmOk 5 e = true := by decide +kernel
theorem xmL_ok6 : ∀ e ∈ xmL.getD 6 [], xmOk 6 e = true := by decide +kernel
theorem xmL_ok7 : ∀ e ∈ xmL.getD 7 [], xmOk 7 e = true := by decide +kernel
theorem xmL_ok8 : ∀ e ∈ xmL.getD 8 [], xmOk 8 e = true := by decide +kernel
theorem xmL_ok9 : ∀ e ∈ xmL.getD 9 [], xmOk 9 e = true := by decide +kernel
theorem xmL_ok10 : ∀ e ∈ xmL.getD 10 [], xmOk 10 e = true := by decide +kernel
theorem xmL_ok : ∀ ow, ow < 11 → ∀ e ∈ xmL.getD ow [], xmOk ow e = true
  | 0, _ => xmL_ok0
  | 1, _ => xmL_ok1
  | 2, _ => xmL_ok2
  | 3, _ => xmL_ok3
  | 4, _ => xmL_ok4
  | 5, _ => xmL_ok5
  | 6, _ => xmL_ok6
  | 7, _ => xmL_ok7
  | 8, _ => xmL_ok8
  | 9, _ => xmL_ok9
  | 10, _ => xmL_ok10
  | (n + 11), h => absurd h (by omega)
theorem xw_objInit : Cond.instanceMethod Lib.objectInit ∈ xTbl ∧ Cond.code Lib.objectInit ⟨#[0xb1]⟩ 1 none ∈ xTbl := ⟨xwd_in (i := 51) (by decide +kernel), xwd_in (i := 52) (by decide +kernel)⟩
theorem xw_copy : Cond.native arraycopyName ∈ xTbl ∧ Cond.static arraycopyName ∈ xTbl ∧ Cond.initialized "java/lang/System" ∈ xTbl := ⟨xwd_in (i := 492) (by decide +kernel), xwd_in (i := 491) (by decide +kernel), xwd_in (i := 44) (by decide +kernel)⟩
theorem xw_arr : Cond.arrayClass .int ∈ xTbl ∧ Cond.arrayClass .long ∈ xTbl ∧ Cond.arrayClass .boolean ∈ xTbl := ⟨xwd_in (i := 73) (by decide +kernel), xwd_in (i := 74) (by decide +kernel), xwd_in (i := 160) (by decide +kernel)⟩
end
section
/-- the tables are the code -/
theorem xAt : ∀ (mi pc : Nat) (i : Instr × Nat), (xTB.getD mi [])[pc]? = some (some i) → decode (xCC mi) pc = .ok i
  | 0, pc, i, h => xt0_at pc i h
  | 1, pc, i, h => xt1_at pc i h
  | 2, pc, i, h => xt2_at pc i h
  | 3, pc, i, h => xt3_at pc i h
  | 4, pc, i, h => xt4_at pc i h
  | 5, pc, i, h => xt5_at pc i h
  | 6, pc, i, h => xt6_at pc i h
  | 7, pc, i, h => xt7_at pc i h
  | 8, pc, i, h => xt8_at pc i h
  | 9, pc, i, h => xt9_at pc i h
  | 10, pc, i, h => xt10_at pc i h
  | 11, pc, i, h => xt11_at pc i h
  | 12, pc, i, h => xt12_at pc i h
  | 13, pc, i, h => xt13_at pc i h
  | 14, pc, i, h => xt14_at pc i h
  | 15, pc, i, h => xt15_at pc i h
  | 16, pc, i, h => xt16_at pc i h
  | 17, pc, i, h => xt17_at pc i h
  | 18, pc, i, h => xt18_at pc i h
  | 19, pc, i, h => xt19_at pc i h
  | 20, pc, i, h => xt20_at pc i h
  | 21, pc, i, h => xt21_at pc i h
  | 22, pc, i, h => xt22_at pc i h
  | 23, pc, i, h => xt23_at pc i h
  | 24, pc, i, h => xt24_at pc i h
  | 25, pc, i, h => xt25_at pc i h
  | 26, pc, i, h => xt26_at pc i h
  | 27, pc, i, h => xt27_at pc i h
  | 28, pc, i, h => xt28_at pc i h
  | 29, pc, i, h => xt29_at pc i h
  | 30, pc, i, h => xt30_at pc i h
  | 31, pc, i, h => xt31_at pc i h
  | 32, pc, i, h => xt32_at pc i h
  | 33, pc, i, h => xt33_at pc i h
  | 34, pc, i, h => xt34_at pc i h
  | 35, pc, i, h => xt35_at pc i h
  | 36, pc, i, h => xt36_at pc i h
  | 37, pc, i, h => xt37_at pc i h
  | 38, pc, i, h => xt38_at pc i h
  | 39, pc, i, h => xt39_at pc i h
  | 40, pc, i, h => xt40_at pc i h
  | 41, pc, i, h => xt41_at pc i h
  | 42, pc, i, h => xt42_at pc i h
  | 43, pc, i, h => xt43_at pc i h
  | 44, pc, i, h => xt44_at pc i h
  | 45, pc, i, h => xt45_at pc i h
  | 46, pc, i, h => xt46_at pc i h
  | 47, pc, i, h => xt47_at pc i h
  | 48, pc, i, h => xt48_at pc i h
  | 49, pc, i, h => xt49_at pc i h
  | 50, pc, i, h => xt50_at pc i h
  | 51, pc, i, h => xt51_at pc i h
  | 52, pc, i, h => xt52_at pc i h
  | 53, pc, i, h => xt53_at pc i h
  | 54, pc, i, h => xt54_at pc i h
  | 55, pc, i, h => xt55_at pc i h
  | 56, pc, i, h => xt56_at pc i h
  | 57, pc, i, h => xt57_at pc i h
  | 58, pc, i, h => xt58_at pc i h
  | 59, pc, i, h => xt59_at pc i h
  | 60, pc, i, h => xt60_at pc i h
  | 61, pc, i, h => xt61_at pc i h
  | 62, pc, i, h => xt62_at pc i h
  | 63, pc, i, h => xt63_at pc i h
  | 64, pc, i, h => xt64_at pc i h
  | 65, pc, i, h => xt65_at pc i h
  | 66, pc, i, h => xt66_at pc i h
  | 67, pc, i, h => xt67_at pc i h
  | 68, pc, i, h => xt68_at pc i h
  | 69, pc, i, h => xt69_at pc i h
  | 70, pc, i, h => xt70_at pc i h
  | 71, pc, i, h => xt71_at pc i h
  | 72, pc, i, h => xt72_at pc i h
  | 73, pc, i, h => xt73_at pc i h
  | 74, pc, i, h => xt74_at pc i h
  | 75, pc, i, h => xt75_at pc i h
  | 76, pc, i, h => xt76_at pc i h
  | 77, pc, i, h => xt77_at pc i h
  | 78, pc, i, h => xt78_at pc i h
  | 79, pc, i, h => xt79_at pc i h
  | 80, pc, i, h => xt80_at pc i h
  | 81, pc, i, h => xt81_at pc i h
  | 82, pc, i, h => xt82_at pc i h
  | 83, pc, i, h => xt83_at pc i h
  | 84, pc, i, h => xt84_at pc i h
  | 85, pc, i, h => xt85_at pc i h
  | 86, pc, i, h => xt86_at pc i h
  | 87, pc, i, h => xt87_at pc i h
  | 88, pc, i, h => xt88_at pc i h
  | 89, pc, i, h => xt89_at pc i h
  | 90, pc, i, h => xt90_at pc i h
  | 91, pc, i, h => xt91_at pc i h
  | 92, pc, i, h => xt92_at pc i h
  | 93, pc, i, h => xt93_at pc i h
  | 94, pc, i, h => xt94_at pc i h
  | 95, pc, i, h => xt95_at pc i h
  | 96, pc, i, h => xt96_at pc i h
  | 97, pc, i, h => xt97_at pc i h
  | 98, pc, i, h => xt98_at pc i h
  | 99, pc, i, h => xt99_at pc i h
  | 100, pc, i, h => xt100_at pc i h
  | 101, pc, i, h => xt101_at pc i h
  | 102, pc, i, h => xt102_at pc i h
  | 103, pc, i, h => xt103_at pc i h
  | 104, pc, i, h => xt104_at pc i h
  | 105, pc, i, h => xt105_at pc i h
  | 106, pc, i, h => xt106_at pc i h
  | 107, pc, i, h => xt107_at pc i h
  | 108, pc, i, h => xt108_at pc i h
  | 109, pc, i, h => xt109_at pc i h
  | 110, pc, i, h => xt110_at pc i h
  | 111, pc, i, h => xt111_at pc i h
  | 112, pc, i, h => xt112_at pc i h
  | 113, pc, i, h => xt113_at pc i h
  | 114, pc, i, h => xt114_at pc i h
  | 115, pc, i, h => xt115_at pc i h
  | 116, pc, i, h => xt116_at pc i h
  | 117, pc, i, h => xt117_at pc i h
  | 118, pc, i, h => xt118_at pc i h
  | 119, pc, i, h => xt119_at pc i h
  | 120, pc, i, h => xt120_at pc i h
  | 121, pc, i, h => xt121_at pc i h
  | 122, pc, i, h => xt122_at pc i h
  | 123, pc, i, h => xt123_at pc i h
  | 124, pc, i, h => xt124_at pc i h
  | 125, pc, i, h => xt125_at pc i h
  | 126, pc, i, h => xt126_at pc i h
  | 127, pc, i, h => xt127_at pc i h
  | 128, pc, i, h => xt128_at pc i h
  | 129, pc, i, h => xt129_at pc i h
  | 130, pc, i, h => xt130_at pc i h
  | 131, pc, i, h => xt131_at pc i h
  | 132, pc, i, h => xt132_at pc i h
  | 133, pc, i, h => xt133_at pc i h
  | 134, pc, i, h => xt134_at pc i h
  | 135, pc, i, h => xt135_at pc i h
  | 136, pc, i, h => xt136_at pc i h
  | 137, pc, i, h => xt137_at pc i h
  | 138, pc, i, h => xt138_at pc i h
  | 139, pc, i, h => xt139_at pc i h
  | 140, pc, i, h => xt140_at pc i h
  | 141, pc, i, h => xt141_at pc i h
  | 142, pc, i, h => xt142_at pc i h
  | 143, pc, i, h => xt143_at pc i h
  | 144, pc, i, h => xt144_at pc i h
  | (n + 145), pc, i, h => by
    have e : xTB.getD (n + 145) [] = [] := rfl
    rw [e] at h
    cases h
/-- their code words -/
theorem xwc_0 : xwd (xWI 0) (Cond.code (xY 0) (xCC 0) (xML 0) (xRT 0)) = true := by decide +kernel
theorem xwc_1 : xwd (xWI 1) (Cond.code (xY 1) (xCC 1) (xML 1) (xRT 1)) = true := by decide +kernel
theorem xwc_2 : xwd (xWI 2) (Cond.code (xY 2) (xCC 2) (xML 2) (xRT 2)) = true := by decide +kernel
theorem xwc_3 : xwd (xWI 3) (Cond.code (xY 3) (xCC 3) (xML 3) (xRT 3)) = true := by decide +kernel
theorem xwc_4 : xwd (xWI 4) (Cond.code (xY 4) (xCC 4) (xML 4) (xRT 4)) = true := by decide +kernel
theorem xwc_5 : xwd (xWI 5) (Cond.code (xY 5) (xCC 5) (xML 5) (xRT 5)) = true := by decide +kernel
theorem xwc_6 : xwd (xWI 6) (Cond.code (xY 6) (xCC 6) (xML 6) (xRT 6)) = true := by decide +kernel
theorem xwc_7 : xwd (xWI 7) (Cond.code (xY 7) (xCC 7) (xML 7) (xRT 7)) = true := by decide +kernel
theorem xwc_8 : xwd (xWI 8) (Cond.code (xY 8) (xCC 8) (xML 8) (xRT 8)) = true := by decide +kernel
theorem xwc_9 : xwd (xWI 9) (Cond.code (xY 9) (xCC 9) (xML 9) (xRT 9)) = true := by decide +kernel
theorem xwc_10 : xwd (xWI 10) (Cond.code (xY 10) (xCC 10) (xML 10) (xRT 10)) = true := by decide +kernel
theorem xwc_11 : xwd (xWI 11) (Cond.code (xY 11) (xCC 11) (xML 11) (xRT 11)) = true := by decide +kernel
theorem xwc_12 : xwd (xWI 12) (Cond.code (xY 12) (xCC 12) (xML 12) (xRT 12)) = true := by decide +kernel
theorem xwc_13 : xwd (xWI 13) (Cond.code (xY 13) (xCC 13) (xML 13) (xRT 13)) = true := by decide +kernel
theorem xwc_14 : xwd (xWI 14) (Cond.code (xY 14) (xCC 14) (xML 14) (xRT 14)) = true := by decide +kernel
theorem xwc_15 : xwd (xWI 15) (Cond.code (xY 15) (xCC 15) (xML 15) (xRT 15)) = true := by decide +kernel
theorem xwc_16 : xwd (xWI 16) (Cond.code (xY 16) (xCC 16) (xML 16) (xRT 16)) = true := by decide +kernel
theorem xwc_17 : xwd (xWI 17) (Cond.code (xY 17) (xCC 17) (xML 17) (xRT 17)) = true := by decide +kernel
theorem xwc_18 : xwd (xWI 18) (Cond.code (xY 18) (xCC 18) (xML 18) (xRT 18)) = true := by decide +kernel
theorem xwc_19 : xwd (xWI 19) (Cond.code (xY 19) (xCC 19) (xML 19) (xRT 19)) = true := by decide +kernel
theorem xwc_20 : xwd (xWI 20) (Cond.code (xY 20) (xCC 20) (xML 20) (xRT 20)) = true := by decide +kernel
theorem xwc_21 : xwd (xWI 21) (Cond.code (xY 21) (xCC 21) (xML 21) (xRT 21)) = true := by decide +kernel
theorem xwc_22 : xwd (xWI 22) (Cond.code (xY 22) (xCC 22) (xML 22) (xRT 22)) = true := by decide +kernel
theorem xwc_23 : xwd (xWI 23) (Cond.code (xY 23) (xCC 23) (xML 23) (xRT 23)) = true := by decide +kernel
theorem xwc_24 : xwd (xWI 24) (Cond.code (xY 24) (xCC 24) (xML 24) (xRT 24)) = true := by decide +kernel
theorem xwc_25 : xwd (xWI 25) (Cond.code (xY 25) (xCC 25) (xML 25) (xRT 25)) = true := by decide +kernel
theorem xwc_26 : xwd (xWI 26) (Cond.code (xY 26) (xCC 26) (xML 26) (xRT 26)) = true := by decide +kernel
theorem xwc_27 : xwd (xWI 27) (Cond.code (xY 27) (xCC 27) (xML 27) (xRT 27)) = true := by decide +kernel
theorem xwc_28 : xwd (xWI 28) (Cond.code (xY 28) (xCC 28) (xML 28) (xRT 28)) = true := by decide +kernel
theorem xwc_29 : xwd (xWI 29) (Cond.code (xY 29) (xCC 29) (xML 29) (xRT 29)) = true := by decide +kernel
theorem xwc_30 : xwd (xWI 30) (Cond.code (xY 30) (xCC 30) (xML 30) (xRT 30)) = true := by decide +kernel
theorem xwc_31 : xwd (xWI 31) (Cond.code (xY 31) (xCC 31) (xML 31) (xRT 31)) = true := by decide +kernel
theorem xwc_32 : xwd (xWI 32) (Cond.code (xY 32) (xCC 32) (xML 32) (xRT 32)) = true := by decide +kernel
theorem xwc_33 : xwd (xWI 33) (Cond.code (xY 33) (xCC 33) (xML 33) (xRT 33)) = true := by decide +kernel
theorem xwc_34 : xwd (xWI 34) (Cond.code (xY 34) (xCC 34) (xML 34) (xRT 34)) = true := by decide +kernel
theorem xwc_35 : xwd (xWI 35) (Cond.code (xY 35) (xCC 35) (xML 35) (xRT 35)) = true := by decide +kernel
theorem xwc_36 : xwd (xWI 36) (Cond.code (xY 36) (xCC 36) (xML 36) (xRT 36)) = true := by decide +kernel
theorem xwc_37 : xwd (xWI 37) (Cond.code (xY 37) (xCC 37) (xML 37) (xRT 37)) = true := by decide +kernel
theorem xwc_38 : xwd (xWI 38) (Cond.code (xY 38) (xCC 38) (xML 38) (xRT 38)) = true := by decide +kernel
theorem xwc_39 : xwd (xWI 39) (Cond.code (xY 39) (xCC 39) (xML 39) (xRT 39)) = true := by decide +kernel
theorem xwc_40 : xwd (xWI 40) (Cond.code (xY 40) (xCC 40) (xML 40) (xRT 40)) = true := by decide +kernel
theorem xwc_41 : xwd (xWI 41) (Cond.code (xY 41) (xCC 41) (xML 41) (xRT 41)) = true := by decide +kernel
theorem xwc_42 : xwd (xWI 42) (Cond.code (xY 42) (xCC 42) (xML 42) (xRT 42)) = true := by decide +kernel
theorem xwc_43 : xwd (xWI 43) (Cond.code (xY 43) (xCC 43) (xML 43) (xRT 43)) = true := by decide +kernel
theorem xwc_44 : xwd (xWI 44) (Cond.code (xY 44) (xCC 44) (xML 44) (xRT 44)) = true := by decide +kernel
theorem xwc_45 : xwd (xWI 45) (Cond.code (xY 45) (xCC 45) (xML 45) (xRT 45)) = true := by decide +kernel
theorem xwc_46 : xwd (xWI 46) (Cond.code (xY 46) (xCC 46) (xML 46) (xRT 46)) = true := by decide +kernel
theorem xwc_47 : xwd (xWI 47) (Cond.code (xY 47) (xCC 47) (xML 47) (xRT 47)) = true := by decide +kernel
theorem xwc_48 : xwd (xWI 48) (Cond.code (xY 48) (xCC 48) (xML 48) (xRT 48)) = true := by decide +kernel
theorem xwc_49 : xwd (xWI 49) (Cond.code (xY 49) (xCC 49) (xML 49) (xRT 49)) = true := by decide +kernel
theorem xwc_50 : xwd (xWI 50) (Cond.code (xY 50) (xCC 50) (xML 50) (xRT 50)) = true := by decide +kernel
theorem xwc_51 : xwd (xWI 51) (Cond.code (xY 51) (xCC 51) (xML 51) (xRT 51)) = true := by decide +kernel
theorem xwc_52 : xwd (xWI 52) (Cond.code (xY 52) (xCC 52) (xML 52) (xRT 52)) = true := by decide +kernel
theorem xwc_53 : xwd (xWI 53) (Cond.code (xY 53) (xCC 53) (xML 53) (xRT 53)) = true := by decide +kernel
theorem xwc_54 : xwd (xWI 54) (Cond.code (xY 54) (xCC 54) (xML 54) (xRT 54)) = true := by decide +kernel
theorem xwc_55 : xwd (xWI 55) (Cond.code (xY 55) (xCC 55) (xML 55) (xRT 55)) = true := by decide +kernel
theorem xwc_56 : xwd (xWI 56) (Cond.code (xY 56) (xCC 56) (xML 56) (xRT 56)) = true := by decide +kernel
theorem xwc_57 : xwd (xWI 57) (Cond.code (xY 57) (xCC 57) (xML 57) (xRT 57)) = true := by decide +kernel
theorem xwc_58 : xwd (xWI 58) (Cond.code (xY 58) (xCC 58) (xML 58) (xRT 58)) = true := by decide +kernel
theorem xwc_59 : xwd (xWI 59) (Cond.code (xY 59) (xCC 59) (xML 59) (xRT 59)) = true := by decide +kernel
theorem xwc_60 : xwd (xWI 60) (Cond.code (xY 60) (xCC 60) (xML 60) (xRT 60)) = true := by decide +kernel
theorem xwc_61 : xwd (xWI 61) (Cond.code (xY 61) (xCC 61) (xML 61) (xRT 61)) = true := by decide +kernel
theorem xwc_62 : xwd (xWI 62) (Cond.code (xY 62) (xCC 62) (xML 62) (xRT 62)) = true := by decide +kernel
theorem xwc_63 : xwd (xWI 63) (Cond.code (xY 63) (xCC 63) (xML 63) (xRT 63)) = true := by decide +kernel
theorem xwc_64 : xwd (xWI 64) (Cond.code (xY 64) (xCC 64) (xML 64) (xRT 64)) = true := by decide +kernel
theorem xwc_65 : xwd (xWI 65) (Cond.code (xY 65) (xCC 65) (xML 65) (xRT 65)) = true := by decide +kernel
theorem xwc_66 : xwd (xWI 66) (Cond.code (xY 66) (xCC 66) (xML 66) (xRT 66)) = true := by decide +kernel
theorem xwc_67 : xwd (xWI 67) (Cond.code (xY 67) (xCC 67) (xML 67) (xRT 67)) = true := by decide +kernel
theorem xwc_68 : xwd (xWI 68) (Cond.code (xY 68) (xCC 68) (xML 68) (xRT 68)) = true := by decide +kernel
theorem xwc_69 : xwd (xWI 69) (Cond.code (xY 69) (xCC 69) (xML 69) (xRT 69)) = true := by decide +kernel
theorem xwc_70 : xwd (xWI 70) (Cond.code (xY 70) (xCC 70) (xML 70) (xRT 70)) = true := by decide +kernel
theorem xwc_71 : xwd (xWI 71) (Cond.code (xY 71) (xCC 71) (xML 71) (xRT 71)) = true := by decide +kernel
theorem xwc_72 : xwd (xWI 72) (Cond.code (xY 72) (xCC 72) (xML 72) (xRT 72)) = true := by decide +kernel
theorem xwc_73 : xwd (xWI 73) (Cond.code (xY 73) (xCC 73) (xML 73) (xRT 73)) = true := by decide +kernel
theorem xwc_74 : xwd (xWI 74) (Cond.code (xY 74) (xCC 74) (xML 74) (xRT 74)) = true := by decide +kernel
theorem xwc_75 : xwd (xWI 75) (Cond.code (xY 75) (xCC 75) (xML 75) (xRT 75)) = true := by decide +kernel
theorem xwc_76 : xwd (xWI 76) (Cond.code (xY 76) (xCC 76) (xML 76) (xRT 76)) = true := by decide +kernel
theorem xwc_77 : xwd (xWI 77) (Cond.code (xY 77) (xCC 77) (xML 77) (xRT 77)) = true := by decide +kernel
theorem xwc_78 : xwd (xWI 78) (Cond.code (xY 78) (xCC 78) (xML 78) (xRT 78)) = true := by decide +kernel
theorem xwc_79 : xwd (xWI 79) (Cond.code (xY 79) (xCC 79) (xML 79) (xRT 79)) = true := by decide +kernel
theorem xwc_80 : xwd (xWI 80) (Cond.code (xY 80) (xCC 80) (xML 80) (xRT 80)) = true := by decide +kernel
theorem xwc_81 : xwd (xWI 81) (Cond.code (xY 81) (xCC 81) (xML 81) (xRT 81)) = true := by decide +kernel
theorem xwc_82 : xwd (xWI 82) (Cond.code (xY 82) (xCC 82) (xML 82) (xRT 82)) = true := by decide +kernel
theorem xwc_83 : xwd (xWI 83) (Cond.code (xY 83) (xCC 83) (xML 83) (xRT 83)) = true := by decide +kernel
theorem xwc_84 : xwd (xWI 84) (Cond.code (xY 84) (xCC 84) (xML 84) (xRT 84)) = true := by decide +kernel
theorem xwc_85 : xwd (xWI 85) (Cond.code (xY 85) (xCC 85) (xML 85) (xRT 85)) = true := by decide +kernel
theorem xwc_86 : xwd (xWI 86) (Cond.code (xY 86) (xCC 86) (xML 86) (xRT 86)) = true := by decide +kernel
theorem xwc_87 : xwd (xWI 87) (Cond.code (xY 87) (xCC 87) (xML 87) (xRT 87)) = true := by decide +kernel
theorem xwc_88 : xwd (xWI 88) (Cond.code (xY 88) (xCC 88) (xML 88) (xRT 88)) = true := by decide +kernel
theorem xwc_89 : xwd (xWI 89) (Cond.code (xY 89) (xCC 89) (xML 89) (xRT 89)) = true := by decide +kernel
theorem xwc_90 : xwd (xWI 90) (Cond.code (xY 90) (xCC 90) (xML 90) (xRT 90)) = true := by decide +kernel
theorem xwc_91 : xwd (xWI 91) (Cond.code (xY 91) (xCC 91) (xML 91) (xRT 91)) = true := by decide +kernel
theorem xwc_92 : xwd (xWI 92) (Cond.code (xY 92) (xCC 92) (xML 92) (xRT 92)) = true := by decide +kernel
theorem xwc_93 : xwd (xWI 93) (Cond.code (xY 93) (xCC 93) (xML 93) (xRT 93)) = true := by decide +kernel
theorem xwc_94 : xwd (xWI 94) (Cond.code (xY 94) (xCC 94) (xML 94) (xRT 94)) = true := by decide +kernel
theorem xwc_95 : xwd (xWI 95) (Cond.code (xY 95) (xCC 95) (xML 95) (xRT 95)) = true := by decide +kernel
theorem xwc_96 : xwd (xWI 96) (Cond.code (xY 96) (xCC 96) (xML 96) (xRT 96)) = true := by decide +kernel
theorem xwc_97 : xwd (xWI 97) (Cond.code (xY 97) (xCC 97) (xML 97) (xRT 97)) = true := by decide +kernel
theorem xwc_98 : xwd (xWI 98) (Cond.code (xY 98) (xCC 98) (xML 98) (xRT 98)) = true := by decide +kernel
theorem xwc_99 : xwd (xWI 99) (Cond.code (xY 99) (xCC 99) (xML 99) (xRT 99)) = true := by decide +kernel
theorem xwc_100 : xwd (xWI 100) (Cond.code (xY 100) (xCC 100) (xML 100) (xRT 100)) = true := by decide +kernel
theorem xwc_101 : xwd (xWI 101) (Cond.code (xY 101) (xCC 101) (xML 101) (xRT 101)) = true := by decide +kernel
theorem xwc_102 : xwd (xWI 102) (Cond.code (xY 102) (xCC 102) (xML 102) (xRT 102)) = true := by decide +kernel
theorem xwc_103 : xwd (xWI 103) (Cond.code (xY 103) (xCC 103) (xML 103) (xRT 103)) = true := by decide +kernel
theorem xwc_104 : xwd (xWI 104) (Cond.code (xY 104) (xCC 104) (xML 104) (xRT 104)) = true := by decide +kernel
theorem xwc_105 : xwd (xWI 105) (Cond.code (xY 105) (xCC 105) (xML 105) (xRT 105)) = true := by decide +kernel
theorem xwc_106 : xwd (xWI 106) (Cond.code (xY 106) (xCC 106) (xML 106) (xRT 106)) = true := by decide +kernel
theorem xwc_107 : xwd (xWI 107) (Cond.code (xY 107) (xCC 107) (xML 107) (xRT 107)) = true := by decide +kernel
theorem xwc_108 : xwd (xWI 108) (Cond.code (xY 108) (xCC 108) (xML 108) (xRT 108)) = true := by decide +kernel
theorem xwc_109 : xwd (xWI 109) (Cond.code (xY 109) (xCC 109) (xML 109) (xRT 109)) = true := by decide +kernel
theorem xwc_110 : xwd (xWI 110) (Cond.code (xY 110) (xCC 110) (xML 110) (xRT 110)) = true := by decide +kernel
theorem xwc_111 : xwd (xWI 111) (Cond.code (xY 111) (xCC 111) (xML 111) (xRT 111)) = true := by decide +kernel
theorem xwc_112 : xwd (xWI 112) (Cond.code (xY 112) (xCC 112) (xML 112) (xRT 112)) = true := by decide +kernel
theorem xwc_113 : xwd (xWI 113) (Cond.code (xY 113) (xCC 113) (xML 113) (xRT 113)) = true := by decide +kernel
theorem xwc_114 : xwd (xWI 114) (Cond.code (xY 114) (xCC 114) (xML 114) (xRT 114)) = true := by decide +kernel
theorem xwc_115 : xwd (xWI 115) (Cond.code (xY 115) (xCC 115) (xML 115) (xRT 115)) = true := by decide +kernel
theorem xwc_116 : xwd (xWI 116) (Cond.code (xY 116) (xCC 116) (xML 116) (xRT 116)) = true := by decide +kernel
theorem xwc_117 : xwd (xWI 117) (Cond.code (xY 117) (xCC 117) (xML 117) (xRT 117)) = true := by decide +kernel
theorem xwc_118 : xwd (xWI 118) (Cond.code (xY 118) (xCC 118) (xML 118) (xRT 118)) = true := by decide +kernel
theorem xwc_119 : xwd (xWI 119) (Cond.code (xY 119) (xCC 119) (xML 119) (xRT 119)) = true := by decide +kernel
theorem xwc_120 : xwd (xWI 120) (Cond.code (xY 120) (xCC 120) (xML 120) (xRT 120)) = true := by decide +kernel
theorem xwc_121 : xwd (xWI 121) (Cond.code (xY 121) (xCC 121) (xML 121) (xRT 121)) = true := by decide +kernel
theorem xwc_122 : xwd (xWI 122) (Cond.code (xY 122) (xCC 122) (xML 122) (xRT 122)) = true := by decide +kernel
theorem xwc_123 : xwd (xWI 123) (Cond.code (xY 123) (xCC 123) (xML 123) (xRT 123)) = true := by decide +kernel
theorem xwc_124 : xwd (xWI 124) (Cond.code (xY 124) (xCC 124) (xML 124) (xRT 124)) = true := by decide +kernel
theorem xwc_125 : xwd (xWI 125) (Cond.code (xY 125) (xCC 125) (xML 125) (xRT 125)) = true := by decide +kernel
theorem xwc_126 : xwd (xWI 126) (Cond.code (xY 126) (xCC 126) (xML 126) (xRT 126)) = true := by decide +kernel
theorem xwc_127 : xwd (xWI 127) (Cond.code (xY 127) (xCC 127) (xML 127) (xRT 127)) = true := by decide +kernel
theorem xwc_128 : xwd (xWI 128) (Cond.code (xY 128) (xCC 128) (xML 128) (xRT 128)) = true := by decide +kernel
theorem xwc_129 : xwd (xWI 129) (Cond.code (xY 129) (xCC 129) (xML 129) (xRT 129)) = true := by decide +kernel
theorem xwc_130 : xwd (xWI 130) (Cond.code (xY 130) (xCC 130) (xML 130) (xRT 130)) = true := by decide +kernel
theorem xwc_131 : xwd (xWI 131) (Cond.code (xY 131) (xCC 131) (xML 131) (xRT 131)) = true := by decide +kernel
theorem xwc_132 : xwd (xWI 132) (Cond.code (xY 132) (xCC 132) (xML 132) (xRT 132)) = true := by decide +kernel
theorem xwc_133 : xwd (xWI 133) (Cond.code (xY 133) (xCC 133) (xML 133) (xRT 133)) = true := by decide +kernel
theorem xwc_134 : xwd (xWI 134) (Cond.code (xY 134) (xCC 134) (xML 134) (xRT 134)) = true := by decide +kernel
theorem xwc_135 : xwd (xWI 135) (Cond.code (xY 135) (xCC 135) (xML 135) (xRT 135)) = true := by decide +kernel
theorem xwc_136 : xwd (xWI 136) (Cond.code (xY 136) (xCC 136) (xML 136) (xRT 136)) = true := by decide +kernel
theorem xwc_137 : xwd (xWI 137) (Cond.code (xY 137) (xCC 137) (xML 137) (xRT 137)) = true := by decide +kernel
theorem xwc_138 : xwd (xWI 138) (Cond.code (xY 138) (xCC 138) (xML 138) (xRT 138)) = true := by decide +kernel
theorem xwc_139 : xwd (xWI 139) (Cond.code (xY 139) (xCC 139) (xML 139) (xRT 139)) = true := by decide +kernel
theorem xwc_140 : xwd (xWI 140) (Cond.code (xY 140) (xCC 140) (xML 140) (xRT 140)) = true := by decide +kernel
theorem xwc_141 : xwd (xWI 141) (Cond.code (xY 141) (xCC 141) (xML 141) (xRT 141)) = true := by decide +kernel
theorem xwc_142 : xwd (xWI 142) (Cond.code (xY 142) (xCC 142) (xML 142) (xRT 142)) = true := by decide +kernel
theorem xwc_143 : xwd (xWI 143) (Cond.code (xY 143) (xCC 143) (xML 143) (xRT 143)) = true := by decide +kernel
theorem xwc : ∀ mi, mi < 144 → Cond.code (xY mi) (xCC mi) (xML mi) (xRT mi) ∈ xTbl
  | 0, _ => xwd_in xwc_0
  | 1, _ => xwd_in xwc_1
  | 2, _ => xwd_in xwc_2
  | 3, _ => xwd_in xwc_3
  | 4, _ => xwd_in xwc_4
  | 5, _ => xwd_in xwc_5
  | 6, _ => xwd_in xwc_6
  | 7, _ => xwd_in xwc_7
  | 8, _ => xwd_in xwc_8
  | 9, _ => xwd_in xwc_9
  | 10, _ => xwd_in xwc_10
  | 11, _ => xwd_in xwc_11
  | 12, _ => xwd_in xwc_12
  | 13, _ => xwd_in xwc_13
  | 14, _ => xwd_in xwc_14
  | 15, _ => xwd_in xwc_15
  | 16, _ => xwd_in xwc_16
  | 17, _ => xwd_in xwc_17
  | 18, _ => xwd_in xwc_18
  | 19, _ => xwd_in xwc_19
  | 20, _ => xwd_in xwc_20
  | 21, _ => xwd_in xwc_21
  | 22, _ => xwd_in xwc_22
  | 23, _ => xwd_in xwc_23
  | 24, _ => xwd_in xwc_24
  | 25, _ => xwd_in xwc_25
  | 26, _ => xwd_in xwc_26
  | 27, _ => xwd_in xwc_27
  | 28, _ => xwd_in xwc_28
  | 29, _ => xwd_in xwc_29
  | 30, _ => xwd_in xwc_30
  | 31, _ => xwd_in xwc_31
  | 32, _ => xwd_in xwc_32
  | 33, _ => xwd_in xwc_33
  | 34, _ => xwd_in xwc_34
  | 35, _ => xwd_in xwc_35
  | 36, _ => xwd_in xwc_36
  | 37, _ => xwd_in xwc_37
  | 38, _ => xwd_in xwc_38
  | 39, _ => xwd_in xwc_39
  | 40, _ => xwd_in xwc_40
  | 41, _ => xwd_in xwc_41
  | 42, _ => xwd_in xwc_42
  | 43, _ => xwd_in xwc_43
  | 44, _ => xwd_in xwc_44
  | 45, _ => xwd_in xwc_45
  | 46, _ => xwd_in xwc_46
  | 47, _ => xwd_in xwc_47
  | 48, _ => xwd_in xwc_48
  | 49, _ => xwd_in xwc_49
  | 50, _ => xwd_in xwc_50
  | 51, _ => xwd_in xwc_51
  | 52, _ => xwd_in xwc_52
  | 53, _ => xwd_in xwc_53
  | 54, _ => xwd_in xwc_54
  | 55, _ => xwd_in xwc_55
  | 56, _ => xwd_in xwc_56
  | 57, _ => xwd_in xwc_57
  | 58, _ => xwd_in xwc_58
  | 59, _ => xwd_in xwc_59
  | 60, _ => xwd_in xwc_60
  | 61, _ => xwd_in xwc_61
  | 62, _ => xwd_in xwc_62
  | 63, _ => xwd_in xwc_63
  | 64, _ => xwd_in xwc_64
  | 65, _ => xwd_in xwc_65
  | 66, _ => xwd_in xwc_66
  | 67, _ => xwd_in xwc_67
  | 68, _ => xwd_in xwc_68
  | 69, _ => xwd_in xwc_69
  | 70, _ => xwd_in xwc_70
  | 71, _ => xwd_in xwc_71
  | 72, _ => xwd_in xwc_72
  | 73, _ => xwd_in xwc_73
  | 74, _ => xwd_in xwc_74
  | 75, _ => xwd_in xwc_75
  | 76, _ => xwd_in xwc_76
  | 77, _ => xwd_in xwc_77
  | 78, _ => xwd_in xwc_78
  | 79, _ => xwd_in xwc_79
  | 80, _ => xwd_in xwc_80
  | 81, _ => xwd_in xwc_81
  | 82, _ => xwd_in xwc_82
  | 83, _ => xwd_in xwc_83
  | 84, _ => xwd_in xwc_84
  | 85, _ => xwd_in xwc_85
  | 86, _ => xwd_in xwc_86
  | 87, _ => xwd_in xwc_87
  | 88, _ => xwd_in xwc_88
  | 89, _ => xwd_in xwc_89
  | 90, _ => xwd_in xwc_90
  | 91, _ => xwd_in xwc_91
  | 92, _ => xwd_in xwc_92
  | 93, _ => xwd_in xwc_93
  | 94, _ => xwd_in xwc_94
  | 95, _ => xwd_in xwc_95
  | 96, _ => xwd_in xwc_96
  | 97, _ => xwd_in xwc_97
  | 98, _ => xwd_in xwc_98
  | 99, _ => xwd_in xwc_99
  | 100, _ => xwd_in xwc_100
  | 101, _ => xwd_in xwc_101
  | 102, _ => xwd_in xwc_102
  | 103, _ => xwd_in xwc_103
  | 104, _ => xwd_in xwc_104
  | 105, _ => xwd_in xwc_105
  | 106, _ => xwd_in xwc_106
  | 107, _ => xwd_in xwc_107
  | 108, _ => xwd_in xwc_108
  | 109, _ => xwd_in xwc_109
  | 110, _ => xwd_in xwc_110
  | 111, _ => xwd_in xwc_111
  | 112, _ => xwd_in xwc_112
  | 113, _ => xwd_in xwc_113
  | 114, _ => xwd_in xwc_114
  | 115, _ => xwd_in xwc_115
  | 116, _ => xwd_in xwc_116
  | 117, _ => xwd_in xwc_117
  | 118, _ => xwd_in xwc_118
  | 119, _ => xwd_in xwc_119
  | 120, _ => xwd_in xwc_120
  | 121, _ => xwd_in xwc_121
  | 122, _ => xwd_in xwc_122
  | 123, _ => xwd_in xwc_123
  | 124, _ => xwd_in xwc_124
  | 125, _ => xwd_in xwc_125
  | 126, _ => xwd_in xwc_126
  | 127, _ => xwd_in xwc_127
  | 128, _ => xwd_in xwc_128
  | 129, _ => xwd_in xwc_129
  | 130, _ => xwd_in xwc_130
  | 131, _ => xwd_in xwc_131
  | 132, _ => xwd_in xwc_132
  | 133, _ => xwd_in xwc_133
  | 134, _ => xwd_in xwc_134
  | 135, _ => xwd_in xwc_135
  | 136, _ => xwd_in xwc_136
  | 137, _ => xwd_in xwc_137
  | 138, _ => xwd_in xwc_138
  | 139, _ => xwd_in xwc_139
  | 140, _ => xwd_in xwc_140
  | 141, _ => xwd_in xwc_141
  | 142, _ => xwd_in xwc_142
  | 143, _ => xwd_in xwc_143
  | (n + 144), h => absurd h (by omega)
theorem xpl : ∀ mi, mi < 145 → plainFor (xY mi) = true := by decide +kernel
theorem xds : ∀ mi, mi < 145 → (xY mi).cls ≠ "java/lang/invoke/MethodHandle" ∧ (xY mi).cls ≠ "java/lang/invoke/VarHandle" ∧ (parseMethodDescriptor (xY mi).desc).map (fun d => d.parameters.length) = some (xNP mi) := by decide +kernel
theorem xow : ∀ mi, mi < 145 → xRo (xOW mi) = (xY mi).cls ∧ xOW mi < 11 := by decide +kernel
theorem xin : ∀ mi, mi < 145 → xIN mi = true → (xY mi).name = "<init>" := by decide +kernel
theorem xml : ∀ mi, mi < 145 → xML mi ≤ 20 := by decide +kernel
def xly0 : List Nat := [216, 218]
theorem xlw0 : ∀ k, k < 2 → xwd (xly0.getD k 0) (u_lay RX0 TX0 k) = true := by decide +kernel
theorem xlI0 : ∀ w ∈ u_ws RX0 TX0 2, w ∈ xTbl := fun w hw => by
  obtain ⟨k, hk, rfl⟩ := List.mem_map.mp hw
  exact xwd_in (xlw0 k (List.mem_range.mp hk))
def xly1 : List Nat := [64, 66, 68, 70]
theorem xlw1 : ∀ k, k < 4 → xwd (xly1.getD k 0) (u_lay RX1 TX1 k) = true := by decide +kernel
theorem xlI1 : ∀ w ∈ u_ws RX1 TX1 4, w ∈ xTbl := fun w hw => by
  obtain ⟨k, hk, rfl⟩ := List.mem_map.mp hw
  exact xwd_in (xlw1 k (List.mem_range.mp hk))
def xly2 : List Nat := [143, 145, 147, 149, 151, 153, 155, 157]
theorem xlw2 : ∀ k, k < 8 → xwd (xly2.getD k 0) (u_lay RX2 TX2 k) = true := by decide +kernel
theorem xlI2 : ∀ w ∈ u_ws RX2 TX2 8, w ∈ xTbl := fun w hw => by
  obtain ⟨k, hk, rfl⟩ := List.mem_map.mp hw
  exact xwd_in (xlw2 k (List.mem_range.mp hk))
def xly3 : List Nat := [107, 109, 111, 113, 115, 117, 119, 121]
theorem xlw3 : ∀ k, k < 8 → xwd (xly3.getD k 0) (u_lay RX3 TX3 k) = true := by decide +kernel
theorem xlI3 : ∀ w ∈ u_ws RX3 TX3 8, w ∈ xTbl := fun w hw => by
  obtain ⟨k, hk, rfl⟩ := List.mem_map.mp hw
  exact xwd_in (xlw3 k (List.mem_range.mp hk))
def xly4 : List Nat := [181, 183, 185, 187, 189, 191, 193, 195, 197, 199, 201, 203]
theorem xlw4 : ∀ k, k < 12 → xwd (xly4.getD k 0) (u_lay RX4 TX4 k) = true := by decide +kernel
theorem xlI4 : ∀ w ∈ u_ws RX4 TX4 12, w ∈ xTbl := fun w hw => by
  obtain ⟨k, hk, rfl⟩ := List.mem_map.mp hw
  exact xwd_in (xlw4 k (List.mem_range.mp hk))
def xly5 : List Nat := [258, 260, 262, 264, 266, 268, 270, 272]
theorem xlw5 : ∀ k, k < 8 → xwd (xly5.getD k 0) (u_lay RX5 TX5 k) = true := by decide +kernel
theorem xlI5 : ∀ w ∈ u_ws RX5 TX5 8, w ∈ xTbl := fun w hw => by
  obtain ⟨k, hk, rfl⟩ := List.mem_map.mp hw
  exact xwd_in (xlw5 k (List.mem_range.mp hk))
def xly6 : List Nat := [629, 631, 633, 635, 637, 639, 641, 643, 645, 647, 649, 651, 653, 655, 657, 659, 661, 663, 665, 667, 669, 671, 673, 675, 677, 679]
theorem xlw6 : ∀ k, k < 26 → xwd (xly6.getD k 0) (u_lay RX6 TX6 k) = true := by decide +kernel
theorem xlI6 : ∀ w ∈ u_ws RX6 TX6 26, w ∈ xTbl := fun w hw => by
  obtain ⟨k, hk, rfl⟩ := List.mem_map.mp hw
  exact xwd_in (xlw6 k (List.mem_range.mp hk))
theorem xlI : ∀ ci, ci < 7 → ∀ w ∈ u_ws (xRo ci) (xTT ci) (xNN ci), w ∈ xTbl
  | 0, _ => xlI0
  | 1, _ => xlI1
  | 2, _ => xlI2
  | 3, _ => xlI3
  | 4, _ => xlI4
  | 5, _ => xlI5
  | 6, _ => xlI6
  | (n + 7), h => absurd h (by omega)
end
section
/-! ===== the judgement: a method of the small machine, anywhere, comes to its end with Q ===== -/
def xnst : Cond → Bool
  | .methodLinkNest _ _ _ _ => true
  | .fieldLinkNest _ _ _ _ _ _ => true
  | _ => false
def xNst : List Cond := lw_tbl.filter xnst
theorem xNst_at {i : Nat} {w : Cond} (h : lw_tbl[i]? = some w) (hg : xnst w = true) : w ∈ xNst := List.mem_filter.mpr ⟨List.mem_of_getElem? h, hg⟩
/-- what lies outside: the script and the static arrays, as they were; the nest's links -/
def xExt (E : xEx) (base : Nat) (ad : Nat → Nat) (U : State) (H : Heap) : Prop :=
  (∀ (i N : Nat) (f : Nat → Int32), E i = some (N, f) → va_T .int (ad (1000 + i)) N (fun j => .int (f j)) (fun q => base ≤ q) U H) ∧
  (∀ e, e < 5 → va_Z "ShopWindow" (xsn e) "[I" (.ref (ad (1001 + e))) (fun q => base ≤ q) U H) ∧
  (∀ w ∈ xNst, va_Nw w U) ∧ va_AO "ShopWindow$Scene" U
def xCtx (E : xEx) (d mi base : Nat) (ad : Nat → Nat) (cA : FieldType → ClassId) (D : va_G) (p : Program) (R : Room) (s : State) (m : MethodId) (args : Array Value) (meth : Method) (c : Code) : Prop :=
  (mi < 145 ∧ p.tables.exec = Jvm.exec ∧ c.code = xCC mi ∧ c.maxLocals = xML mi ∧ s.vm.findClass (xRo (xOW mi)) = some m.cls) ∧
  ((∀ w ∈ xTbl, w.before args s = true) ∧ va_K D vwCl (xtys cA) s ∧ xExt E base ad s s.heap) ∧
  ((xIN mi = true → meth.name = "<init>") ∧ R.cells = xBC mi ∧ R.slots = xBS mi ∧ d ≤ R.frames ∧ 60 * d ≤ R.locals) ∧
  (base ≤ s.heap.size ∧ ∀ k, k < 1000 → ad k = base + k)
def xInv (base : Nat) (ad : Nat → Nat) (cA : FieldType → ClassId) (D : va_G) (s : State) (σ : xMem) (k : Nat) (H : Heap) (locs : List Loc) : Prop :=
  (s.heap.size + k = base + σ.1.length ∧ σ.1.length ≤ 1000) ∧ va_P D vwCl (xconc ad cA σ) H ∧ va_S (fun q => base ≤ q) s.heap H locs
/-- locals: by place; none: not known -/
abbrev xLv : Type := List (Option Value)
def xlv (ad : Nat → Nat) : Nat → xLv → List (Nat × Value)
  | _, [] => []
  | i, none :: r => xlv ad (i + 1) r
  | i, some v :: r => (i, xtr ad v) :: xlv ad (i + 1) r
theorem xlv_mem {ad : Nat → Nat} : ∀ {l : xLv} {i : Nat} {z : Nat × Value}, z ∈ xlv ad i l → ∃ (j : Nat) (v : Value), l[j]? = some (some v) ∧ z = (i + j, xtr ad v)
  | [], _, _, h => by cases h
  | none :: r, i, z, h => by
    obtain ⟨j, v, h1, h2⟩ := xlv_mem (l := r) (i := i + 1) h
    exact ⟨j + 1, v, h1, by rw [h2, show i + 1 + j = i + (j + 1) by omega]⟩
  | some w :: r, i, z, h => by
    rcases List.mem_cons.mp h with h | h
    · exact ⟨0, w, rfl, h⟩
    · obtain ⟨j, v, h1, h2⟩ := xlv_mem (l := r) (i := i + 1) h
      exact ⟨j + 1, v, h1, by rw [h2, show i + 1 + j = i + (j + 1) by omega]⟩
theorem xlv_of {ad : Nat → Nat} : ∀ {l : xLv} {i j : Nat} {v : Value}, l[j]? = some (some v) → (i + j, xtr ad v) ∈ xlv ad i l
  | [], _, _, _, h => by cases h
  | none :: r, i, 0, v, h => by cases h
  | none :: r, i, j + 1, v, h => by
    have := xlv_of (ad := ad) (l := r) (i := i + 1) (j := j) (v := v) h
    rw [show i + (j + 1) = i + 1 + j by omega]
    exact this
  | some w :: r, i, 0, v, h => by
    have e : w = v := by injection h with h; injection h
    rw [e]
    exact List.mem_cons_self
  | some w :: r, i, j + 1, v, h => by
    have := xlv_of (ad := ad) (l := r) (i := i + 1) (j := j) (v := v) h
    rw [show i + (j + 1) = i + 1 + j by omega]
    exact List.mem_cons_of_mem _ this
theorem xlv_at {ad : Nat → Nat} {l : xLv} {j : Nat} {v : Value} (h : l[j]? = some (some v)) : (j, xtr ad v) ∈ xlv ad 0 l := by
  have := xlv_of (ad := ad) (i := 0) h
  rwa [Nat.zero_add] at this
def xcat (v : Value) : Bool := match v with
  | .long _ => true
  | .double _ => true
  | _ => false
theorem xcat_of {v : Value} : (v.category == 2) = xcat v := by cases v <;> rfl
theorem xcat_tr (ad : Nat → Nat) (v : Value) : xcat (xtr ad v) = xcat v := by cases v <;> rfl
theorem xtr_cat (ad : Nat → Nat) (v : Value) : (xtr ad v).category = v.category := by cases v <;> rfl
/-- the place before: does a long lie there? -/
def xbef (l : xLv) (i : Nat) : Bool := match i with
  | 0 => false
  | j + 1 => match l[j]? with
    | some (some w) => xcat w
    | _ => false
theorem xlv_set {ad : Nat → Nat} {ls : Array Slot} {n i : Nat} {v : Value} {lv : xLv} (h : lv_has ls n ((i, xtr ad v) :: (xlv ad 0 lv).filter (fun z => !(z.1 == i) && !(z.1 + 1 == i && z.2.category == 2)))) (hb : xbef lv i = false) : lv_has ls n (xlv ad 0 (lv.set i (some v))) := by
  refine ⟨h.1, h.2.1, fun z hz => h.2.2 z ?_⟩
  obtain ⟨j, w, h1, rfl⟩ := xlv_mem hz
  rw [Nat.zero_add]
  by_cases hj : i = j
  · subst hj
    have hl : i < (lv.set i (some v)).length := (List.getElem?_eq_some_iff.mp h1).1
    rw [List.length_set] at hl
    rw [List.getElem?_set_self hl] at h1
    have e : v = w := by injection h1 with h1; injection h1
    rw [e]
    exact List.mem_cons_self
  · rw [List.getElem?_set_ne hj] at h1
    refine List.mem_cons_of_mem _ (List.mem_filter.mpr ⟨xlv_at h1, ?_⟩)
    rw [xcat_of, xcat_tr]
    have e1 : (j == i) = false := by simp; exact fun e => hj e.symm
    by_cases hk : j + 1 = i
    · subst hk
      unfold xbef at hb
      simp only [h1] at hb
      simp [hb]
    · simp [hk]
      exact fun e => hj e.symm
theorem xlv_set2 {ad : Nat → Nat} {ls : Array Slot} {n i : Nat} {v : Value} {lv : xLv} (h : lv_has ls n ((i, xtr ad v) :: (xlv ad 0 lv).filter (fun z => !(z.1 == i) && (!(z.1 == i + 1) && !(z.1 + 1 == i && z.2.category == 2))))) (hb : xbef lv i = false) : lv_has ls n (xlv ad 0 ((lv.set i (some v)).set (i + 1) none)) := by
  refine ⟨h.1, h.2.1, fun z hz => h.2.2 z ?_⟩
  obtain ⟨j, w, h1, rfl⟩ := xlv_mem hz
  rw [Nat.zero_add]
  have hj1 : ¬ i + 1 = j := by
    intro e
    subst e
    have hl : i + 1 < ((lv.set i (some v)).set (i + 1) none).length := (List.getElem?_eq_some_iff.mp h1).1
    rw [List.length_set] at hl
    rw [List.getElem?_set_self hl] at h1
    cases h1
  rw [List.getElem?_set_ne hj1] at h1
  by_cases hj : i = j
  · subst hj
    have hl : i < (lv.set i (some v)).length := (List.getElem?_eq_some_iff.mp h1).1
    rw [List.length_set] at hl
    rw [List.getElem?_set_self hl] at h1
    have e : v = w := by injection h1 with h1; injection h1
    rw [e]
    exact List.mem_cons_self
  · rw [List.getElem?_set_ne hj] at h1
    refine List.mem_cons_of_mem _ (List.mem_filter.mpr ⟨xlv_at h1, ?_⟩)
    rw [xcat_of, xcat_tr]
    by_cases hk : j + 1 = i
    · subst hk
      unfold xbef at hb
      simp only [h1] at hb
      simp [hb]
      omega
    · simp [hk]
      exact ⟨fun e => hj e.symm, fun e => hj1 e.symm⟩
def xargs : List Value → xLv
  | [] => []
  | v :: vs => bif xcat v then some v :: none :: xargs vs else some v :: xargs vs
def xpad : Nat → xLv → xLv
  | 0, l => l
  | n + 1, [] => none :: xpad n []
  | n + 1, a :: l => a :: xpad n l
theorem xpad_nil (ad : Nat → Nat) : ∀ (n i : Nat), xlv ad i (xpad n []) = []
  | 0, _ => rfl
  | n + 1, i => xpad_nil ad n (i + 1)
theorem xpad_lv (ad : Nat → Nat) : ∀ (n i : Nat) (l : xLv), xlv ad i (xpad n l) = xlv ad i l
  | 0, _, _ => rfl
  | n + 1, i, [] => xpad_nil ad n (i + 1)
  | n + 1, i, none :: l => xpad_lv ad n (i + 1) l
  | n + 1, i, some v :: l => by
    show (i, xtr ad v) :: xlv ad (i + 1) (xpad n l) = (i, xtr ad v) :: xlv ad (i + 1) l
    rw [xpad_lv ad n (i + 1) l]
theorem xargs_lv (ad : Nat → Nat) : ∀ (As : List Value) (i : Nat), lv_args i (As.map (xtr ad)) = xlv ad i (xargs As)
  | [], _ => rfl
  | v :: vs, i => by
    have e : (xtr ad v).category = v.category := xtr_cat ad v
    show (i, xtr ad v) :: lv_args (if (xtr ad v).category = 2 then i + 2 else i + 1) (vs.map (xtr ad)) = xlv ad i (bif xcat v then some v :: none :: xargs vs else some v :: xargs vs)
    rw [e]
    cases hc : xcat v with
    | true =>
      have h2 : v.category = 2 := by have := xcat_of (v := v); rw [hc] at this; exact beq_iff_eq.mp this
      rw [if_pos h2, xargs_lv ad vs (i + 2)]
      rfl
    | false =>
      have h2 : ¬ v.category = 2 := by have := xcat_of (v := v); rw [hc] at this; exact fun e => by rw [e] at this; cases this
      rw [if_neg h2, xargs_lv ad vs (i + 1)]
      rfl
theorem xargs_len (ad : Nat → Nat) : ∀ (As : List Value), (lg_sl (As.map (xtr ad))).length = (xargs As).length
  | [] => rfl
  | v :: vs => by
    have e : (xtr ad v).category = v.category := xtr_cat ad v
    have ih := xargs_len ad vs
    unfold lg_sl at ih ⊢
    rw [List.map_cons, List.flatMap_cons, List.length_append, ih, e]
    show _ = (bif xcat v then some v :: none :: xargs vs else some v :: xargs vs).length
    cases hc : xcat v with
    | true =>
      have h2 : v.category = 2 := by have := xcat_of (v := v); rw [hc] at this; exact beq_iff_eq.mp this
      rw [if_pos h2]
      simp; omega
    | false =>
      have h2 : ¬ v.category = 2 := by have := xcat_of (v := v); rw [hc] at this; exact fun e => by rw [e] at this; cases this
      rw [if_neg h2]
      simp; omega
def xRetAt (mi pc : Nat) (r : Option Value) : Prop := match r with
  | none => decode (xCC mi) pc = .ok (.return_, 1) ∧ xRT mi = none
  | some (.int v) => decode (xCC mi) pc = .ok (.ireturn, 1) ∧ (xRT mi = some .int ∨ (xRT mi = some .boolean ∧ (v = 0 ∨ v = 1)))
  | some (.long _) => decode (xCC mi) pc = .ok (.lreturn, 1) ∧ xRT mi = some .long
  | _ => False
def xEnd (mi base : Nat) (ad : Nat → Nat) (cA : FieldType → ClassId) (D : va_G) (p : Program) (l : Launch) (e : Env) (R : Room) (s : State) (m : MethodId) (args : Array Value) (below : List Frame) (meth : Method) (c : Code) (Qf : State → Prop) (Q : Option Value → xMem → Prop) : Prop :=
  ∀ (r : Option Value) (σ : xMem) (H : Heap) (locs : List Loc) (pc : Nat) (ls : Array Slot), Q r σ → xInv base ad cA D s σ (xBC mi) H locs → xRetAt mi pc r → W p l e R s m args below meth c H locs (xBC mi) (xBS mi) Qf (F0 m pc ls ((r.map (xtr ad)).toList))
def xW (E : xEx) (d mi pc : Nat) (lv : xLv) (st : List Value) (σ : xMem) (k q : Nat) (Q : Option Value → xMem → Prop) : Prop :=
  ∀ (base : Nat) (ad : Nat → Nat) (cA : FieldType → ClassId) (D : va_G) (l : Launch) (p : Program) (e : Env) (R : Room) (s : State) (m : MethodId) (args : Array Value) (below : List Frame) (meth : Method) (c : Code) (Qf : State → Prop) (H : Heap) (locs : List Loc) (ls : Array Slot),
    xCtx E d mi base ad cA D p R s m args meth c → xEnd mi base ad cA D p l e R s m args below meth c Qf Q → xInv base ad cA D s σ k H locs → lv_has ls (xML mi) (xlv ad 0 lv) →
    W p l e R s m args below meth c H locs k q Qf (F0 m pc ls (st.map (xtr ad)))
/-- a call of a method -/
def xC (E : xEx) (d mi : Nat) (As : List Value) (σ : xMem) (Q : Option Value → xMem → Prop) : Prop := xW E d mi 0 (xpad (xML mi) (xargs As)) [] σ 0 0 Q
theorem xC.mk {E : xEx} {d mi : Nat} {As : List Value} {σ : xMem} {Q : Option Value → xMem → Prop} (lv : xLv) (h : xpad (xML mi) (xargs As) = lv) (kk : xW E d mi 0 lv [] σ 0 0 Q) : xC E d mi As σ Q := by
  unfold xC
  rw [h]
  exact kk
theorem xdec {mi pc : Nat} {i : Instr × Nat} (h : xft mi pc = some i) : decode (xCC mi) pc = .ok i := by
  unfold xft at h
  cases hx : (xTB.getD mi [])[pc]? with
  | none => rw [hx] at h; cases h
  | some x =>
    rw [hx] at h
    exact xAt mi pc i (by rw [hx, show x = some i from h])
theorem xW.mono {E : xEx} {d mi pc : Nat} {lv : xLv} {st : List Value} {σ : xMem} {k q : Nat} {Q Q' : Option Value → xMem → Prop} (h : xW E d mi pc lv st σ k q Q) (hq : ∀ r t, Q r t → Q' r t) : xW E d mi pc lv st σ k q Q' :=
  fun base ad cA D l p e R s m args below meth c Qf H locs ls C hE hI hl => h base ad cA D l p e R s m args below meth c Qf H locs ls C (fun r σ H locs pc ls hr => hE r σ H locs pc ls (hq r σ hr)) hI hl
theorem xC.mono {E : xEx} {d mi : Nat} {As : List Value} {σ : xMem} {Q Q' : Option Value → xMem → Prop} (h : xC E d mi As σ Q) (hq : ∀ r t, Q r t → Q' r t) : xC E d mi As σ Q' := xW.mono h hq
theorem xW.deep {E : xEx} {d d' mi pc : Nat} {lv : xLv} {st : List Value} {σ : xMem} {k q : Nat} {Q : Option Value → xMem → Prop} (h : xW E d mi pc lv st σ k q Q) (hd : d ≤ d') : xW E d' mi pc lv st σ k q Q :=
  fun base ad cA D l p e R s m args below meth c Qf H locs ls C hE hI hl => h base ad cA D l p e R s m args below meth c Qf H locs ls ⟨C.1, C.2.1, ⟨C.2.2.1.1, C.2.2.1.2.1, C.2.2.1.2.2.1, Nat.le_trans hd C.2.2.1.2.2.2.1, Nat.le_trans (Nat.mul_le_mul_left 60 hd) C.2.2.1.2.2.2.2⟩, C.2.2.2⟩ hE hI hl
theorem xloc {ad : Nat → Nat} {lv : xLv} {ls : Array Slot} {n i : Nat} {v : Value} (hl : lv_has ls n (xlv ad 0 lv)) (h : lv[i]? = some (some v)) : ls[i]? = some (.val (xtr ad v)) := hl.2.2 (i, xtr ad v) (xlv_at h)
theorem ws_forget {E : xEx} {d mi pc : Nat} {lv : xLv} {st : List Value} {σ : xMem} {k q : Nat} {Q : Option Value → xMem → Prop} (i : Nat) (lv' : xLv) (h : lv.set i none = lv') (kk : xW E d mi pc lv' st σ k q Q) : xW E d mi pc lv st σ k q Q :=
  fun base ad cA D l p e R s m args below meth c Qf H locs ls C hE hI hl => kk base ad cA D l p e R s m args below meth c Qf H locs ls C hE hI ⟨hl.1, hl.2.1, fun z hz => hl.2.2 z (by
    obtain ⟨j, v, h1, rfl⟩ := xlv_mem hz
    rw [Nat.zero_add]
    refine xlv_at ?_
    rw [← h] at h1
    by_cases hj : i = j
    · subst hj
      have hl : i < (lv.set i none).length := (List.getElem?_eq_some_iff.mp h1).1
      rw [List.length_set] at hl
      rw [List.getElem?_set_self hl] at h1
      cases h1
    · rwa [List.getElem?_set_ne hj] at h1)⟩
/-- the memory: writing -/
def wI (I : Nat → Nat → Int32) (c j : Nat) (x : Int32) : Nat → Nat → Int32 := fun a => if a = c then upd (I a) j x else I a
def wL (L : Nat → Nat → Int64) (c j : Nat) (x : Int64) : Nat → Nat → Int64 := fun a => if a = c then vp_updL (L a) j x else L a
/-- a cell's row of numbers anew -/
def wR (I : Nat → Nat → Int32) (c : Nat) (f : Nat → Int32) : Nat → Nat → Int32 := fun a => if a = c then f else I a
def wRL (L : Nat → Nat → Int64) (c : Nat) (f : Nat → Int64) : Nat → Nat → Int64 := fun a => if a = c then f else L a
theorem xconc_at {ad : Nat → Nat} {cA : FieldType → ClassId} {S : List xSh} {I : Nat → Nat → Int32} {L : Nat → Nat → Int64} {c : Nat} {s : xSh} (h : S[c]? = some s) : (xconc ad cA (S, I, L))[c]? = some (ad c, xcell ad cA I L c s) := by
  simp [xconc, List.getElem?_mapIdx, h]
theorem xconc_len (ad : Nat → Nat) (cA : FieldType → ClassId) (σ : xMem) : (xconc ad cA σ).length = σ.1.length := by simp [xconc]
theorem xconc_wR {ad : Nat → Nat} {cA : FieldType → ClassId} {S : List xSh} {I : Nat → Nat → Int32} {L : Nat → Nat → Int64} {c : Nat} {s : xSh} (h : S[c]? = some s) (f : Nat → Int32) : xconc ad cA (S, wR I c f, L) = (xconc ad cA (S, I, L)).set c (ad c, xcell ad cA (wR I c f) L c s) := by
  apply List.ext_getElem?
  intro j
  by_cases hj : c = j
  · subst hj
    rw [List.getElem?_set_self (by rw [xconc_len]; exact (List.getElem?_eq_some_iff.mp h).1), xconc_at h]
  · rw [List.getElem?_set_ne hj]
    have e : ∀ (t : xSh), xcell ad cA (wR I c f) L j t = xcell ad cA I L j t := by
      intro t
      have e1 : wR I c f j = I j := by unfold wR; rw [if_neg (fun e => hj e.symm)]
      have e2 : (fun (k : Nat) (v : Value) => xtr ad (xfv (wR I c f) L j k v)) = (fun k v => xtr ad (xfv I L j k v)) := by
        funext k v
        cases v <;> simp [xfv, e1]
      rcases t with ⟨ty, n⟩ | ⟨ci, fs⟩ | vs
      · cases ty <;> simp [xcell, e1]
      · simp only [xcell, e2]
      · rfl
    simp only [xconc, List.getElem?_mapIdx, e]
theorem xconc_wRL {ad : Nat → Nat} {cA : FieldType → ClassId} {S : List xSh} {I : Nat → Nat → Int32} {L : Nat → Nat → Int64} {c : Nat} {s : xSh} (h : S[c]? = some s) (f : Nat → Int64) : xconc ad cA (S, I, wRL L c f) = (xconc ad cA (S, I, L)).set c (ad c, xcell ad cA I (wRL L c f) c s) := by
  apply List.ext_getElem?
  intro j
  by_cases hj : c = j
  · subst hj
    rw [List.getElem?_set_self (by rw [xconc_len]; exact (List.getElem?_eq_some_iff.mp h).1), xconc_at h]
  · rw [List.getElem?_set_ne hj]
    have e : ∀ (t : xSh), xcell ad cA I (wRL L c f) j t = xcell ad cA I L j t := by
      intro t
      have e1 : wRL L c f j = L j := by unfold wRL; rw [if_neg (fun e => hj e.symm)]
      have e2 : (fun (k : Nat) (v : Value) => xtr ad (xfv I (wRL L c f) j k v)) = (fun k v => xtr ad (xfv I L j k v)) := by
        funext k v
        cases v <;> simp [xfv, e1]
      rcases t with ⟨ty, n⟩ | ⟨ci, fs⟩ | vs
      · cases ty <;> simp [xcell, e1]
      · simp only [xcell, e2]
      · rfl
    simp only [xconc, List.getElem?_mapIdx, e]
theorem xconc_S {ad : Nat → Nat} {cA : FieldType → ClassId} {S : List xSh} {I : Nat → Nat → Int32} {L : Nat → Nat → Int64} {c : Nat} {s t : xSh} (h : S[c]? = some s) : xconc ad cA (S.set c t, I, L) = (xconc ad cA (S, I, L)).set c (ad c, xcell ad cA I L c t) := by
  apply List.ext_getElem?
  intro j
  have hc : c < S.length := (List.getElem?_eq_some_iff.mp h).1
  by_cases hj : c = j
  · subst hj
    rw [List.getElem?_set_self (by rw [xconc_len]; exact hc), xconc_at (by rw [List.getElem?_set_self hc])]
  · rw [List.getElem?_set_ne hj]
    simp only [xconc, List.getElem?_mapIdx, List.getElem?_set_ne hj]
theorem wI_R (I : Nat → Nat → Int32) (c j : Nat) (x : Int32) : wI I c j x = wR I c (upd (I c) j x) := by
  funext a
  unfold wI wR
  by_cases h : a = c
  · rw [if_pos h, if_pos h, h]
  · rw [if_neg h, if_neg h]
theorem wL_R (L : Nat → Nat → Int64) (c j : Nat) (x : Int64) : wL L c j x = wRL L c (vp_updL (L c) j x) := by
  funext a
  unfold wL wRL
  by_cases h : a = c
  · rw [if_pos h, if_pos h, h]
  · rw [if_neg h, if_neg h]
theorem wR_self (I : Nat → Nat → Int32) (c : Nat) (f : Nat → Int32) : wR I c f c = f := by unfold wR; rw [if_pos rfl]
theorem wRL_self (L : Nat → Nat → Int64) (c : Nat) (f : Nat → Int64) : wRL L c f c = f := by unfold wRL; rw [if_pos rfl]
theorem xD {base : Nat} {ad : Nat → Nat} {cA : FieldType → ClassId} {σ : xMem} (h : ∀ k, k < 1000 → ad k = base + k) (hl : σ.1.length ≤ 1000) : va_D (fun q => base ≤ q) (xconc ad cA σ) := by
  have e : ∀ (i : Nat) (z : Nat × va_E), (xconc ad cA σ)[i]? = some z → i < 1000 ∧ z.1 = base + i := by
    intro i z hz
    have hi : i < σ.1.length := by rw [← xconc_len ad cA σ]; exact (List.getElem?_eq_some_iff.mp hz).1
    have h9 : i < 1000 := Nat.lt_of_lt_of_le hi hl
    refine ⟨h9, ?_⟩
    simp only [xconc, List.getElem?_mapIdx, Option.map_eq_some_iff] at hz
    obtain ⟨s, -, rfl⟩ := hz
    exact h i h9
  refine ⟨fun i j x y hx hy he => ?_, fun k z hz => ?_⟩
  · have h1 := e i x hx
    have h2 := e j y hy
    omega
  · have h1 := e k z hz
    show base ≤ z.1
    omega
/-- how large the heap is: the machine's own book says it -/
theorem xsize {base : Nat} {ad : Nat → Nat} {cA : FieldType → ClassId} {D : va_G} {σ : xMem} {k q : Nat} {H : Heap} {locs locs' : List Loc} {p : Program} {l : Launch} {e : Env} {R : Room} {s : State} {m : MethodId} {args : Array Value} {below : List Frame} {meth : Method} {c : Code} {T : State} (hI : xInv base ad cA D s σ k H locs) (hb : base ≤ s.heap.size) (had : ∀ k, k < 1000 → ad k = base + k) (hT : T.heap = H) (X : Stand p l e R s m args below meth c T locs' k q) : H.size = base + σ.1.length := by
  have h1 : T.heap.size ≤ s.heap.size + k := X.same.2.2.1
  rw [hT] at h1
  have h2 := hI.2.2.1
  have h3 := hI.1.1
  have h4 := hI.1.2
  rcases Nat.eq_zero_or_pos σ.1.length with h0 | h0
  · omega
  · obtain ⟨x, hx⟩ : ∃ x, σ.1[σ.1.length - 1]? = some x := ⟨_, List.getElem?_eq_getElem (by omega)⟩
    have h5 := (hI.2.1 (σ.1.length - 1) _ (xconc_at (I := σ.2.1) (L := σ.2.2) hx)).lt
    have h6 := had (σ.1.length - 1) (by omega)
    have h7 : ad (σ.1.length - 1) < H.size := h5
    omega
end
section
theorem ws_iconst {E : xEx} {d mi pc : Nat} {lv : xLv} {st : List Value} {σ : xMem} {k q : Nat} {Q : Option Value → xMem → Prop} {n : Int} {v : Int32} (pc' : Nat) (hf : xft mi pc = some (.iconst n, 1)) (hp : pc + 1 = pc') (hv : Int32.ofInt n = v) (kk : xW E d mi pc' lv (.int v :: st) σ k q Q) : xW E d mi pc lv st σ k q Q := by
  subst hp
  intro base ad cA D l p e R s m args below meth c Qf H locs ls C hE hI hl
  exact lv_iconst C.1.2.1 C.1.2.2.1 (xdec hf) hv (kk base ad cA D l p e R s m args below meth c Qf H locs ls C hE hI hl)

theorem ws_bipush {E : xEx} {d mi pc : Nat} {lv : xLv} {st : List Value} {σ : xMem} {k q : Nat} {Q : Option Value → xMem → Prop} {n : Int} {v : Int32} (pc' : Nat) (hf : xft mi pc = some (.bipush n, 2)) (hp : pc + 2 = pc') (hv : (Int8.ofInt n).toInt32 = v) (kk : xW E d mi pc' lv (.int v :: st) σ k q Q) : xW E d mi pc lv st σ k q Q := by
  subst hp
  intro base ad cA D l p e R s m args below meth c Qf H locs ls C hE hI hl
  exact lv_bipush C.1.2.1 C.1.2.2.1 (xdec hf) hv (kk base ad cA D l p e R s m args below meth c Qf H locs ls C hE hI hl)

theorem ws_sipush {E : xEx} {d mi pc : Nat} {lv : xLv} {st : List Value} {σ : xMem} {k q : Nat} {Q : Option Value → xMem → Prop} {n : Int} {v : Int32} (pc' : Nat) (hf : xft mi pc = some (.sipush n, 3)) (hp : pc + 3 = pc') (hv : (Int16.ofInt n).toInt32 = v) (kk : xW E d mi pc' lv (.int v :: st) σ k q Q) : xW E d mi pc lv st σ k q Q := by
  subst hp
  intro base ad cA D l p e R s m args below meth c Qf H locs ls C hE hI hl
  exact lv_sipush C.1.2.1 C.1.2.2.1 (xdec hf) hv (kk base ad cA D l p e R s m args below meth c Qf H locs ls C hE hI hl)

theorem ws_lconst {E : xEx} {d mi pc : Nat} {lv : xLv} {st : List Value} {σ : xMem} {k q : Nat} {Q : Option Value → xMem → Prop} {n : Fin 2} {v : Int64} (pc' : Nat) (hf : xft mi pc = some (.lconst n, 1)) (hp : pc + 1 = pc') (hv : Int64.ofNat (n : Nat) = v) (kk : xW E d mi pc' lv (.long v :: st) σ k q Q) : xW E d mi pc lv st σ k q Q := by
  subst hp
  intro base ad cA D l p e R s m args below meth c Qf H locs ls C hE hI hl
  exact lv_lconst C.1.2.1 C.1.2.2.1 (xdec hf) hv (kk base ad cA D l p e R s m args below meth c Qf H locs ls C hE hI hl)

theorem ws_giload_n {E : xEx} {d mi pc : Nat} {lv : xLv} {st : List Value} {σ : xMem} {k q : Nat} {Q : Option Value → xMem → Prop} {n : Fin 4} {x : Int32} (pc' : Nat) (hf : xft mi pc = some (.iload_n n, 1)) (hp : pc + 1 = pc') (h : lv[(n : Nat)]? = some (some (.int x))) (kk : xW E d mi pc' lv (.int x :: st) σ k q Q) : xW E d mi pc lv st σ k q Q := by
  subst hp
  intro base ad cA D l p e R s m args below meth c Qf H locs ls C hE hI hl
  exact lv_iload_n C.1.2.1 C.1.2.2.1 (xdec hf) rfl (xloc hl h) (kk base ad cA D l p e R s m args below meth c Qf H locs ls C hE hI hl)

theorem ws_giload {E : xEx} {d mi pc : Nat} {lv : xLv} {st : List Value} {σ : xMem} {k q : Nat} {Q : Option Value → xMem → Prop} {n : Nat} {x : Int32} (pc' : Nat) (hf : xft mi pc = some (.iload n, 2)) (hp : pc + 2 = pc') (h : lv[n]? = some (some (.int x))) (kk : xW E d mi pc' lv (.int x :: st) σ k q Q) : xW E d mi pc lv st σ k q Q := by
  subst hp
  intro base ad cA D l p e R s m args below meth c Qf H locs ls C hE hI hl
  exact lv_iload C.1.2.1 C.1.2.2.1 (xdec hf) (xloc hl h) (kk base ad cA D l p e R s m args below meth c Qf H locs ls C hE hI hl)

theorem ws_glload_n {E : xEx} {d mi pc : Nat} {lv : xLv} {st : List Value} {σ : xMem} {k q : Nat} {Q : Option Value → xMem → Prop} {n : Fin 4} {x : Int64} (pc' : Nat) (hf : xft mi pc = some (.lload_n n, 1)) (hp : pc + 1 = pc') (h : lv[(n : Nat)]? = some (some (.long x))) (kk : xW E d mi pc' lv (.long x :: st) σ k q Q) : xW E d mi pc lv st σ k q Q := by
  subst hp
  intro base ad cA D l p e R s m args below meth c Qf H locs ls C hE hI hl
  exact lv_lload_n C.1.2.1 C.1.2.2.1 (xdec hf) rfl (xloc hl h) (kk base ad cA D l p e R s m args below meth c Qf H locs ls C hE hI hl)

theorem ws_glload {E : xEx} {d mi pc : Nat} {lv : xLv} {st : List Value} {σ : xMem} {k q : Nat} {Q : Option Value → xMem → Prop} {n : Nat} {x : Int64} (pc' : Nat) (hf : xft mi pc = some (.lload n, 2)) (hp : pc + 2 = pc') (h : lv[n]? = some (some (.long x))) (kk : xW E d mi pc' lv (.long x :: st) σ k q Q) : xW E d mi pc lv st σ k q Q := by
  subst hp
  intro base ad cA D l p e R s m args below meth c Qf H locs ls C hE hI hl
  exact lv_lload C.1.2.1 C.1.2.2.1 (xdec hf) (xloc hl h) (kk base ad cA D l p e R s m args below meth c Qf H locs ls C hE hI hl)

theorem ws_gaload_n {E : xEx} {d mi pc : Nat} {lv : xLv} {st : List Value} {σ : xMem} {k q : Nat} {Q : Option Value → xMem → Prop} {n : Fin 4} {x : Nat} (pc' : Nat) (hf : xft mi pc = some (.aload_n n, 1)) (hp : pc + 1 = pc') (h : lv[(n : Nat)]? = some (some (.ref x))) (kk : xW E d mi pc' lv (.ref x :: st) σ k q Q) : xW E d mi pc lv st σ k q Q := by
  subst hp
  intro base ad cA D l p e R s m args below meth c Qf H locs ls C hE hI hl
  exact lv_aload_n C.1.2.1 C.1.2.2.1 (xdec hf) rfl (xloc hl h) (kk base ad cA D l p e R s m args below meth c Qf H locs ls C hE hI hl)

theorem ws_gaload {E : xEx} {d mi pc : Nat} {lv : xLv} {st : List Value} {σ : xMem} {k q : Nat} {Q : Option Value → xMem → Prop} {n : Nat} {x : Nat} (pc' : Nat) (hf : xft mi pc = some (.aload n, 2)) (hp : pc + 2 = pc') (h : lv[n]? = some (some (.ref x))) (kk : xW E d mi pc' lv (.ref x :: st) σ k q Q) : xW E d mi pc lv st σ k q Q := by
  subst hp
  intro base ad cA D l p e R s m args below meth c Qf H locs ls C hE hI hl
  exact lv_aload C.1.2.1 C.1.2.2.1 (xdec hf) (xloc hl h) (kk base ad cA D l p e R s m args below meth c Qf H locs ls C hE hI hl)

theorem ws_gistore_n {E : xEx} {d mi pc : Nat} {lv : xLv} {st : List Value} {σ : xMem} {k q : Nat} {Q : Option Value → xMem → Prop} {n : Fin 4} {x : Int32} (pc' : Nat) (hf : xft mi pc = some (.istore_n n, 1)) (hp : pc + 1 = pc') (hn : Nat.blt (n : Nat) (xML mi) = true) (hb : xbef lv (n : Nat) = false) (kk : xW E d mi pc' (lv.set (n : Nat) (some (.int x))) st σ k q Q) : xW E d mi pc lv (.int x :: st) σ k q Q := by
  subst hp
  intro base ad cA D l p e R s m args below meth c Qf H locs ls C hE hI hl
  refine lv_istore_n (lv := xlv ad 0 lv) C.1.2.1 C.1.2.2.1 (xdec hf) rfl hl (Nat.le_of_ble_eq_true hn) rfl (fun ls' h' => ?_)
  exact kk base ad cA D l p e R s m args below meth c Qf H locs ls' C hE hI (xlv_set h' hb)

theorem ws_gistore {E : xEx} {d mi pc : Nat} {lv : xLv} {st : List Value} {σ : xMem} {k q : Nat} {Q : Option Value → xMem → Prop} {n : Nat} {x : Int32} (pc' : Nat) (hf : xft mi pc = some (.istore n, 2)) (hp : pc + 2 = pc') (hn : Nat.blt n (xML mi) = true) (hb : xbef lv n = false) (kk : xW E d mi pc' (lv.set n (some (.int x))) st σ k q Q) : xW E d mi pc lv (.int x :: st) σ k q Q := by
  subst hp
  intro base ad cA D l p e R s m args below meth c Qf H locs ls C hE hI hl
  refine lv_istore (lv := xlv ad 0 lv) C.1.2.1 C.1.2.2.1 (xdec hf) hl (Nat.le_of_ble_eq_true hn) rfl (fun ls' h' => ?_)
  exact kk base ad cA D l p e R s m args below meth c Qf H locs ls' C hE hI (xlv_set h' hb)

theorem ws_glstore_n {E : xEx} {d mi pc : Nat} {lv : xLv} {st : List Value} {σ : xMem} {k q : Nat} {Q : Option Value → xMem → Prop} {n : Fin 4} {x : Int64} (pc' : Nat) (hf : xft mi pc = some (.lstore_n n, 1)) (hp : pc + 1 = pc') (hn : ((n : Nat) + 1).blt (xML mi) = true) (hb : xbef lv (n : Nat) = false) (kk : xW E d mi pc' ((lv.set (n : Nat) (some (.long x))).set ((n : Nat) + 1) none) st σ k q Q) : xW E d mi pc lv (.long x :: st) σ k q Q := by
  subst hp
  intro base ad cA D l p e R s m args below meth c Qf H locs ls C hE hI hl
  refine lv_lstore_n (lv := xlv ad 0 lv) C.1.2.1 C.1.2.2.1 (xdec hf) rfl hl (Nat.le_of_ble_eq_true hn) rfl (fun ls' h' => ?_)
  exact kk base ad cA D l p e R s m args below meth c Qf H locs ls' C hE hI (xlv_set2 h' hb)

theorem ws_glstore {E : xEx} {d mi pc : Nat} {lv : xLv} {st : List Value} {σ : xMem} {k q : Nat} {Q : Option Value → xMem → Prop} {n : Nat} {x : Int64} (pc' : Nat) (hf : xft mi pc = some (.lstore n, 2)) (hp : pc + 2 = pc') (hn : (n + 1).blt (xML mi) = true) (hb : xbef lv n = false) (kk : xW E d mi pc' ((lv.set n (some (.long x))).set (n + 1) none) st σ k q Q) : xW E d mi pc lv (.long x :: st) σ k q Q := by
  subst hp
  intro base ad cA D l p e R s m args below meth c Qf H locs ls C hE hI hl
  refine lv_lstore (lv := xlv ad 0 lv) C.1.2.1 C.1.2.2.1 (xdec hf) hl (Nat.le_of_ble_eq_true hn) rfl (fun ls' h' => ?_)
  exact kk base ad cA D l p e R s m args below meth c Qf H locs ls' C hE hI (xlv_set2 h' hb)

theorem ws_gastore_n {E : xEx} {d mi pc : Nat} {lv : xLv} {st : List Value} {σ : xMem} {k q : Nat} {Q : Option Value → xMem → Prop} {n : Fin 4} {x : Nat} (pc' : Nat) (hf : xft mi pc = some (.astore_n n, 1)) (hp : pc + 1 = pc') (hn : Nat.blt (n : Nat) (xML mi) = true) (hb : xbef lv (n : Nat) = false) (kk : xW E d mi pc' (lv.set (n : Nat) (some (.ref x))) st σ k q Q) : xW E d mi pc lv (.ref x :: st) σ k q Q := by
  subst hp
  intro base ad cA D l p e R s m args below meth c Qf H locs ls C hE hI hl
  refine lv_astore_n (lv := xlv ad 0 lv) C.1.2.1 C.1.2.2.1 (xdec hf) rfl hl (Nat.le_of_ble_eq_true hn) rfl (fun ls' h' => ?_)
  exact kk base ad cA D l p e R s m args below meth c Qf H locs ls' C hE hI (xlv_set h' hb)

theorem ws_gastore {E : xEx} {d mi pc : Nat} {lv : xLv} {st : List Value} {σ : xMem} {k q : Nat} {Q : Option Value → xMem → Prop} {n : Nat} {x : Nat} (pc' : Nat) (hf : xft mi pc = some (.astore n, 2)) (hp : pc + 2 = pc') (hn : Nat.blt n (xML mi) = true) (hb : xbef lv n = false) (kk : xW E d mi pc' (lv.set n (some (.ref x))) st σ k q Q) : xW E d mi pc lv (.ref x :: st) σ k q Q := by
  subst hp
  intro base ad cA D l p e R s m args below meth c Qf H locs ls C hE hI hl
  refine lv_astore (lv := xlv ad 0 lv) C.1.2.1 C.1.2.2.1 (xdec hf) hl (Nat.le_of_ble_eq_true hn) rfl (fun ls' h' => ?_)
  exact kk base ad cA D l p e R s m args below meth c Qf H locs ls' C hE hI (xlv_set h' hb)

theorem ws_giinc {E : xEx} {d mi pc : Nat} {lv : xLv} {st : List Value} {σ : xMem} {k q : Nat} {Q : Option Value → xMem → Prop} {n : Nat} {z : Int} {x v : Int32} (pc' : Nat) (hf : xft mi pc = some (.iinc n z, 3)) (hp : pc + 3 = pc') (h : lv[n]? = some (some (.int x))) (hv : x + Int32.ofInt z = v) (hn : Nat.blt n (xML mi) = true) (hb : xbef lv n = false) (kk : xW E d mi pc' (lv.set n (some (.int v))) st σ k q Q) : xW E d mi pc lv st σ k q Q := by
  subst hp
  intro base ad cA D l p e R s m args below meth c Qf H locs ls C hE hI hl
  obtain ⟨j, hj⟩ := List.mem_iff_getElem?.mp (xlv_at (ad := ad) h)
  refine lv_iinc (lv := xlv ad 0 lv) (k := j) (v := v) C.1.2.1 C.1.2.2.1 (xdec hf) hl hj hv (Nat.le_of_ble_eq_true hn) rfl (fun ls' h' => ?_)
  exact kk base ad cA D l p e R s m args below meth c Qf H locs ls' C hE hI (xlv_set (v := .int v) h' hb)

theorem ws_iload_0 {E : xEx} {d mi pc : Nat} {st : List Value} {σ : xMem} {k q : Nat} {Q : Option Value → xMem → Prop} {r : xLv} {x : Int32} (pc' : Nat) (hf : xft mi pc = some (.iload_n 0, 1)) (hp : pc + 1 = pc') (kk : xW E d mi pc' (some (.int x) :: r) (.int x :: st) σ k q Q) : xW E d mi pc (some (.int x) :: r) st σ k q Q := ws_giload_n pc' hf hp rfl kk

theorem ws_istore_0 {E : xEx} {d mi pc : Nat} {st : List Value} {σ : xMem} {k q : Nat} {Q : Option Value → xMem → Prop} {r : xLv} {z : Option Value} {x : Int32} (pc' : Nat) (hf : xft mi pc = some (.istore_n 0, 1)) (hp : pc + 1 = pc') (hn : Nat.blt 0 (xML mi) = true) (hc : xbef (z :: r) 0 = false) (kk : xW E d mi pc' (some (.int x) :: r) st σ k q Q) : xW E d mi pc (z :: r) (.int x :: st) σ k q Q := ws_gistore_n pc' hf hp hn hc kk

theorem ws_lload_0 {E : xEx} {d mi pc : Nat} {st : List Value} {σ : xMem} {k q : Nat} {Q : Option Value → xMem → Prop} {r : xLv} {x : Int64} (pc' : Nat) (hf : xft mi pc = some (.lload_n 0, 1)) (hp : pc + 1 = pc') (kk : xW E d mi pc' (some (.long x) :: r) (.long x :: st) σ k q Q) : xW E d mi pc (some (.long x) :: r) st σ k q Q := ws_glload_n pc' hf hp rfl kk

theorem ws_lstore_0 {E : xEx} {d mi pc : Nat} {st : List Value} {σ : xMem} {k q : Nat} {Q : Option Value → xMem → Prop} {r : xLv} {z z2 : Option Value} {x : Int64} (pc' : Nat) (hf : xft mi pc = some (.lstore_n 0, 1)) (hp : pc + 1 = pc') (hn : Nat.blt 1 (xML mi) = true) (hc : xbef (z :: z2 :: r) 0 = false) (kk : xW E d mi pc' (some (.long x) :: none :: r) st σ k q Q) : xW E d mi pc (z :: z2 :: r) (.long x :: st) σ k q Q := ws_glstore_n pc' hf hp hn hc kk

theorem ws_aload_0 {E : xEx} {d mi pc : Nat} {st : List Value} {σ : xMem} {k q : Nat} {Q : Option Value → xMem → Prop} {r : xLv} {x : Nat} (pc' : Nat) (hf : xft mi pc = some (.aload_n 0, 1)) (hp : pc + 1 = pc') (kk : xW E d mi pc' (some (.ref x) :: r) (.ref x :: st) σ k q Q) : xW E d mi pc (some (.ref x) :: r) st σ k q Q := ws_gaload_n pc' hf hp rfl kk

theorem ws_astore_0 {E : xEx} {d mi pc : Nat} {st : List Value} {σ : xMem} {k q : Nat} {Q : Option Value → xMem → Prop} {r : xLv} {z : Option Value} {x : Nat} (pc' : Nat) (hf : xft mi pc = some (.astore_n 0, 1)) (hp : pc + 1 = pc') (hn : Nat.blt 0 (xML mi) = true) (hc : xbef (z :: r) 0 = false) (kk : xW E d mi pc' (some (.ref x) :: r) st σ k q Q) : xW E d mi pc (z :: r) (.ref x :: st) σ k q Q := ws_gastore_n pc' hf hp hn hc kk

theorem ws_iinc_0 {E : xEx} {d mi pc : Nat} {st : List Value} {σ : xMem} {k q : Nat} {Q : Option Value → xMem → Prop} {r : xLv} {z : Int} {x v : Int32} (pc' : Nat) (hf : xft mi pc = some (.iinc 0 z, 3)) (hp : pc + 3 = pc') (hv : x + Int32.ofInt z = v) (hn : Nat.blt 0 (xML mi) = true) (hc : xbef (some (.int x) :: r) 0 = false) (kk : xW E d mi pc' (some (.int v) :: r) st σ k q Q) : xW E d mi pc (some (.int x) :: r) st σ k q Q := ws_giinc pc' hf hp rfl hv hn hc kk

theorem ws_iload_1 {E : xEx} {d mi pc : Nat} {st : List Value} {σ : xMem} {k q : Nat} {Q : Option Value → xMem → Prop} {a0 : Option Value} {r : xLv} {x : Int32} (pc' : Nat) (hf : xft mi pc = some (.iload_n 1, 1)) (hp : pc + 1 = pc') (kk : xW E d mi pc' (a0 :: some (.int x) :: r) (.int x :: st) σ k q Q) : xW E d mi pc (a0 :: some (.int x) :: r) st σ k q Q := ws_giload_n pc' hf hp rfl kk

theorem ws_istore_1 {E : xEx} {d mi pc : Nat} {st : List Value} {σ : xMem} {k q : Nat} {Q : Option Value → xMem → Prop} {a0 : Option Value} {r : xLv} {z : Option Value} {x : Int32} (pc' : Nat) (hf : xft mi pc = some (.istore_n 1, 1)) (hp : pc + 1 = pc') (hn : Nat.blt 1 (xML mi) = true) (hc : xbef (a0 :: z :: r) 1 = false) (kk : xW E d mi pc' (a0 :: some (.int x) :: r) st σ k q Q) : xW E d mi pc (a0 :: z :: r) (.int x :: st) σ k q Q := ws_gistore_n pc' hf hp hn hc kk

theorem ws_lload_1 {E : xEx} {d mi pc : Nat} {st : List Value} {σ : xMem} {k q : Nat} {Q : Option Value → xMem → Prop} {a0 : Option Value} {r : xLv} {x : Int64} (pc' : Nat) (hf : xft mi pc = some (.lload_n 1, 1)) (hp : pc + 1 = pc') (kk : xW E d mi pc' (a0 :: some (.long x) :: r) (.long x :: st) σ k q Q) : xW E d mi pc (a0 :: some (.long x) :: r) st σ k q Q := ws_glload_n pc' hf hp rfl kk

theorem ws_lstore_1 {E : xEx} {d mi pc : Nat} {st : List Value} {σ : xMem} {k q : Nat} {Q : Option Value → xMem → Prop} {a0 : Option Value} {r : xLv} {z z2 : Option Value} {x : Int64} (pc' : Nat) (hf : xft mi pc = some (.lstore_n 1, 1)) (hp : pc + 1 = pc') (hn : Nat.blt 2 (xML mi) = true) (hc : xbef (a0 :: z :: z2 :: r) 1 = false) (kk : xW E d mi pc' (a0 :: some (.long x) :: none :: r) st σ k q Q) : xW E d mi pc (a0 :: z :: z2 :: r) (.long x :: st) σ k q Q := ws_glstore_n pc' hf hp hn hc kk

theorem ws_aload_1 {E : xEx} {d mi pc : Nat} {st : List Value} {σ : xMem} {k q : Nat} {Q : Option Value → xMem → Prop} {a0 : Option Value} {r : xLv} {x : Nat} (pc' : Nat) (hf : xft mi pc = some (.aload_n 1, 1)) (hp : pc + 1 = pc') (kk : xW E d mi pc' (a0 :: some (.ref x) :: r) (.ref x :: st) σ k q Q) : xW E d mi pc (a0 :: some (.ref x) :: r) st σ k q Q := ws_gaload_n pc' hf hp rfl kk

theorem ws_astore_1 {E : xEx} {d mi pc : Nat} {st : List Value} {σ : xMem} {k q : Nat} {Q : Option Value → xMem → Prop} {a0 : Option Value} {r : xLv} {z : Option Value} {x : Nat} (pc' : Nat) (hf : xft mi pc = some (.astore_n 1, 1)) (hp : pc + 1 = pc') (hn : Nat.blt 1 (xML mi) = true) (hc : xbef (a0 :: z :: r) 1 = false) (kk : xW E d mi pc' (a0 :: some (.ref x) :: r) st σ k q Q) : xW E d mi pc (a0 :: z :: r) (.ref x :: st) σ k q Q := ws_gastore_n pc' hf hp hn hc kk

theorem ws_iinc_1 {E : xEx} {d mi pc : Nat} {st : List Value} {σ : xMem} {k q : Nat} {Q : Option Value → xMem → Prop} {a0 : Option Value} {r : xLv} {z : Int} {x v : Int32} (pc' : Nat) (hf : xft mi pc = some (.iinc 1 z, 3)) (hp : pc + 3 = pc') (hv : x + Int32.ofInt z = v) (hn : Nat.blt 1 (xML mi) = true) (hc : xbef (a0 :: some (.int x) :: r) 1 = false) (kk : xW E d mi pc' (a0 :: some (.int v) :: r) st σ k q Q) : xW E d mi pc (a0 :: some (.int x) :: r) st σ k q Q := ws_giinc pc' hf hp rfl hv hn hc kk

theorem ws_iload_2 {E : xEx} {d mi pc : Nat} {st : List Value} {σ : xMem} {k q : Nat} {Q : Option Value → xMem → Prop} {a0 a1 : Option Value} {r : xLv} {x : Int32} (pc' : Nat) (hf : xft mi pc = some (.iload_n 2, 1)) (hp : pc + 1 = pc') (kk : xW E d mi pc' (a0 :: a1 :: some (.int x) :: r) (.int x :: st) σ k q Q) : xW E d mi pc (a0 :: a1 :: some (.int x) :: r) st σ k q Q := ws_giload_n pc' hf hp rfl kk

theorem ws_istore_2 {E : xEx} {d mi pc : Nat} {st : List Value} {σ : xMem} {k q : Nat} {Q : Option Value → xMem → Prop} {a0 a1 : Option Value} {r : xLv} {z : Option Value} {x : Int32} (pc' : Nat) (hf : xft mi pc = some (.istore_n 2, 1)) (hp : pc + 1 = pc') (hn : Nat.blt 2 (xML mi) = true) (hc : xbef (a0 :: a1 :: z :: r) 2 = false) (kk : xW E d mi pc' (a0 :: a1 :: some (.int x) :: r) st σ k q Q) : xW E d mi pc (a0 :: a1 :: z :: r) (.int x :: st) σ k q Q := ws_gistore_n pc' hf hp hn hc kk

theorem ws_lload_2 {E : xEx} {d mi pc : Nat} {st : List Value} {σ : xMem} {k q : Nat} {Q : Option Value → xMem → Prop} {a0 a1 : Option Value} {r : xLv} {x : Int64} (pc' : Nat) (hf : xft mi pc = some (.lload_n 2, 1)) (hp : pc + 1 = pc') (kk : xW E d mi pc' (a0 :: a1 :: some (.long x) :: r) (.long x :: st) σ k q Q) : xW E d mi pc (a0 :: a1 :: some (.long x) :: r) st σ k q Q := ws_glload_n pc' hf hp rfl kk

theorem ws_lstore_2 {E : xEx} {d mi pc : Nat} {st : List Value} {σ : xMem} {k q : Nat} {Q : Option Value → xMem → Prop} {a0 a1 : Option Value} {r : xLv} {z z2 : Option Value} {x : Int64} (pc' : Nat) (hf : xft mi pc = some (.lstore_n 2, 1)) (hp : pc + 1 = pc') (hn : Nat.blt 3 (xML mi) = true) (hc : xbef (a0 :: a1 :: z :: z2 :: r) 2 = false) (kk : xW E d mi pc' (a0 :: a1 :: some (.long x) :: none :: r) st σ k q Q) : xW E d mi pc (a0 :: a1 :: z :: z2 :: r) (.long x :: st) σ k q Q := ws_glstore_n pc' hf hp hn hc kk

theorem ws_aload_2 {E : xEx} {d mi pc : Nat} {st : List Value} {σ : xMem} {k q : Nat} {Q : Option Value → xMem → Prop} {a0 a1 : Option Value} {r : xLv} {x : Nat} (pc' : Nat) (hf : xft mi pc = some (.aload_n 2, 1)) (hp : pc + 1 = pc') (kk : xW E d mi pc' (a0 :: a1 :: some (.ref x) :: r) (.ref x :: st) σ k q Q) : xW E d mi pc (a0 :: a1 :: some (.ref x) :: r) st σ k q Q := ws_gaload_n pc' hf hp rfl kk

theorem ws_astore_2 {E : xEx} {d mi pc : Nat} {st : List Value} {σ : xMem} {k q : Nat} {Q : Option Value → xMem → Prop} {a0 a1 : Option Value} {r : xLv} {z : Option Value} {x : Nat} (pc' : Nat) (hf : xft mi pc = some (.astore_n 2, 1)) (hp : pc + 1 = pc') (hn : Nat.blt 2 (xML mi) = true) (hc : xbef (a0 :: a1 :: z :: r) 2 = false) (kk : xW E d mi pc' (a0 :: a1 :: some (.ref x) :: r) st σ k q Q) : xW E d mi pc (a0 :: a1 :: z :: r) (.ref x :: st) σ k q Q := ws_gastore_n pc' hf hp hn hc kk

theorem ws_iinc_2 {E : xEx} {d mi pc : Nat} {st : List Value} {σ : xMem} {k q : Nat} {Q : Option Value → xMem → Prop} {a0 a1 : Option Value} {r : xLv} {z : Int} {x v : Int32} (pc' : Nat) (hf : xft mi pc = some (.iinc 2 z, 3)) (hp : pc + 3 = pc') (hv : x + Int32.ofInt z = v) (hn : Nat.blt 2 (xML mi) = true) (hc : xbef (a0 :: a1 :: some (.int x) :: r) 2 = false) (kk : xW E d mi pc' (a0 :: a1 :: some (.int v) :: r) st σ k q Q) : xW E d mi pc (a0 :: a1 :: some (.int x) :: r) st σ k q Q := ws_giinc pc' hf hp rfl hv hn hc kk

theorem ws_iload_3 {E : xEx} {d mi pc : Nat} {st : List Value} {σ : xMem} {k q : Nat} {Q : Option Value → xMem → Prop} {a0 a1 a2 : Option Value} {r : xLv} {x : Int32} (pc' : Nat) (hf : xft mi pc = some (.iload_n 3, 1)) (hp : pc + 1 = pc') (kk : xW E d mi pc' (a0 :: a1 :: a2 :: some (.int x) :: r) (.int x :: st) σ k q Q) : xW E d mi pc (a0 :: a1 :: a2 :: some (.int x) :: r) st σ k q Q := ws_giload_n pc' hf hp rfl kk

theorem ws_istore_3 {E : xEx} {d mi pc : Nat} {st : List Value} {σ : xMem} {k q : Nat} {Q : Option Value → xMem → Prop} {a0 a1 a2 : Option Value} {r : xLv} {z : Option Value} {x : Int32} (pc' : Nat) (hf : xft mi pc = some (.istore_n 3, 1)) (hp : pc + 1 = pc') (hn : Nat.blt 3 (xML mi) = true) (hc : xbef (a0 :: a1 :: a2 :: z :: r) 3 = false) (kk : xW E d mi pc' (a0 :: a1 :: a2 :: some (.int x) :: r) st σ k q Q) : xW E d mi pc (a0 :: a1 :: a2 :: z :: r) (.int x :: st) σ k q Q := ws_gistore_n pc' hf hp hn hc kk

theorem ws_lload_3 {E : xEx} {d mi pc : Nat} {st : List Value} {σ : xMem} {k q : Nat} {Q : Option Value → xMem → Prop} {a0 a1 a2 : Option Value} {r : xLv} {x : Int64} (pc' : Nat) (hf : xft mi pc = some (.lload_n 3, 1)) (hp : pc + 1 = pc') (kk : xW E d mi pc' (a0 :: a1 :: a2 :: some (.long x) :: r) (.long x :: st) σ k q Q) : xW E d mi pc (a0 :: a1 :: a2 :: some (.long x) :: r) st σ k q Q := ws_glload_n pc' hf hp rfl kk

theorem ws_lstore_3 {E : xEx} {d mi pc : Nat} {st : List Value} {σ : xMem} {k q : Nat} {Q : Option Value → xMem → Prop} {a0 a1 a2 : Option Value} {r : xLv} {z z2 : Option Value} {x : Int64} (pc' : Nat) (hf : xft mi pc = some (.lstore_n 3, 1)) (hp : pc + 1 = pc') (hn : Nat.blt 4 (xML mi) = true) (hc : xbef (a0 :: a1 :: a2 :: z :: z2 :: r) 3 = false) (kk : xW E d mi pc' (a0 :: a1 :: a2 :: some (.long x) :: none :: r) st σ k q Q) : xW E d mi pc (a0 :: a1 :: a2 :: z :: z2 :: r) (.long x :: st) σ k q Q := ws_glstore_n pc' hf hp hn hc kk

theorem ws_aload_3 {E : xEx} {d mi pc : Nat} {st : List Value} {σ : xMem} {k q : Nat} {Q : Option Value → xMem → Prop} {a0 a1 a2 : Option Value} {r : xLv} {x : Nat} (pc' : Nat) (hf : xft mi pc = some (.aload_n 3, 1)) (hp : pc + 1 = pc') (kk : xW E d mi pc' (a0 :: a1 :: a2 :: some (.ref x) :: r) (.ref x :: st) σ k q Q) : xW E d mi pc (a0 :: a1 :: a2 :: some (.ref x) :: r) st σ k q Q := ws_gaload_n pc' hf hp rfl kk

theorem ws_astore_3 {E : xEx} {d mi pc : Nat} {st : List Value} {σ : xMem} {k q : Nat} {Q : Option Value → xMem → Prop} {a0 a1 a2 : Option Value} {r : xLv} {z : Option Value} {x : Nat} (pc' : Nat) (hf : xft mi pc = some (.astore_n 3, 1)) (hp : pc + 1 = pc') (hn : Nat.blt 3 (xML mi) = true) (hc : xbef (a0 :: a1 :: a2 :: z :: r) 3 = false) (kk : xW E d mi pc' (a0 :: a1 :: a2 :: some (.ref x) :: r) st σ k q Q) : xW E d mi pc (a0 :: a1 :: a2 :: z :: r) (.ref x :: st) σ k q Q := ws_gastore_n pc' hf hp hn hc kk

theorem ws_iinc_3 {E : xEx} {d mi pc : Nat} {st : List Value} {σ : xMem} {k q : Nat} {Q : Option Value → xMem → Prop} {a0 a1 a2 : Option Value} {r : xLv} {z : Int} {x v : Int32} (pc' : Nat) (hf : xft mi pc = some (.iinc 3 z, 3)) (hp : pc + 3 = pc') (hv : x + Int32.ofInt z = v) (hn : Nat.blt 3 (xML mi) = true) (hc : xbef (a0 :: a1 :: a2 :: some (.int x) :: r) 3 = false) (kk : xW E d mi pc' (a0 :: a1 :: a2 :: some (.int v) :: r) st σ k q Q) : xW E d mi pc (a0 :: a1 :: a2 :: some (.int x) :: r) st σ k q Q := ws_giinc pc' hf hp rfl hv hn hc kk

theorem ws_iload_4 {E : xEx} {d mi pc : Nat} {st : List Value} {σ : xMem} {k q : Nat} {Q : Option Value → xMem → Prop} {a0 a1 a2 a3 : Option Value} {r : xLv} {x : Int32} (pc' : Nat) (hf : xft mi pc = some (.iload 4, 2)) (hp : pc + 2 = pc') (kk : xW E d mi pc' (a0 :: a1 :: a2 :: a3 :: some (.int x) :: r) (.int x :: st) σ k q Q) : xW E d mi pc (a0 :: a1 :: a2 :: a3 :: some (.int x) :: r) st σ k q Q := ws_giload pc' hf hp rfl kk

theorem ws_istore_4 {E : xEx} {d mi pc : Nat} {st : List Value} {σ : xMem} {k q : Nat} {Q : Option Value → xMem → Prop} {a0 a1 a2 a3 : Option Value} {r : xLv} {z : Option Value} {x : Int32} (pc' : Nat) (hf : xft mi pc = some (.istore 4, 2)) (hp : pc + 2 = pc') (hn : Nat.blt 4 (xML mi) = true) (hc : xbef (a0 :: a1 :: a2 :: a3 :: z :: r) 4 = false) (kk : xW E d mi pc' (a0 :: a1 :: a2 :: a3 :: some (.int x) :: r) st σ k q Q) : xW E d mi pc (a0 :: a1 :: a2 :: a3 :: z :: r) (.int x :: st) σ k q Q := ws_gistore pc' hf hp hn hc kk

theorem ws_lload_4 {E : xEx} {d mi pc : Nat} {st : List Value} {σ : xMem} {k q : Nat} {Q : Option Value → xMem → Prop} {a0 a1 a2 a3 : Option Value} {r : xLv} {x : Int64} (pc' : Nat) (hf : xft mi pc = some (.lload 4, 2)) (hp : pc + 2 = pc') (kk : xW E d mi pc' (a0 :: a1 :: a2 :: a3 :: some (.long x) :: r) (.long x :: st) σ k q Q) : xW E d mi pc (a0 :: a1 :: a2 :: a3 :: some (.long x) :: r) st σ k q Q := ws_glload pc' hf hp rfl kk

theorem ws_lstore_4 {E : xEx} {d mi pc : Nat} {st : List Value} {σ : xMem} {k q : Nat} {Q : Option Value → xMem → Prop} {a0 a1 a2 a3 : Option Value} {r : xLv} {z z2 : Option Value} {x : Int64} (pc' : Nat) (hf : xft mi pc = some (.lstore 4, 2)) (hp : pc + 2 = pc') (hn : Nat.blt 5 (xML mi) = true) (hc : xbef (a0 :: a1 :: a2 :: a3 :: z :: z2 :: r) 4 = false) (kk : xW E d mi pc' (a0 :: a1 :: a2 :: a3 :: some (.long x) :: none :: r) st σ k q Q) : xW E d mi pc (a0 :: a1 :: a2 :: a3 :: z :: z2 :: r) (.long x :: st) σ k q Q := ws_glstore pc' hf hp hn hc kk

theorem ws_aload_4 {E : xEx} {d mi pc : Nat} {st : List Value} {σ : xMem} {k q : Nat} {Q : Option Value → xMem → Prop} {a0 a1 a2 a3 : Option Value} {r : xLv} {x : Nat} (pc' : Nat) (hf : xft mi pc = some (.aload 4, 2)) (hp : pc + 2 = pc') (kk : xW E d mi pc' (a0 :: a1 :: a2 :: a3 :: some (.ref x) :: r) (.ref x :: st) σ k q Q) : xW E d mi pc (a0 :: a1 :: a2 :: a3 :: some (.ref x) :: r) st σ k q Q := ws_gaload pc' hf hp rfl kk

theorem ws_astore_4 {E : xEx} {d mi pc : Nat} {st : List Value} {σ : xMem} {k q : Nat} {Q : Option Value → xMem → Prop} {a0 a1 a2 a3 : Option Value} {r : xLv} {z : Option Value} {x : Nat} (pc' : Nat) (hf : xft mi pc = some (.astore 4, 2)) (hp : pc + 2 = pc') (hn : Nat.blt 4 (xML mi) = true) (hc : xbef (a0 :: a1 :: a2 :: a3 :: z :: r) 4 = false) (kk : xW E d mi pc' (a0 :: a1 :: a2 :: a3 :: some (.ref x) :: r) st σ k q Q) : xW E d mi pc (a0 :: a1 :: a2 :: a3 :: z :: r) (.ref x :: st) σ k q Q := ws_gastore pc' hf hp hn hc kk

theorem ws_iinc_4 {E : xEx} {d mi pc : Nat} {st : List Value} {σ : xMem} {k q : Nat} {Q : Option Value → xMem → Prop} {a0 a1 a2 a3 : Option Value} {r : xLv} {z : Int} {x v : Int32} (pc' : Nat) (hf : xft mi pc = some (.iinc 4 z, 3)) (hp : pc + 3 = pc') (hv : x + Int32.ofInt z = v) (hn : Nat.blt 4 (xML mi) = true) (hc : xbef (a0 :: a1 :: a2 :: a3 :: some (.int x) :: r) 4 = false) (kk : xW E d mi pc' (a0 :: a1 :: a2 :: a3 :: some (.int v) :: r) st σ k q Q) : xW E d mi pc (a0 :: a1 :: a2 :: a3 :: some (.int x) :: r) st σ k q Q := ws_giinc pc' hf hp rfl hv hn hc kk

theorem ws_iload_5 {E : xEx} {d mi pc : Nat} {st : List Value} {σ : xMem} {k q : Nat} {Q : Option Value → xMem → Prop} {a0 a1 a2 a3 a4 : Option Value} {r : xLv} {x : Int32} (pc' : Nat) (hf : xft mi pc = some (.iload 5, 2)) (hp : pc + 2 = pc') (kk : xW E d mi pc' (a0 :: a1 :: a2 :: a3 :: a4 :: some (.int x) :: r) (.int x :: st) σ k q Q) : xW E d mi pc (a0 :: a1 :: a2 :: a3 :: a4 :: some (.int x) :: r) st σ k q Q := ws_giload pc' hf hp rfl kk

theorem ws_istore_5 {E : xEx} {d mi pc : Nat} {st : List Value} {σ : xMem} {k q : Nat} {Q : Option Value → xMem → Prop} {a0 a1 a2 a3 a4 : Option Value} {r : xLv} {z : Option Value} {x : Int32} (pc' : Nat) (hf : xft mi pc = some (.istore 5, 2)) (hp : pc + 2 = pc') (hn : Nat.blt 5 (xML mi) = true) (hc : xbef (a0 :: a1 :: a2 :: a3 :: a4 :: z :: r) 5 = false) (kk : xW E d mi pc' (a0 :: a1 :: a2 :: a3 :: a4 :: some (.int x) :: r) st σ k q Q) : xW E d mi pc (a0 :: a1 :: a2 :: a3 :: a4 :: z :: r) (.int x :: st) σ k q Q := ws_gistore pc' hf hp hn hc kk

theorem ws_lload_5 {E : xEx} {d mi pc : Nat} {st : List Value} {σ : xMem} {k q : Nat} {Q : Option Value → xMem → Prop} {a0 a1 a2 a3 a4 : Option Value} {r : xLv} {x : Int64} (pc' : Nat) (hf : xft mi pc = some (.lload 5, 2)) (hp : pc + 2 = pc') (kk : xW E d mi pc' (a0 :: a1 :: a2 :: a3 :: a4 :: some (.long x) :: r) (.long x :: st) σ k q Q) : xW E d mi pc (a0 :: a1 :: a2 :: a3 :: a4 :: some (.long x) :: r) st σ k q Q := ws_glload pc' hf hp rfl kk

theorem ws_lstore_5 {E : xEx} {d mi pc : Nat} {st : List Value} {σ : xMem} {k q : Nat} {Q : Option Value → xMem → Prop} {a0 a1 a2 a3 a4 : Option Value} {r : xLv} {z z2 : Option Value} {x : Int64} (pc' : Nat) (hf : xft mi pc = some (.lstore 5, 2)) (hp : pc + 2 = pc') (hn : Nat.blt 6 (xML mi) = true) (hc : xbef (a0 :: a1 :: a2 :: a3 :: a4 :: z :: z2 :: r) 5 = false) (kk : xW E d mi pc' (a0 :: a1 :: a2 :: a3 :: a4 :: some (.long x) :: none :: r) st σ k q Q) : xW E d mi pc (a0 :: a1 :: a2 :: a3 :: a4 :: z :: z2 :: r) (.long x :: st) σ k q Q := ws_glstore pc' hf hp hn hc kk

theorem ws_aload_5 {E : xEx} {d mi pc : Nat} {st : List Value} {σ : xMem} {k q : Nat} {Q : Option Value → xMem → Prop} {a0 a1 a2 a3 a4 : Option Value} {r : xLv} {x : Nat} (pc' : Nat) (hf : xft mi pc = some (.aload 5, 2)) (hp : pc + 2 = pc') (kk : xW E d mi pc' (a0 :: a1 :: a2 :: a3 :: a4 :: some (.ref x) :: r) (.ref x :: st) σ k q Q) : xW E d mi pc (a0 :: a1 :: a2 :: a3 :: a4 :: some (.ref x) :: r) st σ k q Q := ws_gaload pc' hf hp rfl kk

theorem ws_astore_5 {E : xEx} {d mi pc : Nat} {st : List Value} {σ : xMem} {k q : Nat} {Q : Option Value → xMem → Prop} {a0 a1 a2 a3 a4 : Option Value} {r : xLv} {z : Option Value} {x : Nat} (pc' : Nat) (hf : xft mi pc = some (.astore 5, 2)) (hp : pc + 2 = pc') (hn : Nat.blt 5 (xML mi) = true) (hc : xbef (a0 :: a1 :: a2 :: a3 :: a4 :: z :: r) 5 = false) (kk : xW E d mi pc' (a0 :: a1 :: a2 :: a3 :: a4 :: some (.ref x) :: r) st σ k q Q) : xW E d mi pc (a0 :: a1 :: a2 :: a3 :: a4 :: z :: r) (.ref x :: st) σ k q Q := ws_gastore pc' hf hp hn hc kk

theorem ws_iinc_5 {E : xEx} {d mi pc : Nat} {st : List Value} {σ : xMem} {k q : Nat} {Q : Option Value → xMem → Prop} {a0 a1 a2 a3 a4 : Option Value} {r : xLv} {z : Int} {x v : Int32} (pc' : Nat) (hf : xft mi pc = some (.iinc 5 z, 3)) (hp : pc + 3 = pc') (hv : x + Int32.ofInt z = v) (hn : Nat.blt 5 (xML mi) = true) (hc : xbef (a0 :: a1 :: a2 :: a3 :: a4 :: some (.int x) :: r) 5 = false) (kk : xW E d mi pc' (a0 :: a1 :: a2 :: a3 :: a4 :: some (.int v) :: r) st σ k q Q) : xW E d mi pc (a0 :: a1 :: a2 :: a3 :: a4 :: some (.int x) :: r) st σ k q Q := ws_giinc pc' hf hp rfl hv hn hc kk

theorem ws_iload_6 {E : xEx} {d mi pc : Nat} {st : List Value} {σ : xMem} {k q : Nat} {Q : Option Value → xMem → Prop} {a0 a1 a2 a3 a4 a5 : Option Value} {r : xLv} {x : Int32} (pc' : Nat) (hf : xft mi pc = some (.iload 6, 2)) (hp : pc + 2 = pc') (kk : xW E d mi pc' (a0 :: a1 :: a2 :: a3 :: a4 :: a5 :: some (.int x) :: r) (.int x :: st) σ k q Q) : xW E d mi pc (a0 :: a1 :: a2 :: a3 :: a4 :: a5 :: some (.int x) :: r) st σ k q Q := ws_giload pc' hf hp rfl kk

theorem ws_istore_6 {E : xEx} {d mi pc : Nat} {st : List Value} {σ : xMem} {k q : Nat} {Q : Option Value → xMem → Prop} {a0 a1 a2 a3 a4 a5 : Option Value} {r : xLv} {z : Option Value} {x : Int32} (pc' : Nat) (hf : xft mi pc = some (.istore 6, 2)) (hp : pc + 2 = pc') (hn : Nat.blt 6 (xML mi) = true) (hc : xbef (a0 :: a1 :: a2 :: a3 :: a4 :: a5 :: z :: r) 6 = false) (kk : xW E d mi pc' (a0 :: a1 :: a2 :: a3 :: a4 :: a5 :: some (.int x) :: r) st σ k q Q) : xW E d mi pc (a0 :: a1 :: a2 :: a3 :: a4 :: a5 :: z :: r) (.int x :: st) σ k q Q := ws_gistore pc' hf hp hn hc kk

theorem ws_lload_6 {E : xEx} {d mi pc : Nat} {st : List Value} {σ : xMem} {k q : Nat} {Q : Option Value → xMem → Prop} {a0 a1 a2 a3 a4 a5 : Option Value} {r : xLv} {x : Int64} (pc' : Nat) (hf : xft mi pc = some (.lload 6, 2)) (hp : pc + 2 = pc') (kk : xW E d mi pc' (a0 :: a1 :: a2 :: a3 :: a4 :: a5 :: some (.long x) :: r) (.long x :: st) σ k q Q) : xW E d mi pc (a0 :: a1 :: a2 :: a3 :: a4 :: a5 :: some (.long x) :: r) st σ k q Q := ws_glload pc' hf hp rfl kk

theorem ws_lstore_6 {E : xEx} {d mi pc : Nat} {st : List Value} {σ : xMem} {k q : Nat} {Q : Option Value → xMem → Prop} {a0 a1 a2 a3 a4 a5 : Option Value} {r : xLv} {z z2 : Option Value} {x : Int64} (pc' : Nat) (hf : xft mi pc = some (.lstore 6, 2)) (hp : pc + 2 = pc') (hn : Nat.blt 7 (xML mi) = true) (hc : xbef (a0 :: a1 :: a2 :: a3 :: a4 :: a5 :: z :: z2 :: r) 6 = false) (kk : xW E d mi pc' (a0 :: a1 :: a2 :: a3 :: a4 :: a5 :: some (.long x) :: none :: r) st σ k q Q) : xW E d mi pc (a0 :: a1 :: a2 :: a3 :: a4 :: a5 :: z :: z2 :: r) (.long x :: st) σ k q Q := ws_glstore pc' hf hp hn hc kk

theorem ws_aload_6 {E : xEx} {d mi pc : Nat} {st : List Value} {σ : xMem} {k q : Nat} {Q : Option Value → xMem → Prop} {a0 a1 a2 a3 a4 a5 : Option Value} {r : xLv} {x : Nat} (pc' : Nat) (hf : xft mi pc = some (.aload 6, 2)) (hp : pc + 2 = pc') (kk : xW E d mi pc' (a0 :: a1 :: a2 :: a3 :: a4 :: a5 :: some (.ref x) :: r) (.ref x :: st) σ k q Q) : xW E d mi pc (a0 :: a1 :: a2 :: a3 :: a4 :: a5 :: some (.ref x) :: r) st σ k q Q := ws_gaload pc' hf hp rfl kk

theorem ws_astore_6 {E : xEx} {d mi pc : Nat} {st : List Value} {σ : xMem} {k q : Nat} {Q : Option Value → xMem → Prop} {a0 a1 a2 a3 a4 a5 : Option Value} {r : xLv} {z : Option Value} {x : Nat} (pc' : Nat) (hf : xft mi pc = some (.astore 6, 2)) (hp : pc + 2 = pc') (hn : Nat.blt 6 (xML mi) = true) (hc : xbef (a0 :: a1 :: a2 :: a3 :: a4 :: a5 :: z :: r) 6 = false) (kk : xW E d mi pc' (a0 :: a1 :: a2 :: a3 :: a4 :: a5 :: some (.ref x) :: r) st σ k q Q) : xW E d mi pc (a0 :: a1 :: a2 :: a3 :: a4 :: a5 :: z :: r) (.ref x :: st) σ k q Q := ws_gastore pc' hf hp hn hc kk

theorem ws_iinc_6 {E : xEx} {d mi pc : Nat} {st : List Value} {σ : xMem} {k q : Nat} {Q : Option Value → xMem → Prop} {a0 a1 a2 a3 a4 a5 : Option Value} {r : xLv} {z : Int} {x v : Int32} (pc' : Nat) (hf : xft mi pc = some (.iinc 6 z, 3)) (hp : pc + 3 = pc') (hv : x + Int32.ofInt z = v) (hn : Nat.blt 6 (xML mi) = true) (hc : xbef (a0 :: a1 :: a2 :: a3 :: a4 :: a5 :: some (.int x) :: r) 6 = false) (kk : xW E d mi pc' (a0 :: a1 :: a2 :: a3 :: a4 :: a5 :: some (.int v) :: r) st σ k q Q) : xW E d mi pc (a0 :: a1 :: a2 :: a3 :: a4 :: a5 :: some (.int x) :: r) st σ k q Q := ws_giinc pc' hf hp rfl hv hn hc kk

theorem ws_iload_7 {E : xEx} {d mi pc : Nat} {st : List Value} {σ : xMem} {k q : Nat} {Q : Option Value → xMem → Prop} {a0 a1 a2 a3 a4 a5 a6 : Option Value} {r : xLv} {x : Int32} (pc' : Nat) (hf : xft mi pc = some (.iload 7, 2)) (hp : pc + 2 = pc') (kk : xW E d mi pc' (a0 :: a1 :: a2 :: a3 :: a4 :: a5 :: a6 :: some (.int x) :: r) (.int x :: st) σ k q Q) : xW E d mi pc (a0 :: a1 :: a2 :: a3 :: a4 :: a5 :: a6 :: some (.int x) :: r) st σ k q Q := ws_giload pc' hf hp rfl kk

theorem ws_istore_7 {E : xEx} {d mi pc : Nat} {st : List Value} {σ : xMem} {k q : Nat} {Q : Option Value → xMem → Prop} {a0 a1 a2 a3 a4 a5 a6 : Option Value} {r : xLv} {z : Option Value} {x : Int32} (pc' : Nat) (hf : xft mi pc = some (.istore 7, 2)) (hp : pc + 2 = pc') (hn : Nat.blt 7 (xML mi) = true) (hc : xbef (a0 :: a1 :: a2 :: a3 :: a4 :: a5 :: a6 :: z :: r) 7 = false) (kk : xW E d mi pc' (a0 :: a1 :: a2 :: a3 :: a4 :: a5 :: a6 :: some (.int x) :: r) st σ k q Q) : xW E d mi pc (a0 :: a1 :: a2 :: a3 :: a4 :: a5 :: a6 :: z :: r) (.int x :: st) σ k q Q := ws_gistore pc' hf hp hn hc kk

theorem ws_lload_7 {E : xEx} {d mi pc : Nat} {st : List Value} {σ : xMem} {k q : Nat} {Q : Option Value → xMem → Prop} {a0 a1 a2 a3 a4 a5 a6 : Option Value} {r : xLv} {x : Int64} (pc' : Nat) (hf : xft mi pc = some (.lload 7, 2)) (hp : pc + 2 = pc') (kk : xW E d mi pc' (a0 :: a1 :: a2 :: a3 :: a4 :: a5 :: a6 :: some (.long x) :: r) (.long x :: st) σ k q Q) : xW E d mi pc (a0 :: a1 :: a2 :: a3 :: a4 :: a5 :: a6 :: some (.long x) :: r) st σ k q Q := ws_glload pc' hf hp rfl kk

theorem ws_lstore_7 {E : xEx} {d mi pc : Nat} {st : List Value} {σ : xMem} {k q : Nat} {Q : Option Value → xMem → Prop} {a0 a1 a2 a3 a4 a5 a6 : Option Value} {r : xLv} {z z2 : Option Value} {x : Int64} (pc' : Nat) (hf : xft mi pc = some (.lstore 7, 2)) (hp : pc + 2 = pc') (hn : Nat.blt 8 (xML mi) = true) (hc : xbef (a0 :: a1 :: a2 :: a3 :: a4 :: a5 :: a6 :: z :: z2 :: r) 7 = false) (kk : xW E d mi pc' (a0 :: a1 :: a2 :: a3 :: a4 :: a5 :: a6 :: some (.long x) :: none :: r) st σ k q Q) : xW E d mi pc (a0 :: a1 :: a2 :: a3 :: a4 :: a5 :: a6 :: z :: z2 :: r) (.long x :: st) σ k q Q := ws_glstore pc' hf hp hn hc kk

theorem ws_aload_7 {E : xEx} {d mi pc : Nat} {st : List Value} {σ : xMem} {k q : Nat} {Q : Option Value → xMem → Prop} {a0 a1 a2 a3 a4 a5 a6 : Option Value} {r : xLv} {x : Nat} (pc' : Nat) (hf : xft mi pc = some (.aload 7, 2)) (hp : pc + 2 = pc') (kk : xW E d mi pc' (a0 :: a1 :: a2 :: a3 :: a4 :: a5 :: a6 :: some (.ref x) :: r) (.ref x :: st) σ k q Q) : xW E d mi pc (a0 :: a1 :: a2 :: a3 :: a4 :: a5 :: a6 :: some (.ref x) :: r) st σ k q Q := ws_gaload pc' hf hp rfl kk

theorem ws_astore_7 {E : xEx} {d mi pc : Nat} {st : List Value} {σ : xMem} {k q : Nat} {Q : Option Value → xMem → Prop} {a0 a1 a2 a3 a4 a5 a6 : Option Value} {r : xLv} {z : Option Value} {x : Nat} (pc' : Nat) (hf : xft mi pc = some (.astore 7, 2)) (hp : pc + 2 = pc') (hn : Nat.blt 7 (xML mi) = true) (hc : xbef (a0 :: a1 :: a2 :: a3 :: a4 :: a5 :: a6 :: z :: r) 7 = false) (kk : xW E d mi pc' (a0 :: a1 :: a2 :: a3 :: a4 :: a5 :: a6 :: some (.ref x) :: r) st σ k q Q) : xW E d mi pc (a0 :: a1 :: a2 :: a3 :: a4 :: a5 :: a6 :: z :: r) (.ref x :: st) σ k q Q := ws_gastore pc' hf hp hn hc kk

theorem ws_iinc_7 {E : xEx} {d mi pc : Nat} {st : List Value} {σ : xMem} {k q : Nat} {Q : Option Value → xMem → Prop} {a0 a1 a2 a3 a4 a5 a6 : Option Value} {r : xLv} {z : Int} {x v : Int32} (pc' : Nat) (hf : xft mi pc = some (.iinc 7 z, 3)) (hp : pc + 3 = pc') (hv : x + Int32.ofInt z = v) (hn : Nat.blt 7 (xML mi) = true) (hc : xbef (a0 :: a1 :: a2 :: a3 :: a4 :: a5 :: a6 :: some (.int x) :: r) 7 = false) (kk : xW E d mi pc' (a0 :: a1 :: a2 :: a3 :: a4 :: a5 :: a6 :: some (.int v) :: r) st σ k q Q) : xW E d mi pc (a0 :: a1 :: a2 :: a3 :: a4 :: a5 :: a6 :: some (.int x) :: r) st σ k q Q := ws_giinc pc' hf hp rfl hv hn hc kk

theorem ws_iload_8 {E : xEx} {d mi pc : Nat} {st : List Value} {σ : xMem} {k q : Nat} {Q : Option Value → xMem → Prop} {a0 a1 a2 a3 a4 a5 a6 a7 : Option Value} {r : xLv} {x : Int32} (pc' : Nat) (hf : xft mi pc = some (.iload 8, 2)) (hp : pc + 2 = pc') (kk : xW E d mi pc' (a0 :: a1 :: a2 :: a3 :: a4 :: a5 :: a6 :: a7 :: some (.int x) :: r) (.int x :: st) σ k q Q) : xW E d mi pc (a0 :: a1 :: a2 :: a3 :: a4 :: a5 :: a6 :: a7 :: some (.int x) :: r) st σ k q Q := ws_giload pc' hf hp rfl kk

theorem ws_istore_8 {E : xEx} {d mi pc : Nat} {st : List Value} {σ : xMem} {k q : Nat} {Q : Option Value → xMem → Prop} {a0 a1 a2 a3 a4 a5 a6 a7 : Option Value} {r : xLv} {z : Option Value} {x : Int32} (pc' : Nat) (hf : xft mi pc = some (.istore 8, 2)) (hp : pc + 2 = pc') (hn : Nat.blt 8 (xML mi) = true) (hc : xbef (a0 :: a1 :: a2 :: a3 :: a4 :: a5 :: a6 :: a7 :: z :: r) 8 = false) (kk : xW E d mi pc' (a0 :: a1 :: a2 :: a3 :: a4 :: a5 :: a6 :: a7 :: some (.int x) :: r) st σ k q Q) : xW E d mi pc (a0 :: a1 :: a2 :: a3 :: a4 :: a5 :: a6 :: a7 :: z :: r) (.int x :: st) σ k q Q := ws_gistore pc' hf hp hn hc kk

theorem ws_lload_8 {E : xEx} {d mi pc : Nat} {st : List Value} {σ : xMem} {k q : Nat} {Q : Option Value → xMem → Prop} {a0 a1 a2 a3 a4 a5 a6 a7 : Option Value} {r : xLv} {x : Int64} (pc' : Nat) (hf : xft mi pc = some (.lload 8, 2)) (hp : pc + 2 = pc') (kk : xW E d mi pc' (a0 :: a1 :: a2 :: a3 :: a4 :: a5 :: a6 :: a7 :: some (.long x) :: r) (.long x :: st) σ k q Q) : xW E d mi pc (a0 :: a1 :: a2 :: a3 :: a4 :: a5 :: a6 :: a7 :: some (.long x) :: r) st σ k q Q := ws_glload pc' hf hp rfl kk

theorem ws_lstore_8 {E : xEx} {d mi pc : Nat} {st : List Value} {σ : xMem} {k q : Nat} {Q : Option Value → xMem → Prop} {a0 a1 a2 a3 a4 a5 a6 a7 : Option Value} {r : xLv} {z z2 : Option Value} {x : Int64} (pc' : Nat) (hf : xft mi pc = some (.lstore 8, 2)) (hp : pc + 2 = pc') (hn : Nat.blt 9 (xML mi) = true) (hc : xbef (a0 :: a1 :: a2 :: a3 :: a4 :: a5 :: a6 :: a7 :: z :: z2 :: r) 8 = false) (kk : xW E d mi pc' (a0 :: a1 :: a2 :: a3 :: a4 :: a5 :: a6 :: a7 :: some (.long x) :: none :: r) st σ k q Q) : xW E d mi pc (a0 :: a1 :: a2 :: a3 :: a4 :: a5 :: a6 :: a7 :: z :: z2 :: r) (.long x :: st) σ k q Q := ws_glstore pc' hf hp hn hc kk

theorem ws_aload_8 {E : xEx} {d mi pc : Nat} {st : List Value} {σ : xMem} {k q : Nat} {Q : Option Value → xMem → Prop} {a0 a1 a2 a3 a4 a5 a6 a7 : Option Value} {r : xLv} {x : Nat} (pc' : Nat) (hf : xft mi pc = some (.aload 8, 2)) (hp : pc + 2 = pc') (kk : xW E d mi pc' (a0 :: a1 :: a2 :: a3 :: a4 :: a5 :: a6 :: a7 :: some (.ref x) :: r) (.ref x :: st) σ k q Q) : xW E d mi pc (a0 :: a1 :: a2 :: a3 :: a4 :: a5 :: a6 :: a7 :: some (.ref x) :: r) st σ k q Q := ws_gaload pc' hf hp rfl kk

theorem ws_astore_8 {E : xEx} {d mi pc : Nat} {st : List Value} {σ : xMem} {k q : Nat} {Q : Option Value → xMem → Prop} {a0 a1 a2 a3 a4 a5 a6 a7 : Option Value} {r : xLv} {z : Option Value} {x : Nat} (pc' : Nat) (hf : xft mi pc = some (.astore 8, 2)) (hp : pc + 2 = pc') (hn : Nat.blt 8 (xML mi) = true) (hc : xbef (a0 :: a1 :: a2 :: a3 :: a4 :: a5 :: a6 :: a7 :: z :: r) 8 = false) (kk : xW E d mi pc' (a0 :: a1 :: a2 :: a3 :: a4 :: a5 :: a6 :: a7 :: some (.ref x) :: r) st σ k q Q) : xW E d mi pc (a0 :: a1 :: a2 :: a3 :: a4 :: a5 :: a6 :: a7 :: z :: r) (.ref x :: st) σ k q Q := ws_gastore pc' hf hp hn hc kk

theorem ws_iinc_8 {E : xEx} {d mi pc : Nat} {st : List Value} {σ : xMem} {k q : Nat} {Q : Option Value → xMem → Prop} {a0 a1 a2 a3 a4 a5 a6 a7 : Option Value} {r : xLv} {z : Int} {x v : Int32} (pc' : Nat) (hf : xft mi pc = some (.iinc 8 z, 3)) (hp : pc + 3 = pc') (hv : x + Int32.ofInt z = v) (hn : Nat.blt 8 (xML mi) = true) (hc : xbef (a0 :: a1 :: a2 :: a3 :: a4 :: a5 :: a6 :: a7 :: some (.int x) :: r) 8 = false) (kk : xW E d mi pc' (a0 :: a1 :: a2 :: a3 :: a4 :: a5 :: a6 :: a7 :: some (.int v) :: r) st σ k q Q) : xW E d mi pc (a0 :: a1 :: a2 :: a3 :: a4 :: a5 :: a6 :: a7 :: some (.int x) :: r) st σ k q Q := ws_giinc pc' hf hp rfl hv hn hc kk

theorem ws_iload_9 {E : xEx} {d mi pc : Nat} {st : List Value} {σ : xMem} {k q : Nat} {Q : Option Value → xMem → Prop} {a0 a1 a2 a3 a4 a5 a6 a7 a8 : Option Value} {r : xLv} {x : Int32} (pc' : Nat) (hf : xft mi pc = some (.iload 9, 2)) (hp : pc + 2 = pc') (kk : xW E d mi pc' (a0 :: a1 :: a2 :: a3 :: a4 :: a5 :: a6 :: a7 :: a8 :: some (.int x) :: r) (.int x :: st) σ k q Q) : xW E d mi pc (a0 :: a1 :: a2 :: a3 :: a4 :: a5 :: a6 :: a7 :: a8 :: some (.int x) :: r) st σ k q Q := ws_giload pc' hf hp rfl kk

theorem ws_istore_9 {E : xEx} {d mi pc : Nat} {st : List Value} {σ : xMem} {k q : Nat} {Q : Option Value → xMem → Prop} {a0 a1 a2 a3 a4 a5 a6 a7 a8 : Option Value} {r : xLv} {z : Option Value} {x : Int32} (pc' : Nat) (hf : xft mi pc = some (.istore 9, 2)) (hp : pc + 2 = pc') (hn : Nat.blt 9 (xML mi) = true) (hc : xbef (a0 :: a1 :: a2 :: a3 :: a4 :: a5 :: a6 :: a7 :: a8 :: z :: r) 9 = false) (kk : xW E d mi pc' (a0 :: a1 :: a2 :: a3 :: a4 :: a5 :: a6 :: a7 :: a8 :: some (.int x) :: r) st σ k q Q) : xW E d mi pc (a0 :: a1 :: a2 :: a3 :: a4 :: a5 :: a6 :: a7 :: a8 :: z :: r) (.int x :: st) σ k q Q := ws_gistore pc' hf hp hn hc kk

theorem ws_lload_9 {E : xEx} {d mi pc : Nat} {st : List Value} {σ : xMem} {k q : Nat} {Q : Option Value → xMem → Prop} {a0 a1 a2 a3 a4 a5 a6 a7 a8 : Option Value} {r : xLv} {x : Int64} (pc' : Nat) (hf : xft mi pc = some (.lload 9, 2)) (hp : pc + 2 = pc') (kk : xW E d mi pc' (a0 :: a1 :: a2 :: a3 :: a4 :: a5 :: a6 :: a7 :: a8 :: some (.long x) :: r) (.long x :: st) σ k q Q) : xW E d mi pc (a0 :: a1 :: a2 :: a3 :: a4 :: a5 :: a6 :: a7 :: a8 :: some (.long x) :: r) st σ k q Q := ws_glload pc' hf hp rfl kk

theorem ws_lstore_9 {E : xEx} {d mi pc : Nat} {st : List Value} {σ : xMem} {k q : Nat} {Q : Option Value → xMem → Prop} {a0 a1 a2 a3 a4 a5 a6 a7 a8 : Option Value} {r : xLv} {z z2 : Option Value} {x : Int64} (pc' : Nat) (hf : xft mi pc = some (.lstore 9, 2)) (hp : pc + 2 = pc') (hn : Nat.blt 10 (xML mi) = true) (hc : xbef (a0 :: a1 :: a2 :: a3 :: a4 :: a5 :: a6 :: a7 :: a8 :: z :: z2 :: r) 9 = false) (kk : xW E d mi pc' (a0 :: a1 :: a2 :: a3 :: a4 :: a5 :: a6 :: a7 :: a8 :: some (.long x) :: none :: r) st σ k q Q) : xW E d mi pc (a0 :: a1 :: a2 :: a3 :: a4 :: a5 :: a6 :: a7 :: a8 :: z :: z2 :: r) (.long x :: st) σ k q Q := ws_glstore pc' hf hp hn hc kk

theorem ws_aload_9 {E : xEx} {d mi pc : Nat} {st : List Value} {σ : xMem} {k q : Nat} {Q : Option Value → xMem → Prop} {a0 a1 a2 a3 a4 a5 a6 a7 a8 : Option Value} {r : xLv} {x : Nat} (pc' : Nat) (hf : xft mi pc = some (.aload 9, 2)) (hp : pc + 2 = pc') (kk : xW E d mi pc' (a0 :: a1 :: a2 :: a3 :: a4 :: a5 :: a6 :: a7 :: a8 :: some (.ref x) :: r) (.ref x :: st) σ k q Q) : xW E d mi pc (a0 :: a1 :: a2 :: a3 :: a4 :: a5 :: a6 :: a7 :: a8 :: some (.ref x) :: r) st σ k q Q := ws_gaload pc' hf hp rfl kk

theorem ws_astore_9 {E : xEx} {d mi pc : Nat} {st : List Value} {σ : xMem} {k q : Nat} {Q : Option Value → xMem → Prop} {a0 a1 a2 a3 a4 a5 a6 a7 a8 : Option Value} {r : xLv} {z : Option Value} {x : Nat} (pc' : Nat) (hf : xft mi pc = some (.astore 9, 2)) (hp : pc + 2 = pc') (hn : Nat.blt 9 (xML mi) = true) (hc : xbef (a0 :: a1 :: a2 :: a3 :: a4 :: a5 :: a6 :: a7 :: a8 :: z :: r) 9 = false) (kk : xW E d mi pc' (a0 :: a1 :: a2 :: a3 :: a4 :: a5 :: a6 :: a7 :: a8 :: some (.ref x) :: r) st σ k q Q) : xW E d mi pc (a0 :: a1 :: a2 :: a3 :: a4 :: a5 :: a6 :: a7 :: a8 :: z :: r) (.ref x :: st) σ k q Q := ws_gastore pc' hf hp hn hc kk

theorem ws_iinc_9 {E : xEx} {d mi pc : Nat} {st : List Value} {σ : xMem} {k q : Nat} {Q : Option Value → xMem → Prop} {a0 a1 a2 a3 a4 a5 a6 a7 a8 : Option Value} {r : xLv} {z : Int} {x v : Int32} (pc' : Nat) (hf : xft mi pc = some (.iinc 9 z, 3)) (hp : pc + 3 = pc') (hv : x + Int32.ofInt z = v) (hn : Nat.blt 9 (xML mi) = true) (hc : xbef (a0 :: a1 :: a2 :: a3 :: a4 :: a5 :: a6 :: a7 :: a8 :: some (.int x) :: r) 9 = false) (kk : xW E d mi pc' (a0 :: a1 :: a2 :: a3 :: a4 :: a5 :: a6 :: a7 :: a8 :: some (.int v) :: r) st σ k q Q) : xW E d mi pc (a0 :: a1 :: a2 :: a3 :: a4 :: a5 :: a6 :: a7 :: a8 :: some (.int x) :: r) st σ k q Q := ws_giinc pc' hf hp rfl hv hn hc kk

theorem ws_iload_10 {E : xEx} {d mi pc : Nat} {st : List Value} {σ : xMem} {k q : Nat} {Q : Option Value → xMem → Prop} {a0 a1 a2 a3 a4 a5 a6 a7 a8 a9 : Option Value} {r : xLv} {x : Int32} (pc' : Nat) (hf : xft mi pc = some (.iload 10, 2)) (hp : pc + 2 = pc') (kk : xW E d mi pc' (a0 :: a1 :: a2 :: a3 :: a4 :: a5 :: a6 :: a7 :: a8 :: a9 :: some (.int x) :: r) (.int x :: st) σ k q Q) : xW E d mi pc (a0 :: a1 :: a2 :: a3 :: a4 :: a5 :: a6 :: a7 :: a8 :: a9 :: some (.int x) :: r) st σ k q Q := ws_giload pc' hf hp rfl kk

theorem ws_istore_10 {E : xEx} {d mi pc : Nat} {st : List Value} {σ : xMem} {k q : Nat} {Q : Option Value → xMem → Prop} {a0 a1 a2 a3 a4 a5 a6 a7 a8 a9 : Option Value} {r : xLv} {z : Option Value} {x : Int32} (pc' : Nat) (hf : xft mi pc = some (.istore 10, 2)) (hp : pc + 2 = pc') (hn : Nat.blt 10 (xML mi) = true) (hc : xbef (a0 :: a1 :: a2 :: a3 :: a4 :: a5 :: a6 :: a7 :: a8 :: a9 :: z :: r) 10 = false) (kk : xW E d mi pc' (a0 :: a1 :: a2 :: a3 :: a4 :: a5 :: a6 :: a7 :: a8 :: a9 :: some (.int x) :: r) st σ k q Q) : xW E d mi pc (a0 :: a1 :: a2 :: a3 :: a4 :: a5 :: a6 :: a7 :: a8 :: a9 :: z :: r) (.int x :: st) σ k q Q := ws_gistore pc' hf hp hn hc kk

theorem ws_lload_10 {E : xEx} {d mi pc : Nat} {st : List Value} {σ : xMem} {k q : Nat} {Q : Option Value → xMem → Prop} {a0 a1 a2 a3 a4 a5 a6 a7 a8 a9 : Option Value} {r : xLv} {x : Int64} (pc' : Nat) (hf : xft mi pc = some (.lload 10, 2)) (hp : pc + 2 = pc') (kk : xW E d mi pc' (a0 :: a1 :: a2 :: a3 :: a4 :: a5 :: a6 :: a7 :: a8 :: a9 :: some (.long x) :: r) (.long x :: st) σ k q Q) : xW E d mi pc (a0 :: a1 :: a2 :: a3 :: a4 :: a5 :: a6 :: a7 :: a8 :: a9 :: some (.long x) :: r) st σ k q Q := ws_glload pc' hf hp rfl kk

theorem ws_lstore_10 {E : xEx} {d mi pc : Nat} {st : List Value} {σ : xMem} {k q : Nat} {Q : Option Value → xMem → Prop} {a0 a1 a2 a3 a4 a5 a6 a7 a8 a9 : Option Value} {r : xLv} {z z2 : Option Value} {x : Int64} (pc' : Nat) (hf : xft mi pc = some (.lstore 10, 2)) (hp : pc + 2 = pc') (hn : Nat.blt 11 (xML mi) = true) (hc : xbef (a0 :: a1 :: a2 :: a3 :: a4 :: a5 :: a6 :: a7 :: a8 :: a9 :: z :: z2 :: r) 10 = false) (kk : xW E d mi pc' (a0 :: a1 :: a2 :: a3 :: a4 :: a5 :: a6 :: a7 :: a8 :: a9 :: some (.long x) :: none :: r) st σ k q Q) : xW E d mi pc (a0 :: a1 :: a2 :: a3 :: a4 :: a5 :: a6 :: a7 :: a8 :: a9 :: z :: z2 :: r) (.long x :: st) σ k q Q := ws_glstore pc' hf hp hn hc kk

theorem ws_aload_10 {E : xEx} {d mi pc : Nat} {st : List Value} {σ : xMem} {k q : Nat} {Q : Option Value → xMem → Prop} {a0 a1 a2 a3 a4 a5 a6 a7 a8 a9 : Option Value} {r : xLv} {x : Nat} (pc' : Nat) (hf : xft mi pc = some (.aload 10, 2)) (hp : pc + 2 = pc') (kk : xW E d mi pc' (a0 :: a1 :: a2 :: a3 :: a4 :: a5 :: a6 :: a7 :: a8 :: a9 :: some (.ref x) :: r) (.ref x :: st) σ k q Q) : xW E d mi pc (a0 :: a1 :: a2 :: a3 :: a4 :: a5 :: a6 :: a7 :: a8 :: a9 :: some (.ref x) :: r) st σ k q Q := ws_gaload pc' hf hp rfl kk

theorem ws_astore_10 {E : xEx} {d mi pc : Nat} {st : List Value} {σ : xMem} {k q : Nat} {Q : Option Value → xMem → Prop} {a0 a1 a2 a3 a4 a5 a6 a7 a8 a9 : Option Value} {r : xLv} {z : Option Value} {x : Nat} (pc' : Nat) (hf : xft mi pc = some (.astore 10, 2)) (hp : pc + 2 = pc') (hn : Nat.blt 10 (xML mi) = true) (hc : xbef (a0 :: a1 :: a2 :: a3 :: a4 :: a5 :: a6 :: a7 :: a8 :: a9 :: z :: r) 10 = false) (kk : xW E d mi pc' (a0 :: a1 :: a2 :: a3 :: a4 :: a5 :: a6 :: a7 :: a8 :: a9 :: some (.ref x) :: r) st σ k q Q) : xW E d mi pc (a0 :: a1 :: a2 :: a3 :: a4 :: a5 :: a6 :: a7 :: a8 :: a9 :: z :: r) (.ref x :: st) σ k q Q := ws_gastore pc' hf hp hn hc kk

theorem ws_iinc_10 {E : xEx} {d mi pc : Nat} {st : List Value} {σ : xMem} {k q : Nat} {Q : Option Value → xMem → Prop} {a0 a1 a2 a3 a4 a5 a6 a7 a8 a9 : Option Value} {r : xLv} {z : Int} {x v : Int32} (pc' : Nat) (hf : xft mi pc = some (.iinc 10 z, 3)) (hp : pc + 3 = pc') (hv : x + Int32.ofInt z = v) (hn : Nat.blt 10 (xML mi) = true) (hc : xbef (a0 :: a1 :: a2 :: a3 :: a4 :: a5 :: a6 :: a7 :: a8 :: a9 :: some (.int x) :: r) 10 = false) (kk : xW E d mi pc' (a0 :: a1 :: a2 :: a3 :: a4 :: a5 :: a6 :: a7 :: a8 :: a9 :: some (.int v) :: r) st σ k q Q) : xW E d mi pc (a0 :: a1 :: a2 :: a3 :: a4 :: a5 :: a6 :: a7 :: a8 :: a9 :: some (.int x) :: r) st σ k q Q := ws_giinc pc' hf hp rfl hv hn hc kk

theorem ws_iload_11 {E : xEx} {d mi pc : Nat} {st : List Value} {σ : xMem} {k q : Nat} {Q : Option Value → xMem → Prop} {a0 a1 a2 a3 a4 a5 a6 a7 a8 a9 a10 : Option Value} {r : xLv} {x : Int32} (pc' : Nat) (hf : xft mi pc = some (.iload 11, 2)) (hp : pc + 2 = pc') (kk : xW E d mi pc' (a0 :: a1 :: a2 :: a3 :: a4 :: a5 :: a6 :: a7 :: a8 :: a9 :: a10 :: some (.int x) :: r) (.int x :: st) σ k q Q) : xW E d mi pc (a0 :: a1 :: a2 :: a3 :: a4 :: a5 :: a6 :: a7 :: a8 :: a9 :: a10 :: some (.int x) :: r) st σ k q Q := ws_giload pc' hf hp rfl kk

theorem ws_istore_11 {E : xEx} {d mi pc : Nat} {st : List Value} {σ : xMem} {k q : Nat} {Q : Option Value → xMem → Prop} {a0 a1 a2 a3 a4 a5 a6 a7 a8 a9 a10 : Option Value} {r : xLv} {z : Option Value} {x : Int32} (pc' : Nat) (hf : xft mi pc = some (.istore 11, 2)) (hp : pc + 2 = pc') (hn : Nat.blt 11 (xML mi) = true) (hc : xbef (a0 :: a1 :: a2 :: a3 :: a4 :: a5 :: a6 :: a7 :: a8 :: a9 :: a10 :: z :: r) 11 = false) (kk : xW E d mi pc' (a0 :: a1 :: a2 :: a3 :: a4 :: a5 :: a6 :: a7 :: a8 :: a9 :: a10 :: some (.int x) :: r) st σ k q Q) : xW E d mi pc (a0 :: a1 :: a2 :: a3 :: a4 :: a5 :: a6 :: a7 :: a8 :: a9 :: a10 :: z :: r) (.int x :: st) σ k q Q := ws_gistore pc' hf hp hn hc kk

theorem ws_lload_11 {E : xEx} {d mi pc : Nat} {st : List Value} {σ : xMem} {k q : Nat} {Q : Option Value → xMem → Prop} {a0 a1 a2 a3 a4 a5 a6 a7 a8 a9 a10 : Option Value} {r : xLv} {x : Int64} (pc' : Nat) (hf : xft mi pc = some (.lload 11, 2)) (hp : pc + 2 = pc') (kk : xW E d mi pc' (a0 :: a1 :: a2 :: a3 :: a4 :: a5 :: a6 :: a7 :: a8 :: a9 :: a10 :: some (.long x) :: r) (.long x :: st) σ k q Q) : xW E d mi pc (a0 :: a1 :: a2 :: a3 :: a4 :: a5 :: a6 :: a7 :: a8 :: a9 :: a10 :: some (.long x) :: r) st σ k q Q := ws_glload pc' hf hp rfl kk

theorem ws_lstore_11 {E : xEx} {d mi pc : Nat} {st : List Value} {σ : xMem} {k q : Nat} {Q : Option Value → xMem → Prop} {a0 a1 a2 a3 a4 a5 a6 a7 a8 a9 a10 : Option Value} {r : xLv} {z z2 : Option Value} {x : Int64} (pc' : Nat) (hf : xft mi pc = some (.lstore 11, 2)) (hp : pc + 2 = pc') (hn : Nat.blt 12 (xML mi) = true) (hc : xbef (a0 :: a1 :: a2 :: a3 :: a4 :: a5 :: a6 :: a7 :: a8 :: a9 :: a10 :: z :: z2 :: r) 11 = false) (kk : xW E d mi pc' (a0 :: a1 :: a2 :: a3 :: a4 :: a5 :: a6 :: a7 :: a8 :: a9 :: a10 :: some (.long x) :: none :: r) st σ k q Q) : xW E d mi pc (a0 :: a1 :: a2 :: a3 :: a4 :: a5 :: a6 :: a7 :: a8 :: a9 :: a10 :: z :: z2 :: r) (.long x :: st) σ k q Q := ws_glstore pc' hf hp hn hc kk

theorem ws_aload_11 {E : xEx} {d mi pc : Nat} {st : List Value} {σ : xMem} {k q : Nat} {Q : Option Value → xMem → Prop} {a0 a1 a2 a3 a4 a5 a6 a7 a8 a9 a10 : Option Value} {r : xLv} {x : Nat} (pc' : Nat) (hf : xft mi pc = some (.aload 11, 2)) (hp : pc + 2 = pc') (kk : xW E d mi pc' (a0 :: a1 :: a2 :: a3 :: a4 :: a5 :: a6 :: a7 :: a8 :: a9 :: a10 :: some (.ref x) :: r) (.ref x :: st) σ k q Q) : xW E d mi pc (a0 :: a1 :: a2 :: a3 :: a4 :: a5 :: a6 :: a7 :: a8 :: a9 :: a10 :: some (.ref x) :: r) st σ k q Q := ws_gaload pc' hf hp rfl kk

theorem ws_astore_11 {E : xEx} {d mi pc : Nat} {st : List Value} {σ : xMem} {k q : Nat} {Q : Option Value → xMem → Prop} {a0 a1 a2 a3 a4 a5 a6 a7 a8 a9 a10 : Option Value} {r : xLv} {z : Option Value} {x : Nat} (pc' : Nat) (hf : xft mi pc = some (.astore 11, 2)) (hp : pc + 2 = pc') (hn : Nat.blt 11 (xML mi) = true) (hc : xbef (a0 :: a1 :: a2 :: a3 :: a4 :: a5 :: a6 :: a7 :: a8 :: a9 :: a10 :: z :: r) 11 = false) (kk : xW E d mi pc' (a0 :: a1 :: a2 :: a3 :: a4 :: a5 :: a6 :: a7 :: a8 :: a9 :: a10 :: some (.ref x) :: r) st σ k q Q) : xW E d mi pc (a0 :: a1 :: a2 :: a3 :: a4 :: a5 :: a6 :: a7 :: a8 :: a9 :: a10 :: z :: r) (.ref x :: st) σ k q Q := ws_gastore pc' hf hp hn hc kk

theorem ws_iinc_11 {E : xEx} {d mi pc : Nat} {st : List Value} {σ : xMem} {k q : Nat} {Q : Option Value → xMem → Prop} {a0 a1 a2 a3 a4 a5 a6 a7 a8 a9 a10 : Option Value} {r : xLv} {z : Int} {x v : Int32} (pc' : Nat) (hf : xft mi pc = some (.iinc 11 z, 3)) (hp : pc + 3 = pc') (hv : x + Int32.ofInt z = v) (hn : Nat.blt 11 (xML mi) = true) (hc : xbef (a0 :: a1 :: a2 :: a3 :: a4 :: a5 :: a6 :: a7 :: a8 :: a9 :: a10 :: some (.int x) :: r) 11 = false) (kk : xW E d mi pc' (a0 :: a1 :: a2 :: a3 :: a4 :: a5 :: a6 :: a7 :: a8 :: a9 :: a10 :: some (.int v) :: r) st σ k q Q) : xW E d mi pc (a0 :: a1 :: a2 :: a3 :: a4 :: a5 :: a6 :: a7 :: a8 :: a9 :: a10 :: some (.int x) :: r) st σ k q Q := ws_giinc pc' hf hp rfl hv hn hc kk

theorem ws_iload_12 {E : xEx} {d mi pc : Nat} {st : List Value} {σ : xMem} {k q : Nat} {Q : Option Value → xMem → Prop} {a0 a1 a2 a3 a4 a5 a6 a7 a8 a9 a10 a11 : Option Value} {r : xLv} {x : Int32} (pc' : Nat) (hf : xft mi pc = some (.iload 12, 2)) (hp : pc + 2 = pc') (kk : xW E d mi pc' (a0 :: a1 :: a2 :: a3 :: a4 :: a5 :: a6 :: a7 :: a8 :: a9 :: a10 :: a11 :: some (.int x) :: r) (.int x :: st) σ k q Q) : xW E d mi pc (a0 :: a1 :: a2 :: a3 :: a4 :: a5 :: a6 :: a7 :: a8 :: a9 :: a10 :: a11 :: some (.int x) :: r) st σ k q Q := ws_giload pc' hf hp rfl kk

theorem ws_istore_12 {E : xEx} {d mi pc : Nat} {st : List Value} {σ : xMem} {k q : Nat} {Q : Option Value → xMem → Prop} {a0 a1 a2 a3 a4 a5 a6 a7 a8 a9 a10 a11 : Option Value} {r : xLv} {z : Option Value} {x : Int32} (pc' : Nat) (hf : xft mi pc = some (.istore 12, 2)) (hp : pc + 2 = pc') (hn : Nat.blt 12 (xML mi) = true) (hc : xbef (a0 :: a1 :: a2 :: a3 :: a4 :: a5 :: a6 :: a7 :: a8 :: a9 :: a10 :: a11 :: z :: r) 12 = false) (kk : xW E d mi pc' (a0 :: a1 :: a2 :: a3 :: a4 :: a5 :: a6 :: a7 :: a8 :: a9 :: a10 :: a11 :: some (.int x) :: r) st σ k q Q) : xW E d mi pc (a0 :: a1 :: a2 :: a3 :: a4 :: a5 :: a6 :: a7 :: a8 :: a9 :: a10 :: a11 :: z :: r) (.int x :: st) σ k q Q := ws_gistore pc' hf hp hn hc kk

theorem ws_lload_12 {E : xEx} {d mi pc : Nat} {st : List Value} {σ : xMem} {k q : Nat} {Q : Option Value → xMem → Prop} {a0 a1 a2 a3 a4 a5 a6 a7 a8 a9 a10 a11 : Option Value} {r : xLv} {x : Int64} (pc' : Nat) (hf : xft mi pc = some (.lload 12, 2)) (hp : pc + 2 = pc') (kk : xW E d mi pc' (a0 :: a1 :: a2 :: a3 :: a4 :: a5 :: a6 :: a7 :: a8 :: a9 :: a10 :: a11 :: some (.long x) :: r) (.long x :: st) σ k q Q) : xW E d mi pc (a0 :: a1 :: a2 :: a3 :: a4 :: a5 :: a6 :: a7 :: a8 :: a9 :: a10 :: a11 :: some (.long x) :: r) st σ k q Q := ws_glload pc' hf hp rfl kk

theorem ws_lstore_12 {E : xEx} {d mi pc : Nat} {st : List Value} {σ : xMem} {k q : Nat} {Q : Option Value → xMem → Prop} {a0 a1 a2 a3 a4 a5 a6 a7 a8 a9 a10 a11 : Option Value} {r : xLv} {z z2 : Option Value} {x : Int64} (pc' : Nat) (hf : xft mi pc = some (.lstore 12, 2)) (hp : pc + 2 = pc') (hn : Nat.blt 13 (xML mi) = true) (hc : xbef (a0 :: a1 :: a2 :: a3 :: a4 :: a5 :: a6 :: a7 :: a8 :: a9 :: a10 :: a11 :: z :: z2 :: r) 12 = false) (kk : xW E d mi pc' (a0 :: a1 :: a2 :: a3 :: a4 :: a5 :: a6 :: a7 :: a8 :: a9 :: a10 :: a11 :: some (.long x) :: none :: r) st σ k q Q) : xW E d mi pc (a0 :: a1 :: a2 :: a3 :: a4 :: a5 :: a6 :: a7 :: a8 :: a9 :: a10 :: a11 :: z :: z2 :: r) (.long x :: st) σ k q Q := ws_glstore pc' hf hp hn hc kk

theorem ws_aload_12 {E : xEx} {d mi pc : Nat} {st : List Value} {σ : xMem} {k q : Nat} {Q : Option Value → xMem → Prop} {a0 a1 a2 a3 a4 a5 a6 a7 a8 a9 a10 a11 : Option Value} {r : xLv} {x : Nat} (pc' : Nat) (hf : xft mi pc = some (.aload 12, 2)) (hp : pc + 2 = pc') (kk : xW E d mi pc' (a0 :: a1 :: a2 :: a3 :: a4 :: a5 :: a6 :: a7 :: a8 :: a9 :: a10 :: a11 :: some (.ref x) :: r) (.ref x :: st) σ k q Q) : xW E d mi pc (a0 :: a1 :: a2 :: a3 :: a4 :: a5 :: a6 :: a7 :: a8 :: a9 :: a10 :: a11 :: some (.ref x) :: r) st σ k q Q := ws_gaload pc' hf hp rfl kk

theorem ws_astore_12 {E : xEx} {d mi pc : Nat} {st : List Value} {σ : xMem} {k q : Nat} {Q : Option Value → xMem → Prop} {a0 a1 a2 a3 a4 a5 a6 a7 a8 a9 a10 a11 : Option Value} {r : xLv} {z : Option Value} {x : Nat} (pc' : Nat) (hf : xft mi pc = some (.astore 12, 2)) (hp : pc + 2 = pc') (hn : Nat.blt 12 (xML mi) = true) (hc : xbef (a0 :: a1 :: a2 :: a3 :: a4 :: a5 :: a6 :: a7 :: a8 :: a9 :: a10 :: a11 :: z :: r) 12 = false) (kk : xW E d mi pc' (a0 :: a1 :: a2 :: a3 :: a4 :: a5 :: a6 :: a7 :: a8 :: a9 :: a10 :: a11 :: some (.ref x) :: r) st σ k q Q) : xW E d mi pc (a0 :: a1 :: a2 :: a3 :: a4 :: a5 :: a6 :: a7 :: a8 :: a9 :: a10 :: a11 :: z :: r) (.ref x :: st) σ k q Q := ws_gastore pc' hf hp hn hc kk

theorem ws_iinc_12 {E : xEx} {d mi pc : Nat} {st : List Value} {σ : xMem} {k q : Nat} {Q : Option Value → xMem → Prop} {a0 a1 a2 a3 a4 a5 a6 a7 a8 a9 a10 a11 : Option Value} {r : xLv} {z : Int} {x v : Int32} (pc' : Nat) (hf : xft mi pc = some (.iinc 12 z, 3)) (hp : pc + 3 = pc') (hv : x + Int32.ofInt z = v) (hn : Nat.blt 12 (xML mi) = true) (hc : xbef (a0 :: a1 :: a2 :: a3 :: a4 :: a5 :: a6 :: a7 :: a8 :: a9 :: a10 :: a11 :: some (.int x) :: r) 12 = false) (kk : xW E d mi pc' (a0 :: a1 :: a2 :: a3 :: a4 :: a5 :: a6 :: a7 :: a8 :: a9 :: a10 :: a11 :: some (.int v) :: r) st σ k q Q) : xW E d mi pc (a0 :: a1 :: a2 :: a3 :: a4 :: a5 :: a6 :: a7 :: a8 :: a9 :: a10 :: a11 :: some (.int x) :: r) st σ k q Q := ws_giinc pc' hf hp rfl hv hn hc kk

theorem ws_iload_13 {E : xEx} {d mi pc : Nat} {st : List Value} {σ : xMem} {k q : Nat} {Q : Option Value → xMem → Prop} {a0 a1 a2 a3 a4 a5 a6 a7 a8 a9 a10 a11 a12 : Option Value} {r : xLv} {x : Int32} (pc' : Nat) (hf : xft mi pc = some (.iload 13, 2)) (hp : pc + 2 = pc') (kk : xW E d mi pc' (a0 :: a1 :: a2 :: a3 :: a4 :: a5 :: a6 :: a7 :: a8 :: a9 :: a10 :: a11 :: a12 :: some (.int x) :: r) (.int x :: st) σ k q Q) : xW E d mi pc (a0 :: a1 :: a2 :: a3 :: a4 :: a5 :: a6 :: a7 :: a8 :: a9 :: a10 :: a11 :: a12 :: some (.int x) :: r) st σ k q Q := ws_giload pc' hf hp rfl kk

theorem ws_istore_13 {E : xEx} {d mi pc : Nat} {st : List Value} {σ : xMem} {k q : Nat} {Q : Option Value → xMem → Prop} {a0 a1 a2 a3 a4 a5 a6 a7 a8 a9 a10 a11 a12 : Option Value} {r : xLv} {z : Option Value} {x : Int32} (pc' : Nat) (hf : xft mi pc = some (.istore 13, 2)) (hp : pc + 2 = pc') (hn : Nat.blt 13 (xML mi) = true) (hc : xbef (a0 :: a1 :: a2 :: a3 :: a4 :: a5 :: a6 :: a7 :: a8 :: a9 :: a10 :: a11 :: a12 :: z :: r) 13 = false) (kk : xW E d mi pc' (a0 :: a1 :: a2 :: a3 :: a4 :: a5 :: a6 :: a7 :: a8 :: a9 :: a10 :: a11 :: a12 :: some (.int x) :: r) st σ k q Q) : xW E d mi pc (a0 :: a1 :: a2 :: a3 :: a4 :: a5 :: a6 :: a7 :: a8 :: a9 :: a10 :: a11 :: a12 :: z :: r) (.int x :: st) σ k q Q := ws_gistore pc' hf hp hn hc kk

theorem ws_lload_13 {E : xEx} {d mi pc : Nat} {st : List Value} {σ : xMem} {k q : Nat} {Q : Option Value → xMem → Prop} {a0 a1 a2 a3 a4 a5 a6 a7 a8 a9 a10 a11 a12 : Option Value} {r : xLv} {x : Int64} (pc' : Nat) (hf : xft mi pc = some (.lload 13, 2)) (hp : pc + 2 = pc') (kk : xW E d mi pc' (a0 :: a1 :: a2 :: a3 :: a4 :: a5 :: a6 :: a7 :: a8 :: a9 :: a10 :: a11 :: a12 :: some (.long x) :: r) (.long x :: st) σ k q Q) : xW E d mi pc (a0 :: a1 :: a2 :: a3 :: a4 :: a5 :: a6 :: a7 :: a8 :: a9 :: a10 :: a11 :: a12 :: some (.long x) :: r) st σ k q Q := ws_glload pc' hf hp rfl kk

theorem ws_lstore_13 {E : xEx} {d mi pc : Nat} {st : List Value} {σ : xMem} {k q : Nat} {Q : Option Value → xMem → Prop} {a0 a1 a2 a3 a4 a5 a6 a7 a8 a9 a10 a11 a12 : Option Value} {r : xLv} {z z2 : Option Value} {x : Int64} (pc' : Nat) (hf : xft mi pc = some (.lstore 13, 2)) (hp : pc + 2 = pc') (hn : Nat.blt 14 (xML mi) = true) (hc : xbef (a0 :: a1 :: a2 :: a3 :: a4 :: a5 :: a6 :: a7 :: a8 :: a9 :: a10 :: a11 :: a12 :: z :: z2 :: r) 13 = false) (kk : xW E d mi pc' (a0 :: a1 :: a2 :: a3 :: a4 :: a5 :: a6 :: a7 :: a8 :: a9 :: a10 :: a11 :: a12 :: some (.long x) :: none :: r) st σ k q Q) : xW E d mi pc (a0 :: a1 :: a2 :: a3 :: a4 :: a5 :: a6 :: a7 :: a8 :: a9 :: a10 :: a11 :: a12 :: z :: z2 :: r) (.long x :: st) σ k q Q := ws_glstore pc' hf hp hn hc kk

theorem ws_aload_13 {E : xEx} {d mi pc : Nat} {st : List Value} {σ : xMem} {k q : Nat} {Q : Option Value → xMem → Prop} {a0 a1 a2 a3 a4 a5 a6 a7 a8 a9 a10 a11 a12 : Option Value} {r : xLv} {x : Nat} (pc' : Nat) (hf : xft mi pc = some (.aload 13, 2)) (hp : pc + 2 = pc') (kk : xW E d mi pc' (a0 :: a1 :: a2 :: a3 :: a4 :: a5 :: a6 :: a7 :: a8 :: a9 :: a10 :: a11 :: a12 :: some (.ref x) :: r) (.ref x :: st) σ k q Q) : xW E d mi pc (a0 :: a1 :: a2 :: a3 :: a4 :: a5 :: a6 :: a7 :: a8 :: a9 :: a10 :: a11 :: a12 :: some (.ref x) :: r) st σ k q Q := ws_gaload pc' hf hp rfl kk

theorem ws_astore_13 {E : xEx} {d mi pc : Nat} {st : List Value} {σ : xMem} {k q : Nat} {Q : Option Value → xMem → Prop} {a0 a1 a2 a3 a4 a5 a6 a7 a8 a9 a10 a11 a12 : Option Value} {r : xLv} {z : Option Value} {x : Nat} (pc' : Nat) (hf : xft mi pc = some (.astore 13, 2)) (hp : pc + 2 = pc') (hn : Nat.blt 13 (xML mi) = true) (hc : xbef (a0 :: a1 :: a2 :: a3 :: a4 :: a5 :: a6 :: a7 :: a8 :: a9 :: a10 :: a11 :: a12 :: z :: r) 13 = false) (kk : xW E d mi pc' (a0 :: a1 :: a2 :: a3 :: a4 :: a5 :: a6 :: a7 :: a8 :: a9 :: a10 :: a11 :: a12 :: some (.ref x) :: r) st σ k q Q) : xW E d mi pc (a0 :: a1 :: a2 :: a3 :: a4 :: a5 :: a6 :: a7 :: a8 :: a9 :: a10 :: a11 :: a12 :: z :: r) (.ref x :: st) σ k q Q := ws_gastore pc' hf hp hn hc kk

theorem ws_iinc_13 {E : xEx} {d mi pc : Nat} {st : List Value} {σ : xMem} {k q : Nat} {Q : Option Value → xMem → Prop} {a0 a1 a2 a3 a4 a5 a6 a7 a8 a9 a10 a11 a12 : Option Value} {r : xLv} {z : Int} {x v : Int32} (pc' : Nat) (hf : xft mi pc = some (.iinc 13 z, 3)) (hp : pc + 3 = pc') (hv : x + Int32.ofInt z = v) (hn : Nat.blt 13 (xML mi) = true) (hc : xbef (a0 :: a1 :: a2 :: a3 :: a4 :: a5 :: a6 :: a7 :: a8 :: a9 :: a10 :: a11 :: a12 :: some (.int x) :: r) 13 = false) (kk : xW E d mi pc' (a0 :: a1 :: a2 :: a3 :: a4 :: a5 :: a6 :: a7 :: a8 :: a9 :: a10 :: a11 :: a12 :: some (.int v) :: r) st σ k q Q) : xW E d mi pc (a0 :: a1 :: a2 :: a3 :: a4 :: a5 :: a6 :: a7 :: a8 :: a9 :: a10 :: a11 :: a12 :: some (.int x) :: r) st σ k q Q := ws_giinc pc' hf hp rfl hv hn hc kk

theorem ws_iadd {E : xEx} {d mi pc : Nat} {lv : xLv} {st : List Value} {σ : xMem} {k q : Nat} {Q : Option Value → xMem → Prop} {x y v : Int32} (pc' : Nat) (hf : xft mi pc = some (.iadd, 1)) (hp : pc + 1 = pc') (hv : x + y = v) (kk : xW E d mi pc' lv (.int v :: st) σ k q Q) : xW E d mi pc lv (.int y :: .int x :: st) σ k q Q := by
  subst hp
  intro base ad cA D l p e R s m args below meth c Qf H locs ls C hE hI hl
  subst hv
  exact lv_iadd C.1.2.1 C.1.2.2.1 (xdec hf) (kk base ad cA D l p e R s m args below meth c Qf H locs ls C hE hI hl)

theorem ws_isub {E : xEx} {d mi pc : Nat} {lv : xLv} {st : List Value} {σ : xMem} {k q : Nat} {Q : Option Value → xMem → Prop} {x y v : Int32} (pc' : Nat) (hf : xft mi pc = some (.isub, 1)) (hp : pc + 1 = pc') (hv : x - y = v) (kk : xW E d mi pc' lv (.int v :: st) σ k q Q) : xW E d mi pc lv (.int y :: .int x :: st) σ k q Q := by
  subst hp
  intro base ad cA D l p e R s m args below meth c Qf H locs ls C hE hI hl
  subst hv
  exact lv_isub C.1.2.1 C.1.2.2.1 (xdec hf) (kk base ad cA D l p e R s m args below meth c Qf H locs ls C hE hI hl)

theorem ws_imul {E : xEx} {d mi pc : Nat} {lv : xLv} {st : List Value} {σ : xMem} {k q : Nat} {Q : Option Value → xMem → Prop} {x y v : Int32} (pc' : Nat) (hf : xft mi pc = some (.imul, 1)) (hp : pc + 1 = pc') (hv : x * y = v) (kk : xW E d mi pc' lv (.int v :: st) σ k q Q) : xW E d mi pc lv (.int y :: .int x :: st) σ k q Q := by
  subst hp
  intro base ad cA D l p e R s m args below meth c Qf H locs ls C hE hI hl
  subst hv
  exact lv_imul C.1.2.1 C.1.2.2.1 (xdec hf) (kk base ad cA D l p e R s m args below meth c Qf H locs ls C hE hI hl)

theorem ws_iand {E : xEx} {d mi pc : Nat} {lv : xLv} {st : List Value} {σ : xMem} {k q : Nat} {Q : Option Value → xMem → Prop} {x y v : Int32} (pc' : Nat) (hf : xft mi pc = some (.iand, 1)) (hp : pc + 1 = pc') (hv : x &&& y = v) (kk : xW E d mi pc' lv (.int v :: st) σ k q Q) : xW E d mi pc lv (.int y :: .int x :: st) σ k q Q := by
  subst hp
  intro base ad cA D l p e R s m args below meth c Qf H locs ls C hE hI hl
  subst hv
  exact lv_iand C.1.2.1 C.1.2.2.1 (xdec hf) (kk base ad cA D l p e R s m args below meth c Qf H locs ls C hE hI hl)

theorem ws_ior {E : xEx} {d mi pc : Nat} {lv : xLv} {st : List Value} {σ : xMem} {k q : Nat} {Q : Option Value → xMem → Prop} {x y v : Int32} (pc' : Nat) (hf : xft mi pc = some (.ior, 1)) (hp : pc + 1 = pc') (hv : x ||| y = v) (kk : xW E d mi pc' lv (.int v :: st) σ k q Q) : xW E d mi pc lv (.int y :: .int x :: st) σ k q Q := by
  subst hp
  intro base ad cA D l p e R s m args below meth c Qf H locs ls C hE hI hl
  subst hv
  exact lv_ior C.1.2.1 C.1.2.2.1 (xdec hf) (kk base ad cA D l p e R s m args below meth c Qf H locs ls C hE hI hl)

theorem ws_ixor {E : xEx} {d mi pc : Nat} {lv : xLv} {st : List Value} {σ : xMem} {k q : Nat} {Q : Option Value → xMem → Prop} {x y v : Int32} (pc' : Nat) (hf : xft mi pc = some (.ixor, 1)) (hp : pc + 1 = pc') (hv : x ^^^ y = v) (kk : xW E d mi pc' lv (.int v :: st) σ k q Q) : xW E d mi pc lv (.int y :: .int x :: st) σ k q Q := by
  subst hp
  intro base ad cA D l p e R s m args below meth c Qf H locs ls C hE hI hl
  subst hv
  exact lv_ixor C.1.2.1 C.1.2.2.1 (xdec hf) (kk base ad cA D l p e R s m args below meth c Qf H locs ls C hE hI hl)

theorem ws_ishl {E : xEx} {d mi pc : Nat} {lv : xLv} {st : List Value} {σ : xMem} {k q : Nat} {Q : Option Value → xMem → Prop} {x y v : Int32} (pc' : Nat) (hf : xft mi pc = some (.ishl, 1)) (hp : pc + 1 = pc') (hv : x <<< (y &&& 31) = v) (kk : xW E d mi pc' lv (.int v :: st) σ k q Q) : xW E d mi pc lv (.int y :: .int x :: st) σ k q Q := by
  subst hp
  intro base ad cA D l p e R s m args below meth c Qf H locs ls C hE hI hl
  subst hv
  exact lv_ishl C.1.2.1 C.1.2.2.1 (xdec hf) (kk base ad cA D l p e R s m args below meth c Qf H locs ls C hE hI hl)

theorem ws_ishr {E : xEx} {d mi pc : Nat} {lv : xLv} {st : List Value} {σ : xMem} {k q : Nat} {Q : Option Value → xMem → Prop} {x y v : Int32} (pc' : Nat) (hf : xft mi pc = some (.ishr, 1)) (hp : pc + 1 = pc') (hv : x >>> (y &&& 31) = v) (kk : xW E d mi pc' lv (.int v :: st) σ k q Q) : xW E d mi pc lv (.int y :: .int x :: st) σ k q Q := by
  subst hp
  intro base ad cA D l p e R s m args below meth c Qf H locs ls C hE hI hl
  subst hv
  exact lv_ishr C.1.2.1 C.1.2.2.1 (xdec hf) (kk base ad cA D l p e R s m args below meth c Qf H locs ls C hE hI hl)

theorem ws_iushr {E : xEx} {d mi pc : Nat} {lv : xLv} {st : List Value} {σ : xMem} {k q : Nat} {Q : Option Value → xMem → Prop} {x y v : Int32} (pc' : Nat) (hf : xft mi pc = some (.iushr, 1)) (hp : pc + 1 = pc') (hv : (x.toUInt32 >>> (y.toUInt32 &&& Int32.toUInt32 31)).toInt32 = v) (kk : xW E d mi pc' lv (.int v :: st) σ k q Q) : xW E d mi pc lv (.int y :: .int x :: st) σ k q Q := by
  subst hp
  intro base ad cA D l p e R s m args below meth c Qf H locs ls C hE hI hl
  exact lv_iushr C.1.2.1 C.1.2.2.1 (xdec hf) hv (kk base ad cA D l p e R s m args below meth c Qf H locs ls C hE hI hl)

theorem ws_idiv {E : xEx} {d mi pc : Nat} {lv : xLv} {st : List Value} {σ : xMem} {k q : Nat} {Q : Option Value → xMem → Prop} {x y v : Int32} (pc' : Nat) (hf : xft mi pc = some (.idiv, 1)) (hp : pc + 1 = pc') (hne : ¬ y = 0) (hv : x / y = v) (kk : xW E d mi pc' lv (.int v :: st) σ k q Q) : xW E d mi pc lv (.int y :: .int x :: st) σ k q Q := by
  subst hp
  intro base ad cA D l p e R s m args below meth c Qf H locs ls C hE hI hl
  subst hv
  exact lv_idiv C.1.2.1 C.1.2.2.1 (xdec hf) hne (kk base ad cA D l p e R s m args below meth c Qf H locs ls C hE hI hl)

theorem ws_irem {E : xEx} {d mi pc : Nat} {lv : xLv} {st : List Value} {σ : xMem} {k q : Nat} {Q : Option Value → xMem → Prop} {x y v : Int32} (pc' : Nat) (hf : xft mi pc = some (.irem, 1)) (hp : pc + 1 = pc') (hne : ¬ y = 0) (hv : x - x / y * y = v) (kk : xW E d mi pc' lv (.int v :: st) σ k q Q) : xW E d mi pc lv (.int y :: .int x :: st) σ k q Q := by
  subst hp
  intro base ad cA D l p e R s m args below meth c Qf H locs ls C hE hI hl
  subst hv
  exact lv_irem C.1.2.1 C.1.2.2.1 (xdec hf) hne (kk base ad cA D l p e R s m args below meth c Qf H locs ls C hE hI hl)

theorem ws_ladd {E : xEx} {d mi pc : Nat} {lv : xLv} {st : List Value} {σ : xMem} {k q : Nat} {Q : Option Value → xMem → Prop} {x y v : Int64} (pc' : Nat) (hf : xft mi pc = some (.ladd, 1)) (hp : pc + 1 = pc') (hv : x + y = v) (kk : xW E d mi pc' lv (.long v :: st) σ k q Q) : xW E d mi pc lv (.long y :: .long x :: st) σ k q Q := by
  subst hp
  intro base ad cA D l p e R s m args below meth c Qf H locs ls C hE hI hl
  subst hv
  exact lv_ladd C.1.2.1 C.1.2.2.1 (xdec hf) (kk base ad cA D l p e R s m args below meth c Qf H locs ls C hE hI hl)

theorem ws_lsub {E : xEx} {d mi pc : Nat} {lv : xLv} {st : List Value} {σ : xMem} {k q : Nat} {Q : Option Value → xMem → Prop} {x y v : Int64} (pc' : Nat) (hf : xft mi pc = some (.lsub, 1)) (hp : pc + 1 = pc') (hv : x - y = v) (kk : xW E d mi pc' lv (.long v :: st) σ k q Q) : xW E d mi pc lv (.long y :: .long x :: st) σ k q Q := by
  subst hp
  intro base ad cA D l p e R s m args below meth c Qf H locs ls C hE hI hl
  subst hv
  exact lv_lsub C.1.2.1 C.1.2.2.1 (xdec hf) (kk base ad cA D l p e R s m args below meth c Qf H locs ls C hE hI hl)

theorem ws_lmul {E : xEx} {d mi pc : Nat} {lv : xLv} {st : List Value} {σ : xMem} {k q : Nat} {Q : Option Value → xMem → Prop} {x y v : Int64} (pc' : Nat) (hf : xft mi pc = some (.lmul, 1)) (hp : pc + 1 = pc') (hv : x * y = v) (kk : xW E d mi pc' lv (.long v :: st) σ k q Q) : xW E d mi pc lv (.long y :: .long x :: st) σ k q Q := by
  subst hp
  intro base ad cA D l p e R s m args below meth c Qf H locs ls C hE hI hl
  subst hv
  exact lv_lmul C.1.2.1 C.1.2.2.1 (xdec hf) (kk base ad cA D l p e R s m args below meth c Qf H locs ls C hE hI hl)

theorem ws_ldiv {E : xEx} {d mi pc : Nat} {lv : xLv} {st : List Value} {σ : xMem} {k q : Nat} {Q : Option Value → xMem → Prop} {x y v : Int64} (pc' : Nat) (hf : xft mi pc = some (.ldiv, 1)) (hp : pc + 1 = pc') (hne : ¬ y = 0) (hv : x / y = v) (kk : xW E d mi pc' lv (.long v :: st) σ k q Q) : xW E d mi pc lv (.long y :: .long x :: st) σ k q Q := by
  subst hp
  intro base ad cA D l p e R s m args below meth c Qf H locs ls C hE hI hl
  subst hv
  exact lv_ldiv C.1.2.1 C.1.2.2.1 (xdec hf) hne (kk base ad cA D l p e R s m args below meth c Qf H locs ls C hE hI hl)

theorem ws_lrem {E : xEx} {d mi pc : Nat} {lv : xLv} {st : List Value} {σ : xMem} {k q : Nat} {Q : Option Value → xMem → Prop} {x y v : Int64} (pc' : Nat) (hf : xft mi pc = some (.lrem, 1)) (hp : pc + 1 = pc') (hne : ¬ y = 0) (hv : x - x / y * y = v) (kk : xW E d mi pc' lv (.long v :: st) σ k q Q) : xW E d mi pc lv (.long y :: .long x :: st) σ k q Q := by
  subst hp
  intro base ad cA D l p e R s m args below meth c Qf H locs ls C hE hI hl
  subst hv
  exact lv_lrem C.1.2.1 C.1.2.2.1 (xdec hf) hne (kk base ad cA D l p e R s m args below meth c Qf H locs ls C hE hI hl)

theorem ws_lcmp {E : xEx} {d mi pc : Nat} {lv : xLv} {st : List Value} {σ : xMem} {k q : Nat} {Q : Option Value → xMem → Prop} {x y : Int64} (pc' : Nat) (hf : xft mi pc = some (.lcmp, 1)) (hp : pc + 1 = pc')  (kk : xW E d mi pc' lv (.int (lg_cmp x y) :: st) σ k q Q) : xW E d mi pc lv (.long y :: .long x :: st) σ k q Q := by
  subst hp
  intro base ad cA D l p e R s m args below meth c Qf H locs ls C hE hI hl
  exact W.lcmp C.1.2.1 C.1.2.2.1 (xdec hf) (kk base ad cA D l p e R s m args below meth c Qf H locs ls C hE hI hl)

theorem ws_i2l {E : xEx} {d mi pc : Nat} {lv : xLv} {st : List Value} {σ : xMem} {k q : Nat} {Q : Option Value → xMem → Prop} {x : Int32} {v : Int64} (pc' : Nat) (hf : xft mi pc = some (.i2l, 1)) (hp : pc + 1 = pc') (hv : x.toInt64 = v) (kk : xW E d mi pc' lv (.long v :: st) σ k q Q) : xW E d mi pc lv (.int x :: st) σ k q Q := by
  subst hp
  intro base ad cA D l p e R s m args below meth c Qf H locs ls C hE hI hl
  exact lv_i2l C.1.2.1 C.1.2.2.1 (xdec hf) hv (kk base ad cA D l p e R s m args below meth c Qf H locs ls C hE hI hl)

theorem ws_l2i {E : xEx} {d mi pc : Nat} {lv : xLv} {st : List Value} {σ : xMem} {k q : Nat} {Q : Option Value → xMem → Prop} {x : Int64} {v : Int32} (pc' : Nat) (hf : xft mi pc = some (.l2i, 1)) (hp : pc + 1 = pc') (hv : x.toInt32 = v) (kk : xW E d mi pc' lv (.int v :: st) σ k q Q) : xW E d mi pc lv (.long x :: st) σ k q Q := by
  subst hp
  intro base ad cA D l p e R s m args below meth c Qf H locs ls C hE hI hl
  exact lv_l2i C.1.2.1 C.1.2.2.1 (xdec hf) hv (kk base ad cA D l p e R s m args below meth c Qf H locs ls C hE hI hl)

theorem ws_dup {E : xEx} {d mi pc : Nat} {lv : xLv} {st : List Value} {σ : xMem} {k q : Nat} {Q : Option Value → xMem → Prop} {v : Value} (pc' : Nat) (hf : xft mi pc = some (.dup, 1)) (hp : pc + 1 = pc') (hv : v.category = 1) (kk : xW E d mi pc' lv (v :: v :: st) σ k q Q) : xW E d mi pc lv (v :: st) σ k q Q := by
  subst hp
  intro base ad cA D l p e R s m args below meth c Qf H locs ls C hE hI hl
  exact lv_dup (va := xtr ad v) C.1.2.1 C.1.2.2.1 (xdec hf) (by rw [xtr_cat]; exact hv) (kk base ad cA D l p e R s m args below meth c Qf H locs ls C hE hI hl)

theorem ws_pop {E : xEx} {d mi pc : Nat} {lv : xLv} {st : List Value} {σ : xMem} {k q : Nat} {Q : Option Value → xMem → Prop} {v : Value} (pc' : Nat) (hf : xft mi pc = some (.pop, 1)) (hp : pc + 1 = pc') (hv : v.category = 1) (kk : xW E d mi pc' lv st σ k q Q) : xW E d mi pc lv (v :: st) σ k q Q := by
  subst hp
  intro base ad cA D l p e R s m args below meth c Qf H locs ls C hE hI hl
  exact lv_pop (va := xtr ad v) C.1.2.1 C.1.2.2.1 (xdec hf) (by rw [xtr_cat]; exact hv) (kk base ad cA D l p e R s m args below meth c Qf H locs ls C hE hI hl)

theorem ws_dup2 {E : xEx} {d mi pc : Nat} {lv : xLv} {st : List Value} {σ : xMem} {k q : Nat} {Q : Option Value → xMem → Prop} {v w : Value} (pc' : Nat) (hf : xft mi pc = some (.dup2, 1)) (hp : pc + 1 = pc') (hv : v.category = 1) (hw : w.category = 1) (kk : xW E d mi pc' lv (v :: w :: v :: w :: st) σ k q Q) : xW E d mi pc lv (v :: w :: st) σ k q Q := by
  subst hp
  intro base ad cA D l p e R s m args below meth c Qf H locs ls C hE hI hl
  exact lv_dup2_11 (va := xtr ad v) (vb := xtr ad w) C.1.2.1 C.1.2.2.1 (xdec hf) (by rw [xtr_cat]; exact hv) (by rw [xtr_cat]; exact hw) (kk base ad cA D l p e R s m args below meth c Qf H locs ls C hE hI hl)

theorem ws_if_eq {E : xEx} {d mi pc : Nat} {lv : xLv} {st : List Value} {σ : xMem} {k q : Nat} {Q : Option Value → xMem → Prop} {x : Int32} {off : Int} (tgt pc' : Nat) (hf : xft mi pc = some (.ifCond .eq off, 3)) (ht : (pc : Int) + off = (tgt : Int)) (hp : pc + 3 = pc') (kt : x = 0 → xW E d mi tgt lv st σ k q Q) (kf : ¬ x = 0 → xW E d mi pc' lv st σ k q Q) : xW E d mi pc lv (.int x :: st) σ k q Q := by
  subst hp
  intro base ad cA D l p e R s m args below meth c Qf H locs ls C hE hI hl
  exact lv_if_eq C.1.2.1 C.1.2.2.1 (xdec hf) ht (fun h => kt h base ad cA D l p e R s m args below meth c Qf H locs ls C hE hI hl) (fun h => kf h base ad cA D l p e R s m args below meth c Qf H locs ls C hE hI hl)

theorem ws_icmp_eq {E : xEx} {d mi pc : Nat} {lv : xLv} {st : List Value} {σ : xMem} {k q : Nat} {Q : Option Value → xMem → Prop} {x y : Int32} {off : Int} (tgt pc' : Nat) (hf : xft mi pc = some (.if_icmp .eq off, 3)) (ht : (pc : Int) + off = (tgt : Int)) (hp : pc + 3 = pc') (kt : x = y → xW E d mi tgt lv st σ k q Q) (kf : ¬ x = y → xW E d mi pc' lv st σ k q Q) : xW E d mi pc lv (.int y :: .int x :: st) σ k q Q := by
  subst hp
  intro base ad cA D l p e R s m args below meth c Qf H locs ls C hE hI hl
  exact lv_icmp_eq C.1.2.1 C.1.2.2.1 (xdec hf) ht (fun h => kt h base ad cA D l p e R s m args below meth c Qf H locs ls C hE hI hl) (fun h => kf h base ad cA D l p e R s m args below meth c Qf H locs ls C hE hI hl)

theorem ws_if_lt {E : xEx} {d mi pc : Nat} {lv : xLv} {st : List Value} {σ : xMem} {k q : Nat} {Q : Option Value → xMem → Prop} {x : Int32} {off : Int} (tgt pc' : Nat) (hf : xft mi pc = some (.ifCond .lt off, 3)) (ht : (pc : Int) + off = (tgt : Int)) (hp : pc + 3 = pc') (kt : x < 0 → xW E d mi tgt lv st σ k q Q) (kf : ¬ x < 0 → xW E d mi pc' lv st σ k q Q) : xW E d mi pc lv (.int x :: st) σ k q Q := by
  subst hp
  intro base ad cA D l p e R s m args below meth c Qf H locs ls C hE hI hl
  exact lv_if_lt C.1.2.1 C.1.2.2.1 (xdec hf) ht (fun h => kt h base ad cA D l p e R s m args below meth c Qf H locs ls C hE hI hl) (fun h => kf h base ad cA D l p e R s m args below meth c Qf H locs ls C hE hI hl)

theorem ws_icmp_lt {E : xEx} {d mi pc : Nat} {lv : xLv} {st : List Value} {σ : xMem} {k q : Nat} {Q : Option Value → xMem → Prop} {x y : Int32} {off : Int} (tgt pc' : Nat) (hf : xft mi pc = some (.if_icmp .lt off, 3)) (ht : (pc : Int) + off = (tgt : Int)) (hp : pc + 3 = pc') (kt : x < y → xW E d mi tgt lv st σ k q Q) (kf : ¬ x < y → xW E d mi pc' lv st σ k q Q) : xW E d mi pc lv (.int y :: .int x :: st) σ k q Q := by
  subst hp
  intro base ad cA D l p e R s m args below meth c Qf H locs ls C hE hI hl
  exact lv_icmp_lt C.1.2.1 C.1.2.2.1 (xdec hf) ht (fun h => kt h base ad cA D l p e R s m args below meth c Qf H locs ls C hE hI hl) (fun h => kf h base ad cA D l p e R s m args below meth c Qf H locs ls C hE hI hl)

theorem ws_if_le {E : xEx} {d mi pc : Nat} {lv : xLv} {st : List Value} {σ : xMem} {k q : Nat} {Q : Option Value → xMem → Prop} {x : Int32} {off : Int} (tgt pc' : Nat) (hf : xft mi pc = some (.ifCond .le off, 3)) (ht : (pc : Int) + off = (tgt : Int)) (hp : pc + 3 = pc') (kt : x ≤ 0 → xW E d mi tgt lv st σ k q Q) (kf : ¬ x ≤ 0 → xW E d mi pc' lv st σ k q Q) : xW E d mi pc lv (.int x :: st) σ k q Q := by
  subst hp
  intro base ad cA D l p e R s m args below meth c Qf H locs ls C hE hI hl
  exact lv_if_le C.1.2.1 C.1.2.2.1 (xdec hf) ht (fun h => kt h base ad cA D l p e R s m args below meth c Qf H locs ls C hE hI hl) (fun h => kf h base ad cA D l p e R s m args below meth c Qf H locs ls C hE hI hl)

theorem ws_icmp_le {E : xEx} {d mi pc : Nat} {lv : xLv} {st : List Value} {σ : xMem} {k q : Nat} {Q : Option Value → xMem → Prop} {x y : Int32} {off : Int} (tgt pc' : Nat) (hf : xft mi pc = some (.if_icmp .le off, 3)) (ht : (pc : Int) + off = (tgt : Int)) (hp : pc + 3 = pc') (kt : x ≤ y → xW E d mi tgt lv st σ k q Q) (kf : ¬ x ≤ y → xW E d mi pc' lv st σ k q Q) : xW E d mi pc lv (.int y :: .int x :: st) σ k q Q := by
  subst hp
  intro base ad cA D l p e R s m args below meth c Qf H locs ls C hE hI hl
  exact lv_icmp_le C.1.2.1 C.1.2.2.1 (xdec hf) ht (fun h => kt h base ad cA D l p e R s m args below meth c Qf H locs ls C hE hI hl) (fun h => kf h base ad cA D l p e R s m args below meth c Qf H locs ls C hE hI hl)

theorem ws_if_ge {E : xEx} {d mi pc : Nat} {lv : xLv} {st : List Value} {σ : xMem} {k q : Nat} {Q : Option Value → xMem → Prop} {x : Int32} {off : Int} (tgt pc' : Nat) (hf : xft mi pc = some (.ifCond .ge off, 3)) (ht : (pc : Int) + off = (tgt : Int)) (hp : pc + 3 = pc') (kt : 0 ≤ x → xW E d mi tgt lv st σ k q Q) (kf : ¬ 0 ≤ x → xW E d mi pc' lv st σ k q Q) : xW E d mi pc lv (.int x :: st) σ k q Q := by
  subst hp
  intro base ad cA D l p e R s m args below meth c Qf H locs ls C hE hI hl
  exact lv_if_ge C.1.2.1 C.1.2.2.1 (xdec hf) ht (fun h => kt h base ad cA D l p e R s m args below meth c Qf H locs ls C hE hI hl) (fun h => kf h base ad cA D l p e R s m args below meth c Qf H locs ls C hE hI hl)

theorem ws_icmp_ge {E : xEx} {d mi pc : Nat} {lv : xLv} {st : List Value} {σ : xMem} {k q : Nat} {Q : Option Value → xMem → Prop} {x y : Int32} {off : Int} (tgt pc' : Nat) (hf : xft mi pc = some (.if_icmp .ge off, 3)) (ht : (pc : Int) + off = (tgt : Int)) (hp : pc + 3 = pc') (kt : y ≤ x → xW E d mi tgt lv st σ k q Q) (kf : ¬ y ≤ x → xW E d mi pc' lv st σ k q Q) : xW E d mi pc lv (.int y :: .int x :: st) σ k q Q := by
  subst hp
  intro base ad cA D l p e R s m args below meth c Qf H locs ls C hE hI hl
  exact lv_icmp_ge C.1.2.1 C.1.2.2.1 (xdec hf) ht (fun h => kt h base ad cA D l p e R s m args below meth c Qf H locs ls C hE hI hl) (fun h => kf h base ad cA D l p e R s m args below meth c Qf H locs ls C hE hI hl)

theorem ws_if_gt {E : xEx} {d mi pc : Nat} {lv : xLv} {st : List Value} {σ : xMem} {k q : Nat} {Q : Option Value → xMem → Prop} {x : Int32} {off : Int} (tgt pc' : Nat) (hf : xft mi pc = some (.ifCond .gt off, 3)) (ht : (pc : Int) + off = (tgt : Int)) (hp : pc + 3 = pc') (kt : 0 < x → xW E d mi tgt lv st σ k q Q) (kf : ¬ 0 < x → xW E d mi pc' lv st σ k q Q) : xW E d mi pc lv (.int x :: st) σ k q Q := by
  subst hp
  intro base ad cA D l p e R s m args below meth c Qf H locs ls C hE hI hl
  exact lv_if_gt C.1.2.1 C.1.2.2.1 (xdec hf) ht (fun h => kt h base ad cA D l p e R s m args below meth c Qf H locs ls C hE hI hl) (fun h => kf h base ad cA D l p e R s m args below meth c Qf H locs ls C hE hI hl)

theorem ws_icmp_gt {E : xEx} {d mi pc : Nat} {lv : xLv} {st : List Value} {σ : xMem} {k q : Nat} {Q : Option Value → xMem → Prop} {x y : Int32} {off : Int} (tgt pc' : Nat) (hf : xft mi pc = some (.if_icmp .gt off, 3)) (ht : (pc : Int) + off = (tgt : Int)) (hp : pc + 3 = pc') (kt : y < x → xW E d mi tgt lv st σ k q Q) (kf : ¬ y < x → xW E d mi pc' lv st σ k q Q) : xW E d mi pc lv (.int y :: .int x :: st) σ k q Q := by
  subst hp
  intro base ad cA D l p e R s m args below meth c Qf H locs ls C hE hI hl
  exact lv_icmp_gt C.1.2.1 C.1.2.2.1 (xdec hf) ht (fun h => kt h base ad cA D l p e R s m args below meth c Qf H locs ls C hE hI hl) (fun h => kf h base ad cA D l p e R s m args below meth c Qf H locs ls C hE hI hl)

theorem ws_if_ne {E : xEx} {d mi pc : Nat} {lv : xLv} {st : List Value} {σ : xMem} {k q : Nat} {Q : Option Value → xMem → Prop} {x : Int32} {off : Int} (tgt pc' : Nat) (hf : xft mi pc = some (.ifCond .ne off, 3)) (ht : (pc : Int) + off = (tgt : Int)) (hp : pc + 3 = pc') (kt : ¬ x = 0 → xW E d mi tgt lv st σ k q Q) (kf : x = 0 → xW E d mi pc' lv st σ k q Q) : xW E d mi pc lv (.int x :: st) σ k q Q := by
  subst hp
  intro base ad cA D l p e R s m args below meth c Qf H locs ls C hE hI hl
  exact lv_if_ne C.1.2.1 C.1.2.2.1 (xdec hf) ht (fun h => kt h base ad cA D l p e R s m args below meth c Qf H locs ls C hE hI hl) (fun h => kf h base ad cA D l p e R s m args below meth c Qf H locs ls C hE hI hl)

theorem ws_icmp_ne {E : xEx} {d mi pc : Nat} {lv : xLv} {st : List Value} {σ : xMem} {k q : Nat} {Q : Option Value → xMem → Prop} {x y : Int32} {off : Int} (tgt pc' : Nat) (hf : xft mi pc = some (.if_icmp .ne off, 3)) (ht : (pc : Int) + off = (tgt : Int)) (hp : pc + 3 = pc') (kt : ¬ x = y → xW E d mi tgt lv st σ k q Q) (kf : x = y → xW E d mi pc' lv st σ k q Q) : xW E d mi pc lv (.int y :: .int x :: st) σ k q Q := by
  subst hp
  intro base ad cA D l p e R s m args below meth c Qf H locs ls C hE hI hl
  exact lv_icmp_ne C.1.2.1 C.1.2.2.1 (xdec hf) ht (fun h => kt h base ad cA D l p e R s m args below meth c Qf H locs ls C hE hI hl) (fun h => kf h base ad cA D l p e R s m args below meth c Qf H locs ls C hE hI hl)

theorem ws_goto {E : xEx} {d mi pc : Nat} {lv : xLv} {st : List Value} {σ : xMem} {k q : Nat} {Q : Option Value → xMem → Prop} {off : Int} (tgt : Nat) (hf : xft mi pc = some (.goto off, 3)) (ht : (pc : Int) + off = (tgt : Int)) (kk : xW E d mi tgt lv st σ k q Q) : xW E d mi pc lv st σ k q Q := by
  intro base ad cA D l p e R s m args below meth c Qf H locs ls C hE hI hl
  exact lv_goto C.1.2.1 C.1.2.2.1 (xdec hf) ht (kk base ad cA D l p e R s m args below meth c Qf H locs ls C hE hI hl)

theorem ws_tsw {E : xEx} {d mi pc : Nat} {lv : xLv} {st : List Value} {σ : xMem} {k q : Nat} {Q : Option Value → xMem → Prop} {x : Int32} {dflt lo hi : Int} {offs : Array Int} {len : Nat} (tgt : Nat) (hf : xft mi pc = some (.tableswitch dflt lo hi offs, len)) (hD : (pc : Int) + dflt = (tgt : Int))
    (kd : (x.toInt < lo ∨ hi < x.toInt) → xW E d mi tgt lv st σ k q Q)
    (ki : ∀ j : Nat, x.toInt = lo + j → x.toInt ≤ hi → ∃ (off : Int) (t : Nat), offs[j]? = some off ∧ (pc : Int) + off = (t : Int) ∧ xW E d mi t lv st σ k q Q) : xW E d mi pc lv (.int x :: st) σ k q Q := by
  intro base ad cA D l p e R s m args below meth c Qf H locs ls C hE hI hl
  by_cases h : x.toInt < lo ∨ hi < x.toInt
  · exact lv_tableOut C.1.2.1 C.1.2.2.1 (xdec hf) h hD (kd h base ad cA D l p e R s m args below meth c Qf H locs ls C hE hI hl)
  · have h1 : ¬ x.toInt < lo := fun z => h (Or.inl z)
    have h2 : ¬ hi < x.toInt := fun z => h (Or.inr z)
    obtain ⟨off, t, ho, ht, kk⟩ := ki (x.toInt - lo).toNat (by omega) (by omega)
    exact lv_tableIn C.1.2.1 C.1.2.2.1 (xdec hf) h1 h2 ho ht (kk base ad cA D l p e R s m args below meth c Qf H locs ls C hE hI hl)

theorem ws_lsw {E : xEx} {d mi pc : Nat} {lv : xLv} {st : List Value} {σ : xMem} {k q : Nat} {Q : Option Value → xMem → Prop} {x : Int32} {dflt : Int} {ps : Array (Int × Int)} {len : Nat} {off : Int} (tgt : Nat) (hf : xft mi pc = some (.lookupswitch dflt ps, len)) (hp : (ps.toList.zip (ps.toList.drop 1)).all (fun (a, next) => a.1 < next.1) = true) (ho : Op.lookupswitch.offset ps.toList dflt x.toInt = off) (ht : (pc : Int) + off = (tgt : Int)) (kk : xW E d mi tgt lv st σ k q Q) : xW E d mi pc lv (.int x :: st) σ k q Q := by
  intro base ad cA D l p e R s m args below meth c Qf H locs ls C hE hI hl
  exact lv_lookup C.1.2.1 C.1.2.2.1 (xdec hf) hp ho ht (kk base ad cA D l p e R s m args below meth c Qf H locs ls C hE hI hl)

theorem ws_ldc {E : xEx} {d mi pc : Nat} {lv : xLv} {st : List Value} {σ : xMem} {k q : Nat} {Q : Option Value → xMem → Prop} {idx : Nat} {v w : Int32} (pc' : Nat) (hf : xft mi pc = some (.ldc idx, 2)) (hp : pc + 2 = pc') (hc : xk1 (xOW mi) idx = some v) (hv : v = w) (kk : xW E d mi pc' lv (.int w :: st) σ k q Q) : xW E d mi pc lv st σ k q Q := by
  subst hp
  subst hv
  intro base ad cA D l p e R s m args below meth c Qf H locs ls C hE hI hl
  obtain ⟨x, hx, rfl⟩ := Option.map_eq_some_iff.mp hc
  have hm := List.mem_of_find?_eq_some hx
  have hi : x.1 = idx := by simpa using List.find?_some hx
  have hw := xkL_ok _ (xow mi C.1.1).2 x hm
  rw [hi] at hw
  exact lv_ldc C.1.2.1 C.1.2.2.1 C.1.2.2.2.2 (C.2.1.1 _ (xwd_in hw)) (xdec hf) (kk base ad cA D l p e R s m args below meth c Qf H locs ls C hE hI hl)

theorem ws_ldcw {E : xEx} {d mi pc : Nat} {lv : xLv} {st : List Value} {σ : xMem} {k q : Nat} {Q : Option Value → xMem → Prop} {idx : Nat} {v w : Int32} (pc' : Nat) (hf : xft mi pc = some (.ldc_w idx, 3)) (hp : pc + 3 = pc') (hc : xk1 (xOW mi) idx = some v) (hv : v = w) (kk : xW E d mi pc' lv (.int w :: st) σ k q Q) : xW E d mi pc lv st σ k q Q := by
  subst hp
  subst hv
  intro base ad cA D l p e R s m args below meth c Qf H locs ls C hE hI hl
  obtain ⟨x, hx, rfl⟩ := Option.map_eq_some_iff.mp hc
  have hm := List.mem_of_find?_eq_some hx
  have hi : x.1 = idx := by simpa using List.find?_some hx
  have hw := xkL_ok _ (xow mi C.1.1).2 x hm
  rw [hi] at hw
  exact lv_ldcw C.1.2.1 C.1.2.2.1 C.1.2.2.2.2 (C.2.1.1 _ (xwd_in hw)) (xdec hf) (kk base ad cA D l p e R s m args below meth c Qf H locs ls C hE hI hl)

theorem ws_ldc2 {E : xEx} {d mi pc : Nat} {lv : xLv} {st : List Value} {σ : xMem} {k q : Nat} {Q : Option Value → xMem → Prop} {idx : Nat} {v w : Int64} (pc' : Nat) (hf : xft mi pc = some (.ldc2_w idx, 3)) (hp : pc + 3 = pc') (hc : xk2 (xOW mi) idx = some v) (hv : v = w) (kk : xW E d mi pc' lv (.long w :: st) σ k q Q) : xW E d mi pc lv st σ k q Q := by
  subst hp
  subst hv
  intro base ad cA D l p e R s m args below meth c Qf H locs ls C hE hI hl
  obtain ⟨x, hx, rfl⟩ := Option.map_eq_some_iff.mp hc
  have hm := List.mem_of_find?_eq_some hx
  have hi : x.1 = idx := by simpa using List.find?_some hx
  have hw := xqL_ok _ (xow mi C.1.1).2 x hm
  rw [hi] at hw
  exact lv_ldc2 C.1.2.1 C.1.2.2.1 C.1.2.2.2.2 (C.2.1.1 _ (xwd_in hw)) (xdec hf) (kk base ad cA D l p e R s m args below meth c Qf H locs ls C hE hI hl)

theorem xfs_at {ad : Nat → Nat} {I : Nat → Nat → Int32} {L : Nat → Nat → Int64} {o kf : Nat} {fs : List Value} {v : Value} (h : fs[kf]? = some v) : (fs.mapIdx (fun k v => xtr ad (xfv I L o k v)))[kf]? = some (xtr ad (xfv I L o kf v)) := by
  simp [List.getElem?_mapIdx, h]
theorem ws_getf {E : xEx} {d mi pc : Nat} {lv : xLv} {st : List Value} {S : List xSh} {I : Nat → Nat → Int32} {L : Nat → Nat → Int64} {k q : Nat} {Q : Option Value → xMem → Prop} {idx o ci kf : Nat} {fs : List Value} {v w : Value} (pc' : Nat) (hf : xft mi pc = some (.getfield idx, 3)) (hp : pc + 3 = pc') (hc : xfd (xOW mi) idx = some (ci, kf)) (ho : S[o]? = some (.inr (.inl (ci, fs)))) (hv : fs[kf]? = some v) (hw9 : xfv I L o kf v = w) (kk : xW E d mi pc' lv (w :: st) (S, I, L) k q Q) : xW E d mi pc lv (.ref o :: st) (S, I, L) k q Q := by
  subst hp
  intro base ad cA D l p e R s m args below meth c Qf H locs ls C hE hI hl
  obtain ⟨x9, hx, hx2⟩ := Option.map_eq_some_iff.mp hc
  have hm := List.mem_of_find?_eq_some hx
  have hi : x9.1 = idx := by simpa using List.find?_some hx
  obtain ⟨⟨h7, hkN⟩, hw⟩ := xfL_ok _ (xow mi C.1.1).2 x9 hm
  have e1 : x9.2.1 = ci := (Prod.mk.inj hx2).1
  have e2 : x9.2.2.1 = kf := (Prod.mk.inj hx2).2
  rw [e1, e2, hi] at hw
  rw [e1] at h7 hkN
  rw [e2] at hkN
  subst hw9
  exact va_get (D := D) (a := ad o) (rest := st.map (xtr ad)) C.1.2.1 C.1.2.2.1 C.2.1.1 (xlI ci h7) C.1.2.2.2.2 C.2.1.2.1 hI.2.1 o (xconc_at ho) (xvw ci h7) kf hkN (C.2.1.1 _ (xwd_in hw)) (fun _ h => h) (xfs_at hv) (xdec hf) (kk base ad cA D l p e R s m args below meth c Qf H locs ls C hE hI hl)

theorem ws_getfi {E : xEx} {d mi pc : Nat} {lv : xLv} {st : List Value} {S : List xSh} {I : Nat → Nat → Int32} {L : Nat → Nat → Int64} {k q : Nat} {Q : Option Value → xMem → Prop} {idx o ci kf : Nat} {fs : List Value} {z x : Int32} (pc' : Nat) (hf : xft mi pc = some (.getfield idx, 3)) (hp : pc + 3 = pc') (hc : xfd (xOW mi) idx = some (ci, kf)) (ho : S[o]? = some (.inr (.inl (ci, fs)))) (hv : fs[kf]? = some (.int z)) (hx : I o kf = x) (kk : xW E d mi pc' lv (.int x :: st) (S, I, L) k q Q) : xW E d mi pc lv (.ref o :: st) (S, I, L) k q Q := ws_getf pc' hf hp hc ho hv (by rw [← hx]; rfl) kk

theorem ws_getfl {E : xEx} {d mi pc : Nat} {lv : xLv} {st : List Value} {S : List xSh} {I : Nat → Nat → Int32} {L : Nat → Nat → Int64} {k q : Nat} {Q : Option Value → xMem → Prop} {idx o ci kf : Nat} {fs : List Value} {z x : Int64} (pc' : Nat) (hf : xft mi pc = some (.getfield idx, 3)) (hp : pc + 3 = pc') (hc : xfd (xOW mi) idx = some (ci, kf)) (ho : S[o]? = some (.inr (.inl (ci, fs)))) (hv : fs[kf]? = some (.long z)) (hx : L o kf = x) (kk : xW E d mi pc' lv (.long x :: st) (S, I, L) k q Q) : xW E d mi pc lv (.ref o :: st) (S, I, L) k q Q := ws_getf pc' hf hp hc ho hv (by rw [← hx]; rfl) kk

theorem ws_getfr {E : xEx} {d mi pc : Nat} {lv : xLv} {st : List Value} {S : List xSh} {I : Nat → Nat → Int32} {L : Nat → Nat → Int64} {k q : Nat} {Q : Option Value → xMem → Prop} {idx o ci kf : Nat} {fs : List Value} {x : Nat} (pc' : Nat) (hf : xft mi pc = some (.getfield idx, 3)) (hp : pc + 3 = pc') (hc : xfd (xOW mi) idx = some (ci, kf)) (ho : S[o]? = some (.inr (.inl (ci, fs)))) (hv : fs[kf]? = some (.ref x)) (kk : xW E d mi pc' lv (.ref x :: st) (S, I, L) k q Q) : xW E d mi pc lv (.ref o :: st) (S, I, L) k q Q := ws_getf pc' hf hp hc ho hv rfl kk

theorem xfs_setI {ad : Nat → Nat} {I : Nat → Nat → Int32} {L : Nat → Nat → Int64} {o kf : Nat} {fs : List Value} {z x : Int32} (h : fs[kf]? = some (.int z)) : fs.mapIdx (fun k v => xtr ad (xfv (wR I o (upd (I o) kf x)) L o k v)) = (fs.mapIdx (fun k v => xtr ad (xfv I L o k v))).set kf (.int x) := by
  apply List.ext_getElem?
  intro j
  by_cases hj : kf = j
  · subst hj
    rw [List.getElem?_set_self (by rw [List.length_mapIdx]; exact (List.getElem?_eq_some_iff.mp h).1), List.getElem?_mapIdx, h]
    simp [xfv, xtr, wR, upd]
  · rw [List.getElem?_set_ne hj, List.getElem?_mapIdx, List.getElem?_mapIdx]
    congr 1
    funext v
    have : ¬ j = kf := fun e => hj e.symm
    cases v <;> simp [xfv, wR, upd, this]
theorem xfs_setL {ad : Nat → Nat} {I : Nat → Nat → Int32} {L : Nat → Nat → Int64} {o kf : Nat} {fs : List Value} {z x : Int64} (h : fs[kf]? = some (.long z)) : fs.mapIdx (fun k v => xtr ad (xfv I (wRL L o (vp_updL (L o) kf x)) o k v)) = (fs.mapIdx (fun k v => xtr ad (xfv I L o k v))).set kf (.long x) := by
  apply List.ext_getElem?
  intro j
  by_cases hj : kf = j
  · subst hj
    rw [List.getElem?_set_self (by rw [List.length_mapIdx]; exact (List.getElem?_eq_some_iff.mp h).1), List.getElem?_mapIdx, h]
    simp [xfv, xtr, wRL, vp_updL]
  · rw [List.getElem?_set_ne hj, List.getElem?_mapIdx, List.getElem?_mapIdx]
    congr 1
    funext v
    have : ¬ j = kf := fun e => hj e.symm
    cases v <;> simp [xfv, wRL, vp_updL, this]
theorem xfs_setR {ad : Nat → Nat} {I : Nat → Nat → Int32} {L : Nat → Nat → Int64} {o kf r : Nat} {fs : List Value} : (fs.set kf (.ref r)).mapIdx (fun k v => xtr ad (xfv I L o k v)) = (fs.mapIdx (fun k v => xtr ad (xfv I L o k v))).set kf (.ref (ad r)) := by
  apply List.ext_getElem?
  intro j
  by_cases hj : kf = j
  · subst hj
    by_cases hl : kf < fs.length
    · rw [List.getElem?_set_self (by rw [List.length_mapIdx]; exact hl), List.getElem?_mapIdx, List.getElem?_set_self hl]
      rfl
    · rw [List.getElem?_eq_none (by simp; omega), List.getElem?_eq_none (by simp; omega)]
  · rw [List.getElem?_set_ne hj, List.getElem?_mapIdx, List.getElem?_mapIdx, List.getElem?_set_ne hj]
end
section
theorem ws_putfi {E : xEx} {d mi pc : Nat} {lv : xLv} {st : List Value} {S : List xSh} {I : Nat → Nat → Int32} {L : Nat → Nat → Int64} {k q : Nat} {Q : Option Value → xMem → Prop} {idx o ci kf : Nat} {fs : List Value} {z x : Int32} (pc' : Nat) (hf : xft mi pc = some (.putfield idx, 3)) (hp : pc + 3 = pc') (hc : xfd (xOW mi) idx = some (ci, kf)) (ho : S[o]? = some (.inr (.inl (ci, fs)))) (hv : fs[kf]? = some (.int z)) (hfin : (xTT ci kf).2.2.2 = false) (hnar : narrow (xTy ci kf) (.int x) = (.int x)) (hfit : fits (xTy ci kf) (.int x) = true) (kk : xW E d mi pc' lv st (S, wI I o kf x, L) k q Q) : xW E d mi pc lv (.int x :: .ref o :: st) (S, I, L) k q Q := by
  subst hp
  intro base ad cA D l p e R s m args below meth c Qf H locs ls C hE hI hl
  obtain ⟨x9, hx, hx2⟩ := Option.map_eq_some_iff.mp hc
  have hm := List.mem_of_find?_eq_some hx
  have hi : x9.1 = idx := by simpa using List.find?_some hx
  obtain ⟨⟨h7, hkN⟩, hw⟩ := xfL_ok _ (xow mi C.1.1).2 x9 hm
  have e1 : x9.2.1 = ci := (Prod.mk.inj hx2).1
  have e2 : x9.2.2.1 = kf := (Prod.mk.inj hx2).2
  rw [e1, e2, hi] at hw
  rw [e1] at h7 hkN
  rw [e2] at hkN
  refine va_put (D := D) (A := fun q => base ≤ q) (a := ad o) (rest := st.map (xtr ad)) (ty := xTy ci kf) (v := xtr ad (.int x)) C.1.2.1 C.1.2.2.1 C.2.1.1 (xlI ci h7) (xTy ci) (xty_ok ci h7) (xnm ci h7) C.1.2.2.2.2 C.2.1.2.1 hI.2.1 (xD C.2.2.2.2 hI.1.2) hI.2.2 o (xconc_at ho) (xvw ci h7) kf hkN (C.2.1.1 _ (xwd_in hw)) (fun _ h => h) hfin (xty_ok ci h7 kf hkN) hnar hfit (by rw [List.length_mapIdx]; exact (List.getElem?_eq_some_iff.mp hv).1) (xdec hf) (fun H1 locs1 hP1 hD1 hS1 => ?_)
  refine kk base ad cA D l p e R s m args below meth c Qf H1 locs1 ls C hE ⟨hI.1, ?_, hS1⟩ hl
  rw [wI_R, xconc_wR ho]
  have e9 : xcell ad cA (wR I o (upd (I o) kf x)) L o (.inr (.inl (ci, fs))) = .inr (ci, (fs.mapIdx (fun k v => xtr ad (xfv I L o k v))).set kf (xtr ad (.int x))) := by
    simp only [xcell]
    rw [xfs_setI hv]
    rfl
  rw [e9]
  exact hP1

theorem ws_putfl {E : xEx} {d mi pc : Nat} {lv : xLv} {st : List Value} {S : List xSh} {I : Nat → Nat → Int32} {L : Nat → Nat → Int64} {k q : Nat} {Q : Option Value → xMem → Prop} {idx o ci kf : Nat} {fs : List Value} {z x : Int64} (pc' : Nat) (hf : xft mi pc = some (.putfield idx, 3)) (hp : pc + 3 = pc') (hc : xfd (xOW mi) idx = some (ci, kf)) (ho : S[o]? = some (.inr (.inl (ci, fs)))) (hv : fs[kf]? = some (.long z)) (hfin : (xTT ci kf).2.2.2 = false) (hnar : narrow (xTy ci kf) (.long x) = (.long x)) (hfit : fits (xTy ci kf) (.long x) = true) (kk : xW E d mi pc' lv st (S, I, wL L o kf x) k q Q) : xW E d mi pc lv (.long x :: .ref o :: st) (S, I, L) k q Q := by
  subst hp
  intro base ad cA D l p e R s m args below meth c Qf H locs ls C hE hI hl
  obtain ⟨x9, hx, hx2⟩ := Option.map_eq_some_iff.mp hc
  have hm := List.mem_of_find?_eq_some hx
  have hi : x9.1 = idx := by simpa using List.find?_some hx
  obtain ⟨⟨h7, hkN⟩, hw⟩ := xfL_ok _ (xow mi C.1.1).2 x9 hm
  have e1 : x9.2.1 = ci := (Prod.mk.inj hx2).1
  have e2 : x9.2.2.1 = kf := (Prod.mk.inj hx2).2
  rw [e1, e2, hi] at hw
  rw [e1] at h7 hkN
  rw [e2] at hkN
  refine va_put (D := D) (A := fun q => base ≤ q) (a := ad o) (rest := st.map (xtr ad)) (ty := xTy ci kf) (v := xtr ad (.long x)) C.1.2.1 C.1.2.2.1 C.2.1.1 (xlI ci h7) (xTy ci) (xty_ok ci h7) (xnm ci h7) C.1.2.2.2.2 C.2.1.2.1 hI.2.1 (xD C.2.2.2.2 hI.1.2) hI.2.2 o (xconc_at ho) (xvw ci h7) kf hkN (C.2.1.1 _ (xwd_in hw)) (fun _ h => h) hfin (xty_ok ci h7 kf hkN) hnar hfit (by rw [List.length_mapIdx]; exact (List.getElem?_eq_some_iff.mp hv).1) (xdec hf) (fun H1 locs1 hP1 hD1 hS1 => ?_)
  refine kk base ad cA D l p e R s m args below meth c Qf H1 locs1 ls C hE ⟨hI.1, ?_, hS1⟩ hl
  rw [wL_R, xconc_wRL ho]
  have e9 : xcell ad cA I (wRL L o (vp_updL (L o) kf x)) o (.inr (.inl (ci, fs))) = .inr (ci, (fs.mapIdx (fun k v => xtr ad (xfv I L o k v))).set kf (xtr ad (.long x))) := by
    simp only [xcell]
    rw [xfs_setL hv]
    rfl
  rw [e9]
  exact hP1

theorem ws_putfr {E : xEx} {d mi pc : Nat} {lv : xLv} {st : List Value} {S : List xSh} {I : Nat → Nat → Int32} {L : Nat → Nat → Int64} {k q : Nat} {Q : Option Value → xMem → Prop} {idx o ci kf : Nat} {fs : List Value} {z : Value} {x : Nat} (pc' : Nat) (hf : xft mi pc = some (.putfield idx, 3)) (hp : pc + 3 = pc') (hc : xfd (xOW mi) idx = some (ci, kf)) (ho : S[o]? = some (.inr (.inl (ci, fs)))) (hv : fs[kf]? = some z) (hfin : (xTT ci kf).2.2.2 = false) (hnar : narrow (xTy ci kf) (.ref x) = (.ref x)) (hfit : fits (xTy ci kf) (.ref x) = true) (kk : xW E d mi pc' lv st (S.set o (.inr (.inl (ci, fs.set kf (.ref x)))), I, L) k q Q) : xW E d mi pc lv (.ref x :: .ref o :: st) (S, I, L) k q Q := by
  subst hp
  intro base ad cA D l p e R s m args below meth c Qf H locs ls C hE hI hl
  obtain ⟨x9, hx, hx2⟩ := Option.map_eq_some_iff.mp hc
  have hm := List.mem_of_find?_eq_some hx
  have hi : x9.1 = idx := by simpa using List.find?_some hx
  obtain ⟨⟨h7, hkN⟩, hw⟩ := xfL_ok _ (xow mi C.1.1).2 x9 hm
  have e1 : x9.2.1 = ci := (Prod.mk.inj hx2).1
  have e2 : x9.2.2.1 = kf := (Prod.mk.inj hx2).2
  rw [e1, e2, hi] at hw
  rw [e1] at h7 hkN
  rw [e2] at hkN
  refine va_put (D := D) (A := fun q => base ≤ q) (a := ad o) (rest := st.map (xtr ad)) (ty := xTy ci kf) (v := xtr ad (.ref x)) C.1.2.1 C.1.2.2.1 C.2.1.1 (xlI ci h7) (xTy ci) (xty_ok ci h7) (xnm ci h7) C.1.2.2.2.2 C.2.1.2.1 hI.2.1 (xD C.2.2.2.2 hI.1.2) hI.2.2 o (xconc_at ho) (xvw ci h7) kf hkN (C.2.1.1 _ (xwd_in hw)) (fun _ h => h) hfin (xty_ok ci h7 kf hkN) (by cases hq : xTy ci kf <;> (rw [hq] at hnar hfit; first | rfl | exact hnar)) (by cases hq : xTy ci kf <;> (rw [hq] at hnar hfit; first | rfl | exact hfit | cases hfit)) (by rw [List.length_mapIdx]; exact (List.getElem?_eq_some_iff.mp hv).1) (xdec hf) (fun H1 locs1 hP1 hD1 hS1 => ?_)
  refine kk base ad cA D l p e R s m args below meth c Qf H1 locs1 ls C hE ⟨(by rw [show ((S.set o (.inr (.inl (ci, fs.set kf (.ref x)))), I, L) : xMem).1.length = S.length from List.length_set]; exact hI.1), ?_, hS1⟩ hl
  rw [xconc_S ho]
  have e9 : xcell ad cA I L o (.inr (.inl (ci, fs.set kf (.ref x)))) = .inr (ci, (fs.mapIdx (fun k v => xtr ad (xfv I L o k v))).set kf (xtr ad (.ref x))) := by
    simp only [xcell]
    rw [xfs_setR]
    rfl
  rw [e9]
  exact hP1

theorem ws_putfiF {E : xEx} {d mi pc : Nat} {lv : xLv} {st : List Value} {S : List xSh} {I : Nat → Nat → Int32} {L : Nat → Nat → Int64} {k q : Nat} {Q : Option Value → xMem → Prop} {idx o ci kf : Nat} {fs : List Value} {z x : Int32} (pc' : Nat) (hf : xft mi pc = some (.putfield idx, 3)) (hp : pc + 3 = pc') (hc : xfd (xOW mi) idx = some (ci, kf)) (ho : S[o]? = some (.inr (.inl (ci, fs)))) (hv : fs[kf]? = some (.int z)) (hfin : (xTT ci kf).2.2.2 = true) (hin : xIN mi = true) (hdc : (xTT ci kf).1 = xRo (xOW mi)) (hnar : narrow (xTy ci kf) (.int x) = (.int x)) (hfit : fits (xTy ci kf) (.int x) = true) (kk : xW E d mi pc' lv st (S, wI I o kf x, L) k q Q) : xW E d mi pc lv (.int x :: .ref o :: st) (S, I, L) k q Q := by
  subst hp
  intro base ad cA D l p e R s m args below meth c Qf H locs ls C hE hI hl
  obtain ⟨x9, hx, hx2⟩ := Option.map_eq_some_iff.mp hc
  have hm := List.mem_of_find?_eq_some hx
  have hi : x9.1 = idx := by simpa using List.find?_some hx
  obtain ⟨⟨h7, hkN⟩, hw⟩ := xfL_ok _ (xow mi C.1.1).2 x9 hm
  have e1 : x9.2.1 = ci := (Prod.mk.inj hx2).1
  have e2 : x9.2.2.1 = kf := (Prod.mk.inj hx2).2
  rw [e1, e2, hi] at hw
  rw [e1] at h7 hkN
  rw [e2] at hkN
  refine va_putF (D := D) (A := fun q => base ≤ q) (a := ad o) (rest := st.map (xtr ad)) (ty := xTy ci kf) (v := xtr ad (.int x)) C.1.2.1 C.1.2.2.1 C.2.1.1 (xlI ci h7) (xTy ci) (xty_ok ci h7) (xnm ci h7) C.1.2.2.2.2 C.2.1.2.1 hI.2.1 (xD C.2.2.2.2 hI.1.2) hI.2.2 o (xconc_at ho) (xvw ci h7) kf hkN (C.2.1.1 _ (xwd_in hw)) (fun _ h => h) hfin (C.2.2.1.1 hin) hdc (xty_ok ci h7 kf hkN) hnar hfit (by rw [List.length_mapIdx]; exact (List.getElem?_eq_some_iff.mp hv).1) (xdec hf) (fun H1 locs1 hP1 hD1 hS1 => ?_)
  refine kk base ad cA D l p e R s m args below meth c Qf H1 locs1 ls C hE ⟨hI.1, ?_, hS1⟩ hl
  rw [wI_R, xconc_wR ho]
  have e9 : xcell ad cA (wR I o (upd (I o) kf x)) L o (.inr (.inl (ci, fs))) = .inr (ci, (fs.mapIdx (fun k v => xtr ad (xfv I L o k v))).set kf (xtr ad (.int x))) := by
    simp only [xcell]
    rw [xfs_setI hv]
    rfl
  rw [e9]
  exact hP1

theorem ws_putflF {E : xEx} {d mi pc : Nat} {lv : xLv} {st : List Value} {S : List xSh} {I : Nat → Nat → Int32} {L : Nat → Nat → Int64} {k q : Nat} {Q : Option Value → xMem → Prop} {idx o ci kf : Nat} {fs : List Value} {z x : Int64} (pc' : Nat) (hf : xft mi pc = some (.putfield idx, 3)) (hp : pc + 3 = pc') (hc : xfd (xOW mi) idx = some (ci, kf)) (ho : S[o]? = some (.inr (.inl (ci, fs)))) (hv : fs[kf]? = some (.long z)) (hfin : (xTT ci kf).2.2.2 = true) (hin : xIN mi = true) (hdc : (xTT ci kf).1 = xRo (xOW mi)) (hnar : narrow (xTy ci kf) (.long x) = (.long x)) (hfit : fits (xTy ci kf) (.long x) = true) (kk : xW E d mi pc' lv st (S, I, wL L o kf x) k q Q) : xW E d mi pc lv (.long x :: .ref o :: st) (S, I, L) k q Q := by
  subst hp
  intro base ad cA D l p e R s m args below meth c Qf H locs ls C hE hI hl
  obtain ⟨x9, hx, hx2⟩ := Option.map_eq_some_iff.mp hc
  have hm := List.mem_of_find?_eq_some hx
  have hi : x9.1 = idx := by simpa using List.find?_some hx
  obtain ⟨⟨h7, hkN⟩, hw⟩ := xfL_ok _ (xow mi C.1.1).2 x9 hm
  have e1 : x9.2.1 = ci := (Prod.mk.inj hx2).1
  have e2 : x9.2.2.1 = kf := (Prod.mk.inj hx2).2
  rw [e1, e2, hi] at hw
  rw [e1] at h7 hkN
  rw [e2] at hkN
  refine va_putF (D := D) (A := fun q => base ≤ q) (a := ad o) (rest := st.map (xtr ad)) (ty := xTy ci kf) (v := xtr ad (.long x)) C.1.2.1 C.1.2.2.1 C.2.1.1 (xlI ci h7) (xTy ci) (xty_ok ci h7) (xnm ci h7) C.1.2.2.2.2 C.2.1.2.1 hI.2.1 (xD C.2.2.2.2 hI.1.2) hI.2.2 o (xconc_at ho) (xvw ci h7) kf hkN (C.2.1.1 _ (xwd_in hw)) (fun _ h => h) hfin (C.2.2.1.1 hin) hdc (xty_ok ci h7 kf hkN) hnar hfit (by rw [List.length_mapIdx]; exact (List.getElem?_eq_some_iff.mp hv).1) (xdec hf) (fun H1 locs1 hP1 hD1 hS1 => ?_)
  refine kk base ad cA D l p e R s m args below meth c Qf H1 locs1 ls C hE ⟨hI.1, ?_, hS1⟩ hl
  rw [wL_R, xconc_wRL ho]
  have e9 : xcell ad cA I (wRL L o (vp_updL (L o) kf x)) o (.inr (.inl (ci, fs))) = .inr (ci, (fs.mapIdx (fun k v => xtr ad (xfv I L o k v))).set kf (xtr ad (.long x))) := by
    simp only [xcell]
    rw [xfs_setL hv]
    rfl
  rw [e9]
  exact hP1

theorem ws_putfrF {E : xEx} {d mi pc : Nat} {lv : xLv} {st : List Value} {S : List xSh} {I : Nat → Nat → Int32} {L : Nat → Nat → Int64} {k q : Nat} {Q : Option Value → xMem → Prop} {idx o ci kf : Nat} {fs : List Value} {z : Value} {x : Nat} (pc' : Nat) (hf : xft mi pc = some (.putfield idx, 3)) (hp : pc + 3 = pc') (hc : xfd (xOW mi) idx = some (ci, kf)) (ho : S[o]? = some (.inr (.inl (ci, fs)))) (hv : fs[kf]? = some z) (hfin : (xTT ci kf).2.2.2 = true) (hin : xIN mi = true) (hdc : (xTT ci kf).1 = xRo (xOW mi)) (hnar : narrow (xTy ci kf) (.ref x) = (.ref x)) (hfit : fits (xTy ci kf) (.ref x) = true) (kk : xW E d mi pc' lv st (S.set o (.inr (.inl (ci, fs.set kf (.ref x)))), I, L) k q Q) : xW E d mi pc lv (.ref x :: .ref o :: st) (S, I, L) k q Q := by
  subst hp
  intro base ad cA D l p e R s m args below meth c Qf H locs ls C hE hI hl
  obtain ⟨x9, hx, hx2⟩ := Option.map_eq_some_iff.mp hc
  have hm := List.mem_of_find?_eq_some hx
  have hi : x9.1 = idx := by simpa using List.find?_some hx
  obtain ⟨⟨h7, hkN⟩, hw⟩ := xfL_ok _ (xow mi C.1.1).2 x9 hm
  have e1 : x9.2.1 = ci := (Prod.mk.inj hx2).1
  have e2 : x9.2.2.1 = kf := (Prod.mk.inj hx2).2
  rw [e1, e2, hi] at hw
  rw [e1] at h7 hkN
  rw [e2] at hkN
  refine va_putF (D := D) (A := fun q => base ≤ q) (a := ad o) (rest := st.map (xtr ad)) (ty := xTy ci kf) (v := xtr ad (.ref x)) C.1.2.1 C.1.2.2.1 C.2.1.1 (xlI ci h7) (xTy ci) (xty_ok ci h7) (xnm ci h7) C.1.2.2.2.2 C.2.1.2.1 hI.2.1 (xD C.2.2.2.2 hI.1.2) hI.2.2 o (xconc_at ho) (xvw ci h7) kf hkN (C.2.1.1 _ (xwd_in hw)) (fun _ h => h) hfin (C.2.2.1.1 hin) hdc (xty_ok ci h7 kf hkN) (by cases hq : xTy ci kf <;> (rw [hq] at hnar hfit; first | rfl | exact hnar)) (by cases hq : xTy ci kf <;> (rw [hq] at hnar hfit; first | rfl | exact hfit | cases hfit)) (by rw [List.length_mapIdx]; exact (List.getElem?_eq_some_iff.mp hv).1) (xdec hf) (fun H1 locs1 hP1 hD1 hS1 => ?_)
  refine kk base ad cA D l p e R s m args below meth c Qf H1 locs1 ls C hE ⟨(by rw [show ((S.set o (.inr (.inl (ci, fs.set kf (.ref x)))), I, L) : xMem).1.length = S.length from List.length_set]; exact hI.1), ?_, hS1⟩ hl
  rw [xconc_S ho]
  have e9 : xcell ad cA I L o (.inr (.inl (ci, fs.set kf (.ref x)))) = .inr (ci, (fs.mapIdx (fun k v => xtr ad (xfv I L o k v))).set kf (xtr ad (.ref x))) := by
    simp only [xcell]
    rw [xfs_setR]
    rfl
  rw [e9]
  exact hP1

theorem ws_iald {E : xEx} {d mi pc : Nat} {lv : xLv} {st : List Value} {S : List xSh} {I : Nat → Nat → Int32} {L : Nat → Nat → Int64} {k q : Nat} {Q : Option Value → xMem → Prop} {a n : Nat} {i x : Int32} (pc' : Nat) (hf : xft mi pc = some (.iaload, 1)) (hp : pc + 1 = pc') (ha : S[a]? = some (.inl (.int, n))) (hin : vp_in i n) (hx : I a i.toNatClampNeg = x) (kk : xW E d mi pc' lv (.int x :: st) (S, I, L) k q Q) : xW E d mi pc lv (.int i :: .ref a :: st) (S, I, L) k q Q := by
  subst hp
  subst hx
  intro base ad cA D l p e R s m args below meth c Qf H locs ls C hE hI hl
  exact va_iald (D := D) (a := ad a) (rest := st.map (xtr ad)) C.1.2.1 C.1.2.2.1 C.2.1.2.1 hI.2.1 a 0 (xconc_at ha) rfl hin (xdec hf) (kk base ad cA D l p e R s m args below meth c Qf H locs ls C hE hI hl)

theorem ws_zald {E : xEx} {d mi pc : Nat} {lv : xLv} {st : List Value} {S : List xSh} {I : Nat → Nat → Int32} {L : Nat → Nat → Int64} {k q : Nat} {Q : Option Value → xMem → Prop} {a n : Nat} {i x : Int32} (pc' : Nat) (hf : xft mi pc = some (.baload, 1)) (hp : pc + 1 = pc') (ha : S[a]? = some (.inl (.boolean, n))) (hin : vp_in i n) (hx : I a i.toNatClampNeg = x) (kk : xW E d mi pc' lv (.int x :: st) (S, I, L) k q Q) : xW E d mi pc lv (.int i :: .ref a :: st) (S, I, L) k q Q := by
  subst hp
  subst hx
  intro base ad cA D l p e R s m args below meth c Qf H locs ls C hE hI hl
  exact va_zald (D := D) (a := ad a) (rest := st.map (xtr ad)) C.1.2.1 C.1.2.2.1 C.2.1.2.1 hI.2.1 a 2 (xconc_at ha) rfl hin (xdec hf) (kk base ad cA D l p e R s m args below meth c Qf H locs ls C hE hI hl)

theorem ws_lald {E : xEx} {d mi pc : Nat} {lv : xLv} {st : List Value} {S : List xSh} {I : Nat → Nat → Int32} {L : Nat → Nat → Int64} {k q : Nat} {Q : Option Value → xMem → Prop} {a n : Nat} {i : Int32} {x : Int64} (pc' : Nat) (hf : xft mi pc = some (.laload, 1)) (hp : pc + 1 = pc') (ha : S[a]? = some (.inl (.long, n))) (hin : vp_in i n) (hx : L a i.toNatClampNeg = x) (kk : xW E d mi pc' lv (.long x :: st) (S, I, L) k q Q) : xW E d mi pc lv (.int i :: .ref a :: st) (S, I, L) k q Q := by
  subst hp
  subst hx
  intro base ad cA D l p e R s m args below meth c Qf H locs ls C hE hI hl
  exact va_lald (D := D) (a := ad a) (rest := st.map (xtr ad)) C.1.2.1 C.1.2.2.1 C.2.1.2.1 hI.2.1 a 1 (xconc_at ha) rfl hin (xdec hf) (kk base ad cA D l p e R s m args below meth c Qf H locs ls C hE hI hl)

theorem ws_alen {E : xEx} {d mi pc : Nat} {lv : xLv} {st : List Value} {S : List xSh} {I : Nat → Nat → Int32} {L : Nat → Nat → Int64} {k q : Nat} {Q : Option Value → xMem → Prop} {a n : Nat} {x : Int32} (pc' : Nat) (hf : xft mi pc = some (.arraylength, 1)) (hp : pc + 1 = pc') (ha : S[a]? = some (.inl (.int, n))) (hx : nI n = x) (kk : xW E d mi pc' lv (.int x :: st) (S, I, L) k q Q) : xW E d mi pc lv (.ref a :: st) (S, I, L) k q Q := by
  subst hp
  subst hx
  intro base ad cA D l p e R s m args below meth c Qf H locs ls C hE hI hl
  exact va_alen (D := D) (a := ad a) (rest := st.map (xtr ad)) C.1.2.1 C.1.2.2.1 C.2.1.2.1 hI.2.1 a 0 (xconc_at ha) rfl rfl (xdec hf) (kk base ad cA D l p e R s m args below meth c Qf H locs ls C hE hI hl)

theorem ws_xald {E : xEx} {d mi pc : Nat} {lv : xLv} {st : List Value} {σ : xMem} {k q : Nat} {Q : Option Value → xMem → Prop} {r n : Nat} {f : Nat → Int32} {i x : Int32} (pc' : Nat) (hf : xft mi pc = some (.iaload, 1)) (hp : pc + 1 = pc') (e9 : Nat) (hr : 1000 + e9 = r) (he : E e9 = some (n, f)) (hin : vp_in i n) (hx : f i.toNatClampNeg = x) (kk : xW E d mi pc' lv (.int x :: st) σ k q Q) : xW E d mi pc lv (.int i :: .ref r :: st) σ k q Q := by
  subst hp
  subst hx
  subst hr
  intro base ad cA D l p e R s m args below meth c Qf H locs ls C hE hI hl
  exact va_ti (rest := st.map (xtr ad)) C.1.2.1 C.1.2.2.1 (C.2.1.2.2.1 e9 n f he) hI.2.2 hin rfl (xdec hf) (kk base ad cA D l p e R s m args below meth c Qf H locs ls C hE hI hl)

theorem ws_xlen {E : xEx} {d mi pc : Nat} {lv : xLv} {st : List Value} {σ : xMem} {k q : Nat} {Q : Option Value → xMem → Prop} {r n : Nat} {f : Nat → Int32} {x : Int32} (pc' : Nat) (hf : xft mi pc = some (.arraylength, 1)) (hp : pc + 1 = pc') (e9 : Nat) (hr : 1000 + e9 = r) (he : E e9 = some (n, f)) (hx : nI n = x) (kk : xW E d mi pc' lv (.int x :: st) σ k q Q) : xW E d mi pc lv (.ref r :: st) σ k q Q := by
  subst hp
  subst hx
  subst hr
  intro base ad cA D l p e R s m args below meth c Qf H locs ls C hE hI hl
  exact va_tlen (rest := st.map (xtr ad)) C.1.2.1 C.1.2.2.1 (C.2.1.2.2.1 e9 n f he) hI.2.2 rfl (xdec hf) (kk base ad cA D l p e R s m args below meth c Qf H locs ls C hE hI hl)

theorem ws_aald {E : xEx} {d mi pc : Nat} {lv : xLv} {st : List Value} {S : List xSh} {I : Nat → Nat → Int32} {L : Nat → Nat → Int64} {k q : Nat} {Q : Option Value → xMem → Prop} {a r : Nat} {vs : List Value} {i : Int32} (pc' : Nat) (hf : xft mi pc = some (.aaload, 1)) (hp : pc + 1 = pc') (ha : S[a]? = some (.inr (.inr vs))) (hin : vp_in i vs.length) (hx : vs[i.toNatClampNeg]? = some (.ref r)) (kk : xW E d mi pc' lv (.ref r :: st) (S, I, L) k q Q) : xW E d mi pc lv (.int i :: .ref a :: st) (S, I, L) k q Q := by
  subst hp
  intro base ad cA D l p e R s m args below meth c Qf H locs ls C hE hI hl
  refine va_aldq (D := D) (C := "ShopWindow$Scene") (a := ad a) (rest := st.map (xtr ad)) C.1.2.1 C.1.2.2.1 C.2.1.2.1 hI.2.1 a 3 (xconc_at ha) rfl hin (xdec hf) ?_
  have e9 : va_rf (xro ad (vs.getD i.toNatClampNeg .null)) = xtr ad (.ref r) := by
    rw [List.getD_eq_getElem?_getD, hx]
    rfl
  rw [e9]
  exact (kk base ad cA D l p e R s m args below meth c Qf H locs ls C hE hI hl)

theorem ws_iast {E : xEx} {d mi pc : Nat} {lv : xLv} {st : List Value} {S : List xSh} {I : Nat → Nat → Int32} {L : Nat → Nat → Int64} {k q : Nat} {Q : Option Value → xMem → Prop} {a n : Nat} {i x : Int32} (pc' : Nat) (hf : xft mi pc = some (.iastore, 1)) (hp : pc + 1 = pc') (ha : S[a]? = some (.inl (.int, n))) (hin : vp_in i n) (kk : xW E d mi pc' lv st (S, wI I a i.toNatClampNeg x, L) k q Q) : xW E d mi pc lv (.int x :: .int i :: .ref a :: st) (S, I, L) k q Q := by
  subst hp
  intro base ad cA D l p e R s m args below meth c Qf H locs ls C hE hI hl
  refine va_iast (D := D) (A := fun q => base ≤ q) (a := ad a) (rest := st.map (xtr ad)) C.1.2.1 C.1.2.2.1 C.2.1.2.1 hI.2.1 (xD C.2.2.2.2 hI.1.2) hI.2.2 a 0 (xconc_at ha) rfl hin (xdec hf) (fun H1 locs1 hP1 hD1 hS1 => ?_)
  refine kk base ad cA D l p e R s m args below meth c Qf H1 locs1 ls C hE ⟨hI.1, ?_, hS1⟩ hl
  rw [wI_R, xconc_wR ha]
  show va_P D vwCl ((xconc ad cA (S, I, L)).set a (ad a, .inl (cA .int, n, .inl (wR I a (upd (I a) i.toNatClampNeg x) a)))) H1
  rw [wR_self]
  exact hP1

theorem ws_zast {E : xEx} {d mi pc : Nat} {lv : xLv} {st : List Value} {S : List xSh} {I : Nat → Nat → Int32} {L : Nat → Nat → Int64} {k q : Nat} {Q : Option Value → xMem → Prop} {a n : Nat} {i x : Int32} (pc' : Nat) (hf : xft mi pc = some (.bastore, 1)) (hp : pc + 1 = pc') (ha : S[a]? = some (.inl (.boolean, n))) (hin : vp_in i n) (hn : vp_nar .boolean x = x) (kk : xW E d mi pc' lv st (S, wI I a i.toNatClampNeg x, L) k q Q) : xW E d mi pc lv (.int x :: .int i :: .ref a :: st) (S, I, L) k q Q := by
  subst hp
  intro base ad cA D l p e R s m args below meth c Qf H locs ls C hE hI hl
  refine va_zast (D := D) (A := fun q => base ≤ q) (a := ad a) (rest := st.map (xtr ad)) C.1.2.1 C.1.2.2.1 C.2.1.2.1 hI.2.1 (xD C.2.2.2.2 hI.1.2) hI.2.2 a 2 (xconc_at ha) rfl hin (xdec hf) (fun H1 locs1 hP1 hD1 hS1 => ?_)
  refine kk base ad cA D l p e R s m args below meth c Qf H1 locs1 ls C hE ⟨hI.1, ?_, hS1⟩ hl
  rw [wI_R, xconc_wR ha]
  show va_P D vwCl ((xconc ad cA (S, I, L)).set a (ad a, .inl (cA .boolean, n, .inl (wR I a (upd (I a) i.toNatClampNeg x) a)))) H1
  rw [hn] at hP1
  rw [wR_self]
  exact hP1

theorem ws_last {E : xEx} {d mi pc : Nat} {lv : xLv} {st : List Value} {S : List xSh} {I : Nat → Nat → Int32} {L : Nat → Nat → Int64} {k q : Nat} {Q : Option Value → xMem → Prop} {a n : Nat} {i : Int32} {x : Int64} (pc' : Nat) (hf : xft mi pc = some (.lastore, 1)) (hp : pc + 1 = pc') (ha : S[a]? = some (.inl (.long, n))) (hin : vp_in i n) (kk : xW E d mi pc' lv st (S, I, wL L a i.toNatClampNeg x) k q Q) : xW E d mi pc lv (.long x :: .int i :: .ref a :: st) (S, I, L) k q Q := by
  subst hp
  intro base ad cA D l p e R s m args below meth c Qf H locs ls C hE hI hl
  refine va_last (D := D) (A := fun q => base ≤ q) (a := ad a) (rest := st.map (xtr ad)) C.1.2.1 C.1.2.2.1 C.2.1.2.1 hI.2.1 (xD C.2.2.2.2 hI.1.2) hI.2.2 a 1 (xconc_at ha) rfl hin (xdec hf) (fun H1 locs1 hP1 hD1 hS1 => ?_)
  refine kk base ad cA D l p e R s m args below meth c Qf H1 locs1 ls C hE ⟨hI.1, ?_, hS1⟩ hl
  rw [wL_R, xconc_wRL ha]
  show va_P D vwCl ((xconc ad cA (S, I, L)).set a (ad a, .inl (cA .long, n, .inr (.inl (wRL L a (vp_updL (L a) i.toNatClampNeg x) a))))) H1
  rw [wRL_self]
  exact hP1

theorem ws_aast {E : xEx} {d mi pc : Nat} {lv : xLv} {st : List Value} {S : List xSh} {I : Nat → Nat → Int32} {L : Nat → Nat → Int64} {k q : Nat} {Q : Option Value → xMem → Prop} {a r : Nat} {vs fs : List Value} {i : Int32} (pc' : Nat) (hf : xft mi pc = some (.aastore, 1)) (hp : pc + 1 = pc') (ha : S[a]? = some (.inr (.inr vs))) (hin : vp_in i vs.length) (hr : S[r]? = some (.inr (.inl (3, fs)))) (kk : xW E d mi pc' lv st (S.set a (.inr (.inr (vs.set i.toNatClampNeg (.ref r)))), I, L) k q Q) : xW E d mi pc lv (.ref r :: .int i :: .ref a :: st) (S, I, L) k q Q := by
  subst hp
  intro base ad cA D l p e R s m args below meth c Qf H locs ls C hE hI hl
  refine va_astq (D := D) (A := fun q => base ≤ q) (a := ad a) (v := ad r) (rest := st.map (xtr ad)) C.1.2.1 C.1.2.2.1 C.2.1.2.1 hI.2.1 (xD C.2.2.2.2 hI.1.2) hI.2.2 a 3 r 3 (xconc_at ha) rfl (xconc_at hr) rfl hin (xdec hf) (fun H1 locs1 hP1 hD1 hS1 => ?_)
  refine kk base ad cA D l p e R s m args below meth c Qf H1 locs1 ls C hE ⟨by rw [show ((S.set a (.inr (.inr (vs.set i.toNatClampNeg (.ref r)))), I, L) : xMem).1.length = S.length from List.length_set]; exact hI.1, ?_, hS1⟩ hl
  rw [xconc_S ha]
  have e9 : xcell ad cA I L a (.inr (.inr (vs.set i.toNatClampNeg (.ref r)))) = .inl (cA xScn, vs.length, .inr (.inr (.inr (.inr (va_up (fun j => xro ad (vs.getD j .null)) i.toNatClampNeg (some (ad r))))))) := by
    have hlt : i.toNatClampNeg < vs.length := Nat.not_le.mp fun q => hin (Or.inr q)
    simp only [xcell, List.length_set]
    congr 7
    funext j
    by_cases hj : j = i.toNatClampNeg
    · subst hj
      simp [va_up, xro, hlt]
    · simp [va_up, hj, List.getElem?_set_ne (fun e => hj e.symm)]
  rw [e9]
  exact hP1

theorem xnew {base : Nat} {ad : Nat → Nat} {cA : FieldType → ClassId} {D : va_G} {σ : xMem} {k q q1 : Nat} {H H1 : Heap} {locs locs' : List Loc} {p : Program} {l : Launch} {e : Env} {R : Room} {s : State} {m : MethodId} {args : Array Value} {below : List Frame} {meth : Method} {c : Code} {T : State} {x : va_E} (hI : xInv base ad cA D s σ k H locs) (had : ∀ k, k < 1000 → ad k = base + k) (hP : va_P D vwCl (xconc ad cA σ ++ [(q, x)]) H1) (hD : va_D (fun q => base ≤ q) (xconc ad cA σ ++ [(q, x)])) (hT : T.heap = H1) (X : Stand p l e R s m args below meth c T locs' (k + 1) q1) : q = base + σ.1.length := by
  have h1 : T.heap.size ≤ s.heap.size + (k + 1) := X.same.2.2.1
  rw [hT] at h1
  have h3 := hI.1.1
  have h4 := hI.1.2
  have hl := xconc_len ad cA σ
  have hq : (xconc ad cA σ ++ [(q, x)])[σ.1.length]? = some (q, x) := by rw [← hl, List.getElem?_append_right (Nat.le_refl _)]; simp
  have h5 : q < H1.size := (hP _ _ hq).lt
  have h6 : base ≤ q := hD.2 _ _ hq
  rcases Nat.lt_or_ge q (base + σ.1.length) with h7 | h7
  · exfalso
    have hi : q - base < σ.1.length := by omega
    obtain ⟨y, hy⟩ : ∃ y, σ.1[q - base]? = some y := ⟨_, List.getElem?_eq_getElem hi⟩
    have h8 : (xconc ad cA σ ++ [(q, x)])[q - base]? = some (ad (q - base), xcell ad cA σ.2.1 σ.2.2 (q - base) y) := by
      rw [List.getElem?_append_left (by rw [hl]; exact hi)]
      exact xconc_at (I := σ.2.1) (L := σ.2.2) hy
    have h9 := hD.1 _ _ _ _ h8 hq (by show ad (q - base) = q; rw [had _ (by omega)]; omega)
    omega
  · omega
theorem xconc_app {ad : Nat → Nat} {cA : FieldType → ClassId} {S : List xSh} {I : Nat → Nat → Int32} {L : Nat → Nat → Int64} {x : xSh} : xconc ad cA (S ++ [x], I, L) = xconc ad cA (S, I, L) ++ [(ad S.length, xcell ad cA I L S.length x)] := by
  unfold xconc
  rw [List.mapIdx_append]
  simp
def xdf (ci : Nat) : List Value := match ci with
  | 0 => [.long 0, .long 0]
  | 1 => [.null, .null, .null, .int 0]
  | 2 => [.null, .null, .null, .null, .null, .int 0, .int 0, .int 0]
  | 3 => [.null, .null, .null, .null, .null, .null, .int 0, .int 0]
  | 4 => [.null, .null, .null, .int 0, .null, .int 0, .null, .null, .null, .int 0, .int 0, .int 0]
  | 5 => [.null, .null, .null, .null, .null, .null, .null, .null]
  | _ => [.null, .null, .int 0, .null, .null, .null, .null, .null, .int 0, .null, .null, .int 0, .null, .null, .null, .null, .null, .null, .null, .null, .long 0, .long 0, .long 0, .null, .null, .null]
theorem xdf_ok : ∀ ci, ci < 7 → ∀ j, j < xNN ci → defaultValue (xTy ci j) = vp_V (xdf ci) j := by decide +kernel
theorem xdf_ok2 : ∀ ci, ci < 7 → ∀ v ∈ xdf ci, v = .null ∨ v = .int 0 ∨ v = .long 0 := by decide +kernel

theorem ws_new {E : xEx} {d mi pc : Nat} {lv : xLv} {st : List Value} {S : List xSh} {I : Nat → Nat → Int32} {L : Nat → Nat → Int64} {k q : Nat} {Q : Option Value → xMem → Prop} {idx ci : Nat} (pc' : Nat) (hf : xft mi pc = some (.new idx, 3)) (hp : pc + 3 = pc') (hc : xcl (xOW mi) idx = some ci) (hzi : ∀ j, I S.length j = 0) (hzl : ∀ j, L S.length j = 0) (hS : S.length < 1000) (hk : k + 1 ≤ xBC mi) (hq : q + xNN ci ≤ xBS mi) (kk : xW E d mi pc' lv (.ref S.length :: st) (S ++ [.inr (.inl (ci, xdf ci))], I, L) (k + 1) (q + xNN ci) Q) : xW E d mi pc lv st (S, I, L) k q Q := by
  subst hp
  intro base ad cA D l p e R s m args below meth c Qf H locs ls C hE hI hl
  obtain ⟨x, hx, rfl⟩ := Option.map_eq_some_iff.mp hc
  have hm := List.mem_of_find?_eq_some hx
  have hi : x.1 = idx := by simpa using List.find?_some hx
  obtain ⟨h7, hw1, hw2, hw3⟩ := xcL_ok _ (xow mi C.1.1).2 x hm
  rw [hi] at hw1
  have hA : ∀ q, s.heap.size ≤ q → base ≤ q := fun q h => Nat.le_trans C.2.2.2.1 h
  refine va_new (D := D) (A := fun q => base ≤ q) (ci := x.2.1) (fs := xdf x.2.1) (rest := st.map (xtr ad)) C.1.2.1 C.1.2.2.1 C.2.1.1 (xlI _ h7) (xTy x.2.1) (xty_ok _ h7) C.1.2.2.2.2 (C.2.1.1 _ (xwd_in hw1)) (C.2.1.1 _ (xwd_in hw2)) (C.2.1.1 _ (xwd_in hw3)) C.2.1.2.1 hI.2.1 (xD C.2.2.2.2 hI.1.2) hI.2.2 hA (xvw _ h7) (xdf_ok _ h7) (by rw [C.2.2.1.2.1]; exact hk) (by rw [C.2.2.1.2.2.1]; exact hq) (xdec hf) (fun q9 H1 hP1 hD1 hS1 => ?_)
  intro T hT X
  have e9 := xnew hI C.2.2.2.2 hP1 hD1 hT X
  have hl9 : ad S.length = base + S.length := C.2.2.2.2 _ hS
  have e8 : q9 = ad S.length := by rw [hl9]; exact e9
  subst e8
  refine kk base ad cA D l p e R s m args below meth c Qf H1 locs ls C hE ⟨⟨?_, ?_⟩, ?_, hS1⟩ hl T hT X
  · have := hI.1.1
    show s.heap.size + (k + 1) = base + (S ++ [_]).length
    rw [List.length_append]
    show s.heap.size + (k + 1) = base + (S.length + 1)
    have h0 : s.heap.size + k = base + S.length := this
    omega
  · show (S ++ [_]).length ≤ 1000
    rw [List.length_append]
    exact hS
  · rw [xconc_app]
    have e7 : xcell ad cA I L S.length (.inr (.inl (x.2.1, xdf x.2.1))) = .inr (x.2.1, xdf x.2.1) := by
      simp only [xcell]
      congr 2
      apply List.ext_getElem?
      intro j
      rw [List.getElem?_mapIdx]
      cases hv : (xdf x.2.1)[j]? with
      | none => rfl
      | some v =>
        rcases xdf_ok2 _ h7 v (List.mem_of_getElem? hv) with rfl | rfl | rfl
        · rfl
        · simp [xfv, xtr, hzi j]
        · simp [xfv, xtr, hzl j]
    rw [e7]
    exact hP1

theorem ws_newaI {E : xEx} {d mi pc : Nat} {lv : xLv} {st : List Value} {S : List xSh} {I : Nat → Nat → Int32} {L : Nat → Nat → Int64} {k q : Nat} {Q : Option Value → xMem → Prop} {n : Int32} (pc' N : Nat) (hf : xft mi pc = some (.newarray .int, 2)) (hp : pc + 2 = pc') (hn : nI N = n) (hN : N < 100000) (hzi : ∀ j, I S.length j = 0) (hzl : ∀ j, L S.length j = 0) (hS : S.length < 1000) (hk : k + 1 ≤ xBC mi) (hq : q + N ≤ xBS mi) (kk : xW E d mi pc' lv (.ref S.length :: st) (S ++ [.inl (.int, N)], I, L) (k + 1) (q + N) Q) : xW E d mi pc lv (.int n :: st) (S, I, L) k q Q := by
  subst hp
  subst hn
  intro base ad cA D l p e R s m args below meth c Qf H locs ls C hE hI hl
  have hA : ∀ q, s.heap.size ≤ q → base ≤ q := fun q h => Nat.le_trans C.2.2.2.1 h
  refine va_newa (D := D) (A := fun q => base ≤ q) (atype := .int) (ty := .int) (a0 := (N, .inl (fun _ => 0))) (N' := N) (rest := st.map (xtr ad)) C.1.2.1 C.1.2.2.1 (C.2.1.1 _ xw_arr.1) rfl C.2.1.2.1 hI.2.1 (xD C.2.2.2.2 hI.1.2) hI.2.2 hA (fun _ => rfl) (nI_pos (by omega)) (nI_clamp (by omega)) (by show N * 4 ≤ _; omega) (by rw [C.2.2.1.2.1]; exact hk) (by rw [C.2.2.1.2.2.1]; exact hq) (xdec hf) (fun q9 cA9 H1 hK1 hP1 hD1 hS1 => ?_)
  intro T hT X
  have e9 := xnew hI C.2.2.2.2 hP1 hD1 hT X
  have hl9 : ad S.length = base + S.length := C.2.2.2.2 _ hS
  have e8 : q9 = ad S.length := by rw [hl9]; exact e9
  subst e8
  have hcA : cA9 = cA .int := by
    have g1 : s.vm.findClass ("[" ++ (.int : FieldType).toString) = some cA9 := (hK1.2 4 (cA9, .int) rfl).2
    have g2 : s.vm.findClass ("[" ++ (.int : FieldType).toString) = some (cA .int) := (C.2.1.2.1.2 0 (cA .int, .int) rfl).2
    exact Option.some.inj (g1.symm.trans g2)
  subst hcA
  refine kk base ad cA D l p e R s m args below meth c Qf H1 locs ls C hE ⟨⟨?_, ?_⟩, ?_, hS1⟩ hl T hT X
  · have := hI.1.1
    show s.heap.size + (k + 1) = base + (S ++ [_]).length
    rw [List.length_append]
    show s.heap.size + (k + 1) = base + (S.length + 1)
    have h0 : s.heap.size + k = base + S.length := this
    omega
  · show (S ++ [_]).length ≤ 1000
    rw [List.length_append]
    exact hS
  · rw [xconc_app]
    show va_P D vwCl (xconc ad cA (S, I, L) ++ [(ad S.length, .inl (cA .int, N, .inl (I S.length)))]) H1
    rw [show I S.length = (fun _ => 0) from funext hzi]
    exact hP1

theorem ws_newaZ {E : xEx} {d mi pc : Nat} {lv : xLv} {st : List Value} {S : List xSh} {I : Nat → Nat → Int32} {L : Nat → Nat → Int64} {k q : Nat} {Q : Option Value → xMem → Prop} {n : Int32} (pc' N : Nat) (hf : xft mi pc = some (.newarray .boolean, 2)) (hp : pc + 2 = pc') (hn : nI N = n) (hN : N < 100000) (hzi : ∀ j, I S.length j = 0) (hzl : ∀ j, L S.length j = 0) (hS : S.length < 1000) (hk : k + 1 ≤ xBC mi) (hq : q + N ≤ xBS mi) (kk : xW E d mi pc' lv (.ref S.length :: st) (S ++ [.inl (.boolean, N)], I, L) (k + 1) (q + N) Q) : xW E d mi pc lv (.int n :: st) (S, I, L) k q Q := by
  subst hp
  subst hn
  intro base ad cA D l p e R s m args below meth c Qf H locs ls C hE hI hl
  have hA : ∀ q, s.heap.size ≤ q → base ≤ q := fun q h => Nat.le_trans C.2.2.2.1 h
  refine va_newa (D := D) (A := fun q => base ≤ q) (atype := .boolean) (ty := .boolean) (a0 := (N, .inl (fun _ => 0))) (N' := N) (rest := st.map (xtr ad)) C.1.2.1 C.1.2.2.1 (C.2.1.1 _ xw_arr.2.2) rfl C.2.1.2.1 hI.2.1 (xD C.2.2.2.2 hI.1.2) hI.2.2 hA (fun _ => rfl) (nI_pos (by omega)) (nI_clamp (by omega)) (by show N * 1 ≤ _; omega) (by rw [C.2.2.1.2.1]; exact hk) (by rw [C.2.2.1.2.2.1]; exact hq) (xdec hf) (fun q9 cA9 H1 hK1 hP1 hD1 hS1 => ?_)
  intro T hT X
  have e9 := xnew hI C.2.2.2.2 hP1 hD1 hT X
  have hl9 : ad S.length = base + S.length := C.2.2.2.2 _ hS
  have e8 : q9 = ad S.length := by rw [hl9]; exact e9
  subst e8
  have hcA : cA9 = cA .boolean := by
    have g1 : s.vm.findClass ("[" ++ (.boolean : FieldType).toString) = some cA9 := (hK1.2 4 (cA9, .boolean) rfl).2
    have g2 : s.vm.findClass ("[" ++ (.boolean : FieldType).toString) = some (cA .boolean) := (C.2.1.2.1.2 2 (cA .boolean, .boolean) rfl).2
    exact Option.some.inj (g1.symm.trans g2)
  subst hcA
  refine kk base ad cA D l p e R s m args below meth c Qf H1 locs ls C hE ⟨⟨?_, ?_⟩, ?_, hS1⟩ hl T hT X
  · have := hI.1.1
    show s.heap.size + (k + 1) = base + (S ++ [_]).length
    rw [List.length_append]
    show s.heap.size + (k + 1) = base + (S.length + 1)
    have h0 : s.heap.size + k = base + S.length := this
    omega
  · show (S ++ [_]).length ≤ 1000
    rw [List.length_append]
    exact hS
  · rw [xconc_app]
    show va_P D vwCl (xconc ad cA (S, I, L) ++ [(ad S.length, .inl (cA .boolean, N, .inl (I S.length)))]) H1
    rw [show I S.length = (fun _ => 0) from funext hzi]
    exact hP1

theorem ws_newaL {E : xEx} {d mi pc : Nat} {lv : xLv} {st : List Value} {S : List xSh} {I : Nat → Nat → Int32} {L : Nat → Nat → Int64} {k q : Nat} {Q : Option Value → xMem → Prop} {n : Int32} (pc' N : Nat) (hf : xft mi pc = some (.newarray .long, 2)) (hp : pc + 2 = pc') (hn : nI N = n) (hN : N < 100000) (hzi : ∀ j, I S.length j = 0) (hzl : ∀ j, L S.length j = 0) (hS : S.length < 1000) (hk : k + 1 ≤ xBC mi) (hq : q + N ≤ xBS mi) (kk : xW E d mi pc' lv (.ref S.length :: st) (S ++ [.inl (.long, N)], I, L) (k + 1) (q + N) Q) : xW E d mi pc lv (.int n :: st) (S, I, L) k q Q := by
  subst hp
  subst hn
  intro base ad cA D l p e R s m args below meth c Qf H locs ls C hE hI hl
  have hA : ∀ q, s.heap.size ≤ q → base ≤ q := fun q h => Nat.le_trans C.2.2.2.1 h
  refine va_newa (D := D) (A := fun q => base ≤ q) (atype := .long) (ty := .long) (a0 := (N, .inr (.inl (fun _ => 0)))) (N' := N) (rest := st.map (xtr ad)) C.1.2.1 C.1.2.2.1 (C.2.1.1 _ xw_arr.2.1) rfl C.2.1.2.1 hI.2.1 (xD C.2.2.2.2 hI.1.2) hI.2.2 hA (fun _ => rfl) (nI_pos (by omega)) (nI_clamp (by omega)) (by show N * 8 ≤ _; omega) (by rw [C.2.2.1.2.1]; exact hk) (by rw [C.2.2.1.2.2.1]; exact hq) (xdec hf) (fun q9 cA9 H1 hK1 hP1 hD1 hS1 => ?_)
  intro T hT X
  have e9 := xnew hI C.2.2.2.2 hP1 hD1 hT X
  have hl9 : ad S.length = base + S.length := C.2.2.2.2 _ hS
  have e8 : q9 = ad S.length := by rw [hl9]; exact e9
  subst e8
  have hcA : cA9 = cA .long := by
    have g1 : s.vm.findClass ("[" ++ (.long : FieldType).toString) = some cA9 := (hK1.2 4 (cA9, .long) rfl).2
    have g2 : s.vm.findClass ("[" ++ (.long : FieldType).toString) = some (cA .long) := (C.2.1.2.1.2 1 (cA .long, .long) rfl).2
    exact Option.some.inj (g1.symm.trans g2)
  subst hcA
  refine kk base ad cA D l p e R s m args below meth c Qf H1 locs ls C hE ⟨⟨?_, ?_⟩, ?_, hS1⟩ hl T hT X
  · have := hI.1.1
    show s.heap.size + (k + 1) = base + (S ++ [_]).length
    rw [List.length_append]
    show s.heap.size + (k + 1) = base + (S.length + 1)
    have h0 : s.heap.size + k = base + S.length := this
    omega
  · show (S ++ [_]).length ≤ 1000
    rw [List.length_append]
    exact hS
  · rw [xconc_app]
    show va_P D vwCl (xconc ad cA (S, I, L) ++ [(ad S.length, .inl (cA .long, N, .inr (.inl (L S.length))))]) H1
    rw [show L S.length = (fun _ => 0) from funext hzl]
    exact hP1

theorem ws_newq {E : xEx} {d mi pc : Nat} {lv : xLv} {st : List Value} {S : List xSh} {I : Nat → Nat → Int32} {L : Nat → Nat → Int64} {k q : Nat} {Q : Option Value → xMem → Prop} {idx : Nat} {n : Int32} (pc' N : Nat) (hf : xft mi pc = some (.anewarray idx, 3)) (hp : pc + 3 = pc') (hc : xcl (xOW mi) idx = some 3) (hn : nI N = n) (hN : N < 100000) (hS : S.length < 1000) (hk : k + 1 ≤ xBC mi) (hq : q + N ≤ xBS mi) (kk : xW E d mi pc' lv (.ref S.length :: st) (S ++ [.inr (.inr (List.replicate N .null))], I, L) (k + 1) (q + N) Q) : xW E d mi pc lv (.int n :: st) (S, I, L) k q Q := by
  subst hp
  subst hn
  intro base ad cA D l p e R s m args below meth c Qf H locs ls C hE hI hl
  obtain ⟨x, hx, hx3⟩ := Option.map_eq_some_iff.mp hc
  have hm := List.mem_of_find?_eq_some hx
  have hi : x.1 = idx := by simpa using List.find?_some hx
  obtain ⟨h7, hw1, hw2, hw3⟩ := xcL_ok _ (xow mi C.1.1).2 x hm
  rw [hi, hx3] at hw1
  have hA : ∀ q, s.heap.size ≤ q → base ≤ q := fun q h => Nat.le_trans C.2.2.2.1 h
  refine va_newq (D := D) (A := fun q => base ≤ q) (C := "ShopWindow$Scene") (N' := N) (rest := st.map (xtr ad)) C.1.2.1 C.1.2.2.1 C.1.2.2.2.2 (C.2.1.1 _ (xwd_in hw1)) C.2.1.2.2.2.2.2 C.2.1.2.1 hI.2.1 (xD C.2.2.2.2 hI.1.2) hI.2.2 hA (nI_pos (by omega)) (nI_clamp (by omega)) (by omega) (by rw [C.2.2.1.2.1]; exact hk) (by rw [C.2.2.1.2.2.1]; exact hq) (xdec hf) (fun q9 cA9 H1 hK1 hP1 hD1 hS1 => ?_)
  intro T hT X
  have e9 := xnew hI C.2.2.2.2 hP1 hD1 hT X
  have hl9 : ad S.length = base + S.length := C.2.2.2.2 _ hS
  have e8 : q9 = ad S.length := by rw [hl9]; exact e9
  subst e8
  have hcA : cA9 = cA xScn := by
    obtain ⟨-, -, -, -, -, g1⟩ := (hK1.2 4 (cA9, xScn) rfl).2
    obtain ⟨-, -, -, -, -, g2⟩ := (C.2.1.2.1.2 3 (cA xScn, xScn) rfl).2
    exact Option.some.inj (g1.symm.trans g2)
  subst hcA
  refine kk base ad cA D l p e R s m args below meth c Qf H1 locs ls C hE ⟨⟨?_, ?_⟩, ?_, hS1⟩ hl T hT X
  · have := hI.1.1
    show s.heap.size + (k + 1) = base + (S ++ [_]).length
    rw [List.length_append]
    show s.heap.size + (k + 1) = base + (S.length + 1)
    have h0 : s.heap.size + k = base + S.length := this
    omega
  · show (S ++ [_]).length ≤ 1000
    rw [List.length_append]
    exact hS
  · rw [xconc_app]
    have e7 : xcell ad cA I L S.length (.inr (.inr (List.replicate N .null))) = .inl (cA xScn, N, .inr (.inr (.inr (.inr (fun _ => none))))) := by
      simp only [xcell, List.length_replicate]
      congr 7
      funext j
      by_cases hj : j < N
      · simp [hj, xro]
      · simp [hj, xro]
    rw [e7]
    exact hP1

theorem ws_gets {E : xEx} {d mi pc : Nat} {lv : xLv} {st : List Value} {σ : xMem} {k q : Nat} {Q : Option Value → xMem → Prop} {idx e9 r : Nat} (pc' : Nat) (hf : xft mi pc = some (.getstatic idx, 3)) (hp : pc + 3 = pc') (hc : xss (xOW mi) idx = some (e9, 0)) (hr : 1001 + e9 = r) (kk : xW E d mi pc' lv (.ref r :: st) σ k q Q) : xW E d mi pc lv st σ k q Q := by
  subst hp
  subst hr
  intro base ad cA D l p e R s m args below meth c Qf H locs ls C hE hI hl
  obtain ⟨x, hx, hx2⟩ := Option.map_eq_some_iff.mp hc
  have hm := List.mem_of_find?_eq_some hx
  have hi : x.1 = idx := by simpa using List.find?_some hx
  have e1 : x.2.1 = e9 := (Prod.mk.inj hx2).1
  have e2 : x.2.2.2 = 0 := (Prod.mk.inj hx2).2
  obtain ⟨h5, ⟨-, hw⟩ | ⟨h, -⟩⟩ := xsL_ok _ (xow mi C.1.1).2 x hm
  · rw [hi, e1] at hw
    rw [e1] at h5
    exact va_gets (rest := st.map (xtr ad)) C.1.2.1 C.1.2.2.1 (C.2.1.2.2.2.1 e9 h5) hI.2.2 C.1.2.2.2.2 (C.2.1.1 _ (xwd_in hw)) (fun _ h => h) (xdec hf) (kk base ad cA D l p e R s m args below meth c Qf H locs ls C hE hI hl)
  · omega
theorem ws_getsN {E : xEx} {d mi pc : Nat} {lv : xLv} {st : List Value} {σ : xMem} {k q : Nat} {Q : Option Value → xMem → Prop} {idx e9 r : Nat} (pc' : Nat) (hf : xft mi pc = some (.getstatic idx, 3)) (hp : pc + 3 = pc') (hc : xss (xOW mi) idx = some (e9, 1)) (hr : 1001 + e9 = r) (kk : xW E d mi pc' lv (.ref r :: st) σ k q Q) : xW E d mi pc lv st σ k q Q := by
  subst hp
  subst hr
  intro base ad cA D l p e R s m args below meth c Qf H locs ls C hE hI hl
  obtain ⟨x, hx, hx2⟩ := Option.map_eq_some_iff.mp hc
  have hm := List.mem_of_find?_eq_some hx
  have hi : x.1 = idx := by simpa using List.find?_some hx
  have e1 : x.2.1 = e9 := (Prod.mk.inj hx2).1
  have e2 : x.2.2.2 = 1 := (Prod.mk.inj hx2).2
  obtain ⟨h5, ⟨h, -⟩ | ⟨-, hw⟩⟩ := xsL_ok _ (xow mi C.1.1).2 x hm
  · omega
  · rw [hi, e1] at hw
    rw [e1] at h5
    exact va_getsN (rest := st.map (xtr ad)) C.1.2.1 C.1.2.2.1 (C.2.1.2.2.2.1 e9 h5) hI.2.2 C.1.2.2.2.2 (va_Nw.use rfl (C.2.1.2.2.2.2.1 _ (xNst_at hw rfl))) (fun _ h => h) (xdec hf) (kk base ad cA D l p e R s m args below meth c Qf H locs ls C hE hI hl)

theorem ws_iret {E : xEx} {d mi pc : Nat} {lv : xLv} {σ : xMem} {k q : Nat} {Q : Option Value → xMem → Prop} {v : Int32} (hf : xft mi pc = some (.ireturn, 1)) (hr : xRT mi = some .int) (hk : k = xBC mi) (hq : q ≤ xBS mi) (h : Q (some (.int v)) σ) : xW E d mi pc lv [.int v] σ k q Q := by
  subst hk
  intro base ad cA D l p e R s m args below meth c Qf H locs ls C hE hI hl
  exact W.widen (Nat.le_refl _) hq (hE (some (.int v)) σ H locs pc ls h hI ⟨xdec hf, Or.inl hr⟩)
theorem ws_zret {E : xEx} {d mi pc : Nat} {lv : xLv} {σ : xMem} {k q : Nat} {Q : Option Value → xMem → Prop} {v : Int32} (hf : xft mi pc = some (.ireturn, 1)) (hr : xRT mi = some .boolean) (hv : v = 0 ∨ v = 1) (hk : k = xBC mi) (hq : q ≤ xBS mi) (h : Q (some (.int v)) σ) : xW E d mi pc lv [.int v] σ k q Q := by
  subst hk
  intro base ad cA D l p e R s m args below meth c Qf H locs ls C hE hI hl
  exact W.widen (Nat.le_refl _) hq (hE (some (.int v)) σ H locs pc ls h hI ⟨xdec hf, Or.inr ⟨hr, hv⟩⟩)
theorem ws_lret {E : xEx} {d mi pc : Nat} {lv : xLv} {σ : xMem} {k q : Nat} {Q : Option Value → xMem → Prop} {v : Int64} (hf : xft mi pc = some (.lreturn, 1)) (hr : xRT mi = some .long) (hk : k = xBC mi) (hq : q ≤ xBS mi) (h : Q (some (.long v)) σ) : xW E d mi pc lv [.long v] σ k q Q := by
  subst hk
  intro base ad cA D l p e R s m args below meth c Qf H locs ls C hE hI hl
  exact W.widen (Nat.le_refl _) hq (hE (some (.long v)) σ H locs pc ls h hI ⟨xdec hf, hr⟩)
theorem ws_vret {E : xEx} {d mi pc : Nat} {lv : xLv} {σ : xMem} {k q : Nat} {Q : Option Value → xMem → Prop} (hf : xft mi pc = some (.return_, 1)) (hr : xRT mi = none) (hk : k = xBC mi) (hq : q ≤ xBS mi) (h : Q none σ) : xW E d mi pc lv [] σ k q Q := by
  subst hk
  intro base ad cA D l p e R s m args below meth c Qf H locs ls C hE hI hl
  exact W.widen (Nat.le_refl _) hq (hE none σ H locs pc ls h hI ⟨xdec hf, hr⟩)

theorem ws_oinit {E : xEx} {d mi pc : Nat} {lv : xLv} {st : List Value} {σ : xMem} {k q : Nat} {Q : Option Value → xMem → Prop} {idx o : Nat} {z : Nat} (pc' : Nat) (hf : xft mi pc = some (.invokespecial idx, 3)) (hp : pc + 3 = pc') (hm : xmt (xOW mi) idx = some (3, z)) (hd : 1 ≤ d) (hs : (st.map fun v => v.category).sum ≤ 8) (kk : xW E d mi pc' lv st σ k q Q) : xW E d mi pc lv (.ref o :: st) σ k q Q := by
  subst hp
  intro base ad cA D l p e R s m args below meth c Qf H locs ls C hE hI hl
  obtain ⟨x, hx, hx2⟩ := Option.map_eq_some_iff.mp hm
  have hmm := List.mem_of_find?_eq_some hx
  have hi : x.1 = idx := by simpa using List.find?_some hx
  have e1 : x.2.1 = 3 := (Prod.mk.inj hx2).1
  have hw := xmL_ok _ (xow mi C.1.1).2 x hmm
  unfold xmOk at hw
  simp only [e1, hi] at hw
  have hcs : ((st.map (xtr ad)).map fun v => v.category).sum = (st.map fun v => v.category).sum := by
    congr 1
    rw [List.map_map]
    apply List.map_congr_left
    intro v _
    exact xtr_cat ad v
  have hfr := C.2.2.1.2.2.2.1
  have hlo := C.2.2.1.2.2.2.2
  refine W.objInit (a := ad o) (rest := st.map (xtr ad)) C.1.2.1 C.1.2.2.1 C.1.2.2.2.2 (C.2.1.1 _ (xwd_in hw)) (C.2.1.1 _ xw_objInit.1) (C.2.1.1 _ xw_objInit.2) rfl (by show ls.size = _; rw [hl.1, C.1.2.2.2.1]) rfl (xdec hf) (by omega) ?_ (kk base ad cA D l p e R s m args below meth c Qf H locs ls C hE hI hl)
  show 2 * 0 + _ + 12 ≤ _
  rw [hcs]
  omega
end
section
/-! ===== calls ===== -/
theorem xNst_ok {w : Cond} (h : w ∈ xNst) : w.onTables = true ∧ ∀ {s U : State}, s.WarmedH U.vm → va_Nw w s → va_Nw w U := by
  have h1 : xnst w = true := (List.mem_filter.mp h).2
  cases w with
  | methodLinkNest a i x h => exact ⟨rfl, fun hW hZ => va_Nw.warmM hW hZ⟩
  | fieldLinkNest a i b n d h => exact ⟨rfl, fun hW hZ => va_Nw.warmF hW hZ⟩
  | _ => cases h1
theorem xExt.call {E : xEx} {base : Nat} {ad : Nat → Nat} {U : State} {g : JFrame} {mk : MethodId} {a : Array Value} (h : xExt E base ad U U.heap) : xExt E base ad (U.calling g mk a) (U.calling g mk a).heap :=
  ⟨fun i N f he => va_T.moved (u := U) (U := U.calling g mk a) (Vm.Alike.refl U.vm) (h.1 i N f he), fun e he => va_Z.moved (u := U) (U := U.calling g mk a) (Vm.Alike.refl U.vm) (h.2.1 e he), fun w hw => va_Nw.same (xNst_ok hw).1 (u := U) (U := U.calling g mk a) rfl (h.2.2.1 w hw), va_AO.moved (u := U) (U := U.calling g mk a) (Vm.Alike.refl U.vm) h.2.2.2⟩
theorem xExt.warm {E : xEx} {base : Nat} {ad : Nat → Nat} {s U : State} {H : Heap} {locs : List Loc} (h : xExt E base ad s s.heap) (hS : va_S (fun q => base ≤ q) s.heap H locs) (hU : U.heap = H) (hW : s.WarmedH U.vm) : xExt E base ad U U.heap := by
  rw [hU]
  exact ⟨fun i N f he => va_T.moved hW.alike ((h.1 i N f he).kept hS.2.1), fun e he => va_Z.moved hW.alike ((h.2.1 e he).kept hS.2.1), fun w hw => (xNst_ok hw).2 hW (h.2.2.1 w hw), va_AO.moved hW.alike h.2.2.2⟩
def xPc (E : xEx) (base : Nat) (ad : Nat → Nat) (cA : FieldType → ClassId) (D : va_G) (σ : xMem) (As : List Value) : Array Value → State → Prop := fun a U => a = (As.map (xtr ad)).toArray ∧ U.heap.size = base + σ.1.length ∧ va_K D vwCl (xtys cA) U ∧ xExt E base ad U U.heap ∧ va_P D vwCl (xconc ad cA σ) U.heap
def xQc (mi base : Nat) (ad : Nat → Nat) (cA : FieldType → ClassId) (D : va_G) (Q : Option Value → xMem → Prop) : Array Value → State → Outcome → State → Prop := fun _ st o t => ∃ (r : Option Value) (σ : xMem), o = .returned (r.map (xtr ad)) ∧ Q r σ ∧ (st.heap.size + xBC mi = base + σ.1.length ∧ σ.1.length ≤ 1000) ∧ va_P D vwCl (xconc ad cA σ) t.heap ∧ ∀ q, q < base → t.heap[q]? = st.heap[q]?
abbrev xws (mi : Nat) : List Cond := Cond.code (xY mi) (xCC mi) (xML mi) (xRT mi) :: xTbl
abbrev xrm (d mi : Nat) : Room := { frames := d, cells := xBC mi, slots := xBS mi, locals := 60 * d }
theorem xMet {E : xEx} {d mi : Nat} {As : List Value} {σ : xMem} {Q : Option Value → xMem → Prop} (hC : xC E d mi As σ Q) (hmi : mi < 144) (hA : (xargs As).length ≤ xML mi) (hlen : σ.1.length ≤ 1000) (base : Nat) (ad : Nat → Nat) (cA : FieldType → ClassId) (D : va_G) (had : ∀ k, k < 1000 → ad k = base + k) (l : Launch) : Met l (xY mi) (xws mi) (xrm d mi) (xPc E base ad cA D σ As) (xQc mi base ad cA D Q) (xBC mi) (xBS mi) (fun q => base ≤ q) := by
  refine va_MetF (cc := xCC mi) (maxL := xML mi) (ret := xRT mi) (xpl mi (by omega)) rfl ?_
  intro p e s m args below meth c s₁ B hml hv
  obtain ⟨rfl, hsz, hK, hX, hP⟩ := hv
  have hts := atoms_spec (ws := xws mi) B.pre
  have hl := lv_entry (As.map (xtr ad)) (n := xML mi) (by rw [xargs_len]; exact hA)
  have hlocks := B.notSynchronized
  rw [lg_entry_eq]
  generalize (lg_sl (As.map (xtr ad)) ++ List.replicate (xML mi - (lg_sl (As.map (xtr ad))).length) Slot.unset).toArray = ls at hl ⊢
  rw [xargs_lv ad As 0] at hl
  have hbase : base ≤ s.heap.size := by omega
  refine hC base ad cA D l p e _ s m _ below meth c _ s.heap [] ls ⟨⟨by omega, B.exec, B.bytes, hml, ?_⟩, ⟨fun w hw => hts w (List.mem_cons_of_mem _ hw), hK, hX⟩, ⟨fun hin => ?_, rfl, rfl, Nat.le_refl _, Nat.le_refl _⟩, hbase, had⟩ ?_ ⟨⟨hsz, hlen⟩, hP, va_S.rf⟩ (by rw [xpad_lv]; exact hl)
  · rw [(xow mi (by omega)).1]
    exact findClass_of_methodNamed B.named
  · rw [(name_of_methodNamed B.named B.method).1]
    exact xin mi (by omega) hin
  · intro r σ' H locs pc ls' hQ hI' hRet
    have hq : ∀ t : State, t.heap = H → s.WarmedH t.vm → xQc mi base ad cA D Q (As.map (xtr ad)).toArray s (.returned (r.map (xtr ad))) t := by
      intro t ht _
      refine ⟨r, σ', rfl, hQ, ⟨hI'.1.1, hI'.1.2⟩, by rw [ht]; exact hI'.2.1, fun q hq => ?_⟩
      rw [ht]
      exact hI'.2.2.2.1 q (by omega) (by omega)
    have hf : ∀ q ∈ locs, base ≤ q.base := hI'.2.2.2.2
    have hret := B.returns
    cases r with
    | none => exact W.vret B.exec B.bytes (hret.trans hRet.2) hq hf hRet.1
    | some v =>
      cases v with
      | int v =>
        obtain ⟨h1, h2 | ⟨h2, h3⟩⟩ := hRet
        · exact W.iret B.exec B.bytes (hret.trans h2) hq hf h1
        · exact W.zret (ty := .boolean) B.exec B.bytes (hret.trans h2) (by rcases h3 with rfl | rfl <;> rfl) hq hf h1
      | long v => exact W.lret B.exec B.bytes (hret.trans hRet.2) hq hf hRet.1
      | _ => exact hRet.elim
section XGO
variable {base : Nat} {ad : Nat → Nat} {cA : FieldType → ClassId} {D : va_G} {l : Launch} {p : Program} {e : Env} {R : Room} {s : State} {m : MethodId} {args : Array Value} {below : List Frame} {meth : Method} {c : Code} {Qf : State → Prop} {H : Heap} {locs : List Loc} {ls : Array Slot}
theorem xgo {cal k q pc : Nat} {σ : xMem} {Q2 : Option Value → xMem → Prop} {a : Array Value} {st0 rest : List Value} (hr : va_Run p l e R s m args below meth c H locs k q (xBC cal) (xBS cal) (F0 m pc ls st0) rest (xQc cal base ad cA D Q2 a) (fun q => base ≤ q)) (hI : xInv base ad cA D s σ k H locs) (hz : H.size = base + σ.1.length) (hb : base ≤ s.heap.size)
    (kk : ∀ (r : Option Value) (σ' : xMem) (H1 : Heap) (locs1 : List Loc), Q2 r σ' → xInv base ad cA D s σ' (k + xBC cal) H1 locs1 → W p l e R s m args below meth c H1 locs1 (k + xBC cal) (q + xBS cal) Qf (F0 m (pc + 3) ls ((r.map (xtr ad)).toList ++ rest))) : W p l e R s m args below meth c H locs k q Qf (F0 m pc ls st0) := by
  intro T hT X
  obtain ⟨v, st₀, t, T', L, h0, X', hL, e1, e2, ⟨r, σ', hv, hQ, ⟨hz1, hz2⟩, hP, hfr⟩, st⟩ := hr T hT X
  cases hv
  have h5 : s.heap.size ≤ T'.heap.size := X'.same.2.1
  obtain ⟨t2, a1, b1⟩ := kk r σ' T'.heap (locs ++ L) hQ ⟨⟨by rw [h0] at hz1; have := hI.1.1; omega, hz2⟩, by rw [e1]; exact hP, h5, fun q h1 h2 => by
      rw [e1, hfr q (by omega), h0]
      exact hI.2.2.2.1 q h1 h2, fun q hq => by
      rcases List.mem_append.mp hq with h | h
      · exact hI.2.2.2.2 q h
      · exact hL q h⟩ T' rfl X'
  exact ⟨t2, st t2 a1, b1⟩
end XGO
theorem xPc_blind {E : xEx} {base : Nat} {ad : Nat → Nat} {cA : FieldType → ClassId} {D : va_G} {σ : xMem} {As : List Value} : FrameBlind (xPc E base ad cA D σ As) := by
  intro a U g mk h
  obtain ⟨h1, h2, h3, h4, h5⟩ := h
  exact ⟨h1, h2, va_K.moved (u := U) (U := U.calling g mk a) (Vm.Alike.refl U.vm) h3, h4.call, h5⟩
theorem xGood {w : Cond} (h : w ∈ xTbl) : w ∈ xTbl ∧ ((w.onTables && w.keeps) = true ∨ ∃ ty, w = .arrayClass ty) := xTbl_good w h
theorem xws_good {mi : Nat} (h : mi < 144) : GoodIn xTbl (xws mi) := by
  intro w hw
  rcases List.mem_cons.mp hw with rfl | hw
  · exact xGood (xwc mi h)
  · exact xGood hw
def xsum (l : List Value) : Nat := match l with
  | [] => 0
  | v :: r => (bif xcat v then 2 else 1) + xsum r
theorem xsum_of (ad : Nat → Nat) : ∀ l : List Value, ((l.map (xtr ad)).map fun v => v.category).sum = xsum l
  | [] => rfl
  | v :: r => by
    have ih := xsum_of ad r
    rw [List.map_cons, List.map_cons, List.sum_cons, ih, xtr_cat]
    have e : v.category = (bif xcat v then 2 else 1) := by cases v <;> rfl
    rw [e]
    rfl
/-- what a call needs, decided -/
def xokc (mi cal n : Nat) (As rest : List Value) (d1 d k q : Nat) : Bool := Nat.blt cal 144 && (Nat.ble (xargs As).length (xML cal) && (Nat.beq n (xNP cal) && (Nat.ble (d1 + 1) d && (Nat.ble (xsum rest) 8 && (Nat.ble (k + xBC cal) (xBC mi) && Nat.ble (q + xBS cal) (xBS mi))))))
theorem xokc_of {mi cal n : Nat} {As rest : List Value} {d1 d k q : Nat} (h : xokc mi cal n As rest d1 d k q = true) : cal < 144 ∧ (xargs As).length ≤ xML cal ∧ n = xNP cal ∧ d1 + 1 ≤ d ∧ xsum rest ≤ 8 ∧ k + xBC cal ≤ xBC mi ∧ q + xBS cal ≤ xBS mi := by
  unfold xokc at h
  simp only [Bool.and_eq_true] at h
  exact ⟨Nat.le_of_ble_eq_true h.1, Nat.le_of_ble_eq_true h.2.1, Nat.eq_of_beq_eq_true h.2.2.1, Nat.le_of_ble_eq_true h.2.2.2.1, Nat.le_of_ble_eq_true h.2.2.2.2.1, Nat.le_of_ble_eq_true h.2.2.2.2.2.1, Nat.le_of_ble_eq_true h.2.2.2.2.2.2⟩
theorem xmt_of {ow idx kd cal : Nat} (h : xmt ow idx = some (kd, cal)) (ho : ow < 11) : ∃ e ∈ xmL.getD ow [], e.1 = idx ∧ e.2.1 = kd ∧ e.2.2.1 = cal ∧ xmOk ow e = true := by
  obtain ⟨x, hx, hx2⟩ := Option.map_eq_some_iff.mp h
  have hm := List.mem_of_find?_eq_some hx
  exact ⟨x, hm, by simpa using List.find?_some hx, (Prod.mk.inj hx2).1, (Prod.mk.inj hx2).2, xmL_ok ow ho x hm⟩
section XCALL
variable {E : xEx} {d mi pc idx cal d1 : Nat} {lv : xLv} {rest As : List Value} {σ : xMem} {k q : Nat} {Q Qc : Option Value → xMem → Prop}
theorem ws_invS (pc' k' q' : Nat) (hf : xft mi pc = some (.invokestatic idx, 3)) (hp : pc + 3 = pc') (hm : xmt (xOW mi) idx = some (0, cal)) (hC : xC E d1 cal As σ Qc) (hk : xokc mi cal As.length As rest d1 d k q = true) (hk' : k + xBC cal = k') (hq' : q + xBS cal = q') (kk : ∀ r t, Qc r t → xW E d mi pc' lv (r.toList ++ rest) t k' q' Q) : xW E d mi pc lv (As.reverse ++ rest) σ k q Q := by
  subst hp
  subst hk'
  subst hq'
  intro base ad cA D l p e R s m args below meth c Qf H locs ls C hE hI hl
  obtain ⟨c1, c2, c3, c4, c5, c6, c7⟩ := xokc_of hk
  obtain ⟨x, hmx, i1, i2, i3, i4⟩ := xmt_of hm (xow mi C.1.1).2
  unfold xmOk at i4
  simp only [i1, i2, i3, Bool.and_eq_true] at i4
  obtain ⟨⟨w1, w2⟩, w3⟩ := i4
  have hfr := C.2.2.1.2.2.2.1
  have hlo := C.2.2.1.2.2.2.2
  have hml := xml cal (by omega)
  intro T hT X
  have hz := xsize hI C.2.2.2.1 C.2.2.2.2 hT X
  refine (xgo (cal := cal) (σ := σ) (rest := rest.map (xtr ad)) (va_runS (nL := xML mi) (n := xNP cal) (Ts := xTbl) (own := xRo (xOW mi)) (As := As.map (xtr ad)) ⟨C.1.2.1, C.1.2.2.1, C.1.2.2.2.1, C.1.2.2.2.2, C.2.1.1⟩ (xMet hC c1 c2 hI.1.2 base ad cA D C.2.2.2.2 l) (va_cwS (xNP cal) C.2.1.1 (fun w hw => ?_) rfl rfl rfl (xds cal (by omega)) ⟨by show d1 + 1 ≤ _; omega, by show 8 + (xML cal + 11) + 60 * d1 ≤ _; omega⟩) ⟨xPc_blind, fun U hU hW => ⟨rfl, by rw [hU]; exact hz, va_K.moved hW.alike C.2.1.2.1, xExt.warm C.2.1.2.2 hI.2.2 hU hW, by rw [hU]; exact hI.2.1⟩⟩ rfl (by rw [List.length_map]; exact c3) hl.1 (by show (As.reverse ++ rest).map (xtr ad) = _; rw [List.map_append, List.map_reverse]) (by rw [xsum_of]; show 2 * 0 + xsum rest ≤ 8; omega) (xdec hf) ⟨by rw [C.2.2.1.2.1]; exact c6, by rw [C.2.2.1.2.2.1]; exact c7⟩) hI hz C.2.2.2.1 (fun r σ' H1 locs1 hQ hI1 => ?_)) T hT X
  · unfold va_wsS at hw
    rcases List.mem_append.mp hw with hw | hw
    · simp only [List.mem_cons, List.not_mem_nil, or_false] at hw
      rcases hw with rfl | rfl | rfl
      · exact xGood (xwd_in w1)
      · exact xGood (xwd_in w2)
      · exact xGood (xwd_in w3)
    · exact xws_good c1 w hw
  · have e9 : (r.map (xtr ad)).toList ++ rest.map (xtr ad) = (r.toList ++ rest).map (xtr ad) := by cases r <;> simp
    rw [e9]
    exact kk r σ' hQ base ad cA D l p e R s m args below meth c Qf H1 locs1 ls C hE hI1 hl
theorem ws_invSN (pc' k' q' : Nat) (hf : xft mi pc = some (.invokestatic idx, 3)) (hp : pc + 3 = pc') (hm : xmt (xOW mi) idx = some (10, cal)) (hC : xC E d1 cal As σ Qc) (hk : xokc mi cal As.length As rest d1 d k q = true) (hk' : k + xBC cal = k') (hq' : q + xBS cal = q') (kk : ∀ r t, Qc r t → xW E d mi pc' lv (r.toList ++ rest) t k' q' Q) : xW E d mi pc lv (As.reverse ++ rest) σ k q Q := by
  subst hp
  subst hk'
  subst hq'
  intro base ad cA D l p e R s m args below meth c Qf H locs ls C hE hI hl
  obtain ⟨c1, c2, c3, c4, c5, c6, c7⟩ := xokc_of hk
  obtain ⟨x, hmx, i1, i2, i3, i4⟩ := xmt_of hm (xow mi C.1.1).2
  unfold xmOk at i4
  simp only [i1, i2, i3, Bool.and_eq_true, decide_eq_true_eq] at i4
  obtain ⟨⟨w1, w2⟩, w3⟩ := i4
  have hfr := C.2.2.1.2.2.2.1
  have hlo := C.2.2.1.2.2.2.2
  have hml := xml cal (by omega)
  intro T hT X
  have hz := xsize hI C.2.2.2.1 C.2.2.2.2 hT X
  refine (xgo (cal := cal) (σ := σ) (rest := rest.map (xtr ad)) (va_runSN (nL := xML mi) (n := xNP cal) (Ts := xTbl) (own := xRo (xOW mi)) (As := As.map (xtr ad)) ⟨C.1.2.1, C.1.2.2.1, C.1.2.2.2.1, C.1.2.2.2.2, C.2.1.1⟩ (xMet hC c1 c2 hI.1.2 base ad cA D C.2.2.2.2 l) ⟨va_cnB (xNP cal) C.2.1.1 (xws_good c1) rfl rfl rfl (C.2.1.2.2.2.2.1 _ (xNst_at w1 rfl)) (C.2.1.1 _ (xwd_in w3)) (xds cal (by omega)) ⟨by show d1 + 1 ≤ _; omega, by show 8 + (xML cal + 11) + 60 * d1 ≤ _; omega⟩, C.2.1.1 _ (xwd_in w2), trivial⟩ ⟨xPc_blind, fun U hU hW => ⟨rfl, by rw [hU]; exact hz, va_K.moved hW.alike C.2.1.2.1, xExt.warm C.2.1.2.2 hI.2.2 hU hW, by rw [hU]; exact hI.2.1⟩⟩ rfl (by rw [List.length_map]; exact c3) hl.1 (by show (As.reverse ++ rest).map (xtr ad) = _; rw [List.map_append, List.map_reverse]) (by rw [xsum_of]; show 2 * 0 + xsum rest ≤ 8; omega) (xdec hf) ⟨by rw [C.2.2.1.2.1]; exact c6, by rw [C.2.2.1.2.2.1]; exact c7⟩) hI hz C.2.2.2.1 (fun r σ' H1 locs1 hQ hI1 => ?_)) T hT X
  have e9 : (r.map (xtr ad)).toList ++ rest.map (xtr ad) = (r.toList ++ rest).map (xtr ad) := by cases r <;> simp
  rw [e9]
  exact kk r σ' hQ base ad cA D l p e R s m args below meth c Qf H1 locs1 ls C hE hI1 hl
theorem ws_invV {S : List xSh} {I : Nat → Nat → Int32} {L : Nat → Nat → Int64} {o : Nat} {fs : List Value} (pc' k' q' : Nat) (hf : xft mi pc = some (.invokevirtual idx, 3)) (hp : pc + 3 = pc') (hm : xmt (xOW mi) idx = some (1, cal)) (ho : S[o]? = some (.inr (.inl (xOW cal, fs)))) (hC : xC E d1 cal (.ref o :: As) (S, I, L) Qc) (hk : xokc mi cal As.length (.ref o :: As) rest d1 d k q = true) (hk' : k + xBC cal = k') (hq' : q + xBS cal = q') (kk : ∀ r t, Qc r t → xW E d mi pc' lv (r.toList ++ rest) t k' q' Q) : xW E d mi pc lv (As.reverse ++ .ref o :: rest) (S, I, L) k q Q := by
  subst hp
  subst hk'
  subst hq'
  intro base ad cA D l p e R s m args below meth c Qf H locs ls C hE hI hl
  obtain ⟨c1, c2, c3, c4, c5, c6, c7⟩ := xokc_of hk
  obtain ⟨x, hmx, i1, i2, i3, i4⟩ := xmt_of hm (xow mi C.1.1).2
  unfold xmOk at i4
  simp only [i1, i2, i3, Bool.and_eq_true] at i4
  obtain ⟨⟨⟨w1, w2⟩, w3⟩, w4⟩ := i4
  have hfr := C.2.2.1.2.2.2.1
  have hlo := C.2.2.1.2.2.2.2
  have hml := xml cal (by omega)
  have hcl : ∃ q : vw_C, vwCl[xOW cal]? = some q ∧ q.1 = (xY cal).cls := by
    have h1 : xOW cal < 7 := by
      obtain ⟨r, hr, -⟩ := hI.2.1 o _ (xconc_at ho)
      exact (List.getElem?_eq_some_iff.mp hr).1
    exact ⟨_, xvw _ h1, (xow cal (by omega)).1⟩
  obtain ⟨qc, hqc, hqn⟩ := hcl
  intro T hT X
  have hz := xsize hI C.2.2.2.1 C.2.2.2.2 hT X
  refine (xgo (cal := cal) (σ := (S, I, L)) (rest := rest.map (xtr ad)) (va_runV (nL := xML mi) (n := xNP cal) (Ts := xTbl) (own := xRo (xOW mi)) (C := (xY cal).cls) (b := ad o) (As := As.map (xtr ad)) ⟨C.1.2.1, C.1.2.2.1, C.1.2.2.2.1, C.1.2.2.2.2, C.2.1.1⟩ (xMet hC c1 c2 hI.1.2 base ad cA D C.2.2.2.2 l) (cwV (xNP cal) C.2.1.1 (fun w hw => ?_) rfl rfl rfl ⟨rfl, xds cal (by omega)⟩ ⟨by show d1 + 1 ≤ _; omega, by show 8 + (xML cal + 11) + 60 * d1 ≤ _; omega⟩) ⟨xPc_blind, by rw [← hqn]; exact va_recv C.2.1.2.1 hI.2.1 hqc (xconc_at ho), fun U hU hW => ⟨rfl, by rw [hU]; exact hz, va_K.moved hW.alike C.2.1.2.1, xExt.warm C.2.1.2.2 hI.2.2 hU hW, by rw [hU]; exact hI.2.1⟩⟩ rfl (by rw [List.length_map]; exact c3) hl.1 (by show (As.reverse ++ .ref o :: rest).map (xtr ad) = _; rw [List.map_append, List.map_reverse]; rfl) (by rw [xsum_of]; show 2 * 0 + xsum rest ≤ 8; omega) (xdec hf) ⟨by rw [C.2.2.1.2.1]; exact c6, by rw [C.2.2.1.2.2.1]; exact c7⟩) hI hz C.2.2.2.1 (fun r σ' H1 locs1 hQ hI1 => ?_)) T hT X
  · unfold wsV at hw
    rcases List.mem_append.mp hw with hw | hw
    · simp only [List.mem_cons, List.not_mem_nil, or_false] at hw
      rcases hw with rfl | rfl | rfl | rfl
      all_goals first | exact xGood (xwd_in w1) | exact xGood (xwd_in w2) | exact xGood (xwd_in w3) | exact xGood (xwd_in w4)
    · exact xws_good c1 w hw
  · have e9 : (r.map (xtr ad)).toList ++ rest.map (xtr ad) = (r.toList ++ rest).map (xtr ad) := by cases r <;> simp
    rw [e9]
    exact kk r σ' hQ base ad cA D l p e R s m args below meth c Qf H1 locs1 ls C hE hI1 hl
theorem ws_invI {o : Nat} (pc' k' q' : Nat) (hf : xft mi pc = some (.invokespecial idx, 3)) (hp : pc + 3 = pc') (hm : xmt (xOW mi) idx = some (2, cal)) (hC : xC E d1 cal (.ref o :: As) σ Qc) (hk : xokc mi cal As.length (.ref o :: As) rest d1 d k q = true) (hk' : k + xBC cal = k') (hq' : q + xBS cal = q') (kk : ∀ r t, Qc r t → xW E d mi pc' lv (r.toList ++ rest) t k' q' Q) : xW E d mi pc lv (As.reverse ++ .ref o :: rest) σ k q Q := by
  subst hp
  subst hk'
  subst hq'
  intro base ad cA D l p e R s m args below meth c Qf H locs ls C hE hI hl
  obtain ⟨c1, c2, c3, c4, c5, c6, c7⟩ := xokc_of hk
  obtain ⟨x, hmx, i1, i2, i3, i4⟩ := xmt_of hm (xow mi C.1.1).2
  unfold xmOk at i4
  simp only [i1, i2, i3, Bool.and_eq_true, decide_eq_true_eq] at i4
  obtain ⟨⟨⟨⟨w1, w2⟩, w3⟩, w4⟩, w5⟩ := i4
  have hfr := C.2.2.1.2.2.2.1
  have hlo := C.2.2.1.2.2.2.2
  have hml := xml cal (by omega)
  intro T hT X
  have hz := xsize hI C.2.2.2.1 C.2.2.2.2 hT X
  have hM := xMet hC c1 c2 hI.1.2 base ad cA D C.2.2.2.2 l
  have hw5 : xws cal = Cond.code (xY cal) (xCC cal) (xML cal) none :: xTbl := by show Cond.code _ _ _ (xRT cal) :: _ = _; rw [w5]
  refine (xgo (cal := cal) (σ := σ) (rest := rest.map (xtr ad)) (va_runI (nL := xML mi) (n := xNP cal) (Ts := xTbl) (own := xRo (xOW mi)) (b := ad o) (As := As.map (xtr ad)) ⟨C.1.2.1, C.1.2.2.1, C.1.2.2.2.1, C.1.2.2.2.2, C.2.1.1⟩ hM (cwI (xNP cal) C.2.1.1 (xws_good c1) hw5 rfl rfl (C.2.1.1 _ (xwd_in w3)) (C.2.1.1 _ (xwd_in w1)) (C.2.1.1 _ (xwd_in w2)) w4 (xds cal (by omega)) ⟨by show d1 + 1 ≤ _; omega, by show 8 + (xML cal + 11) + 60 * d1 ≤ _; omega⟩) ⟨xPc_blind, fun U hU hW => ⟨rfl, by rw [hU]; exact hz, va_K.moved hW.alike C.2.1.2.1, xExt.warm C.2.1.2.2 hI.2.2 hU hW, by rw [hU]; exact hI.2.1⟩⟩ rfl (by rw [List.length_map]; exact c3) hl.1 (by show (As.reverse ++ .ref o :: rest).map (xtr ad) = _; rw [List.map_append, List.map_reverse]; rfl) (by rw [xsum_of]; show 2 * 0 + xsum rest ≤ 8; omega) (xdec hf) ⟨by rw [C.2.2.1.2.1]; exact c6, by rw [C.2.2.1.2.2.1]; exact c7⟩) hI hz C.2.2.2.1 (fun r σ' H1 locs1 hQ hI1 => ?_)) T hT X
  have e9 : (r.map (xtr ad)).toList ++ rest.map (xtr ad) = (r.toList ++ rest).map (xtr ad) := by cases r <;> simp
  rw [e9]
  exact kk r σ' hQ base ad cA D l p e R s m args below meth c Qf H1 locs1 ls C hE hI1 hl
theorem ws_invIN {o : Nat} (pc' k' q' : Nat) (hf : xft mi pc = some (.invokespecial idx, 3)) (hp : pc + 3 = pc') (hm : xmt (xOW mi) idx = some (12, cal)) (hC : xC E d1 cal (.ref o :: As) σ Qc) (hk : xokc mi cal As.length (.ref o :: As) rest d1 d k q = true) (hk' : k + xBC cal = k') (hq' : q + xBS cal = q') (kk : ∀ r t, Qc r t → xW E d mi pc' lv (r.toList ++ rest) t k' q' Q) : xW E d mi pc lv (As.reverse ++ .ref o :: rest) σ k q Q := by
  subst hp
  subst hk'
  subst hq'
  intro base ad cA D l p e R s m args below meth c Qf H locs ls C hE hI hl
  obtain ⟨c1, c2, c3, c4, c5, c6, c7⟩ := xokc_of hk
  obtain ⟨x, hmx, i1, i2, i3, i4⟩ := xmt_of hm (xow mi C.1.1).2
  unfold xmOk at i4
  simp only [i1, i2, i3, Bool.and_eq_true, decide_eq_true_eq] at i4
  obtain ⟨⟨⟨⟨w1, w2⟩, w3⟩, w4⟩, w5⟩ := i4
  have hfr := C.2.2.1.2.2.2.1
  have hlo := C.2.2.1.2.2.2.2
  have hml := xml cal (by omega)
  intro T hT X
  have hz := xsize hI C.2.2.2.1 C.2.2.2.2 hT X
  have hM := xMet hC c1 c2 hI.1.2 base ad cA D C.2.2.2.2 l
  have hw5 : xws cal = Cond.code (xY cal) (xCC cal) (xML cal) none :: xTbl := by show Cond.code _ _ _ (xRT cal) :: _ = _; rw [w5]
  refine (xgo (cal := cal) (σ := σ) (rest := rest.map (xtr ad)) (va_runIN (nL := xML mi) (n := xNP cal) (Ts := xTbl) (own := xRo (xOW mi)) (b := ad o) (As := As.map (xtr ad)) ⟨C.1.2.1, C.1.2.2.1, C.1.2.2.2.1, C.1.2.2.2.2, C.2.1.1⟩ hM ⟨va_cnB (xNP cal) C.2.1.1 (xws_good c1) hw5 rfl rfl (C.2.1.2.2.2.2.1 _ (xNst_at w1 rfl)) (C.2.1.1 _ (xwd_in w3)) (xds cal (by omega)) ⟨by show d1 + 1 ≤ _; omega, by show 8 + (xML cal + 11) + 60 * d1 ≤ _; omega⟩, w4, C.2.1.1 _ (xwd_in w2)⟩ ⟨xPc_blind, fun U hU hW => ⟨rfl, by rw [hU]; exact hz, va_K.moved hW.alike C.2.1.2.1, xExt.warm C.2.1.2.2 hI.2.2 hU hW, by rw [hU]; exact hI.2.1⟩⟩ rfl (by rw [List.length_map]; exact c3) hl.1 (by show (As.reverse ++ .ref o :: rest).map (xtr ad) = _; rw [List.map_append, List.map_reverse]; rfl) (by rw [xsum_of]; show 2 * 0 + xsum rest ≤ 8; omega) (xdec hf) ⟨by rw [C.2.2.1.2.1]; exact c6, by rw [C.2.2.1.2.2.1]; exact c7⟩) hI hz C.2.2.2.1 (fun r σ' H1 locs1 hQ hI1 => ?_)) T hT X
  have e9 : (r.map (xtr ad)).toList ++ rest.map (xtr ad) = (r.toList ++ rest).map (xtr ad) := by cases r <;> simp
  rw [e9]
  exact kk r σ' hQ base ad cA D l p e R s m args below meth c Qf H1 locs1 ls C hE hI1 hl
theorem ws_copy {S : List xSh} {I : Nat → Nat → Int32} {L : Nat → Nat → Int64} {a a0 n0 n1 z : Nat} {n sp dp : Int32} (pc' N : Nat) (hf : xft mi pc = some (.invokestatic idx, 3)) (hp : pc + 3 = pc') (hm : xmt (xOW mi) idx = some (4, z)) (ha0 : S[a0]? = some (.inl (.int, n0))) (ha1 : S[a]? = some (.inl (.int, n1))) (hn : n = nI N) (hs : sp = nI 0) (hdp : dp = nI 0) (h0 : N ≤ n0) (h1 : N ≤ n1) (hN : N < 100000) (hd : 1 ≤ d) (hs8 : xsum rest ≤ 8) (kk : xW E d mi pc' lv rest (S, wR I a (fun j => if j < N then I a0 j else I a j), L) k q Q) : xW E d mi pc lv (.int n :: .int dp :: .ref a :: .int sp :: .ref a0 :: rest) (S, I, L) k q Q := by
  subst hp
  subst hn
  subst hs
  subst hdp
  intro base ad cA D l p e R s m args below meth c Qf H locs ls C hE hI hl
  obtain ⟨x, hmx, i1, i2, i3, i4⟩ := xmt_of hm (xow mi C.1.1).2
  unfold xmOk at i4
  simp only [i1, i2] at i4
  have hfr := C.2.2.1.2.2.2.1
  have hlo := C.2.2.1.2.2.2.2
  have hcN : (nI N).toNatClampNeg = N := nI_clamp (by omega)
  have hc0 : (nI 0).toNatClampNeg = 0 := nI_clamp (by omega)
  have hp0 : ¬ nI 0 < 0 := nI_pos (by omega)
  have hpN : ¬ nI N < 0 := nI_pos (by omega)
  have hwd : nativeFrameWords "java/lang/System" "arraycopy" 5 ≤ 40 := by decide
  have hsum := xsum_of ad rest
  refine va_copyi (D := D) (A := fun q => base ≤ q) (a := ad a) (rest := rest.map (xtr ad)) (sp := nI 0) (dp := nI 0) (n := nI N) C.1.2.1 C.1.2.2.1 (by rw [hl.1, C.1.2.2.2.1]) C.1.2.2.2.2 (C.2.1.1 _ (xwd_in i4)) (C.2.1.1 _ xw_copy.1) (C.2.1.1 _ xw_copy.2.1) (C.2.1.1 _ xw_copy.2.2) C.2.1.2.1 hI.2.1 (xD C.2.2.2.2 hI.1.2) hI.2.2 a0 a 0 0 (ty := .int) (xconc_at ha0) (xconc_at ha1) rfl rfl rfl hp0 hp0 hpN (by rw [hcN, hc0]; omega) (by rw [hcN, hc0]; omega) (fun _ _ => rfl) (by omega) (by omega) (xdec hf) (fun H1 locs1 hP1 hD1 hS1 => ?_)
  refine kk base ad cA D l p e R s m args below meth c Qf H1 locs1 ls C hE ⟨hI.1, ?_, hS1⟩ hl
  rw [xconc_wR ha1]
  show va_P D vwCl ((xconc ad cA (S, I, L)).set a (ad a, .inl (cA .int, n1, .inl (wR I a (fun j => if j < N then I a0 j else I a j) a)))) H1
  rw [wR_self]
  rw [hcN, hc0] at hP1
  have e9 : va_cpy (I a0) (I a) 0 0 N = (fun j => if j < N then I a0 j else I a j) := by
    funext j
    simp [va_cpy]
  rw [e9] at hP1
  exact hP1
end XCALL
end
section
theorem kc_im1 : Int32.ofInt (-1) = (-1) := by decide +kernel
theorem kc_i0 : Int32.ofInt 0 = nI 0 := by decide +kernel
theorem kc_i1 : Int32.ofInt 1 = nI 1 := by decide +kernel
theorem kc_i2 : Int32.ofInt 2 = nI 2 := by decide +kernel
theorem kc_i3 : Int32.ofInt 3 = nI 3 := by decide +kernel
theorem kc_i4 : Int32.ofInt 4 = nI 4 := by decide +kernel
theorem kc_i5 : Int32.ofInt 5 = nI 5 := by decide +kernel
theorem kc_bm6 : (Int8.ofInt (-6)).toInt32 = (-6) := by decide +kernel
theorem kc_bm5 : (Int8.ofInt (-5)).toInt32 = (-5) := by decide +kernel
theorem kc_bm4 : (Int8.ofInt (-4)).toInt32 = (-4) := by decide +kernel
theorem kc_bm3 : (Int8.ofInt (-3)).toInt32 = (-3) := by decide +kernel
theorem kc_bm2 : (Int8.ofInt (-2)).toInt32 = (-2) := by decide +kernel
theorem kc_b6 : (Int8.ofInt 6).toInt32 = nI 6 := by decide +kernel
theorem kc_b7 : (Int8.ofInt 7).toInt32 = nI 7 := by decide +kernel
theorem kc_b8 : (Int8.ofInt 8).toInt32 = nI 8 := by decide +kernel
theorem kc_b9 : (Int8.ofInt 9).toInt32 = nI 9 := by decide +kernel
theorem kc_b10 : (Int8.ofInt 10).toInt32 = nI 10 := by decide +kernel
theorem kc_b11 : (Int8.ofInt 11).toInt32 = nI 11 := by decide +kernel
theorem kc_b12 : (Int8.ofInt 12).toInt32 = nI 12 := by decide +kernel
theorem kc_b15 : (Int8.ofInt 15).toInt32 = nI 15 := by decide +kernel
theorem kc_b16 : (Int8.ofInt 16).toInt32 = nI 16 := by decide +kernel
theorem kc_b18 : (Int8.ofInt 18).toInt32 = nI 18 := by decide +kernel
theorem kc_b20 : (Int8.ofInt 20).toInt32 = nI 20 := by decide +kernel
theorem kc_b24 : (Int8.ofInt 24).toInt32 = nI 24 := by decide +kernel
theorem kc_b25 : (Int8.ofInt 25).toInt32 = nI 25 := by decide +kernel
theorem kc_b30 : (Int8.ofInt 30).toInt32 = nI 30 := by decide +kernel
theorem kc_b31 : (Int8.ofInt 31).toInt32 = nI 31 := by decide +kernel
theorem kc_b32 : (Int8.ofInt 32).toInt32 = nI 32 := by decide +kernel
theorem kc_b33 : (Int8.ofInt 33).toInt32 = nI 33 := by decide +kernel
theorem kc_b36 : (Int8.ofInt 36).toInt32 = nI 36 := by decide +kernel
theorem kc_b40 : (Int8.ofInt 40).toInt32 = nI 40 := by decide +kernel
theorem kc_b42 : (Int8.ofInt 42).toInt32 = nI 42 := by decide +kernel
theorem kc_b43 : (Int8.ofInt 43).toInt32 = nI 43 := by decide +kernel
theorem kc_b44 : (Int8.ofInt 44).toInt32 = nI 44 := by decide +kernel
theorem kc_b45 : (Int8.ofInt 45).toInt32 = nI 45 := by decide +kernel
theorem kc_b48 : (Int8.ofInt 48).toInt32 = nI 48 := by decide +kernel
theorem kc_b49 : (Int8.ofInt 49).toInt32 = nI 49 := by decide +kernel
theorem kc_b50 : (Int8.ofInt 50).toInt32 = nI 50 := by decide +kernel
theorem kc_b57 : (Int8.ofInt 57).toInt32 = nI 57 := by decide +kernel
theorem kc_b63 : (Int8.ofInt 63).toInt32 = nI 63 := by decide +kernel
theorem kc_b64 : (Int8.ofInt 64).toInt32 = nI 64 := by decide +kernel
theorem kc_b73 : (Int8.ofInt 73).toInt32 = nI 73 := by decide +kernel
theorem kc_b79 : (Int8.ofInt 79).toInt32 = nI 79 := by decide +kernel
theorem kc_b80 : (Int8.ofInt 80).toInt32 = nI 80 := by decide +kernel
theorem kc_b81 : (Int8.ofInt 81).toInt32 = nI 81 := by decide +kernel
theorem kc_b82 : (Int8.ofInt 82).toInt32 = nI 82 := by decide +kernel
theorem kc_b93 : (Int8.ofInt 93).toInt32 = nI 93 := by decide +kernel
theorem kc_b97 : (Int8.ofInt 97).toInt32 = nI 97 := by decide +kernel
theorem kc_b99 : (Int8.ofInt 99).toInt32 = nI 99 := by decide +kernel
theorem kc_b100 : (Int8.ofInt 100).toInt32 = nI 100 := by decide +kernel
theorem kc_b101 : (Int8.ofInt 101).toInt32 = nI 101 := by decide +kernel
theorem kc_b104 : (Int8.ofInt 104).toInt32 = nI 104 := by decide +kernel
theorem kc_b109 : (Int8.ofInt 109).toInt32 = nI 109 := by decide +kernel
theorem kc_b115 : (Int8.ofInt 115).toInt32 = nI 115 := by decide +kernel
theorem kc_b119 : (Int8.ofInt 119).toInt32 = nI 119 := by decide +kernel
theorem kc_b126 : (Int8.ofInt 126).toInt32 = nI 126 := by decide +kernel
theorem kc_s130 : (Int16.ofInt 130).toInt32 = nI 130 := by decide +kernel
theorem kc_s216 : (Int16.ofInt 216).toInt32 = nI 216 := by decide +kernel
theorem kc_s260 : (Int16.ofInt 260).toInt32 = nI 260 := by decide +kernel
theorem kc_s999 : (Int16.ofInt 999).toInt32 = nI 999 := by decide +kernel
theorem kc_s1000 : (Int16.ofInt 1000).toInt32 = nI 1000 := by decide +kernel
theorem kc_s1296 : (Int16.ofInt 1296).toInt32 = nI 1296 := by decide +kernel
theorem kc_s1545 : (Int16.ofInt 1545).toInt32 = nI 1545 := by decide +kernel
theorem kc_s1546 : (Int16.ofInt 1546).toInt32 = nI 1546 := by decide +kernel
theorem kc_s2048 : (Int16.ofInt 2048).toInt32 = nI 2048 := by decide +kernel
theorem kc_s7776 : (Int16.ofInt 7776).toInt32 = nI 7776 := by decide +kernel
theorem ki_1 (a : Nat) : nI a + Int32.ofInt 1 = nI (a + 1) := nI_1 a
theorem ki_m1 {a : Nat} (h : 1 ≤ a) : nI a + Int32.ofInt (-1) = nI (a - 1) := by
  obtain ⟨b, rfl⟩ : ∃ b, a = b + 1 := ⟨a - 1, by omega⟩
  exact pk_m1 b
theorem ki_5 (a : Nat) : nI a + Int32.ofInt 5 = nI (a + 5) := by
  rw [← nI_add]
  rfl
def xb (c : Bool) : Int32 := bif c then nI 1 else nI 0
theorem xb_01 (c : Bool) : xb c = 0 ∨ xb c = 1 := by cases c <;> decide
theorem xb_0 {c : Bool} (h : xb c = 0) : c = false := by cases c with
  | false => rfl
  | true => exact absurd h (by decide)
theorem xb_1 {c : Bool} (h : ¬ xb c = 0) : c = true := by cases c with
  | true => rfl
  | false => exact absurd (by decide) h
theorem kn_and (a b : Nat) : nI a &&& nI b = nI (a &&& b) := by
  apply Int32.toBitVec_inj.mp
  show BitVec.ofNat 32 a &&& BitVec.ofNat 32 b = BitVec.ofNat 32 (a &&& b)
  exact (BitVec.ofNat_and ..).symm
theorem kn_or (a b : Nat) : nI a ||| nI b = nI (a ||| b) := by
  apply Int32.toBitVec_inj.mp
  show BitVec.ofNat 32 a ||| BitVec.ofNat 32 b = BitVec.ofNat 32 (a ||| b)
  exact (BitVec.ofNat_or ..).symm
theorem kn_s : ∀ n, n < 32 → ((nI n &&& 31).toBitVec.smod 32).toNat = n := by decide +kernel
theorem kn_shl {a k : Nat} (hk : k < 32) (h : a * 2 ^ k < 4294967296) : nI a <<< (nI k &&& 31) = nI (a * 2 ^ k) := pk_shlN _ k (kn_s k hk) h
theorem kn_shr {a k : Nat} (hk : k < 32) (h : a < 2147483648) : nI a >>> (nI k &&& 31) = nI (a / 2 ^ k) := pk_shrN h _ k (kn_s k hk)
theorem kn_lt {a b : Nat} (ha : a < 2147483648) (hb : b < 2147483648) : nI a < nI b ↔ a < b := nI_ltI ha hb
theorem kn_le {a b : Nat} (ha : a < 2147483648) (hb : b < 2147483648) : nI a ≤ nI b ↔ a ≤ b := nI_leI ha hb
theorem kn_eq {a b : Nat} (ha : a < 2147483648) (hb : b < 2147483648) : nI a = nI b ↔ a = b := nI_eq ha hb
theorem kn_0 : (0 : Int32) = nI 0 := nI_0.symm
theorem kn_ne0 {a : Nat} (h0 : 0 < a) (ha : a < 2147483648) : ¬ nI a = 0 := nI_ne0 h0 ha
theorem kn_lne0 {a : Nat} (h0 : 0 < a) (ha : a < 9223372036854775808) : ¬ lN a = 0 := by
  rw [show (0 : Int64) = lN 0 from rfl, pk_lEQ ha (by omega)]
  omega

theorem ws_icmp_eqn {E : xEx} {d mi pc : Nat} {lv : xLv} {st : List Value} {σ : xMem} {k q : Nat} {Q : Option Value → xMem → Prop} {a b : Nat} {off : Int} (tgt pc' : Nat) (hf : xft mi pc = some (.if_icmp .eq off, 3)) (ht : (pc : Int) + off = (tgt : Int)) (hp : pc + 3 = pc') (ha : a < 2147483648) (hb : b < 2147483648) (kt : a = b → xW E d mi tgt lv st σ k q Q) (kf : ¬ a = b → xW E d mi pc' lv st σ k q Q) : xW E d mi pc lv (.int (nI b) :: .int (nI a) :: st) σ k q Q := ws_icmp_eq tgt pc' hf ht hp (fun h => kt (by rw [kn_eq ha hb] at h; omega)) (fun h => kf (by rw [kn_eq ha hb] at h; omega))
theorem ws_if_eqn {E : xEx} {d mi pc : Nat} {lv : xLv} {st : List Value} {σ : xMem} {k q : Nat} {Q : Option Value → xMem → Prop} {a : Nat} {off : Int} (tgt pc' : Nat) (hf : xft mi pc = some (.ifCond .eq off, 3)) (ht : (pc : Int) + off = (tgt : Int)) (hp : pc + 3 = pc') (ha : a < 2147483648) (kt : a = 0 → xW E d mi tgt lv st σ k q Q) (kf : ¬ a = 0 → xW E d mi pc' lv st σ k q Q) : xW E d mi pc lv (.int (nI a) :: st) σ k q Q := ws_if_eq tgt pc' hf ht hp (fun h => kt (by rw [kn_0, kn_eq ha (show (0 : Nat) < 2147483648 by omega)] at h; omega)) (fun h => kf (by rw [kn_0, kn_eq ha (show (0 : Nat) < 2147483648 by omega)] at h; omega))
theorem ws_icmp_nen {E : xEx} {d mi pc : Nat} {lv : xLv} {st : List Value} {σ : xMem} {k q : Nat} {Q : Option Value → xMem → Prop} {a b : Nat} {off : Int} (tgt pc' : Nat) (hf : xft mi pc = some (.if_icmp .ne off, 3)) (ht : (pc : Int) + off = (tgt : Int)) (hp : pc + 3 = pc') (ha : a < 2147483648) (hb : b < 2147483648) (kt : ¬ a = b → xW E d mi tgt lv st σ k q Q) (kf : a = b → xW E d mi pc' lv st σ k q Q) : xW E d mi pc lv (.int (nI b) :: .int (nI a) :: st) σ k q Q := ws_icmp_ne tgt pc' hf ht hp (fun h => kt (by rw [kn_eq ha hb] at h; omega)) (fun h => kf (by rw [kn_eq ha hb] at h; omega))
theorem ws_if_nen {E : xEx} {d mi pc : Nat} {lv : xLv} {st : List Value} {σ : xMem} {k q : Nat} {Q : Option Value → xMem → Prop} {a : Nat} {off : Int} (tgt pc' : Nat) (hf : xft mi pc = some (.ifCond .ne off, 3)) (ht : (pc : Int) + off = (tgt : Int)) (hp : pc + 3 = pc') (ha : a < 2147483648) (kt : ¬ a = 0 → xW E d mi tgt lv st σ k q Q) (kf : a = 0 → xW E d mi pc' lv st σ k q Q) : xW E d mi pc lv (.int (nI a) :: st) σ k q Q := ws_if_ne tgt pc' hf ht hp (fun h => kt (by rw [kn_0, kn_eq ha (show (0 : Nat) < 2147483648 by omega)] at h; omega)) (fun h => kf (by rw [kn_0, kn_eq ha (show (0 : Nat) < 2147483648 by omega)] at h; omega))
theorem ws_icmp_ltn {E : xEx} {d mi pc : Nat} {lv : xLv} {st : List Value} {σ : xMem} {k q : Nat} {Q : Option Value → xMem → Prop} {a b : Nat} {off : Int} (tgt pc' : Nat) (hf : xft mi pc = some (.if_icmp .lt off, 3)) (ht : (pc : Int) + off = (tgt : Int)) (hp : pc + 3 = pc') (ha : a < 2147483648) (hb : b < 2147483648) (kt : a < b → xW E d mi tgt lv st σ k q Q) (kf : b ≤ a → xW E d mi pc' lv st σ k q Q) : xW E d mi pc lv (.int (nI b) :: .int (nI a) :: st) σ k q Q := ws_icmp_lt tgt pc' hf ht hp (fun h => kt (by rw [kn_lt ha hb] at h; omega)) (fun h => kf (by rw [kn_lt ha hb] at h; omega))
theorem ws_if_ltn {E : xEx} {d mi pc : Nat} {lv : xLv} {st : List Value} {σ : xMem} {k q : Nat} {Q : Option Value → xMem → Prop} {a : Nat} {off : Int} (tgt pc' : Nat) (hf : xft mi pc = some (.ifCond .lt off, 3)) (ht : (pc : Int) + off = (tgt : Int)) (hp : pc + 3 = pc') (ha : a < 2147483648) (kt : a < 0 → xW E d mi tgt lv st σ k q Q) (kf : 0 ≤ a → xW E d mi pc' lv st σ k q Q) : xW E d mi pc lv (.int (nI a) :: st) σ k q Q := ws_if_lt tgt pc' hf ht hp (fun h => kt (by rw [kn_0, kn_lt ha (show (0 : Nat) < 2147483648 by omega)] at h; omega)) (fun h => kf (by rw [kn_0, kn_lt ha (show (0 : Nat) < 2147483648 by omega)] at h; omega))
theorem ws_icmp_gen {E : xEx} {d mi pc : Nat} {lv : xLv} {st : List Value} {σ : xMem} {k q : Nat} {Q : Option Value → xMem → Prop} {a b : Nat} {off : Int} (tgt pc' : Nat) (hf : xft mi pc = some (.if_icmp .ge off, 3)) (ht : (pc : Int) + off = (tgt : Int)) (hp : pc + 3 = pc') (ha : a < 2147483648) (hb : b < 2147483648) (kt : b ≤ a → xW E d mi tgt lv st σ k q Q) (kf : a < b → xW E d mi pc' lv st σ k q Q) : xW E d mi pc lv (.int (nI b) :: .int (nI a) :: st) σ k q Q := ws_icmp_ge tgt pc' hf ht hp (fun h => kt (by rw [kn_le hb ha] at h; omega)) (fun h => kf (by rw [kn_le hb ha] at h; omega))
theorem ws_if_gen {E : xEx} {d mi pc : Nat} {lv : xLv} {st : List Value} {σ : xMem} {k q : Nat} {Q : Option Value → xMem → Prop} {a : Nat} {off : Int} (tgt pc' : Nat) (hf : xft mi pc = some (.ifCond .ge off, 3)) (ht : (pc : Int) + off = (tgt : Int)) (hp : pc + 3 = pc') (ha : a < 2147483648) (kt : 0 ≤ a → xW E d mi tgt lv st σ k q Q) (kf : a < 0 → xW E d mi pc' lv st σ k q Q) : xW E d mi pc lv (.int (nI a) :: st) σ k q Q := ws_if_ge tgt pc' hf ht hp (fun h => kt (by rw [kn_0, kn_le (show (0 : Nat) < 2147483648 by omega) ha] at h; omega)) (fun h => kf (by rw [kn_0, kn_le (show (0 : Nat) < 2147483648 by omega) ha] at h; omega))
theorem ws_icmp_gtn {E : xEx} {d mi pc : Nat} {lv : xLv} {st : List Value} {σ : xMem} {k q : Nat} {Q : Option Value → xMem → Prop} {a b : Nat} {off : Int} (tgt pc' : Nat) (hf : xft mi pc = some (.if_icmp .gt off, 3)) (ht : (pc : Int) + off = (tgt : Int)) (hp : pc + 3 = pc') (ha : a < 2147483648) (hb : b < 2147483648) (kt : b < a → xW E d mi tgt lv st σ k q Q) (kf : a ≤ b → xW E d mi pc' lv st σ k q Q) : xW E d mi pc lv (.int (nI b) :: .int (nI a) :: st) σ k q Q := ws_icmp_gt tgt pc' hf ht hp (fun h => kt (by rw [kn_lt hb ha] at h; omega)) (fun h => kf (by rw [kn_lt hb ha] at h; omega))
theorem ws_if_gtn {E : xEx} {d mi pc : Nat} {lv : xLv} {st : List Value} {σ : xMem} {k q : Nat} {Q : Option Value → xMem → Prop} {a : Nat} {off : Int} (tgt pc' : Nat) (hf : xft mi pc = some (.ifCond .gt off, 3)) (ht : (pc : Int) + off = (tgt : Int)) (hp : pc + 3 = pc') (ha : a < 2147483648) (kt : 0 < a → xW E d mi tgt lv st σ k q Q) (kf : a ≤ 0 → xW E d mi pc' lv st σ k q Q) : xW E d mi pc lv (.int (nI a) :: st) σ k q Q := ws_if_gt tgt pc' hf ht hp (fun h => kt (by rw [kn_0, kn_lt (show (0 : Nat) < 2147483648 by omega) ha] at h; omega)) (fun h => kf (by rw [kn_0, kn_lt (show (0 : Nat) < 2147483648 by omega) ha] at h; omega))
theorem ws_icmp_len {E : xEx} {d mi pc : Nat} {lv : xLv} {st : List Value} {σ : xMem} {k q : Nat} {Q : Option Value → xMem → Prop} {a b : Nat} {off : Int} (tgt pc' : Nat) (hf : xft mi pc = some (.if_icmp .le off, 3)) (ht : (pc : Int) + off = (tgt : Int)) (hp : pc + 3 = pc') (ha : a < 2147483648) (hb : b < 2147483648) (kt : a ≤ b → xW E d mi tgt lv st σ k q Q) (kf : b < a → xW E d mi pc' lv st σ k q Q) : xW E d mi pc lv (.int (nI b) :: .int (nI a) :: st) σ k q Q := ws_icmp_le tgt pc' hf ht hp (fun h => kt (by rw [kn_le ha hb] at h; omega)) (fun h => kf (by rw [kn_le ha hb] at h; omega))
theorem ws_if_len {E : xEx} {d mi pc : Nat} {lv : xLv} {st : List Value} {σ : xMem} {k q : Nat} {Q : Option Value → xMem → Prop} {a : Nat} {off : Int} (tgt pc' : Nat) (hf : xft mi pc = some (.ifCond .le off, 3)) (ht : (pc : Int) + off = (tgt : Int)) (hp : pc + 3 = pc') (ha : a < 2147483648) (kt : a ≤ 0 → xW E d mi tgt lv st σ k q Q) (kf : 0 < a → xW E d mi pc' lv st σ k q Q) : xW E d mi pc lv (.int (nI a) :: st) σ k q Q := ws_if_le tgt pc' hf ht hp (fun h => kt (by rw [kn_0, kn_le ha (show (0 : Nat) < 2147483648 by omega)] at h; omega)) (fun h => kf (by rw [kn_0, kn_le ha (show (0 : Nat) < 2147483648 by omega)] at h; omega))
theorem ws_if_eqb {E : xEx} {d mi pc : Nat} {lv : xLv} {st : List Value} {σ : xMem} {k q : Nat} {Q : Option Value → xMem → Prop} {c : Bool} {off : Int} (tgt pc' : Nat) (hf : xft mi pc = some (.ifCond .eq off, 3)) (ht : (pc : Int) + off = (tgt : Int)) (hp : pc + 3 = pc') (kt : c = false → xW E d mi tgt lv st σ k q Q) (kf : c = true → xW E d mi pc' lv st σ k q Q) : xW E d mi pc lv (.int (xb c) :: st) σ k q Q := ws_if_eq tgt pc' hf ht hp (fun h => kt (xb_0 h)) (fun h => kf (xb_1 h))
theorem ws_if_neb {E : xEx} {d mi pc : Nat} {lv : xLv} {st : List Value} {σ : xMem} {k q : Nat} {Q : Option Value → xMem → Prop} {c : Bool} {off : Int} (tgt pc' : Nat) (hf : xft mi pc = some (.ifCond .ne off, 3)) (ht : (pc : Int) + off = (tgt : Int)) (hp : pc + 3 = pc') (kt : c = true → xW E d mi tgt lv st σ k q Q) (kf : c = false → xW E d mi pc' lv st σ k q Q) : xW E d mi pc lv (.int (xb c) :: st) σ k q Q := ws_if_ne tgt pc' hf ht hp (fun h => kt (xb_1 h)) (fun h => kf (xb_0 h))
theorem ws_lc_lt {E : xEx} {d mi pc : Nat} {lv : xLv} {st : List Value} {σ : xMem} {k q : Nat} {Q : Option Value → xMem → Prop} {x y : Int64} {off : Int} (tgt pc' : Nat) (hf : xft mi pc = some (.ifCond .lt off, 3)) (ht : (pc : Int) + off = (tgt : Int)) (hp : pc + 3 = pc') (kt : x < y → xW E d mi tgt lv st σ k q Q) (kf : ¬ x < y → xW E d mi pc' lv st σ k q Q) : xW E d mi pc lv (.int (lg_cmp x y) :: st) σ k q Q := ws_if_lt tgt pc' hf ht hp (fun h => kt (by rw [← lg_cmp_lt]; exact h)) (fun h => kf (by rw [← lg_cmp_lt]; exact h))
theorem ws_lc_le {E : xEx} {d mi pc : Nat} {lv : xLv} {st : List Value} {σ : xMem} {k q : Nat} {Q : Option Value → xMem → Prop} {x y : Int64} {off : Int} (tgt pc' : Nat) (hf : xft mi pc = some (.ifCond .le off, 3)) (ht : (pc : Int) + off = (tgt : Int)) (hp : pc + 3 = pc') (kt : x ≤ y → xW E d mi tgt lv st σ k q Q) (kf : ¬ x ≤ y → xW E d mi pc' lv st σ k q Q) : xW E d mi pc lv (.int (lg_cmp x y) :: st) σ k q Q := ws_if_le tgt pc' hf ht hp (fun h => kt (by rw [← lg_cmp_le]; exact h)) (fun h => kf (by rw [← lg_cmp_le]; exact h))
theorem ws_lc_ge {E : xEx} {d mi pc : Nat} {lv : xLv} {st : List Value} {σ : xMem} {k q : Nat} {Q : Option Value → xMem → Prop} {x y : Int64} {off : Int} (tgt pc' : Nat) (hf : xft mi pc = some (.ifCond .ge off, 3)) (ht : (pc : Int) + off = (tgt : Int)) (hp : pc + 3 = pc') (kt : y ≤ x → xW E d mi tgt lv st σ k q Q) (kf : ¬ y ≤ x → xW E d mi pc' lv st σ k q Q) : xW E d mi pc lv (.int (lg_cmp x y) :: st) σ k q Q := ws_if_ge tgt pc' hf ht hp (fun h => kt (by rw [← lg_cmp_ge]; exact h)) (fun h => kf (by rw [← lg_cmp_ge]; exact h))
theorem ws_lc_gt {E : xEx} {d mi pc : Nat} {lv : xLv} {st : List Value} {σ : xMem} {k q : Nat} {Q : Option Value → xMem → Prop} {x y : Int64} {off : Int} (tgt pc' : Nat) (hf : xft mi pc = some (.ifCond .gt off, 3)) (ht : (pc : Int) + off = (tgt : Int)) (hp : pc + 3 = pc') (kt : y < x → xW E d mi tgt lv st σ k q Q) (kf : ¬ y < x → xW E d mi pc' lv st σ k q Q) : xW E d mi pc lv (.int (lg_cmp x y) :: st) σ k q Q := ws_if_gt tgt pc' hf ht hp (fun h => kt (by rw [← lg_cmp_gt]; exact h)) (fun h => kf (by rw [← lg_cmp_gt]; exact h))
theorem ws_lc_eq {E : xEx} {d mi pc : Nat} {lv : xLv} {st : List Value} {σ : xMem} {k q : Nat} {Q : Option Value → xMem → Prop} {x y : Int64} {off : Int} (tgt pc' : Nat) (hf : xft mi pc = some (.ifCond .eq off, 3)) (ht : (pc : Int) + off = (tgt : Int)) (hp : pc + 3 = pc') (kt : x = y → xW E d mi tgt lv st σ k q Q) (kf : ¬ x = y → xW E d mi pc' lv st σ k q Q) : xW E d mi pc lv (.int (lg_cmp x y) :: st) σ k q Q := ws_if_eq tgt pc' hf ht hp (fun h => kt (by rw [← lg_cmp_eq]; exact h)) (fun h => kf (by rw [← lg_cmp_eq]; exact h))
theorem ws_lc_ne {E : xEx} {d mi pc : Nat} {lv : xLv} {st : List Value} {σ : xMem} {k q : Nat} {Q : Option Value → xMem → Prop} {x y : Int64} {off : Int} (tgt pc' : Nat) (hf : xft mi pc = some (.ifCond .ne off, 3)) (ht : (pc : Int) + off = (tgt : Int)) (hp : pc + 3 = pc') (kt : ¬ x = y → xW E d mi tgt lv st σ k q Q) (kf : x = y → xW E d mi pc' lv st σ k q Q) : xW E d mi pc lv (.int (lg_cmp x y) :: st) σ k q Q := ws_if_ne tgt pc' hf ht hp (fun h => kt (by rw [← lg_cmp_eq]; exact h)) (fun h => kf (by rw [← lg_cmp_eq]; exact h))
theorem ws_ialdn {E : xEx} {d mi pc : Nat} {lv : xLv} {st : List Value} {S : List xSh} {I : Nat → Nat → Int32} {L : Nat → Nat → Int64} {k q : Nat} {Q : Option Value → xMem → Prop} {a n j : Nat} {x : Int32} (pc' : Nat) (hf : xft mi pc = some (.iaload, 1)) (hp : pc + 1 = pc') (ha : S[a]? = some (.inl (.int, n))) (hj : j < n) (hn : n < 2147483648) (hx : I a j = x) (kk : xW E d mi pc' lv (.int x :: st) (S, I, L) k q Q) : xW E d mi pc lv (.int (nI j) :: .ref a :: st) (S, I, L) k q Q := ws_iald pc' hf hp ha (vp_in_nI hj hn) (by rw [nI_clamp (by omega)]; exact hx) kk
theorem ws_zaldn {E : xEx} {d mi pc : Nat} {lv : xLv} {st : List Value} {S : List xSh} {I : Nat → Nat → Int32} {L : Nat → Nat → Int64} {k q : Nat} {Q : Option Value → xMem → Prop} {a n j : Nat} {x : Int32} (pc' : Nat) (hf : xft mi pc = some (.baload, 1)) (hp : pc + 1 = pc') (ha : S[a]? = some (.inl (.boolean, n))) (hj : j < n) (hn : n < 2147483648) (hx : I a j = x) (kk : xW E d mi pc' lv (.int x :: st) (S, I, L) k q Q) : xW E d mi pc lv (.int (nI j) :: .ref a :: st) (S, I, L) k q Q := ws_zald pc' hf hp ha (vp_in_nI hj hn) (by rw [nI_clamp (by omega)]; exact hx) kk
theorem ws_laldn {E : xEx} {d mi pc : Nat} {lv : xLv} {st : List Value} {S : List xSh} {I : Nat → Nat → Int32} {L : Nat → Nat → Int64} {k q : Nat} {Q : Option Value → xMem → Prop} {a n j : Nat} {x : Int64} (pc' : Nat) (hf : xft mi pc = some (.laload, 1)) (hp : pc + 1 = pc') (ha : S[a]? = some (.inl (.long, n))) (hj : j < n) (hn : n < 2147483648) (hx : L a j = x) (kk : xW E d mi pc' lv (.long x :: st) (S, I, L) k q Q) : xW E d mi pc lv (.int (nI j) :: .ref a :: st) (S, I, L) k q Q := ws_lald pc' hf hp ha (vp_in_nI hj hn) (by rw [nI_clamp (by omega)]; exact hx) kk
theorem ws_xaldn {E : xEx} {d mi pc : Nat} {lv : xLv} {st : List Value} {σ : xMem} {k q : Nat} {Q : Option Value → xMem → Prop} {r n j : Nat} {f : Nat → Int32} {x : Int32} (pc' : Nat) (hf : xft mi pc = some (.iaload, 1)) (hp : pc + 1 = pc') (e9 : Nat) (hr : 1000 + e9 = r) (he : E e9 = some (n, f)) (hj : j < n) (hn : n < 2147483648) (hx : f j = x) (kk : xW E d mi pc' lv (.int x :: st) σ k q Q) : xW E d mi pc lv (.int (nI j) :: .ref r :: st) σ k q Q := ws_xald pc' hf hp e9 hr he (vp_in_nI hj hn) (by rw [nI_clamp (by omega)]; exact hx) kk
theorem ws_aaldn {E : xEx} {d mi pc : Nat} {lv : xLv} {st : List Value} {S : List xSh} {I : Nat → Nat → Int32} {L : Nat → Nat → Int64} {k q : Nat} {Q : Option Value → xMem → Prop} {a r j : Nat} {vs : List Value} (pc' : Nat) (hf : xft mi pc = some (.aaload, 1)) (hp : pc + 1 = pc') (ha : S[a]? = some (.inr (.inr vs))) (hj : j < vs.length) (hn : vs.length < 2147483648) (hx : vs[j]? = some (.ref r)) (kk : xW E d mi pc' lv (.ref r :: st) (S, I, L) k q Q) : xW E d mi pc lv (.int (nI j) :: .ref a :: st) (S, I, L) k q Q := ws_aald pc' hf hp ha (vp_in_nI hj hn) (by rw [nI_clamp (by omega)]; exact hx) kk
theorem ws_iastn {E : xEx} {d mi pc : Nat} {lv : xLv} {st : List Value} {S : List xSh} {I : Nat → Nat → Int32} {L : Nat → Nat → Int64} {k q : Nat} {Q : Option Value → xMem → Prop} {a n j : Nat} {x : Int32} (pc' : Nat) (hf : xft mi pc = some (.iastore, 1)) (hp : pc + 1 = pc') (ha : S[a]? = some (.inl (.int, n))) (hj : j < n) (hn : n < 2147483648) (kk : xW E d mi pc' lv st (S, wI I a j x, L) k q Q) : xW E d mi pc lv (.int x :: .int (nI j) :: .ref a :: st) (S, I, L) k q Q := ws_iast pc' hf hp ha (vp_in_nI hj hn) (by rw [nI_clamp (by omega)]; exact kk)
theorem ws_zastn {E : xEx} {d mi pc : Nat} {lv : xLv} {st : List Value} {S : List xSh} {I : Nat → Nat → Int32} {L : Nat → Nat → Int64} {k q : Nat} {Q : Option Value → xMem → Prop} {a n j : Nat} {x : Int32} (pc' : Nat) (hf : xft mi pc = some (.bastore, 1)) (hp : pc + 1 = pc') (ha : S[a]? = some (.inl (.boolean, n))) (hj : j < n) (hn : n < 2147483648) (h01 : x = 0 ∨ x = 1) (kk : xW E d mi pc' lv st (S, wI I a j x, L) k q Q) : xW E d mi pc lv (.int x :: .int (nI j) :: .ref a :: st) (S, I, L) k q Q := ws_zast pc' hf hp ha (vp_in_nI hj hn) (by rcases h01 with rfl | rfl <;> rfl) (by rw [nI_clamp (by omega)]; exact kk)
theorem ws_lastn {E : xEx} {d mi pc : Nat} {lv : xLv} {st : List Value} {S : List xSh} {I : Nat → Nat → Int32} {L : Nat → Nat → Int64} {k q : Nat} {Q : Option Value → xMem → Prop} {a n j : Nat} {x : Int64} (pc' : Nat) (hf : xft mi pc = some (.lastore, 1)) (hp : pc + 1 = pc') (ha : S[a]? = some (.inl (.long, n))) (hj : j < n) (hn : n < 2147483648) (kk : xW E d mi pc' lv st (S, I, wL L a j x) k q Q) : xW E d mi pc lv (.long x :: .int (nI j) :: .ref a :: st) (S, I, L) k q Q := ws_last pc' hf hp ha (vp_in_nI hj hn) (by rw [nI_clamp (by omega)]; exact kk)
/-- a call that answers v and changes nothing, wherever -/
def xP (d cal : Nat) (As : List Value) (v : Value) : Prop := ∀ (E : xEx) (σ : xMem), xC E d cal As σ (fun r t => r = some v ∧ t = σ)
theorem ws_invV0 {E : xEx} {d mi pc : Nat} {lv : xLv} {st : List Value} {S : List xSh} {I : Nat → Nat → Int32} {L : Nat → Nat → Int64} {k q : Nat} {Q : Option Value → xMem → Prop} {idx cal d1 o : Nat} {fs : List Value} {Qc : Option Value → xMem → Prop} (pc' : Nat) (hf : xft mi pc = some (.invokevirtual idx, 3)) (hp : pc + 3 = pc') (hm : xmt (xOW mi) idx = some (1, cal)) (ho : S[o]? = some (.inr (.inl (xOW cal, fs)))) (hC : xC E d1 cal [.ref o] (S, I, L) Qc) (hk : xokc mi cal 0 [.ref o] st d1 d k q = true) (hk' : k + xBC cal = k) (hq' : q + xBS cal = q) (kk : ∀ r t, Qc r t → xW E d mi pc' lv (r.toList ++ st) t k q Q) : xW E d mi pc lv (.ref o :: st) (S, I, L) k q Q := ws_invV (As := []) pc' k q hf hp hm ho hC hk hk' hq' kk
theorem ws_invV0p {E : xEx} {d mi pc : Nat} {lv : xLv} {st : List Value} {S : List xSh} {I : Nat → Nat → Int32} {L : Nat → Nat → Int64} {k q : Nat} {Q : Option Value → xMem → Prop} {idx cal d1 o : Nat} {fs : List Value} {v : Value} (pc' : Nat) (hf : xft mi pc = some (.invokevirtual idx, 3)) (hp : pc + 3 = pc') (hm : xmt (xOW mi) idx = some (1, cal)) (ho : S[o]? = some (.inr (.inl (xOW cal, fs)))) (hC : xC E d1 cal [.ref o] (S, I, L) (fun r t => r = some v ∧ t = (S, I, L))) (hk : xokc mi cal 0 [.ref o] st d1 d k q = true) (hk' : k + xBC cal = k) (hq' : q + xBS cal = q) (kk : xW E d mi pc' lv (v :: st) (S, I, L) k q Q) : xW E d mi pc lv (.ref o :: st) (S, I, L) k q Q := ws_invV0 pc' hf hp hm ho hC hk hk' hq' (fun r t h => by obtain ⟨rfl, rfl⟩ := h; exact kk)
theorem ws_invS1 {E : xEx} {d mi pc : Nat} {lv : xLv} {st : List Value} {σ : xMem} {k q : Nat} {Q : Option Value → xMem → Prop} {idx cal d1 : Nat} {v0 : Value} {Qc : Option Value → xMem → Prop} (pc' : Nat) (hf : xft mi pc = some (.invokestatic idx, 3)) (hp : pc + 3 = pc') (hm : xmt (xOW mi) idx = some (0, cal)) (hC : xC E d1 cal [v0] σ Qc) (hk : xokc mi cal 1 [v0] st d1 d k q = true) (hk' : k + xBC cal = k) (hq' : q + xBS cal = q) (kk : ∀ r t, Qc r t → xW E d mi pc' lv (r.toList ++ st) t k q Q) : xW E d mi pc lv (v0 :: st) σ k q Q := ws_invS (As := [v0]) pc' k q hf hp hm hC hk hk' hq' kk
theorem ws_invS1p {E : xEx} {d mi pc : Nat} {lv : xLv} {st : List Value} {σ : xMem} {k q : Nat} {Q : Option Value → xMem → Prop} {idx cal d1 : Nat} {v0 : Value} {v : Value} (pc' : Nat) (hf : xft mi pc = some (.invokestatic idx, 3)) (hp : pc + 3 = pc') (hm : xmt (xOW mi) idx = some (0, cal)) (hC : xP d1 cal [v0] v) (hk : xokc mi cal 1 [v0] st d1 d k q = true) (hk' : k + xBC cal = k) (hq' : q + xBS cal = q) (kk : xW E d mi pc' lv (v :: st) σ k q Q) : xW E d mi pc lv (v0 :: st) σ k q Q := ws_invS1 pc' hf hp hm (hC E σ) hk hk' hq' (fun r t h => by obtain ⟨rfl, rfl⟩ := h; exact kk)
theorem ws_invSN1 {E : xEx} {d mi pc : Nat} {lv : xLv} {st : List Value} {σ : xMem} {k q : Nat} {Q : Option Value → xMem → Prop} {idx cal d1 : Nat} {v0 : Value} {Qc : Option Value → xMem → Prop} (pc' : Nat) (hf : xft mi pc = some (.invokestatic idx, 3)) (hp : pc + 3 = pc') (hm : xmt (xOW mi) idx = some (10, cal)) (hC : xC E d1 cal [v0] σ Qc) (hk : xokc mi cal 1 [v0] st d1 d k q = true) (hk' : k + xBC cal = k) (hq' : q + xBS cal = q) (kk : ∀ r t, Qc r t → xW E d mi pc' lv (r.toList ++ st) t k q Q) : xW E d mi pc lv (v0 :: st) σ k q Q := ws_invSN (As := [v0]) pc' k q hf hp hm hC hk hk' hq' kk
theorem ws_invSN1p {E : xEx} {d mi pc : Nat} {lv : xLv} {st : List Value} {σ : xMem} {k q : Nat} {Q : Option Value → xMem → Prop} {idx cal d1 : Nat} {v0 : Value} {v : Value} (pc' : Nat) (hf : xft mi pc = some (.invokestatic idx, 3)) (hp : pc + 3 = pc') (hm : xmt (xOW mi) idx = some (10, cal)) (hC : xP d1 cal [v0] v) (hk : xokc mi cal 1 [v0] st d1 d k q = true) (hk' : k + xBC cal = k) (hq' : q + xBS cal = q) (kk : xW E d mi pc' lv (v :: st) σ k q Q) : xW E d mi pc lv (v0 :: st) σ k q Q := ws_invSN1 pc' hf hp hm (hC E σ) hk hk' hq' (fun r t h => by obtain ⟨rfl, rfl⟩ := h; exact kk)
theorem ws_invV1 {E : xEx} {d mi pc : Nat} {lv : xLv} {st : List Value} {S : List xSh} {I : Nat → Nat → Int32} {L : Nat → Nat → Int64} {k q : Nat} {Q : Option Value → xMem → Prop} {idx cal d1 o : Nat} {fs : List Value} {v0 : Value} {Qc : Option Value → xMem → Prop} (pc' : Nat) (hf : xft mi pc = some (.invokevirtual idx, 3)) (hp : pc + 3 = pc') (hm : xmt (xOW mi) idx = some (1, cal)) (ho : S[o]? = some (.inr (.inl (xOW cal, fs)))) (hC : xC E d1 cal [.ref o, v0] (S, I, L) Qc) (hk : xokc mi cal 1 [.ref o, v0] st d1 d k q = true) (hk' : k + xBC cal = k) (hq' : q + xBS cal = q) (kk : ∀ r t, Qc r t → xW E d mi pc' lv (r.toList ++ st) t k q Q) : xW E d mi pc lv (v0 :: .ref o :: st) (S, I, L) k q Q := ws_invV (As := [v0]) pc' k q hf hp hm ho hC hk hk' hq' kk
theorem ws_invV1p {E : xEx} {d mi pc : Nat} {lv : xLv} {st : List Value} {S : List xSh} {I : Nat → Nat → Int32} {L : Nat → Nat → Int64} {k q : Nat} {Q : Option Value → xMem → Prop} {idx cal d1 o : Nat} {fs : List Value} {v0 : Value} {v : Value} (pc' : Nat) (hf : xft mi pc = some (.invokevirtual idx, 3)) (hp : pc + 3 = pc') (hm : xmt (xOW mi) idx = some (1, cal)) (ho : S[o]? = some (.inr (.inl (xOW cal, fs)))) (hC : xC E d1 cal [.ref o, v0] (S, I, L) (fun r t => r = some v ∧ t = (S, I, L))) (hk : xokc mi cal 1 [.ref o, v0] st d1 d k q = true) (hk' : k + xBC cal = k) (hq' : q + xBS cal = q) (kk : xW E d mi pc' lv (v :: st) (S, I, L) k q Q) : xW E d mi pc lv (v0 :: .ref o :: st) (S, I, L) k q Q := ws_invV1 pc' hf hp hm ho hC hk hk' hq' (fun r t h => by obtain ⟨rfl, rfl⟩ := h; exact kk)
theorem ws_invS2 {E : xEx} {d mi pc : Nat} {lv : xLv} {st : List Value} {σ : xMem} {k q : Nat} {Q : Option Value → xMem → Prop} {idx cal d1 : Nat} {v0 v1 : Value} {Qc : Option Value → xMem → Prop} (pc' : Nat) (hf : xft mi pc = some (.invokestatic idx, 3)) (hp : pc + 3 = pc') (hm : xmt (xOW mi) idx = some (0, cal)) (hC : xC E d1 cal [v0, v1] σ Qc) (hk : xokc mi cal 2 [v0, v1] st d1 d k q = true) (hk' : k + xBC cal = k) (hq' : q + xBS cal = q) (kk : ∀ r t, Qc r t → xW E d mi pc' lv (r.toList ++ st) t k q Q) : xW E d mi pc lv (v1 :: v0 :: st) σ k q Q := ws_invS (As := [v0, v1]) pc' k q hf hp hm hC hk hk' hq' kk
theorem ws_invS2p {E : xEx} {d mi pc : Nat} {lv : xLv} {st : List Value} {σ : xMem} {k q : Nat} {Q : Option Value → xMem → Prop} {idx cal d1 : Nat} {v0 v1 : Value} {v : Value} (pc' : Nat) (hf : xft mi pc = some (.invokestatic idx, 3)) (hp : pc + 3 = pc') (hm : xmt (xOW mi) idx = some (0, cal)) (hC : xP d1 cal [v0, v1] v) (hk : xokc mi cal 2 [v0, v1] st d1 d k q = true) (hk' : k + xBC cal = k) (hq' : q + xBS cal = q) (kk : xW E d mi pc' lv (v :: st) σ k q Q) : xW E d mi pc lv (v1 :: v0 :: st) σ k q Q := ws_invS2 pc' hf hp hm (hC E σ) hk hk' hq' (fun r t h => by obtain ⟨rfl, rfl⟩ := h; exact kk)
theorem ws_invSN2 {E : xEx} {d mi pc : Nat} {lv : xLv} {st : List Value} {σ : xMem} {k q : Nat} {Q : Option Value → xMem → Prop} {idx cal d1 : Nat} {v0 v1 : Value} {Qc : Option Value → xMem → Prop} (pc' : Nat) (hf : xft mi pc = some (.invokestatic idx, 3)) (hp : pc + 3 = pc') (hm : xmt (xOW mi) idx = some (10, cal)) (hC : xC E d1 cal [v0, v1] σ Qc) (hk : xokc mi cal 2 [v0, v1] st d1 d k q = true) (hk' : k + xBC cal = k) (hq' : q + xBS cal = q) (kk : ∀ r t, Qc r t → xW E d mi pc' lv (r.toList ++ st) t k q Q) : xW E d mi pc lv (v1 :: v0 :: st) σ k q Q := ws_invSN (As := [v0, v1]) pc' k q hf hp hm hC hk hk' hq' kk
theorem ws_invSN2p {E : xEx} {d mi pc : Nat} {lv : xLv} {st : List Value} {σ : xMem} {k q : Nat} {Q : Option Value → xMem → Prop} {idx cal d1 : Nat} {v0 v1 : Value} {v : Value} (pc' : Nat) (hf : xft mi pc = some (.invokestatic idx, 3)) (hp : pc + 3 = pc') (hm : xmt (xOW mi) idx = some (10, cal)) (hC : xP d1 cal [v0, v1] v) (hk : xokc mi cal 2 [v0, v1] st d1 d k q = true) (hk' : k + xBC cal = k) (hq' : q + xBS cal = q) (kk : xW E d mi pc' lv (v :: st) σ k q Q) : xW E d mi pc lv (v1 :: v0 :: st) σ k q Q := ws_invSN2 pc' hf hp hm (hC E σ) hk hk' hq' (fun r t h => by obtain ⟨rfl, rfl⟩ := h; exact kk)
theorem ws_invV2 {E : xEx} {d mi pc : Nat} {lv : xLv} {st : List Value} {S : List xSh} {I : Nat → Nat → Int32} {L : Nat → Nat → Int64} {k q : Nat} {Q : Option Value → xMem → Prop} {idx cal d1 o : Nat} {fs : List Value} {v0 v1 : Value} {Qc : Option Value → xMem → Prop} (pc' : Nat) (hf : xft mi pc = some (.invokevirtual idx, 3)) (hp : pc + 3 = pc') (hm : xmt (xOW mi) idx = some (1, cal)) (ho : S[o]? = some (.inr (.inl (xOW cal, fs)))) (hC : xC E d1 cal [.ref o, v0, v1] (S, I, L) Qc) (hk : xokc mi cal 2 [.ref o, v0, v1] st d1 d k q = true) (hk' : k + xBC cal = k) (hq' : q + xBS cal = q) (kk : ∀ r t, Qc r t → xW E d mi pc' lv (r.toList ++ st) t k q Q) : xW E d mi pc lv (v1 :: v0 :: .ref o :: st) (S, I, L) k q Q := ws_invV (As := [v0, v1]) pc' k q hf hp hm ho hC hk hk' hq' kk
theorem ws_invV2p {E : xEx} {d mi pc : Nat} {lv : xLv} {st : List Value} {S : List xSh} {I : Nat → Nat → Int32} {L : Nat → Nat → Int64} {k q : Nat} {Q : Option Value → xMem → Prop} {idx cal d1 o : Nat} {fs : List Value} {v0 v1 : Value} {v : Value} (pc' : Nat) (hf : xft mi pc = some (.invokevirtual idx, 3)) (hp : pc + 3 = pc') (hm : xmt (xOW mi) idx = some (1, cal)) (ho : S[o]? = some (.inr (.inl (xOW cal, fs)))) (hC : xC E d1 cal [.ref o, v0, v1] (S, I, L) (fun r t => r = some v ∧ t = (S, I, L))) (hk : xokc mi cal 2 [.ref o, v0, v1] st d1 d k q = true) (hk' : k + xBC cal = k) (hq' : q + xBS cal = q) (kk : xW E d mi pc' lv (v :: st) (S, I, L) k q Q) : xW E d mi pc lv (v1 :: v0 :: .ref o :: st) (S, I, L) k q Q := ws_invV2 pc' hf hp hm ho hC hk hk' hq' (fun r t h => by obtain ⟨rfl, rfl⟩ := h; exact kk)
theorem ws_invS3 {E : xEx} {d mi pc : Nat} {lv : xLv} {st : List Value} {σ : xMem} {k q : Nat} {Q : Option Value → xMem → Prop} {idx cal d1 : Nat} {v0 v1 v2 : Value} {Qc : Option Value → xMem → Prop} (pc' : Nat) (hf : xft mi pc = some (.invokestatic idx, 3)) (hp : pc + 3 = pc') (hm : xmt (xOW mi) idx = some (0, cal)) (hC : xC E d1 cal [v0, v1, v2] σ Qc) (hk : xokc mi cal 3 [v0, v1, v2] st d1 d k q = true) (hk' : k + xBC cal = k) (hq' : q + xBS cal = q) (kk : ∀ r t, Qc r t → xW E d mi pc' lv (r.toList ++ st) t k q Q) : xW E d mi pc lv (v2 :: v1 :: v0 :: st) σ k q Q := ws_invS (As := [v0, v1, v2]) pc' k q hf hp hm hC hk hk' hq' kk
theorem ws_invS3p {E : xEx} {d mi pc : Nat} {lv : xLv} {st : List Value} {σ : xMem} {k q : Nat} {Q : Option Value → xMem → Prop} {idx cal d1 : Nat} {v0 v1 v2 : Value} {v : Value} (pc' : Nat) (hf : xft mi pc = some (.invokestatic idx, 3)) (hp : pc + 3 = pc') (hm : xmt (xOW mi) idx = some (0, cal)) (hC : xP d1 cal [v0, v1, v2] v) (hk : xokc mi cal 3 [v0, v1, v2] st d1 d k q = true) (hk' : k + xBC cal = k) (hq' : q + xBS cal = q) (kk : xW E d mi pc' lv (v :: st) σ k q Q) : xW E d mi pc lv (v2 :: v1 :: v0 :: st) σ k q Q := ws_invS3 pc' hf hp hm (hC E σ) hk hk' hq' (fun r t h => by obtain ⟨rfl, rfl⟩ := h; exact kk)
theorem ws_invSN3 {E : xEx} {d mi pc : Nat} {lv : xLv} {st : List Value} {σ : xMem} {k q : Nat} {Q : Option Value → xMem → Prop} {idx cal d1 : Nat} {v0 v1 v2 : Value} {Qc : Option Value → xMem → Prop} (pc' : Nat) (hf : xft mi pc = some (.invokestatic idx, 3)) (hp : pc + 3 = pc') (hm : xmt (xOW mi) idx = some (10, cal)) (hC : xC E d1 cal [v0, v1, v2] σ Qc) (hk : xokc mi cal 3 [v0, v1, v2] st d1 d k q = true) (hk' : k + xBC cal = k) (hq' : q + xBS cal = q) (kk : ∀ r t, Qc r t → xW E d mi pc' lv (r.toList ++ st) t k q Q) : xW E d mi pc lv (v2 :: v1 :: v0 :: st) σ k q Q := ws_invSN (As := [v0, v1, v2]) pc' k q hf hp hm hC hk hk' hq' kk
theorem ws_invSN3p {E : xEx} {d mi pc : Nat} {lv : xLv} {st : List Value} {σ : xMem} {k q : Nat} {Q : Option Value → xMem → Prop} {idx cal d1 : Nat} {v0 v1 v2 : Value} {v : Value} (pc' : Nat) (hf : xft mi pc = some (.invokestatic idx, 3)) (hp : pc + 3 = pc') (hm : xmt (xOW mi) idx = some (10, cal)) (hC : xP d1 cal [v0, v1, v2] v) (hk : xokc mi cal 3 [v0, v1, v2] st d1 d k q = true) (hk' : k + xBC cal = k) (hq' : q + xBS cal = q) (kk : xW E d mi pc' lv (v :: st) σ k q Q) : xW E d mi pc lv (v2 :: v1 :: v0 :: st) σ k q Q := ws_invSN3 pc' hf hp hm (hC E σ) hk hk' hq' (fun r t h => by obtain ⟨rfl, rfl⟩ := h; exact kk)
theorem ws_invV3 {E : xEx} {d mi pc : Nat} {lv : xLv} {st : List Value} {S : List xSh} {I : Nat → Nat → Int32} {L : Nat → Nat → Int64} {k q : Nat} {Q : Option Value → xMem → Prop} {idx cal d1 o : Nat} {fs : List Value} {v0 v1 v2 : Value} {Qc : Option Value → xMem → Prop} (pc' : Nat) (hf : xft mi pc = some (.invokevirtual idx, 3)) (hp : pc + 3 = pc') (hm : xmt (xOW mi) idx = some (1, cal)) (ho : S[o]? = some (.inr (.inl (xOW cal, fs)))) (hC : xC E d1 cal [.ref o, v0, v1, v2] (S, I, L) Qc) (hk : xokc mi cal 3 [.ref o, v0, v1, v2] st d1 d k q = true) (hk' : k + xBC cal = k) (hq' : q + xBS cal = q) (kk : ∀ r t, Qc r t → xW E d mi pc' lv (r.toList ++ st) t k q Q) : xW E d mi pc lv (v2 :: v1 :: v0 :: .ref o :: st) (S, I, L) k q Q := ws_invV (As := [v0, v1, v2]) pc' k q hf hp hm ho hC hk hk' hq' kk
theorem ws_invV3p {E : xEx} {d mi pc : Nat} {lv : xLv} {st : List Value} {S : List xSh} {I : Nat → Nat → Int32} {L : Nat → Nat → Int64} {k q : Nat} {Q : Option Value → xMem → Prop} {idx cal d1 o : Nat} {fs : List Value} {v0 v1 v2 : Value} {v : Value} (pc' : Nat) (hf : xft mi pc = some (.invokevirtual idx, 3)) (hp : pc + 3 = pc') (hm : xmt (xOW mi) idx = some (1, cal)) (ho : S[o]? = some (.inr (.inl (xOW cal, fs)))) (hC : xC E d1 cal [.ref o, v0, v1, v2] (S, I, L) (fun r t => r = some v ∧ t = (S, I, L))) (hk : xokc mi cal 3 [.ref o, v0, v1, v2] st d1 d k q = true) (hk' : k + xBC cal = k) (hq' : q + xBS cal = q) (kk : xW E d mi pc' lv (v :: st) (S, I, L) k q Q) : xW E d mi pc lv (v2 :: v1 :: v0 :: .ref o :: st) (S, I, L) k q Q := ws_invV3 pc' hf hp hm ho hC hk hk' hq' (fun r t h => by obtain ⟨rfl, rfl⟩ := h; exact kk)
theorem ws_invS4 {E : xEx} {d mi pc : Nat} {lv : xLv} {st : List Value} {σ : xMem} {k q : Nat} {Q : Option Value → xMem → Prop} {idx cal d1 : Nat} {v0 v1 v2 v3 : Value} {Qc : Option Value → xMem → Prop} (pc' : Nat) (hf : xft mi pc = some (.invokestatic idx, 3)) (hp : pc + 3 = pc') (hm : xmt (xOW mi) idx = some (0, cal)) (hC : xC E d1 cal [v0, v1, v2, v3] σ Qc) (hk : xokc mi cal 4 [v0, v1, v2, v3] st d1 d k q = true) (hk' : k + xBC cal = k) (hq' : q + xBS cal = q) (kk : ∀ r t, Qc r t → xW E d mi pc' lv (r.toList ++ st) t k q Q) : xW E d mi pc lv (v3 :: v2 :: v1 :: v0 :: st) σ k q Q := ws_invS (As := [v0, v1, v2, v3]) pc' k q hf hp hm hC hk hk' hq' kk
theorem ws_invS4p {E : xEx} {d mi pc : Nat} {lv : xLv} {st : List Value} {σ : xMem} {k q : Nat} {Q : Option Value → xMem → Prop} {idx cal d1 : Nat} {v0 v1 v2 v3 : Value} {v : Value} (pc' : Nat) (hf : xft mi pc = some (.invokestatic idx, 3)) (hp : pc + 3 = pc') (hm : xmt (xOW mi) idx = some (0, cal)) (hC : xP d1 cal [v0, v1, v2, v3] v) (hk : xokc mi cal 4 [v0, v1, v2, v3] st d1 d k q = true) (hk' : k + xBC cal = k) (hq' : q + xBS cal = q) (kk : xW E d mi pc' lv (v :: st) σ k q Q) : xW E d mi pc lv (v3 :: v2 :: v1 :: v0 :: st) σ k q Q := ws_invS4 pc' hf hp hm (hC E σ) hk hk' hq' (fun r t h => by obtain ⟨rfl, rfl⟩ := h; exact kk)
theorem ws_invSN4 {E : xEx} {d mi pc : Nat} {lv : xLv} {st : List Value} {σ : xMem} {k q : Nat} {Q : Option Value → xMem → Prop} {idx cal d1 : Nat} {v0 v1 v2 v3 : Value} {Qc : Option Value → xMem → Prop} (pc' : Nat) (hf : xft mi pc = some (.invokestatic idx, 3)) (hp : pc + 3 = pc') (hm : xmt (xOW mi) idx = some (10, cal)) (hC : xC E d1 cal [v0, v1, v2, v3] σ Qc) (hk : xokc mi cal 4 [v0, v1, v2, v3] st d1 d k q = true) (hk' : k + xBC cal = k) (hq' : q + xBS cal = q) (kk : ∀ r t, Qc r t → xW E d mi pc' lv (r.toList ++ st) t k q Q) : xW E d mi pc lv (v3 :: v2 :: v1 :: v0 :: st) σ k q Q := ws_invSN (As := [v0, v1, v2, v3]) pc' k q hf hp hm hC hk hk' hq' kk
theorem ws_invSN4p {E : xEx} {d mi pc : Nat} {lv : xLv} {st : List Value} {σ : xMem} {k q : Nat} {Q : Option Value → xMem → Prop} {idx cal d1 : Nat} {v0 v1 v2 v3 : Value} {v : Value} (pc' : Nat) (hf : xft mi pc = some (.invokestatic idx, 3)) (hp : pc + 3 = pc') (hm : xmt (xOW mi) idx = some (10, cal)) (hC : xP d1 cal [v0, v1, v2, v3] v) (hk : xokc mi cal 4 [v0, v1, v2, v3] st d1 d k q = true) (hk' : k + xBC cal = k) (hq' : q + xBS cal = q) (kk : xW E d mi pc' lv (v :: st) σ k q Q) : xW E d mi pc lv (v3 :: v2 :: v1 :: v0 :: st) σ k q Q := ws_invSN4 pc' hf hp hm (hC E σ) hk hk' hq' (fun r t h => by obtain ⟨rfl, rfl⟩ := h; exact kk)
theorem ws_invV4 {E : xEx} {d mi pc : Nat} {lv : xLv} {st : List Value} {S : List xSh} {I : Nat → Nat → Int32} {L : Nat → Nat → Int64} {k q : Nat} {Q : Option Value → xMem → Prop} {idx cal d1 o : Nat} {fs : List Value} {v0 v1 v2 v3 : Value} {Qc : Option Value → xMem → Prop} (pc' : Nat) (hf : xft mi pc = some (.invokevirtual idx, 3)) (hp : pc + 3 = pc') (hm : xmt (xOW mi) idx = some (1, cal)) (ho : S[o]? = some (.inr (.inl (xOW cal, fs)))) (hC : xC E d1 cal [.ref o, v0, v1, v2, v3] (S, I, L) Qc) (hk : xokc mi cal 4 [.ref o, v0, v1, v2, v3] st d1 d k q = true) (hk' : k + xBC cal = k) (hq' : q + xBS cal = q) (kk : ∀ r t, Qc r t → xW E d mi pc' lv (r.toList ++ st) t k q Q) : xW E d mi pc lv (v3 :: v2 :: v1 :: v0 :: .ref o :: st) (S, I, L) k q Q := ws_invV (As := [v0, v1, v2, v3]) pc' k q hf hp hm ho hC hk hk' hq' kk
theorem ws_invV4p {E : xEx} {d mi pc : Nat} {lv : xLv} {st : List Value} {S : List xSh} {I : Nat → Nat → Int32} {L : Nat → Nat → Int64} {k q : Nat} {Q : Option Value → xMem → Prop} {idx cal d1 o : Nat} {fs : List Value} {v0 v1 v2 v3 : Value} {v : Value} (pc' : Nat) (hf : xft mi pc = some (.invokevirtual idx, 3)) (hp : pc + 3 = pc') (hm : xmt (xOW mi) idx = some (1, cal)) (ho : S[o]? = some (.inr (.inl (xOW cal, fs)))) (hC : xC E d1 cal [.ref o, v0, v1, v2, v3] (S, I, L) (fun r t => r = some v ∧ t = (S, I, L))) (hk : xokc mi cal 4 [.ref o, v0, v1, v2, v3] st d1 d k q = true) (hk' : k + xBC cal = k) (hq' : q + xBS cal = q) (kk : xW E d mi pc' lv (v :: st) (S, I, L) k q Q) : xW E d mi pc lv (v3 :: v2 :: v1 :: v0 :: .ref o :: st) (S, I, L) k q Q := ws_invV4 pc' hf hp hm ho hC hk hk' hq' (fun r t h => by obtain ⟨rfl, rfl⟩ := h; exact kk)
end
section
/-! ===== small methods ===== -/
/-- a number between two -/
def rg (a b : Int) (x : Int32) : Bool := decide (a ≤ x.toInt) && decide (x.toInt ≤ b)
theorem rg_t {a b : Int} {x : Int32} (h : rg a b x = true) : a ≤ x.toInt ∧ x.toInt ≤ b := by
  unfold rg at h
  simpa using h
theorem rg_f {a b : Int} {x : Int32} (h : rg a b x = false) : x.toInt < a ∨ b < x.toInt := by
  unfold rg at h
  simp at h
  omega
theorem rg_of {a b : Int} {x : Int32} (h1 : a ≤ x.toInt) (h2 : x.toInt ≤ b) : rg a b x = true := by simp [rg, h1, h2]
theorem rg_no {a b : Int} {x : Int32} (h1 : x.toInt < a ∨ b < x.toInt) : rg a b x = false := by
  cases h : rg a b x with
  | false => rfl
  | true => have := rg_t h; omega
theorem rg_nat {a b : Nat} {x : Int32} (h : rg (a : Int) (b : Int) x = true) (hb : b < 2147483648) : ∃ j : Nat, a ≤ j ∧ j ≤ b ∧ x = nI j := by
  obtain ⟨h1, h2⟩ := rg_t h
  refine ⟨x.toInt.toNat, by omega, by omega, ?_⟩
  apply Int32.toInt_inj.mp
  rw [nI_toInt (by omega)]
  omega
theorem rg_nI {a b : Int} {n : Nat} (hn : n < 2147483648) : rg a b (nI n) = (decide (a ≤ (n : Int)) && decide ((n : Int) ≤ b)) := by
  unfold rg
  rw [nI_toInt hn]
theorem i32_lt {x y : Int32} : x < y ↔ x.toInt < y.toInt := Int32.lt_iff_toInt_lt
theorem i32_le {x y : Int32} : x ≤ y ↔ x.toInt ≤ y.toInt := Int32.le_iff_toInt_le
theorem p_below (x : Int32) (n : Nat) (b : Int) (hn : n < 2147483648) (hb : (n : Int) = b + 1) : xP 1 80 [.int x, .int (nI n)] (.int (xb (rg 0 b x))) := by
  intro E σ
  refine xC.mk [some (.int x), some (.int (nI n))] rfl ?_
  have e := nI_toInt hn
  refine ws_iload_0 1 rfl rfl ?_
  refine ws_if_lt 13 4 rfl rfl rfl (fun h => ?_) (fun h => ?_)
  · rw [show rg 0 b x = false from rg_no (by rw [i32_lt] at h; simp at h; omega)]
    refine ws_iconst 14 rfl rfl kc_i0 ?_
    refine ws_zret rfl rfl (by first | exact xb_01 _ | decide) rfl (Nat.le_of_ble_eq_true rfl) ?_
    exact ⟨rfl, rfl⟩
  · rw [i32_lt] at h
    simp at h
    refine ws_iload_0 5 rfl rfl ?_
    refine ws_iload_1 6 rfl rfl ?_
    refine ws_icmp_ge 13 9 rfl rfl rfl (fun h2 => ?_) (fun h2 => ?_)
    · rw [show rg 0 b x = false from rg_no (by rw [i32_le, e] at h2; omega)]
      refine ws_iconst 14 rfl rfl kc_i0 ?_
      refine ws_zret rfl rfl (by first | exact xb_01 _ | decide) rfl (Nat.le_of_ble_eq_true rfl) ?_
      exact ⟨rfl, rfl⟩
    · rw [show rg 0 b x = true from rg_of h (by rw [i32_le, e] at h2; omega)]
      refine ws_iconst 10 rfl rfl kc_i1 ?_
      refine ws_goto 14 rfl rfl ?_
      refine ws_zret rfl rfl (by first | exact xb_01 _ | decide) rfl (Nat.le_of_ble_eq_true rfl) ?_
      exact ⟨rfl, rfl⟩
theorem p_between (x lo hi : Int32) (a b : Int) (ha : lo.toInt = a) (hb : hi.toInt = b) : xP 1 81 [.int x, .int lo, .int hi] (.int (xb (rg a b x))) := by
  intro E σ
  refine xC.mk [some (.int x), some (.int lo), some (.int hi)] rfl ?_
  refine ws_iload_0 1 rfl rfl ?_
  refine ws_iload_1 2 rfl rfl ?_
  refine ws_icmp_lt 14 5 rfl rfl rfl (fun h => ?_) (fun h => ?_)
  · rw [show rg a b x = false from rg_no (by rw [i32_lt] at h; omega)]
    refine ws_iconst 15 rfl rfl kc_i0 ?_
    refine ws_zret rfl rfl (by first | exact xb_01 _ | decide) rfl (Nat.le_of_ble_eq_true rfl) ?_
    exact ⟨rfl, rfl⟩
  · rw [i32_lt] at h
    refine ws_iload_0 6 rfl rfl ?_
    refine ws_iload_2 7 rfl rfl ?_
    refine ws_icmp_gt 14 10 rfl rfl rfl (fun h2 => ?_) (fun h2 => ?_)
    · rw [show rg a b x = false from rg_no (by rw [i32_lt] at h2; omega)]
      refine ws_iconst 15 rfl rfl kc_i0 ?_
      refine ws_zret rfl rfl (by first | exact xb_01 _ | decide) rfl (Nat.le_of_ble_eq_true rfl) ?_
      exact ⟨rfl, rfl⟩
    · rw [show rg a b x = true from rg_of (by omega) (by rw [i32_lt] at h2; omega)]
      refine ws_iconst 11 rfl rfl kc_i1 ?_
      refine ws_goto 15 rfl rfl ?_
      refine ws_zret rfl rfl (by first | exact xb_01 _ | decide) rfl (Nat.le_of_ble_eq_true rfl) ?_
      exact ⟨rfl, rfl⟩
theorem p_in (x lo hi : Int32) (a b : Int) (ha : lo.toInt = a) (hb : hi.toInt = b) : xP 1 83 [.int x, .int lo, .int hi] (.int (xb (rg a b x))) := by
  intro E σ
  refine xC.mk [some (.int x), some (.int lo), some (.int hi)] rfl ?_
  refine ws_iload_0 1 rfl rfl ?_
  refine ws_iload_1 2 rfl rfl ?_
  refine ws_icmp_lt 14 5 rfl rfl rfl (fun h => ?_) (fun h => ?_)
  · rw [show rg a b x = false from rg_no (by rw [i32_lt] at h; omega)]
    refine ws_iconst 15 rfl rfl kc_i0 ?_
    refine ws_zret rfl rfl (by first | exact xb_01 _ | decide) rfl (Nat.le_of_ble_eq_true rfl) ?_
    exact ⟨rfl, rfl⟩
  · rw [i32_lt] at h
    refine ws_iload_0 6 rfl rfl ?_
    refine ws_iload_2 7 rfl rfl ?_
    refine ws_icmp_gt 14 10 rfl rfl rfl (fun h2 => ?_) (fun h2 => ?_)
    · rw [show rg a b x = false from rg_no (by rw [i32_lt] at h2; omega)]
      refine ws_iconst 15 rfl rfl kc_i0 ?_
      refine ws_zret rfl rfl (by first | exact xb_01 _ | decide) rfl (Nat.le_of_ble_eq_true rfl) ?_
      exact ⟨rfl, rfl⟩
    · rw [show rg a b x = true from rg_of (by omega) (by rw [i32_lt] at h2; omega)]
      refine ws_iconst 11 rfl rfl kc_i1 ?_
      refine ws_goto 15 rfl rfl ?_
      refine ws_zret rfl rfl (by first | exact xb_01 _ | decide) rfl (Nat.le_of_ble_eq_true rfl) ?_
      exact ⟨rfl, rfl⟩
theorem p_isFive (x : Int32) : xP 2 84 [.int x] (.int (xb (rg 0 4 x))) := by
  intro E σ
  refine xC.mk [some (.int x)] rfl ?_
  refine ws_iload_0 1 rfl rfl ?_
  refine ws_iconst 2 rfl rfl kc_i0 ?_
  refine ws_iconst 3 rfl rfl kc_i4 ?_
  refine ws_invS3p 6 rfl rfl rfl (p_in x (nI 0) (nI 4) 0 4 (by decide) (by decide)) rfl rfl rfl ?_
  refine ws_zret rfl rfl (by first | exact xb_01 _ | decide) rfl (Nat.le_of_ble_eq_true rfl) ?_
  exact ⟨rfl, rfl⟩
def mxI (x y : Int32) : Int32 := if x < y then y else x
def mnI (x y : Int32) : Int32 := if y < x then y else x
theorem p_max (x y : Int32) : xP 1 139 [.int x, .int y] (.int (mxI x y)) := by
  intro E σ
  refine xC.mk [some (.int x), some (.int y)] rfl ?_
  refine ws_iload_0 1 rfl rfl ?_
  refine ws_iload_1 2 rfl rfl ?_
  refine ws_icmp_lt 9 5 rfl rfl rfl (fun h => ?_) (fun h => ?_)
  · rw [show mxI x y = y from if_pos h]
    refine ws_iload_1 10 rfl rfl ?_
    refine ws_iret rfl rfl rfl (Nat.le_of_ble_eq_true rfl) ?_
    exact ⟨rfl, rfl⟩
  · rw [show mxI x y = x from if_neg h]
    refine ws_iload_0 6 rfl rfl ?_
    refine ws_goto 10 rfl rfl ?_
    refine ws_iret rfl rfl rfl (Nat.le_of_ble_eq_true rfl) ?_
    exact ⟨rfl, rfl⟩
theorem p_min (x y : Int32) : xP 1 141 [.int x, .int y] (.int (mnI x y)) := by
  intro E σ
  refine xC.mk [some (.int x), some (.int y)] rfl ?_
  refine ws_iload_0 1 rfl rfl ?_
  refine ws_iload_1 2 rfl rfl ?_
  refine ws_icmp_gt 9 5 rfl rfl rfl (fun h => ?_) (fun h => ?_)
  · rw [show mnI x y = y from if_pos h]
    refine ws_iload_1 10 rfl rfl ?_
    refine ws_iret rfl rfl rfl (Nat.le_of_ble_eq_true rfl) ?_
    exact ⟨rfl, rfl⟩
  · rw [show mnI x y = x from if_neg h]
    refine ws_iload_0 6 rfl rfl ?_
    refine ws_goto 10 rfl rfl ?_
    refine ws_iret rfl rfl rfl (Nat.le_of_ble_eq_true rfl) ?_
    exact ⟨rfl, rfl⟩
theorem mxI_n {a b : Nat} (ha : a < 2147483648) (hb : b < 2147483648) : mxI (nI a) (nI b) = nI (max a b) := by
  unfold mxI
  by_cases h : a < b
  · rw [if_pos ((kn_lt ha hb).mpr h), Nat.max_eq_right (by omega)]
  · rw [if_neg (fun q => h ((kn_lt ha hb).mp q)), Nat.max_eq_left (by omega)]
theorem mnI_n {a b : Nat} (ha : a < 2147483648) (hb : b < 2147483648) : mnI (nI a) (nI b) = nI (min a b) := by
  unfold mnI
  by_cases h : b < a
  · rw [if_pos ((kn_lt hb ha).mpr h), Nat.min_eq_right (by omega)]
  · rw [if_neg (fun q => h ((kn_lt hb ha).mp q)), Nat.min_eq_left (by omega)]
theorem p_maxn (a b : Nat) (ha : a < 2147483648) (hb : b < 2147483648) : xP 1 139 [.int (nI a), .int (nI b)] (.int (nI (max a b))) := by
  rw [← mxI_n ha hb]
  exact p_max _ _
theorem p_minn (a b : Nat) (ha : a < 2147483648) (hb : b < 2147483648) : xP 1 141 [.int (nI a), .int (nI b)] (.int (nI (min a b))) := by
  rw [← mnI_n ha hb]
  exact p_min _ _
def mxL (x y : Int64) : Int64 := if x < y then y else x
def mnL (x y : Int64) : Int64 := if y < x then y else x
theorem p_maxL (x y : Int64) : xP 1 140 [.long x, .long y] (.long (mxL x y)) := by
  intro E σ
  refine xC.mk [some (.long x), none, some (.long y), none] rfl ?_
  refine ws_lload_0 1 rfl rfl ?_
  refine ws_lload_2 2 rfl rfl ?_
  refine ws_lcmp 3 rfl rfl ?_
  refine ws_lc_lt 10 6 rfl rfl rfl (fun h => ?_) (fun h => ?_)
  · rw [show mxL x y = y from if_pos h]
    refine ws_lload_2 11 rfl rfl ?_
    refine ws_lret rfl rfl rfl (Nat.le_of_ble_eq_true rfl) ?_
    exact ⟨rfl, rfl⟩
  · rw [show mxL x y = x from if_neg h]
    refine ws_lload_0 7 rfl rfl ?_
    refine ws_goto 11 rfl rfl ?_
    refine ws_lret rfl rfl rfl (Nat.le_of_ble_eq_true rfl) ?_
    exact ⟨rfl, rfl⟩
theorem p_minL (x y : Int64) : xP 1 142 [.long x, .long y] (.long (mnL x y)) := by
  intro E σ
  refine xC.mk [some (.long x), none, some (.long y), none] rfl ?_
  refine ws_lload_0 1 rfl rfl ?_
  refine ws_lload_2 2 rfl rfl ?_
  refine ws_lcmp 3 rfl rfl ?_
  refine ws_lc_gt 10 6 rfl rfl rfl (fun h => ?_) (fun h => ?_)
  · rw [show mnL x y = y from if_pos h]
    refine ws_lload_2 11 rfl rfl ?_
    refine ws_lret rfl rfl rfl (Nat.le_of_ble_eq_true rfl) ?_
    exact ⟨rfl, rfl⟩
  · rw [show mnL x y = x from if_neg h]
    refine ws_lload_0 7 rfl rfl ?_
    refine ws_goto 11 rfl rfl ?_
    refine ws_lret rfl rfl rfl (Nat.le_of_ble_eq_true rfl) ?_
    exact ⟨rfl, rfl⟩
end
section
/-! ===== signs, counts of bits, digits ===== -/
def jn (c : Nat) : Bool := decide (c = 43) || (decide (c = 45) || (decide (c = 42) || decide (c = 109)))
def al (c : Nat) : Bool := (decide (48 ≤ c) && decide (c ≤ 57)) || (decide (c = 115) || (decide (c = 119) || decide (c = 104)))
theorem jn_al {c : Nat} (h : jn c = true) : al c = false := by
  simp only [jn, al, Bool.or_eq_true, decide_eq_true_eq] at h ⊢
  rcases h with rfl | rfl | rfl | rfl <;> decide
theorem p_joinsTwo (c : Nat) (hc : c < 1000) : xP 1 11 [.int (nI c)] (.int (xb (jn c))) := by
  intro E σ
  refine xC.mk [some (.int (nI c))] rfl ?_
  refine ws_iload_0 1 rfl rfl ?_
  refine ws_bipush 3 rfl rfl kc_b43 ?_
  refine ws_icmp_eqn 24 6 rfl rfl rfl (by omega) (by omega) (fun h3 => ?_) (fun h3 => ?_)
  · refine ws_iconst 25 rfl rfl kc_i1 ?_
    refine ws_goto 29 rfl rfl ?_
    refine ws_zret rfl rfl (by first | exact xb_01 _ | decide) rfl (Nat.le_of_ble_eq_true rfl) ?_
    exact ⟨by simp_all [jn, xb], rfl⟩
  · refine ws_iload_0 7 rfl rfl ?_
    refine ws_bipush 9 rfl rfl kc_b45 ?_
    refine ws_icmp_eqn 24 12 rfl rfl rfl (by omega) (by omega) (fun h9 => ?_) (fun h9 => ?_)
    · refine ws_iconst 25 rfl rfl kc_i1 ?_
      refine ws_goto 29 rfl rfl ?_
      refine ws_zret rfl rfl (by first | exact xb_01 _ | decide) rfl (Nat.le_of_ble_eq_true rfl) ?_
      exact ⟨by simp_all [jn, xb], rfl⟩
    · refine ws_iload_0 13 rfl rfl ?_
      refine ws_bipush 15 rfl rfl kc_b42 ?_
      refine ws_icmp_eqn 24 18 rfl rfl rfl (by omega) (by omega) (fun h15 => ?_) (fun h15 => ?_)
      · refine ws_iconst 25 rfl rfl kc_i1 ?_
        refine ws_goto 29 rfl rfl ?_
        refine ws_zret rfl rfl (by first | exact xb_01 _ | decide) rfl (Nat.le_of_ble_eq_true rfl) ?_
        exact ⟨by simp_all [jn, xb], rfl⟩
      · refine ws_iload_0 19 rfl rfl ?_
        refine ws_bipush 21 rfl rfl kc_b109 ?_
        refine ws_icmp_nen 28 24 rfl rfl rfl (by omega) (by omega) (fun h21 => ?_) (fun h21 => ?_)
        · refine ws_iconst 29 rfl rfl kc_i0 ?_
          refine ws_zret rfl rfl (by first | exact xb_01 _ | decide) rfl (Nat.le_of_ble_eq_true rfl) ?_
          exact ⟨by simp_all [jn, xb], rfl⟩
        · refine ws_iconst 25 rfl rfl kc_i1 ?_
          refine ws_goto 29 rfl rfl ?_
          refine ws_zret rfl rfl (by first | exact xb_01 _ | decide) rfl (Nat.le_of_ble_eq_true rfl) ?_
          exact ⟨by simp_all [jn, xb], rfl⟩
theorem al_rg {c : Nat} (hc : c < 1000) : al c = (rg 48 57 (nI c) || (decide (c = 115) || (decide (c = 119) || decide (c = 104)))) := by
  rw [rg_nI (by omega)]
  unfold al
  congr 2
  · simp; omega
  · simp; omega
theorem p_standsAlone (c : Nat) (hc : c < 1000) : xP 2 12 [.int (nI c)] (.int (xb (al c))) := by
  intro E σ
  rw [al_rg hc]
  refine xC.mk [some (.int (nI c))] rfl ?_
  refine ws_iload_0 1 rfl rfl ?_
  refine ws_bipush 3 rfl rfl kc_b48 ?_
  refine ws_bipush 5 rfl rfl kc_b57 ?_
  refine ws_invSN3p 8 rfl rfl rfl (p_between (nI c) (nI 48) (nI 57) 48 57 (by decide) (by decide)) rfl rfl rfl ?_
  refine ws_if_neb 29 11 rfl rfl rfl (fun h8 => ?_) (fun h8 => ?_)
  · refine ws_iconst 30 rfl rfl kc_i1 ?_
    refine ws_goto 34 rfl rfl ?_
    refine ws_zret rfl rfl (by first | exact xb_01 _ | decide) rfl (Nat.le_of_ble_eq_true rfl) ?_
    exact ⟨by simp_all [xb], rfl⟩
  · refine ws_iload_0 12 rfl rfl ?_
    refine ws_bipush 14 rfl rfl kc_b115 ?_
    refine ws_icmp_eqn 29 17 rfl rfl rfl (by omega) (by omega) (fun h14 => ?_) (fun h14 => ?_)
    · refine ws_iconst 30 rfl rfl kc_i1 ?_
      refine ws_goto 34 rfl rfl ?_
      refine ws_zret rfl rfl (by first | exact xb_01 _ | decide) rfl (Nat.le_of_ble_eq_true rfl) ?_
      exact ⟨by simp_all [xb], rfl⟩
    · refine ws_iload_0 18 rfl rfl ?_
      refine ws_bipush 20 rfl rfl kc_b119 ?_
      refine ws_icmp_eqn 29 23 rfl rfl rfl (by omega) (by omega) (fun h20 => ?_) (fun h20 => ?_)
      · refine ws_iconst 30 rfl rfl kc_i1 ?_
        refine ws_goto 34 rfl rfl ?_
        refine ws_zret rfl rfl (by first | exact xb_01 _ | decide) rfl (Nat.le_of_ble_eq_true rfl) ?_
        exact ⟨by simp_all [xb], rfl⟩
      · refine ws_iload_0 24 rfl rfl ?_
        refine ws_bipush 26 rfl rfl kc_b104 ?_
        refine ws_icmp_nen 33 29 rfl rfl rfl (by omega) (by omega) (fun h26 => ?_) (fun h26 => ?_)
        · refine ws_iconst 34 rfl rfl kc_i0 ?_
          refine ws_zret rfl rfl (by first | exact xb_01 _ | decide) rfl (Nat.le_of_ble_eq_true rfl) ?_
          exact ⟨by simp_all [xb], rfl⟩
        · refine ws_iconst 30 rfl rfl kc_i1 ?_
          refine ws_goto 34 rfl rfl ?_
          refine ws_zret rfl rfl (by first | exact xb_01 _ | decide) rfl (Nat.le_of_ble_eq_true rfl) ?_
          exact ⟨by simp_all [xb], rfl⟩
theorem p_partsOf (c : Nat) (hc : c < 1000) : xP 2 90 [.int (nI c)] (.int (bif al c then nI 0 else bif jn c then nI 2 else -6)) := by
  intro E σ
  rw [al_rg hc]
  refine xC.mk [some (.int (nI c))] rfl ?_
  refine ws_iload_0 1 rfl rfl ?_
  refine ws_bipush 3 rfl rfl kc_b48 ?_
  refine ws_bipush 5 rfl rfl kc_b57 ?_
  refine ws_invS3p 8 rfl rfl rfl (p_in (nI c) (nI 48) (nI 57) 48 57 (by decide) (by decide)) rfl rfl rfl ?_
  refine ws_if_neb 29 11 rfl rfl rfl (fun h8 => ?_) (fun h8 => ?_)
  · refine ws_iconst 30 rfl rfl kc_i0 ?_
    refine ws_goto 63 rfl rfl ?_
    refine ws_iret rfl rfl rfl (Nat.le_of_ble_eq_true rfl) ?_
    exact ⟨by simp_all [jn], rfl⟩
  · refine ws_iload_0 12 rfl rfl ?_
    refine ws_bipush 14 rfl rfl kc_b115 ?_
    refine ws_icmp_eqn 29 17 rfl rfl rfl (by omega) (by omega) (fun h14 => ?_) (fun h14 => ?_)
    · refine ws_iconst 30 rfl rfl kc_i0 ?_
      refine ws_goto 63 rfl rfl ?_
      refine ws_iret rfl rfl rfl (Nat.le_of_ble_eq_true rfl) ?_
      exact ⟨by simp_all [jn], rfl⟩
    · refine ws_iload_0 18 rfl rfl ?_
      refine ws_bipush 20 rfl rfl kc_b119 ?_
      refine ws_icmp_eqn 29 23 rfl rfl rfl (by omega) (by omega) (fun h20 => ?_) (fun h20 => ?_)
      · refine ws_iconst 30 rfl rfl kc_i0 ?_
        refine ws_goto 63 rfl rfl ?_
        refine ws_iret rfl rfl rfl (Nat.le_of_ble_eq_true rfl) ?_
        exact ⟨by simp_all [jn], rfl⟩
      · refine ws_iload_0 24 rfl rfl ?_
        refine ws_bipush 26 rfl rfl kc_b104 ?_
        refine ws_icmp_nen 33 29 rfl rfl rfl (by omega) (by omega) (fun h26 => ?_) (fun h26 => ?_)
        · refine ws_iload_0 34 rfl rfl ?_
          refine ws_bipush 36 rfl rfl kc_b43 ?_
          refine ws_icmp_eqn 57 39 rfl rfl rfl (by omega) (by omega) (fun h36 => ?_) (fun h36 => ?_)
          · refine ws_iconst 58 rfl rfl kc_i2 ?_
            refine ws_goto 63 rfl rfl ?_
            refine ws_iret rfl rfl rfl (Nat.le_of_ble_eq_true rfl) ?_
            exact ⟨by simp_all [jn], rfl⟩
          · refine ws_iload_0 40 rfl rfl ?_
            refine ws_bipush 42 rfl rfl kc_b45 ?_
            refine ws_icmp_eqn 57 45 rfl rfl rfl (by omega) (by omega) (fun h42 => ?_) (fun h42 => ?_)
            · refine ws_iconst 58 rfl rfl kc_i2 ?_
              refine ws_goto 63 rfl rfl ?_
              refine ws_iret rfl rfl rfl (Nat.le_of_ble_eq_true rfl) ?_
              exact ⟨by simp_all [jn], rfl⟩
            · refine ws_iload_0 46 rfl rfl ?_
              refine ws_bipush 48 rfl rfl kc_b42 ?_
              refine ws_icmp_eqn 57 51 rfl rfl rfl (by omega) (by omega) (fun h48 => ?_) (fun h48 => ?_)
              · refine ws_iconst 58 rfl rfl kc_i2 ?_
                refine ws_goto 63 rfl rfl ?_
                refine ws_iret rfl rfl rfl (Nat.le_of_ble_eq_true rfl) ?_
                exact ⟨by simp_all [jn], rfl⟩
              · refine ws_iload_0 52 rfl rfl ?_
                refine ws_bipush 54 rfl rfl kc_b109 ?_
                refine ws_icmp_nen 61 57 rfl rfl rfl (by omega) (by omega) (fun h54 => ?_) (fun h54 => ?_)
                · refine ws_bipush 63 rfl rfl kc_bm6 ?_
                  refine ws_iret rfl rfl rfl (Nat.le_of_ble_eq_true rfl) ?_
                  exact ⟨by simp_all [jn], rfl⟩
                · refine ws_iconst 58 rfl rfl kc_i2 ?_
                  refine ws_goto 63 rfl rfl ?_
                  refine ws_iret rfl rfl rfl (Nat.le_of_ble_eq_true rfl) ?_
                  exact ⟨by simp_all [jn], rfl⟩
        · refine ws_iconst 30 rfl rfl kc_i0 ?_
          refine ws_goto 63 rfl rfl ?_
          refine ws_iret rfl rfl rfl (Nat.le_of_ble_eq_true rfl) ?_
          exact ⟨by simp_all [jn], rfl⟩
def av (c s w : Nat) : Nat := if c = 115 then s else if c = 119 then w else if c = 104 then 100 else c - 48
theorem p_leastOf (c : Nat) (hc : c < 1000) : xP 1 99 [.int (nI c)] (.int (nI (if c = 1 ∨ c = 2 then 1 else 0))) := by
  intro E σ
  refine xC.mk [some (.int (nI c))] rfl ?_
  refine ws_iload_0 1 rfl rfl ?_
  refine ws_iconst 2 rfl rfl kc_i1 ?_
  refine ws_icmp_eqn 10 5 rfl rfl rfl (by omega) (by omega) (fun h2 => ?_) (fun h2 => ?_)
  · refine ws_iconst 11 rfl rfl kc_i1 ?_
    refine ws_goto 15 rfl rfl ?_
    refine ws_iret rfl rfl rfl (Nat.le_of_ble_eq_true rfl) ?_
    exact ⟨by simp_all, rfl⟩
  · refine ws_iload_0 6 rfl rfl ?_
    refine ws_iconst 7 rfl rfl kc_i2 ?_
    refine ws_icmp_nen 14 10 rfl rfl rfl (by omega) (by omega) (fun h7 => ?_) (fun h7 => ?_)
    · refine ws_iconst 15 rfl rfl kc_i0 ?_
      refine ws_iret rfl rfl rfl (Nat.le_of_ble_eq_true rfl) ?_
      exact ⟨by simp_all, rfl⟩
    · refine ws_iconst 11 rfl rfl kc_i1 ?_
      refine ws_goto 15 rfl rfl ?_
      refine ws_iret rfl rfl rfl (Nat.le_of_ble_eq_true rfl) ?_
      exact ⟨by simp_all, rfl⟩
def dg (code p : Nat) : Nat := code / 6 ^ (4 - p) % 6
theorem p_digit (code p : Nat) (hc : code < 7776) (hp : p < 5) : xP 1 117 [.int (nI code), .int (nI p)] (.int (nI (dg code p))) := by
  intro E σ
  refine xC.mk [some (.int (nI code)), some (.int (nI p))] rfl ?_
  have hq : p = 0 ∨ p = 1 ∨ p = 2 ∨ p = 3 ∨ p = 4 := by omega
  rcases hq with rfl | rfl | rfl | rfl | rfl
  · refine ws_iload_1 1 rfl rfl ?_
    refine ws_if_nen 12 4 rfl rfl rfl (by omega) (fun h9 => absurd h9 (by omega)) (fun h9 => ?_)
    refine ws_iload_0 5 rfl rfl ?_
    refine ws_sipush 8 rfl rfl kc_s1296 ?_
    refine ws_idiv 9 rfl rfl (kn_ne0 (by omega) (by omega)) (pk_div (by omega) (by omega) (by omega)) ?_
    refine ws_goto 50 rfl rfl ?_
    refine ws_bipush 52 rfl rfl kc_b6 ?_
    refine ws_irem 53 rfl rfl (kn_ne0 (by omega) (by omega)) (pk_rem (by omega) (by omega) (by omega)) ?_
    refine ws_iret rfl rfl rfl (Nat.le_of_ble_eq_true rfl) ?_
    exact ⟨by simp [dg], rfl⟩
  · refine ws_iload_1 1 rfl rfl ?_
    refine ws_if_nen 12 4 rfl rfl rfl (by omega) (fun h9 => ?_) (fun h9 => absurd h9 (by omega))
    refine ws_iload_1 13 rfl rfl ?_
    refine ws_iconst 14 rfl rfl kc_i1 ?_
    refine ws_icmp_nen 25 17 rfl rfl rfl (by omega) (by omega) (fun h9 => absurd h9 (by omega)) (fun h9 => ?_)
    refine ws_iload_0 18 rfl rfl ?_
    refine ws_sipush 21 rfl rfl kc_s216 ?_
    refine ws_idiv 22 rfl rfl (kn_ne0 (by omega) (by omega)) (pk_div (by omega) (by omega) (by omega)) ?_
    refine ws_goto 50 rfl rfl ?_
    refine ws_bipush 52 rfl rfl kc_b6 ?_
    refine ws_irem 53 rfl rfl (kn_ne0 (by omega) (by omega)) (pk_rem (by omega) (by omega) (by omega)) ?_
    refine ws_iret rfl rfl rfl (Nat.le_of_ble_eq_true rfl) ?_
    exact ⟨by simp [dg], rfl⟩
  · refine ws_iload_1 1 rfl rfl ?_
    refine ws_if_nen 12 4 rfl rfl rfl (by omega) (fun h9 => ?_) (fun h9 => absurd h9 (by omega))
    refine ws_iload_1 13 rfl rfl ?_
    refine ws_iconst 14 rfl rfl kc_i1 ?_
    refine ws_icmp_nen 25 17 rfl rfl rfl (by omega) (by omega) (fun h9 => ?_) (fun h9 => absurd h9 (by omega))
    refine ws_iload_1 26 rfl rfl ?_
    refine ws_iconst 27 rfl rfl kc_i2 ?_
    refine ws_icmp_nen 37 30 rfl rfl rfl (by omega) (by omega) (fun h9 => absurd h9 (by omega)) (fun h9 => ?_)
    refine ws_iload_0 31 rfl rfl ?_
    refine ws_bipush 33 rfl rfl kc_b36 ?_
    refine ws_idiv 34 rfl rfl (kn_ne0 (by omega) (by omega)) (pk_div (by omega) (by omega) (by omega)) ?_
    refine ws_goto 50 rfl rfl ?_
    refine ws_bipush 52 rfl rfl kc_b6 ?_
    refine ws_irem 53 rfl rfl (kn_ne0 (by omega) (by omega)) (pk_rem (by omega) (by omega) (by omega)) ?_
    refine ws_iret rfl rfl rfl (Nat.le_of_ble_eq_true rfl) ?_
    exact ⟨by simp [dg], rfl⟩
  · refine ws_iload_1 1 rfl rfl ?_
    refine ws_if_nen 12 4 rfl rfl rfl (by omega) (fun h9 => ?_) (fun h9 => absurd h9 (by omega))
    refine ws_iload_1 13 rfl rfl ?_
    refine ws_iconst 14 rfl rfl kc_i1 ?_
    refine ws_icmp_nen 25 17 rfl rfl rfl (by omega) (by omega) (fun h9 => ?_) (fun h9 => absurd h9 (by omega))
    refine ws_iload_1 26 rfl rfl ?_
    refine ws_iconst 27 rfl rfl kc_i2 ?_
    refine ws_icmp_nen 37 30 rfl rfl rfl (by omega) (by omega) (fun h9 => ?_) (fun h9 => absurd h9 (by omega))
    refine ws_iload_1 38 rfl rfl ?_
    refine ws_iconst 39 rfl rfl kc_i3 ?_
    refine ws_icmp_nen 49 42 rfl rfl rfl (by omega) (by omega) (fun h9 => absurd h9 (by omega)) (fun h9 => ?_)
    refine ws_iload_0 43 rfl rfl ?_
    refine ws_bipush 45 rfl rfl kc_b6 ?_
    refine ws_idiv 46 rfl rfl (kn_ne0 (by omega) (by omega)) (pk_div (by omega) (by omega) (by omega)) ?_
    refine ws_goto 50 rfl rfl ?_
    refine ws_bipush 52 rfl rfl kc_b6 ?_
    refine ws_irem 53 rfl rfl (kn_ne0 (by omega) (by omega)) (pk_rem (by omega) (by omega) (by omega)) ?_
    refine ws_iret rfl rfl rfl (Nat.le_of_ble_eq_true rfl) ?_
    exact ⟨by simp [dg], rfl⟩
  · refine ws_iload_1 1 rfl rfl ?_
    refine ws_if_nen 12 4 rfl rfl rfl (by omega) (fun h9 => ?_) (fun h9 => absurd h9 (by omega))
    refine ws_iload_1 13 rfl rfl ?_
    refine ws_iconst 14 rfl rfl kc_i1 ?_
    refine ws_icmp_nen 25 17 rfl rfl rfl (by omega) (by omega) (fun h9 => ?_) (fun h9 => absurd h9 (by omega))
    refine ws_iload_1 26 rfl rfl ?_
    refine ws_iconst 27 rfl rfl kc_i2 ?_
    refine ws_icmp_nen 37 30 rfl rfl rfl (by omega) (by omega) (fun h9 => ?_) (fun h9 => absurd h9 (by omega))
    refine ws_iload_1 38 rfl rfl ?_
    refine ws_iconst 39 rfl rfl kc_i3 ?_
    refine ws_icmp_nen 49 42 rfl rfl rfl (by omega) (by omega) (fun h9 => ?_) (fun h9 => absurd h9 (by omega))
    refine ws_iload_0 50 rfl rfl ?_
    refine ws_bipush 52 rfl rfl kc_b6 ?_
    refine ws_irem 53 rfl rfl (kn_ne0 (by omega) (by omega)) (pk_rem (by omega) (by omega) (by omega)) ?_
    refine ws_iret rfl rfl rfl (Nat.le_of_ble_eq_true rfl) ?_
    exact ⟨by simp [dg], rfl⟩
theorem p_power (p : Nat) (hp : p < 5) : xP 1 118 [.int (nI p)] (.int (nI (6 ^ (4 - p)))) := by
  intro E σ
  refine xC.mk [some (.int (nI p))] rfl ?_
  have hq : p = 0 ∨ p = 1 ∨ p = 2 ∨ p = 3 ∨ p = 4 := by omega
  rcases hq with rfl | rfl | rfl | rfl | rfl
  · refine ws_iload_0 1 rfl rfl ?_
    refine ws_if_nen 10 4 rfl rfl rfl (by omega) (fun h9 => absurd h9 (by omega)) (fun h9 => ?_)
    refine ws_sipush 7 rfl rfl kc_s1296 ?_
    refine ws_goto 42 rfl rfl ?_
    refine ws_iret rfl rfl rfl (Nat.le_of_ble_eq_true rfl) ?_
    exact ⟨rfl, rfl⟩
  · refine ws_iload_0 1 rfl rfl ?_
    refine ws_if_nen 10 4 rfl rfl rfl (by omega) (fun h9 => ?_) (fun h9 => absurd h9 (by omega))
    refine ws_iload_0 11 rfl rfl ?_
    refine ws_iconst 12 rfl rfl kc_i1 ?_
    refine ws_icmp_nen 21 15 rfl rfl rfl (by omega) (by omega) (fun h9 => absurd h9 (by omega)) (fun h9 => ?_)
    refine ws_sipush 18 rfl rfl kc_s216 ?_
    refine ws_goto 42 rfl rfl ?_
    refine ws_iret rfl rfl rfl (Nat.le_of_ble_eq_true rfl) ?_
    exact ⟨rfl, rfl⟩
  · refine ws_iload_0 1 rfl rfl ?_
    refine ws_if_nen 10 4 rfl rfl rfl (by omega) (fun h9 => ?_) (fun h9 => absurd h9 (by omega))
    refine ws_iload_0 11 rfl rfl ?_
    refine ws_iconst 12 rfl rfl kc_i1 ?_
    refine ws_icmp_nen 21 15 rfl rfl rfl (by omega) (by omega) (fun h9 => ?_) (fun h9 => absurd h9 (by omega))
    refine ws_iload_0 22 rfl rfl ?_
    refine ws_iconst 23 rfl rfl kc_i2 ?_
    refine ws_icmp_nen 31 26 rfl rfl rfl (by omega) (by omega) (fun h9 => absurd h9 (by omega)) (fun h9 => ?_)
    refine ws_bipush 28 rfl rfl kc_b36 ?_
    refine ws_goto 42 rfl rfl ?_
    refine ws_iret rfl rfl rfl (Nat.le_of_ble_eq_true rfl) ?_
    exact ⟨rfl, rfl⟩
  · refine ws_iload_0 1 rfl rfl ?_
    refine ws_if_nen 10 4 rfl rfl rfl (by omega) (fun h9 => ?_) (fun h9 => absurd h9 (by omega))
    refine ws_iload_0 11 rfl rfl ?_
    refine ws_iconst 12 rfl rfl kc_i1 ?_
    refine ws_icmp_nen 21 15 rfl rfl rfl (by omega) (by omega) (fun h9 => ?_) (fun h9 => absurd h9 (by omega))
    refine ws_iload_0 22 rfl rfl ?_
    refine ws_iconst 23 rfl rfl kc_i2 ?_
    refine ws_icmp_nen 31 26 rfl rfl rfl (by omega) (by omega) (fun h9 => ?_) (fun h9 => absurd h9 (by omega))
    refine ws_iload_0 32 rfl rfl ?_
    refine ws_iconst 33 rfl rfl kc_i3 ?_
    refine ws_icmp_nen 41 36 rfl rfl rfl (by omega) (by omega) (fun h9 => absurd h9 (by omega)) (fun h9 => ?_)
    refine ws_bipush 38 rfl rfl kc_b6 ?_
    refine ws_goto 42 rfl rfl ?_
    refine ws_iret rfl rfl rfl (Nat.le_of_ble_eq_true rfl) ?_
    exact ⟨rfl, rfl⟩
  · refine ws_iload_0 1 rfl rfl ?_
    refine ws_if_nen 10 4 rfl rfl rfl (by omega) (fun h9 => ?_) (fun h9 => absurd h9 (by omega))
    refine ws_iload_0 11 rfl rfl ?_
    refine ws_iconst 12 rfl rfl kc_i1 ?_
    refine ws_icmp_nen 21 15 rfl rfl rfl (by omega) (by omega) (fun h9 => ?_) (fun h9 => absurd h9 (by omega))
    refine ws_iload_0 22 rfl rfl ?_
    refine ws_iconst 23 rfl rfl kc_i2 ?_
    refine ws_icmp_nen 31 26 rfl rfl rfl (by omega) (by omega) (fun h9 => ?_) (fun h9 => absurd h9 (by omega))
    refine ws_iload_0 32 rfl rfl ?_
    refine ws_iconst 33 rfl rfl kc_i3 ?_
    refine ws_icmp_nen 41 36 rfl rfl rfl (by omega) (by omega) (fun h9 => ?_) (fun h9 => absurd h9 (by omega))
    refine ws_iconst 42 rfl rfl kc_i1 ?_
    refine ws_iret rfl rfl rfl (Nat.le_of_ble_eq_true rfl) ?_
    exact ⟨rfl, rfl⟩
/-- how many of the first bits are set -/
def pop : Nat → Nat → Nat
  | 0, _ => 0
  | k + 1, n => pop k n + n / 2 ^ k % 2
theorem pop_le (k n : Nat) : pop k n ≤ k := by
  induction k with
  | zero => exact Nat.le_refl 0
  | succ k ih => show pop k n + n / 2 ^ k % 2 ≤ k + 1; omega
theorem p_bits (n : Nat) (hn : n < 100000) : xP 1 110 [.int (nI n)] (.int (nI (pop 5 n))) := by
  intro E σ
  refine xC.mk [some (.int (nI n)), none, none] rfl ?_
  refine ws_iconst 1 rfl rfl kc_i0 ?_
  refine ws_istore_1 2 rfl rfl rfl rfl ?_
  refine ws_iconst 3 rfl rfl kc_i0 ?_
  refine ws_istore_2 4 rfl rfl rfl rfl ?_
  have loop : ∀ m k : Nat, k + m = 5 → xW E 1 110 4 [some (.int (nI n)), some (.int (nI (pop k n))), some (.int (nI k))] [] σ 0 0 (fun r t => r = some (.int (nI (pop 5 n))) ∧ t = σ) := by
    intro m
    induction m with
    | zero =>
      intro k hk
      obtain rfl : k = 5 := by omega
      refine ws_iload_2 5 rfl rfl ?_
      refine ws_iconst 6 rfl rfl kc_i5 ?_
      refine ws_icmp_gen 23 9 rfl rfl rfl (by omega) (by omega) (fun h9 => ?_) (fun h9 => absurd h9 (by omega))
      refine ws_iload_1 24 rfl rfl ?_
      refine ws_iret rfl rfl rfl (Nat.le_of_ble_eq_true rfl) ?_
      exact ⟨rfl, rfl⟩
    | succ m ih =>
      intro k hk
      have e : n / 2 ^ k &&& 1 = n / 2 ^ k % 2 := Nat.and_one_is_mod _
      refine ws_iload_2 5 rfl rfl ?_
      refine ws_iconst 6 rfl rfl kc_i5 ?_
      refine ws_icmp_gen 23 9 rfl rfl rfl (by omega) (by omega) (fun h9 => absurd h9 (by omega)) (fun h9 => ?_)
      refine ws_iload_1 10 rfl rfl ?_
      refine ws_iload_0 11 rfl rfl ?_
      refine ws_iload_2 12 rfl rfl ?_
      refine ws_ishr 13 rfl rfl (kn_shr (by omega) (by omega)) ?_
      refine ws_iconst 14 rfl rfl kc_i1 ?_
      refine ws_iand 15 rfl rfl (kn_and _ _) ?_
      refine ws_iadd 16 rfl rfl (nI_add _ _) ?_
      refine ws_istore_1 17 rfl rfl rfl rfl ?_
      refine ws_iinc_2 20 rfl rfl (ki_1 _) rfl rfl ?_
      refine ws_goto 4 rfl rfl ?_
      exact (by rw [e]; exact ih (k + 1) (by omega))
  exact loop 5 0 rfl
def bcI (i0 : Int32) : Int32 :=
  let u (x : Int32) (k : Int32) : Int32 := (x.toUInt32 >>> (k.toUInt32 &&& Int32.toUInt32 31)).toInt32
  let i1 := i0 - (u i0 (nI 1) &&& 1431655765)
  let i2 := (i1 &&& 858993459) + (u i1 (nI 2) &&& 858993459)
  let i3 := (i2 + u i2 (nI 4)) &&& 252645135
  let i4 := i3 + u i3 (nI 8)
  let i5 := i4 + u i4 (nI 16)
  i5 &&& nI 63
theorem bcI_pop : ∀ n, n < 2048 → bcI (nI n) = nI (pop 11 n) := by decide +kernel
theorem p_bitCount (n : Nat) (hn : n < 2048) : xP 1 138 [.int (nI n)] (.int (nI (pop 11 n))) := by
  intro E σ
  refine xC.mk [some (.int (nI n))] rfl ?_
  rw [← bcI_pop n hn]
  generalize nI n = x
  refine ws_iload_0 1 rfl rfl ?_
  refine ws_iload_0 2 rfl rfl ?_
  refine ws_iconst 3 rfl rfl kc_i1 ?_
  refine ws_iushr 4 rfl rfl rfl ?_
  refine ws_ldcw 7 rfl rfl rfl rfl ?_
  refine ws_iand 8 rfl rfl rfl ?_
  refine ws_isub 9 rfl rfl rfl ?_
  refine ws_istore_0 10 rfl rfl rfl rfl ?_
  refine ws_iload_0 11 rfl rfl ?_
  refine ws_ldcw 14 rfl rfl rfl rfl ?_
  refine ws_iand 15 rfl rfl rfl ?_
  refine ws_iload_0 16 rfl rfl ?_
  refine ws_iconst 17 rfl rfl kc_i2 ?_
  refine ws_iushr 18 rfl rfl rfl ?_
  refine ws_ldcw 21 rfl rfl rfl rfl ?_
  refine ws_iand 22 rfl rfl rfl ?_
  refine ws_iadd 23 rfl rfl rfl ?_
  refine ws_istore_0 24 rfl rfl rfl rfl ?_
  refine ws_iload_0 25 rfl rfl ?_
  refine ws_iload_0 26 rfl rfl ?_
  refine ws_iconst 27 rfl rfl kc_i4 ?_
  refine ws_iushr 28 rfl rfl rfl ?_
  refine ws_iadd 29 rfl rfl rfl ?_
  refine ws_ldcw 32 rfl rfl rfl rfl ?_
  refine ws_iand 33 rfl rfl rfl ?_
  refine ws_istore_0 34 rfl rfl rfl rfl ?_
  refine ws_iload_0 35 rfl rfl ?_
  refine ws_iload_0 36 rfl rfl ?_
  refine ws_bipush 38 rfl rfl kc_b8 ?_
  refine ws_iushr 39 rfl rfl rfl ?_
  refine ws_iadd 40 rfl rfl rfl ?_
  refine ws_istore_0 41 rfl rfl rfl rfl ?_
  refine ws_iload_0 42 rfl rfl ?_
  refine ws_iload_0 43 rfl rfl ?_
  refine ws_bipush 45 rfl rfl kc_b16 ?_
  refine ws_iushr 46 rfl rfl rfl ?_
  refine ws_iadd 47 rfl rfl rfl ?_
  refine ws_istore_0 48 rfl rfl rfl rfl ?_
  refine ws_iload_0 49 rfl rfl ?_
  refine ws_bipush 51 rfl rfl kc_b63 ?_
  refine ws_iand 52 rfl rfl rfl ?_
  refine ws_iret rfl rfl rfl (Nat.le_of_ble_eq_true rfl) ?_
  exact ⟨rfl, rfl⟩
end
section
/-! ===== the shapes of all cells; the scene's reads ===== -/
def xC0 : List xSh := [
  .inr (.inl (5, [.ref 1, .ref 5, .ref 12, .ref 13, .ref 14, .ref 19, .ref 26, .ref 27])),
  .inr (.inl (1, [.ref 2, .ref 3, .ref 4, .int 0])), .inl (.int, 40), .inl (.int, 16), .inl (.long, 40),
  .inr (.inl (3, [.ref 6, .ref 7, .ref 8, .ref 9, .ref 10, .ref 11, .int 0, .int 0])), .inl (.int, 15), .inl (.int, 5), .inl (.int, 5), .inl (.int, 24), .inl (.int, 20), .inl (.int, 11),
  .inr (.inr [.ref 28, .ref 35]), .inl (.boolean, 2),
  .inr (.inl (2, [.ref 5, .ref 15, .ref 16, .ref 17, .ref 18, .int 0, .int 0, .int 0])), .inl (.int, 5), .inl (.int, 5), .inl (.int, 5), .inl (.int, 32),
  .inr (.inl (4, [.ref 14, .ref 20, .ref 21, .int 0, .ref 22, .int 0, .ref 23, .ref 24, .ref 25, .int 0, .int 0, .int 0])), .inl (.int, 1546), .inl (.int, 1546), .inl (.int, 1546), .inl (.int, 5), .inl (.int, 5), .inl (.int, 40),
  .inr (.inl (0, [.long 0, .long 0])), .inl (.int, 5),
  .inr (.inl (3, [.ref 29, .ref 30, .ref 31, .ref 32, .ref 33, .ref 34, .int 0, .int 0])), .inl (.int, 15), .inl (.int, 5), .inl (.int, 5), .inl (.int, 24), .inl (.int, 20), .inl (.int, 11),
  .inr (.inl (3, [.ref 36, .ref 37, .ref 38, .ref 39, .ref 40, .ref 41, .int 0, .int 0])), .inl (.int, 15), .inl (.int, 5), .inl (.int, 5), .inl (.int, 24), .inl (.int, 20), .inl (.int, 11)]
def xM0 : List xSh := [
  .inr (.inl (6, [.ref 43, .ref 44, .int 0, .ref 45, .ref 46, .ref 47, .ref 48, .ref 49, .int 0, .ref 50, .ref 51, .int 0, .ref 52, .ref 53, .ref 54, .ref 55, .ref 56, .ref 57, .ref 58, .ref 59, .long 0, .long 0, .long 0, .ref 60, .ref 61, .ref 62])),
  .inl (.int, 15), .inl (.int, 5), .inl (.int, 40), .inl (.int, 5), .inl (.int, 24), .inl (.int, 2), .inl (.int, 30), .inl (.int, 11), .inl (.boolean, 11), .inl (.int, 7), .inl (.int, 5), .inl (.int, 5), .inl (.long, 16), .inl (.int, 32), .inl (.int, 32), .inl (.int, 12), .inl (.int, 12), .inl (.int, 7776), .inl (.int, 260), .inl (.boolean, 2)]
/-- an answer, nothing changed -/
abbrev rV (v : Value) (σ : xMem) : Option Value → xMem → Prop := fun r t => r = some v ∧ t = σ
theorem wI_ne {I : Nat → Nat → Int32} {a j c : Nat} {x : Int32} (h : c ≠ a) : wI I a j x c = I c := by
  unfold wI
  rw [if_neg h]
theorem wI_eq {I : Nat → Nat → Int32} {a j : Nat} {x : Int32} : wI I a j x a = upd (I a) j x := by
  unfold wI
  rw [if_pos rfl]
theorem wR_ne {I : Nat → Nat → Int32} {a c : Nat} {f : Nat → Int32} (h : c ≠ a) : wR I a f c = I c := by
  unfold wR
  rw [if_neg h]
theorem wL_ne {I : Nat → Nat → Int64} {a j c : Nat} {x : Int64} (h : c ≠ a) : wL I a j x c = I c := by
  unfold wL
  rw [if_neg h]
/-- filling a row from its beginning -/
theorem fl {f g : Nat → Int32} {k : Nat} {x : Int32} (h : ∀ p, p < k → f p = g p) (hx : x = g k) : ∀ p, p < k + 1 → upd f k x p = g p := by
  intro p hp
  by_cases e : p = k
  · subst e
    rw [pk_us, hx]
  · rw [pk_un e]
    exact h p (by omega)
/-- filling a row, what lies further on stays -/
theorem fl2 {f g : Nat → Int32} {k n : Nat} {x : Int32} (h : ∀ p, p < n → f p = g p) : ∀ p, p < n → upd f k x p = upd g k x p := by
  intro p hp
  by_cases e : p = k
  · subst e
    rw [pk_us, pk_us]
  · rw [pk_un e, pk_un e]
    exact h p hp
theorem mxI_sub {a b c : Nat} (ha : a < 1073741824) (hb : b < 1073741824) (hc : c < 2147483648) : mxI (nI c) (nI a - nI b) = nI (max c (a - b)) := by
  by_cases h : b ≤ a
  · rw [pk_sub h]
    exact mxI_n hc (by omega)
  · have h1 := pk_sneg (a := a) (b := b) (by omega) (by omega)
    have h2 : ¬ nI c < nI a - nI b := by
      rw [i32_lt] at h1 ⊢
      rw [nI_toInt (by omega)]
      rw [Int32.toInt_zero] at h1
      omega
    unfold mxI
    rw [if_neg h2, Nat.max_eq_left (by omega)]
theorem p_maxsub (a b c : Nat) (ha : a < 1073741824) (hb : b < 1073741824) (hc : c < 2147483648) : xP 1 139 [.int (nI c), .int (nI a - nI b)] (.int (nI (max c (a - b)))) := by
  rw [← mxI_sub ha hb hc]
  exact p_max _ _
theorem p_below5t (d : Nat) (hd : d < 5) : xP 1 80 [.int (nI d), .int (nI 5)] (.int (xb true)) := by
  have h := p_below (nI d) 5 4 (by omega) rfl
  rwa [show rg 0 4 (nI d) = true by rw [rg_nI (by omega)]; simp; omega] at h
theorem p_below5f : xP 1 80 [.int (-6), .int (nI 5)] (.int (xb false)) := by
  have h := p_below (-6) 5 4 (by omega) rfl
  rwa [show rg 0 4 (-6) = false by decide] at h
/-- what a place of a row of the class holds -/
def rw6 (d : Nat) : Int32 := if d = 0 then -6 else nI (d - 1)
theorem rw6_0 {d : Nat} (h : d = 0) : rw6 d = -6 := if_pos h
theorem rw6_1 {d : Nat} (h : ¬ d = 0) : rw6 d = nI (d - 1) := if_neg h
section SCENE
variable {E : xEx} {T : List xSh} {I : Nat → Nat → Int32} {L : Nat → Nat → Int64} {A : Nat → Nat → Nat}
theorem c_trait (hTh : ∀ j, j < 15 → I 6 j = nI (A 0 j)) (t w : Nat) (ht : t < 5) (hw : w < 3) : xC E 1 26 [.ref 5, .int (nI t), .int (nI w)] (xC0 ++ T, I, L) (rV (.int (nI (A 0 (w * 5 + t)))) (xC0 ++ T, I, L)) := by
  refine xC.mk [some (.ref 5), some (.int (nI t)), some (.int (nI w))] rfl ?_
  refine ws_aload_0 1 rfl rfl ?_
  refine ws_getfr 4 rfl rfl rfl rfl rfl ?_
  refine ws_iload_2 5 rfl rfl ?_
  refine ws_iconst 6 rfl rfl kc_i5 ?_
  refine ws_imul 7 rfl rfl (pk_mul _ _) ?_
  refine ws_iload_1 8 rfl rfl ?_
  refine ws_iadd 9 rfl rfl (nI_add _ _) ?_
  refine ws_ialdn 10 rfl rfl rfl (by omega) (by omega) (hTh _ (by omega)) ?_
  refine ws_iret rfl rfl rfl (Nat.le_of_ble_eq_true rfl) ?_
  exact ⟨rfl, rfl⟩
theorem c_habit (hKi : ∀ j, j < 24 → I 9 j = nI (A 3 j)) (k w : Nat) (hk : k < 4) (hw : w < 6) : xC E 1 27 [.ref 5, .int (nI k), .int (nI w)] (xC0 ++ T, I, L) (rV (.int (nI (A 3 (k * 6 + w)))) (xC0 ++ T, I, L)) := by
  refine xC.mk [some (.ref 5), some (.int (nI k)), some (.int (nI w))] rfl ?_
  refine ws_aload_0 1 rfl rfl ?_
  refine ws_getfr 4 rfl rfl rfl rfl rfl ?_
  refine ws_iload_1 5 rfl rfl ?_
  refine ws_bipush 7 rfl rfl kc_b6 ?_
  refine ws_imul 8 rfl rfl (pk_mul _ _) ?_
  refine ws_iload_2 9 rfl rfl ?_
  refine ws_iadd 10 rfl rfl (nI_add _ _) ?_
  refine ws_ialdn 11 rfl rfl rfl (by omega) (by omega) (hKi _ (by omega)) ?_
  refine ws_iret rfl rfl rfl (Nat.le_of_ble_eq_true rfl) ?_
  exact ⟨rfl, rfl⟩
theorem c_answer {f : Nat → Nat} (hAn : ∀ j, j < 20 → I 10 j = nI (f j)) (w s t : Nat) (hw : w < 2) (hs : s < 5) (ht : t < 2) : xC E 1 28 [.ref 5, .int (nI w), .int (nI s), .int (nI t)] (xC0 ++ T, I, L) (rV (.int (nI (f (w * 10 + 2 * s + t)))) (xC0 ++ T, I, L)) := by
  refine xC.mk [some (.ref 5), some (.int (nI w)), some (.int (nI s)), some (.int (nI t))] rfl ?_
  refine ws_aload_0 1 rfl rfl ?_
  refine ws_getfr 4 rfl rfl rfl rfl rfl ?_
  refine ws_iload_1 5 rfl rfl ?_
  refine ws_bipush 7 rfl rfl kc_b10 ?_
  refine ws_imul 8 rfl rfl (pk_mul _ _) ?_
  refine ws_iconst 9 rfl rfl kc_i2 ?_
  refine ws_iload_2 10 rfl rfl ?_
  refine ws_imul 11 rfl rfl (pk_mul _ _) ?_
  refine ws_iadd 12 rfl rfl (nI_add _ _) ?_
  refine ws_iload_3 13 rfl rfl ?_
  refine ws_iadd 14 rfl rfl (nI_add _ _) ?_
  refine ws_ialdn 15 rfl rfl rfl (by omega) (by omega) (hAn _ (by omega)) ?_
  refine ws_iret rfl rfl rfl (Nat.le_of_ble_eq_true rfl) ?_
  exact ⟨rfl, rfl⟩
end SCENE
end
section
/-! ===== Passers: what a window draws ===== -/
/-- a row's bits -/
def bt (b : Nat → Nat) (p : Nat) : Nat := if b p = 0 then 0 else 2 ^ (b p - 1)
theorem bt_0 {b : Nat → Nat} {p : Nat} (h : b p = 0) : bt b p = 0 := if_pos h
theorem bt_1 {b : Nat → Nat} {p : Nat} (h : ¬ b p = 0) : bt b p = 2 ^ (b p - 1) := if_neg h
theorem pw5 : ∀ d, d < 5 → 1 ≤ 2 ^ d ∧ 2 ^ d ≤ 16 := by decide
theorem bt_le {b : Nat → Nat} {p : Nat} (h : b p ≤ 5) : bt b p ≤ 16 := by
  by_cases h0 : b p = 0
  · rw [bt_0 h0]; omega
  · rw [bt_1 h0]; exact (pw5 _ (by omega)).2
/-- how many things stand on the first places -/
def cn (b : Nat → Nat) : Nat → Nat
  | 0 => 0
  | k + 1 => cn b k + (if b k = 0 then 0 else 1)
theorem cn_le (b : Nat → Nat) : ∀ k, cn b k ≤ k
  | 0 => Nat.le_refl 0
  | k + 1 => by
    have := cn_le b k
    show cn b k + (if b k = 0 then 0 else 1) ≤ k + 1
    split <;> omega
/-- catch by light -/
def pb (A : Nat → Nat → Nat) (b : Nat → Nat) (p : Nat) : Nat := if b p = 0 then 0 else A 0 (b p - 1) * A 1 p
/-- where the thing at a place looks -/
def lo (A : Nat → Nat → Nat) (b : Nat → Nat) (p : Nat) : Nat := if b p = 0 then 0 else A 0 (10 + (b p - 1))
/-- looked at by the first k places -/
def pl (A : Nat → Nat → Nat) (b : Nat → Nat) (k p : Nat) : Nat := pb A b p + ((if p + 1 < k ∧ lo A b (p + 1) = 1 then 10 else 0) + (if (1 ≤ p ∧ p - 1 < k) ∧ lo A b (p - 1) = 2 then 10 else 0))
/-- what a place draws from one who is new -/
def dz (A : Nat → Nat → Nat) (b : Nat → Nat) (p : Nat) : Nat := if b p = 0 then 0 else max 1 (pl A b 5 p - 3 * (cn b 5 - 3))
/-- .. from one who has been -/
def dw (A : Nat → Nat → Nat) (b : Nat → Nat) (p n : Nat) : Nat := if b p = 0 then 0 else max 1 (dz A b p / (1 + n))
theorem pb_le {A : Nat → Nat → Nat} {b : Nat → Nat} {p : Nat} (h1 : ∀ j, j < 5 → A 0 j ≤ 9) (h2 : ∀ j, j < 5 → A 1 j ≤ 9) (hp : p < 5) (hb : b p ≤ 5) : pb A b p ≤ 81 := by
  unfold pb
  split
  · omega
  · exact Nat.mul_le_mul (h1 _ (by omega)) (h2 _ hp)
theorem pl_le {A : Nat → Nat → Nat} {b : Nat → Nat} {k p : Nat} (h1 : ∀ j, j < 5 → A 0 j ≤ 9) (h2 : ∀ j, j < 5 → A 1 j ≤ 9) (hp : p < 5) (hb : b p ≤ 5) : pl A b k p ≤ 101 := by
  have := pb_le h1 h2 hp hb
  unfold pl
  split <;> split <;> omega
theorem dz_le {A : Nat → Nat → Nat} {b : Nat → Nat} {p : Nat} (h1 : ∀ j, j < 5 → A 0 j ≤ 9) (h2 : ∀ j, j < 5 → A 1 j ≤ 9) (hp : p < 5) (hb : b p ≤ 5) : dz A b p ≤ 101 := by
  have := pl_le (k := 5) h1 h2 hp hb
  unfold dz
  split <;> omega
theorem dz_pos {A : Nat → Nat → Nat} {b : Nat → Nat} {p : Nat} (h : ¬ b p = 0) : 1 ≤ dz A b p := by
  unfold dz
  rw [if_neg h]
  omega
theorem dw_le {A : Nat → Nat → Nat} {b : Nat → Nat} {p n : Nat} (h1 : ∀ j, j < 5 → A 0 j ≤ 9) (h2 : ∀ j, j < 5 → A 1 j ≤ 9) (hp : p < 5) (hb : b p ≤ 5) : dw A b p n ≤ 101 := by
  have := dz_le h1 h2 hp hb
  have h3 := Nat.div_le_self (dz A b p) (1 + n)
  unfold dw
  split <;> omega
theorem dw_pos {A : Nat → Nat → Nat} {b : Nat → Nat} {p n : Nat} (h : ¬ b p = 0) : 1 ≤ dw A b p n := by
  unfold dw
  rw [if_neg h]
  omega
theorem pl_step (A : Nat → Nat → Nat) (b : Nat → Nat) (k p : Nat) : pl A b (k + 1) p = pl A b k p + ((if p + 1 = k ∧ lo A b k = 1 then 10 else 0) + (if p = k + 1 ∧ lo A b k = 2 then 10 else 0)) := by
  unfold pl
  have e1 : (if p + 1 < k + 1 ∧ lo A b (p + 1) = 1 then 10 else 0) = (if p + 1 < k ∧ lo A b (p + 1) = 1 then 10 else 0) + (if p + 1 = k ∧ lo A b k = 1 then 10 else 0) := by
    by_cases e : p + 1 = k
    · rw [e, if_neg (show ¬ (k < k ∧ lo A b k = 1) by omega)]
      simp
    · rw [if_neg (show ¬ (p + 1 = k ∧ lo A b k = 1) from fun q => e q.1)]
      have : (p + 1 < k + 1) ↔ (p + 1 < k) := by omega
      simp only [this, Nat.add_zero]
  have e2 : (if (1 ≤ p ∧ p - 1 < k + 1) ∧ lo A b (p - 1) = 2 then 10 else 0) = (if (1 ≤ p ∧ p - 1 < k) ∧ lo A b (p - 1) = 2 then 10 else 0) + (if p = k + 1 ∧ lo A b k = 2 then 10 else 0) := by
    by_cases e : p = k + 1
    · subst e
      rw [Nat.add_sub_cancel, if_neg (show ¬ ((1 ≤ k + 1 ∧ k < k) ∧ lo A b k = 2) by omega)]
      simp
    · rw [if_neg (show ¬ (p = k + 1 ∧ lo A b k = 2) from fun q => e q.1)]
      have : (1 ≤ p ∧ p - 1 < k + 1) ↔ (1 ≤ p ∧ p - 1 < k) := by omega
      simp only [this, Nat.add_zero]
  rw [e1, e2]
  omega
theorem pl_0 (A : Nat → Nat → Nat) (b : Nat → Nat) (p : Nat) : pl A b 0 p = pb A b p := by
  unfold pl
  rw [if_neg (by omega), if_neg (by omega)]
  rfl
section DRAWS
variable {E : xEx} {T : List xSh} {I : Nat → Nat → Int32} {L : Nat → Nat → Int64} {A : Nat → Nat → Nat} {b : Nat → Nat}
theorem c_lookBeside (c : Nat) (hc : c ≠ 16) (hS : (xC0 ++ T)[c]? = some (.inl (.int, 5))) (hTh : ∀ j, j < 15 → I 6 j = nI (A 0 j)) (h1 : ∀ j, j < 5 → A 0 j ≤ 9) (h2 : ∀ j, j < 5 → A 1 j ≤ 9) (h3 : ∀ j, j < 15 → A 0 j ≤ 99) (hb : ∀ p, p < 5 → b p ≤ 5) (hrow : ∀ p, p < 5 → I c p = rw6 (b p)) (hbt : ∀ p, p < 5 → I 15 p = nI (bt b p)) (hpb : ∀ p, p < 5 → I 16 p = nI (pb A b p)) :
    xC E 2 17 [.ref 14, .ref c] (xC0 ++ T, I, L) (fun r t => r = none ∧ ∃ I', t = (xC0 ++ T, I', L) ∧ (∀ a, a ≠ 16 → I' a = I a) ∧ ∀ p, p < 5 → I' 16 p = nI (pl A b 5 p)) := by
  refine xC.mk [some (.ref 14), some (.ref c), none, none] rfl ?_
  refine ws_iconst 1 rfl rfl kc_i0 ?_
  refine ws_istore_2 2 rfl rfl rfl rfl ?_
  have loop : ∀ (m k : Nat) (I' : Nat → Nat → Int32) (z : Option Value), k + m = 5 → (∀ a, a ≠ 16 → I' a = I a) → (∀ p, p < 5 → I' 16 p = nI (pl A b k p)) → xW E 2 17 2 [some (.ref 14), some (.ref c), some (.int (nI k)), z] [] (xC0 ++ T, I', L) 0 0 (fun r t => r = none ∧ ∃ I', t = (xC0 ++ T, I', L) ∧ (∀ a, a ≠ 16 → I' a = I a) ∧ ∀ p, p < 5 → I' 16 p = nI (pl A b 5 p)) := by
    intro m
    induction m with
    | zero =>
      intro k I' z hk hf hp
      obtain rfl : k = 5 := by omega
      refine ws_iload_2 3 rfl rfl ?_
      refine ws_iconst 4 rfl rfl kc_i5 ?_
      refine ws_icmp_gen 86 7 rfl rfl rfl (by omega) (by omega) (fun h9 => ?_) (fun h9 => absurd h9 (by omega))
      refine ws_vret rfl rfl rfl (Nat.le_of_ble_eq_true rfl) ?_
      exact ⟨rfl, I', rfl, hf, hp⟩
    | succ m ih =>
      intro k I' z hk hf hp
      have hTh' : ∀ j, j < 15 → I' 6 j = nI (A 0 j) := fun j hj => by rw [hf 6 (by decide)]; exact hTh j hj
      have hk5 : k < 5 := by omega
      by_cases hb0 : b k = 0
      · have e1 : I' 15 k = nI 0 := by rw [hf 15 (by decide), hbt k hk5, bt_0 hb0]
        have hl : lo A b k = 0 := if_pos hb0
        refine ws_iload_2 3 rfl rfl ?_
        refine ws_iconst 4 rfl rfl kc_i5 ?_
        refine ws_icmp_gen 86 7 rfl rfl rfl (by omega) (by omega) (fun h9 => absurd h9 (by omega)) (fun h9 => ?_)
        refine ws_aload_0 8 rfl rfl ?_
        refine ws_getfr 11 rfl rfl rfl rfl rfl ?_
        refine ws_iload_2 12 rfl rfl ?_
        refine ws_ialdn 13 rfl rfl rfl (by omega) (by omega) e1 ?_
        refine ws_if_nen 20 16 rfl rfl rfl (by omega) (fun h9 => absurd h9 (by omega)) (fun h9 => ?_)
        refine ws_iconst 17 rfl rfl kc_i0 ?_
        refine ws_goto 31 rfl rfl ?_
        refine ws_istore_3 32 rfl rfl rfl rfl ?_
        refine ws_iload_3 33 rfl rfl ?_
        refine ws_iconst 34 rfl rfl kc_i1 ?_
        refine ws_icmp_nen 57 37 rfl rfl rfl (by omega) (by omega) (fun h9 => ?_) (fun h9 => absurd h9 (by omega))
        refine ws_iload_3 58 rfl rfl ?_
        refine ws_iconst 59 rfl rfl kc_i2 ?_
        refine ws_icmp_nen 80 62 rfl rfl rfl (by omega) (by omega) (fun h9 => ?_) (fun h9 => absurd h9 (by omega))
        refine ws_iinc_2 83 rfl rfl (ki_1 _) rfl rfl ?_
        refine ws_goto 2 rfl rfl ?_
        exact ih (k + 1) I' _ (by omega) hf (fun p hp5 => by rw [hp p hp5, pl_step, hl]; simp)
      · have hd := hb k hk5
        obtain ⟨w1, w2⟩ := pw5 (b k - 1) (by omega)
        have e1 : I' 15 k = nI (2 ^ (b k - 1)) := by rw [hf 15 (by decide), hbt k hk5, bt_1 hb0]
        have e2 : I' c k = nI (b k - 1) := by rw [hf c hc, hrow k hk5, rw6_1 hb0]
        have hl : lo A b k = A 0 (2 * 5 + (b k - 1)) := if_neg hb0
        have hl9 := h3 (2 * 5 + (b k - 1)) (by omega)
        generalize 2 ^ (b k - 1) = w at *
        obtain ⟨x, hx⟩ : ∃ x, x = A 0 (2 * 5 + (b k - 1)) := ⟨_, rfl⟩
        have ct := c_trait (E := E) (T := T) (L := L) hTh' (b k - 1) 2 (by omega) (by omega)
        rw [← hx] at ct hl hl9
        have hA : ∀ (q : Nat) (y : Int32) (a : Nat), a ≠ 16 → wI I' 16 q y a = I a := fun q y a ha => by rw [wI_ne ha]; exact hf a ha
        refine ws_iload_2 3 rfl rfl ?_
        refine ws_iconst 4 rfl rfl kc_i5 ?_
        refine ws_icmp_gen 86 7 rfl rfl rfl (by omega) (by omega) (fun h9 => absurd h9 (by omega)) (fun h9 => ?_)
        refine ws_aload_0 8 rfl rfl ?_
        refine ws_getfr 11 rfl rfl rfl rfl rfl ?_
        refine ws_iload_2 12 rfl rfl ?_
        refine ws_ialdn 13 rfl rfl rfl (by omega) (by omega) e1 ?_
        refine ws_if_nen 20 16 rfl rfl rfl (by omega) (fun h9 => ?_) (fun h9 => absurd h9 (by omega))
        refine ws_aload_0 21 rfl rfl ?_
        refine ws_getfr 24 rfl rfl rfl rfl rfl ?_
        refine ws_aload_1 25 rfl rfl ?_
        refine ws_iload_2 26 rfl rfl ?_
        refine ws_ialdn 27 rfl rfl hS (by omega) (by omega) e2 ?_
        refine ws_iconst 28 rfl rfl kc_i2 ?_
        refine ws_invV2p 31 rfl rfl rfl rfl (ct) rfl rfl rfl ?_
        refine ws_istore_3 32 rfl rfl rfl rfl ?_
        refine ws_iload_3 33 rfl rfl ?_
        refine ws_iconst 34 rfl rfl kc_i1 ?_
        refine ws_icmp_nen 57 37 rfl rfl rfl (by omega) (by omega) (fun g1 => ?_) (fun g1 => ?_)
        · refine ws_iload_3 58 rfl rfl ?_
          refine ws_iconst 59 rfl rfl kc_i2 ?_
          refine ws_icmp_nen 80 62 rfl rfl rfl (by omega) (by omega) (fun g2 => ?_) (fun g2 => ?_)
          · refine ws_iinc_2 83 rfl rfl (ki_1 _) rfl rfl ?_
            refine ws_goto 2 rfl rfl ?_
            exact ih (k + 1) I' _ (by omega) hf (fun p hp5 => by rw [hp p hp5, pl_step, hl]; simp [g1, g2])
          · refine ws_iload_2 63 rfl rfl ?_
            refine ws_iconst 64 rfl rfl kc_i4 ?_
            refine ws_icmp_gen 80 67 rfl rfl rfl (by omega) (by omega) (fun g3 => ?_) (fun g3 => ?_)
            · refine ws_iinc_2 83 rfl rfl (ki_1 _) rfl rfl ?_
              refine ws_goto 2 rfl rfl ?_
              exact ih (k + 1) I' _ (by omega) hf (fun p hp5 => by rw [hp p hp5, pl_step, hl, if_neg (by omega), if_neg (by omega)]; rfl)
            · have hp1 := hp (k + 1) (by omega)
              have hle := pl_le (A := A) (b := b) (k := k) (p := k + 1) h1 h2 (by omega) (hb _ (by omega))
              refine ws_aload_0 68 rfl rfl ?_
              refine ws_getfr 71 rfl rfl rfl rfl rfl ?_
              refine ws_iload_2 72 rfl rfl ?_
              refine ws_iconst 73 rfl rfl kc_i1 ?_
              refine ws_iadd 74 rfl rfl (nI_add _ _) ?_
              refine ws_dup2 75 rfl rfl rfl rfl ?_
              refine ws_ialdn 76 rfl rfl rfl (by omega) (by omega) hp1 ?_
              refine ws_bipush 78 rfl rfl kc_b10 ?_
              refine ws_iadd 79 rfl rfl (nI_add _ _) ?_
              refine ws_iastn 80 rfl rfl rfl (by omega) (by omega) ?_
              refine ws_iinc_2 83 rfl rfl (ki_1 _) rfl rfl ?_
              refine ws_goto 2 rfl rfl ?_
              refine ih (k + 1) _ _ (by omega) (hA _ _) (fun p hp5 => ?_)
              show upd (I' 16) (k + 1) _ p = _
              rw [pl_step, hl]
              by_cases e : p = k + 1
              · subst e
                rw [pk_us, if_neg (by omega), if_pos (by omega)]
              · rw [pk_un e, hp p hp5, if_neg (by omega), if_neg (by omega)]
                rfl
        · refine ws_iload_2 38 rfl rfl ?_
          refine ws_if_len 57 41 rfl rfl rfl (by omega) (fun g2 => ?_) (fun g2 => ?_)
          · refine ws_iload_3 58 rfl rfl ?_
            refine ws_iconst 59 rfl rfl kc_i2 ?_
            refine ws_icmp_nen 80 62 rfl rfl rfl (by omega) (by omega) (fun h9 => ?_) (fun h9 => absurd h9 (by omega))
            refine ws_iinc_2 83 rfl rfl (ki_1 _) rfl rfl ?_
            refine ws_goto 2 rfl rfl ?_
            exact ih (k + 1) I' _ (by omega) hf (fun p hp5 => by rw [hp p hp5, pl_step, hl, if_neg (by omega), if_neg (by omega)]; rfl)
          · have hp1 := hp (k - 1) (by omega)
            have hle := pl_le (A := A) (b := b) (k := k) (p := k - 1) h1 h2 (by omega) (hb _ (by omega))
            refine ws_aload_0 42 rfl rfl ?_
            refine ws_getfr 45 rfl rfl rfl rfl rfl ?_
            refine ws_iload_2 46 rfl rfl ?_
            refine ws_iconst 47 rfl rfl kc_i1 ?_
            refine ws_isub 48 rfl rfl (pk_sub (by omega)) ?_
            refine ws_dup2 49 rfl rfl rfl rfl ?_
            refine ws_ialdn 50 rfl rfl rfl (by omega) (by omega) hp1 ?_
            refine ws_bipush 52 rfl rfl kc_b10 ?_
            refine ws_iadd 53 rfl rfl (nI_add _ _) ?_
            refine ws_iastn 54 rfl rfl rfl (by omega) (by omega) ?_
            refine ws_goto 80 rfl rfl ?_
            refine ws_iinc_2 83 rfl rfl (ki_1 _) rfl rfl ?_
            refine ws_goto 2 rfl rfl ?_
            refine ih (k + 1) _ _ (by omega) (hA _ _) (fun p hp5 => ?_)
            show upd (I' 16) (k - 1) _ p = _
            rw [pl_step, hl]
            by_cases e : p = k - 1
            · subst e
              rw [pk_us, if_pos (by omega), if_neg (by omega)]
            · rw [pk_un e, hp p hp5, if_neg (by omega), if_neg (by omega)]
              rfl
  exact loop 5 0 I _ rfl (fun _ _ => rfl) (fun p hp5 => by rw [hpb p hp5, pl_0])
theorem c_standBefore (c : Nat) (hc : c ≠ 16) (hc2 : c ≠ 15) (hS : (xC0 ++ T)[c]? = some (.inl (.int, 5))) (hTh : ∀ j, j < 15 → I 6 j = nI (A 0 j)) (hLi : ∀ j, j < 5 → I 7 j = nI (A 1 j)) (h1 : ∀ j, j < 5 → A 0 j ≤ 9) (h2 : ∀ j, j < 5 → A 1 j ≤ 9) (h3 : ∀ j, j < 15 → A 0 j ≤ 99) (hb : ∀ p, p < 5 → b p ≤ 5) (hrow : ∀ p, p < 5 → I c p = rw6 (b p)) :
    xC E 3 16 [.ref 14, .ref c] (xC0 ++ T, I, L) (fun r t => r = none ∧ ∃ I', t = (xC0 ++ T, I', L) ∧ (∀ a, a ≠ 15 → a ≠ 16 → I' a = I a) ∧ (∀ p, p < 5 → I' 15 p = nI (bt b p)) ∧ ∀ p, p < 5 → I' 16 p = nI (dz A b p)) := by
  refine xC.mk [some (.ref 14), some (.ref c), none, none, none] rfl ?_
  refine ws_iconst 1 rfl rfl kc_i0 ?_
  refine ws_istore_2 2 rfl rfl rfl rfl ?_
  refine ws_iconst 3 rfl rfl kc_i0 ?_
  refine ws_istore_3 4 rfl rfl rfl rfl ?_
  have loop2 : ∀ (m k : Nat) (I' : Nat → Nat → Int32), k + m = 5 → (∀ a, a ≠ 15 → a ≠ 16 → I' a = I a) → (∀ p, p < 5 → I' 15 p = nI (bt b p)) → (∀ p, p < k → I' 16 p = nI (dz A b p)) → (∀ p, k ≤ p → p < 5 → I' 16 p = nI (pl A b 5 p)) → xW E 3 16 111 [some (.ref 14), some (.ref c), some (.int (nI (cn b 5))), some (.int (nI (3 * (cn b 5 - 3)))), some (.int (nI k))] [] (xC0 ++ T, I', L) 0 0 (fun r t => r = none ∧ ∃ I', t = (xC0 ++ T, I', L) ∧ (∀ a, a ≠ 15 → a ≠ 16 → I' a = I a) ∧ (∀ p, p < 5 → I' 15 p = nI (bt b p)) ∧ ∀ p, p < 5 → I' 16 p = nI (dz A b p)) := by
    intro m
    induction m with
    | zero =>
      intro k I' hk hf hbt hp hq
      obtain rfl : k = 5 := by omega
      refine ws_iload_4 113 rfl rfl ?_
      refine ws_iconst 114 rfl rfl kc_i5 ?_
      refine ws_icmp_gen 157 117 rfl rfl rfl (by omega) (by omega) (fun h9 => ?_) (fun h9 => absurd h9 (by omega))
      refine ws_vret rfl rfl rfl (Nat.le_of_ble_eq_true rfl) ?_
      exact ⟨rfl, I', rfl, hf, hbt, hp⟩
    | succ m ih =>
      intro k I' hk hf hbt hp hq
      have hk5 : k < 5 := by omega
      have hA : ∀ (q : Nat) (y : Int32) (a : Nat), a ≠ 15 → a ≠ 16 → wI I' 16 q y a = I a := fun q y a ha ha2 => by rw [wI_ne ha2]; exact hf a ha ha2
      have hcn := cn_le b 5
      by_cases hb0 : b k = 0
      · have e1 : I' 15 k = nI 0 := by rw [hbt k hk5, bt_0 hb0]
        refine ws_iload_4 113 rfl rfl ?_
        refine ws_iconst 114 rfl rfl kc_i5 ?_
        refine ws_icmp_gen 157 117 rfl rfl rfl (by omega) (by omega) (fun h9 => absurd h9 (by omega)) (fun h9 => ?_)
        refine ws_aload_0 118 rfl rfl ?_
        refine ws_getfr 121 rfl rfl rfl rfl rfl ?_
        refine ws_iload_4 123 rfl rfl ?_
        refine ws_aload_0 124 rfl rfl ?_
        refine ws_getfr 127 rfl rfl rfl rfl rfl ?_
        refine ws_iload_4 129 rfl rfl ?_
        refine ws_ialdn 130 rfl rfl rfl (by omega) (by omega) e1 ?_
        refine ws_if_nen 137 133 rfl rfl rfl (by omega) (fun h9 => absurd h9 (by omega)) (fun h9 => ?_)
        refine ws_iconst 134 rfl rfl kc_i0 ?_
        refine ws_goto 150 rfl rfl ?_
        refine ws_iastn 151 rfl rfl rfl (by omega) (by omega) ?_
        refine ws_iinc_4 154 rfl rfl (ki_1 _) rfl rfl ?_
        refine ws_goto 111 rfl rfl ?_
        refine ih (k + 1) _ (by omega) (hA _ _) hbt (fl hp (by unfold dz; rw [if_pos hb0])) (fun p hp1 hp5 => ?_)
        show upd (I' 16) k _ p = _
        rw [pk_un (by omega)]
        exact hq p (by omega) hp5
      · have hd := hb k hk5
        obtain ⟨w1, w2⟩ := pw5 (b k - 1) (by omega)
        have e1 : I' 15 k = nI (2 ^ (b k - 1)) := by rw [hbt k hk5, bt_1 hb0]
        have e2 := hq k (by omega) hk5
        have hle := pl_le (A := A) (b := b) (k := 5) (p := k) h1 h2 (by omega) (hb _ (by omega))
        generalize hw : 2 ^ (b k - 1) = w at *
        refine ws_iload_4 113 rfl rfl ?_
        refine ws_iconst 114 rfl rfl kc_i5 ?_
        refine ws_icmp_gen 157 117 rfl rfl rfl (by omega) (by omega) (fun h9 => absurd h9 (by omega)) (fun h9 => ?_)
        refine ws_aload_0 118 rfl rfl ?_
        refine ws_getfr 121 rfl rfl rfl rfl rfl ?_
        refine ws_iload_4 123 rfl rfl ?_
        refine ws_aload_0 124 rfl rfl ?_
        refine ws_getfr 127 rfl rfl rfl rfl rfl ?_
        refine ws_iload_4 129 rfl rfl ?_
        refine ws_ialdn 130 rfl rfl rfl (by omega) (by omega) e1 ?_
        refine ws_if_nen 137 133 rfl rfl rfl (by omega) (fun h9 => ?_) (fun h9 => absurd h9 (by omega))
        refine ws_iconst 138 rfl rfl kc_i1 ?_
        refine ws_aload_0 139 rfl rfl ?_
        refine ws_getfr 142 rfl rfl rfl rfl rfl ?_
        refine ws_iload_4 144 rfl rfl ?_
        refine ws_ialdn 145 rfl rfl rfl (by omega) (by omega) e2 ?_
        refine ws_iload_3 146 rfl rfl ?_
        refine ws_isub 147 rfl rfl rfl ?_
        refine ws_invS2p 150 rfl rfl rfl (p_maxsub _ _ _ (by omega) (by omega) (by omega)) rfl rfl rfl ?_
        refine ws_iastn 151 rfl rfl rfl (by omega) (by omega) ?_
        refine ws_iinc_4 154 rfl rfl (ki_1 _) rfl rfl ?_
        refine ws_goto 111 rfl rfl ?_
        refine ih (k + 1) _ (by omega) (hA _ _) hbt (fl hp (by unfold dz; rw [if_neg hb0])) (fun p hp1 hp5 => ?_)
        show upd (I' 16) k _ p = _
        rw [pk_un (by omega)]
        exact hq p (by omega) hp5
  have loop1 : ∀ (m k : Nat) (I' : Nat → Nat → Int32) (z : Option Value), xcat (z.getD .null) = false → k + m = 5 → (∀ a, a ≠ 15 → a ≠ 16 → I' a = I a) → (∀ p, p < k → I' 15 p = nI (bt b p)) → (∀ p, p < k → I' 16 p = nI (pb A b p)) → xW E 3 16 4 [some (.ref 14), some (.ref c), some (.int (nI (cn b k))), some (.int (nI k)), z] [] (xC0 ++ T, I', L) 0 0 (fun r t => r = none ∧ ∃ I', t = (xC0 ++ T, I', L) ∧ (∀ a, a ≠ 15 → a ≠ 16 → I' a = I a) ∧ (∀ p, p < 5 → I' 15 p = nI (bt b p)) ∧ ∀ p, p < 5 → I' 16 p = nI (dz A b p)) := by
    intro m
    induction m with
    | zero =>
      intro k I' z hz hk hf hbt hp
      obtain rfl : k = 5 := by omega
      have hcn := cn_le b 5
      have hm : max 0 (cn b 5 - 3) = cn b 5 - 3 := by omega
      refine ws_iload_3 5 rfl rfl ?_
      refine ws_iconst 6 rfl rfl kc_i5 ?_
      refine ws_icmp_gen 93 9 rfl rfl rfl (by omega) (by omega) (fun h9 => ?_) (fun h9 => absurd h9 (by omega))
      refine ws_iconst 94 rfl rfl kc_i3 ?_
      refine ws_iconst 95 rfl rfl kc_i0 ?_
      refine ws_iload_2 96 rfl rfl ?_
      refine ws_iconst 97 rfl rfl kc_i3 ?_
      refine ws_isub 98 rfl rfl rfl ?_
      refine ws_invS2p 101 rfl rfl rfl (p_maxsub _ _ _ (by omega) (by omega) (by omega)) rfl rfl rfl ?_
      refine ws_imul 102 rfl rfl (pk_mul _ _) ?_
      refine ws_istore_3 103 rfl rfl rfl rfl ?_
      refine ws_aload_0 104 rfl rfl ?_
      refine ws_aload_1 105 rfl rfl ?_
      refine ws_invV1 108 rfl rfl rfl rfl (c_lookBeside c hc hS (fun j hj => by rw [hf 6 (by decide) (by decide)]; exact hTh j hj) h1 h2 h3 hb (fun p hp5 => by rw [hf c hc2 hc]; exact hrow p hp5) hbt hp) rfl rfl rfl ?_
      rintro _ _ ⟨rfl, I2, rfl, hf2, hp2⟩
      rw [hm]
      refine ws_iconst 109 rfl rfl kc_i0 ?_
      refine ws_istore_4 111 rfl rfl rfl rfl ?_
      exact loop2 5 0 I2 rfl (fun a ha ha2 => by rw [hf2 a ha2]; exact hf a ha ha2) (fun p hp5 => by rw [hf2 15 (by decide)]; exact hbt p hp5) (fun p hp5 => by omega) (fun p _ hp5 => hp2 p hp5)
    | succ m ih =>
      intro k I' z hz hk hf hbt hp
      have hk5 : k < 5 := by omega
      have hA : ∀ (q q2 : Nat) (y y2 : Int32) (a : Nat), a ≠ 15 → a ≠ 16 → wI (wI I' 15 q y) 16 q2 y2 a = I a := fun q q2 y y2 a ha ha2 => by rw [wI_ne ha2, wI_ne ha]; exact hf a ha ha2
      have hcn := cn_le b k
      by_cases hb0 : b k = 0
      · have e1 : I' c k = -6 := by rw [hf c hc2 hc, hrow k hk5, rw6_0 hb0]
        have e9 : cn b (k + 1) = cn b k + 0 := by show cn b k + (if b k = 0 then 0 else 1) = _; rw [if_pos hb0]
        refine ws_iload_3 5 rfl rfl ?_
        refine ws_iconst 6 rfl rfl kc_i5 ?_
        refine ws_icmp_gen 93 9 rfl rfl rfl (by omega) (by omega) (fun h9 => absurd h9 (by omega)) (fun h9 => ?_)
        refine ws_aload_1 10 rfl rfl ?_
        refine ws_iload_3 11 rfl rfl ?_
        refine ws_ialdn 12 rfl rfl hS (by omega) (by omega) e1 ?_
        refine ws_iconst 13 rfl rfl kc_i5 ?_
        refine ws_invSN2p 16 rfl rfl rfl (p_below5f) rfl rfl rfl ?_
        refine ws_istore_4 18 rfl rfl rfl rfl ?_
        refine ws_aload_0 19 rfl rfl ?_
        refine ws_getfr 22 rfl rfl rfl rfl rfl ?_
        refine ws_iload_3 23 rfl rfl ?_
        refine ws_iload_4 25 rfl rfl ?_
        refine ws_if_eqb 36 28 rfl rfl rfl (fun h9 => ?_) (fun h9 => absurd h9 (by first | decide | simp_all))
        refine ws_iconst 37 rfl rfl kc_i0 ?_
        refine ws_iastn 38 rfl rfl rfl (by omega) (by omega) ?_
        refine ws_aload_0 39 rfl rfl ?_
        refine ws_getfr 42 rfl rfl rfl rfl rfl ?_
        refine ws_iload_3 43 rfl rfl ?_
        refine ws_iload_4 45 rfl rfl ?_
        refine ws_if_eqb 72 48 rfl rfl rfl (fun h9 => ?_) (fun h9 => absurd h9 (by first | decide | simp_all))
        refine ws_iconst 73 rfl rfl kc_i0 ?_
        refine ws_iastn 74 rfl rfl rfl (by omega) (by omega) ?_
        refine ws_iload_2 75 rfl rfl ?_
        refine ws_iload_4 77 rfl rfl ?_
        refine ws_if_eqb 84 80 rfl rfl rfl (fun h9 => ?_) (fun h9 => absurd h9 (by first | decide | simp_all))
        refine ws_iconst 85 rfl rfl kc_i0 ?_
        refine ws_iadd 86 rfl rfl (nI_add _ _) ?_
        refine ws_istore_2 87 rfl rfl rfl rfl ?_
        refine ws_iinc_3 90 rfl rfl (ki_1 _) rfl rfl ?_
        refine ws_goto 4 rfl rfl ?_
        rw [← e9]; exact ih (k + 1) _ _ rfl (by omega) (hA _ _ _ _) (fl hbt (by rw [bt_0 hb0])) (fl hp (by unfold pb; rw [if_pos hb0]))
      · have hd := hb k hk5
        have hd1 : b k - 1 < 5 := by omega
        obtain ⟨w1, w2⟩ := pw5 (b k - 1) hd1
        have e1 : I' c k = nI (b k - 1) := by rw [hf c hc2 hc, hrow k hk5, rw6_1 hb0]
        have e9 : cn b (k + 1) = cn b k + 1 := by show cn b k + (if b k = 0 then 0 else 1) = _; rw [if_neg hb0]
        have ha9 := h1 (b k - 1) hd1
        have hl9 := h2 k hk5
        have hTh2 : ∀ (q : Nat) (y : Int32) (j : Nat), j < 15 → wI I' 15 q y 6 j = nI (A 0 j) := fun q y j hj => by rw [wI_ne (by decide), hf 6 (by decide) (by decide)]; exact hTh j hj
        have hLi2 : ∀ (q : Nat) (y : Int32), wI I' 15 q y 7 k = nI (A 1 k) := fun q y => by rw [wI_ne (by decide), hf 7 (by decide) (by decide)]; exact hLi k hk5
        have e2 : ∀ (q : Nat) (y : Int32), wI I' 15 q y c k = nI (b k - 1) := fun q y => by rw [wI_ne hc2]; exact e1
        refine ws_iload_3 5 rfl rfl ?_
        refine ws_iconst 6 rfl rfl kc_i5 ?_
        refine ws_icmp_gen 93 9 rfl rfl rfl (by omega) (by omega) (fun h9 => absurd h9 (by omega)) (fun h9 => ?_)
        refine ws_aload_1 10 rfl rfl ?_
        refine ws_iload_3 11 rfl rfl ?_
        refine ws_ialdn 12 rfl rfl hS (by omega) (by omega) e1 ?_
        refine ws_iconst 13 rfl rfl kc_i5 ?_
        refine ws_invSN2p 16 rfl rfl rfl (p_below5t _ hd1) rfl rfl rfl ?_
        refine ws_istore_4 18 rfl rfl rfl rfl ?_
        refine ws_aload_0 19 rfl rfl ?_
        refine ws_getfr 22 rfl rfl rfl rfl rfl ?_
        refine ws_iload_3 23 rfl rfl ?_
        refine ws_iload_4 25 rfl rfl ?_
        refine ws_if_eqb 36 28 rfl rfl rfl (fun h9 => absurd h9 (by first | decide | simp_all)) (fun h9 => ?_)
        refine ws_iconst 29 rfl rfl kc_i1 ?_
        refine ws_aload_1 30 rfl rfl ?_
        refine ws_iload_3 31 rfl rfl ?_
        refine ws_ialdn 32 rfl rfl hS (by omega) (by omega) e1 ?_
        refine ws_ishl 33 rfl rfl (kn_shl (by omega) (by omega)) ?_
        refine ws_goto 37 rfl rfl ?_
        refine ws_iastn 38 rfl rfl rfl (by omega) (by omega) ?_
        refine ws_aload_0 39 rfl rfl ?_
        refine ws_getfr 42 rfl rfl rfl rfl rfl ?_
        refine ws_iload_3 43 rfl rfl ?_
        refine ws_iload_4 45 rfl rfl ?_
        refine ws_if_eqb 72 48 rfl rfl rfl (fun h9 => absurd h9 (by first | decide | simp_all)) (fun h9 => ?_)
        refine ws_aload_0 49 rfl rfl ?_
        refine ws_getfr 52 rfl rfl rfl rfl rfl ?_
        refine ws_aload_1 53 rfl rfl ?_
        refine ws_iload_3 54 rfl rfl ?_
        refine ws_ialdn 55 rfl rfl hS (by omega) (by omega) (e2 _ _) ?_
        refine ws_iconst 56 rfl rfl kc_i0 ?_
        refine ws_invV2p 59 rfl rfl rfl rfl (c_trait (hTh2 _ _) _ _ hd1 (by omega)) rfl rfl rfl ?_
        refine ws_aload_0 60 rfl rfl ?_
        refine ws_getfr 63 rfl rfl rfl rfl rfl ?_
        refine ws_getfr 66 rfl rfl rfl rfl rfl ?_
        refine ws_iload_3 67 rfl rfl ?_
        refine ws_ialdn 68 rfl rfl rfl (by omega) (by omega) (hLi2 _ _) ?_
        refine ws_imul 69 rfl rfl (pk_mul _ _) ?_
        refine ws_goto 73 rfl rfl ?_
        refine ws_iastn 74 rfl rfl rfl (by omega) (by omega) ?_
        refine ws_iload_2 75 rfl rfl ?_
        refine ws_iload_4 77 rfl rfl ?_
        refine ws_if_eqb 84 80 rfl rfl rfl (fun h9 => absurd h9 (by first | decide | simp_all)) (fun h9 => ?_)
        refine ws_iconst 81 rfl rfl kc_i1 ?_
        refine ws_goto 85 rfl rfl ?_
        refine ws_iadd 86 rfl rfl (nI_add _ _) ?_
        refine ws_istore_2 87 rfl rfl rfl rfl ?_
        refine ws_iinc_3 90 rfl rfl (ki_1 _) rfl rfl ?_
        refine ws_goto 4 rfl rfl ?_
        rw [← e9]; exact ih (k + 1) _ _ rfl (by omega) (hA _ _ _ _) (fl hbt (by rw [bt_1 hb0, Nat.one_mul])) (fl hp (by unfold pb; rw [if_neg hb0, Nat.zero_mul, Nat.zero_add]))
  exact loop1 5 0 I none rfl rfl (fun _ _ _ => rfl) (fun _ h => by omega) (fun _ h => by omega)
theorem c_pullOn (p n : Nat) (hp : p < 5) (hn : n < 100) (h1 : ∀ j, j < 5 → A 0 j ≤ 9) (h2 : ∀ j, j < 5 → A 1 j ≤ 9) (hb : b p ≤ 5) (hdz : I 16 p = nI (dz A b p)) :
    xC E 2 18 [.ref 14, .int (nI p), .int (nI n)] (xC0 ++ T, I, L) (rV (.int (nI (dw A b p n))) (xC0 ++ T, I, L)) := by
  refine xC.mk [some (.ref 14), some (.int (nI p)), some (.int (nI n)), none] rfl ?_
  have hle := dz_le h1 h2 hp hb
  have hm : max 1 (1 + n) = 1 + n := by omega
  refine ws_iconst 1 rfl rfl kc_i1 ?_
  refine ws_iconst 2 rfl rfl kc_i1 ?_
  refine ws_iload_2 3 rfl rfl ?_
  refine ws_iadd 4 rfl rfl (nI_add _ _) ?_
  refine ws_invS2p 7 rfl rfl rfl (p_maxn _ _ (by omega) (by omega)) rfl rfl rfl ?_
  rw [hm]
  by_cases hb0 : b p = 0
  · have e : dz A b p = 0 := if_pos hb0
    rw [e] at hdz
    refine ws_istore_3 8 rfl rfl rfl rfl ?_
    refine ws_aload_0 9 rfl rfl ?_
    refine ws_getfr 12 rfl rfl rfl rfl rfl ?_
    refine ws_iload_1 13 rfl rfl ?_
    refine ws_ialdn 14 rfl rfl rfl (by omega) (by omega) hdz ?_
    refine ws_if_nen 21 17 rfl rfl rfl (by omega) (fun h9 => absurd h9 (by omega)) (fun h9 => ?_)
    refine ws_iconst 18 rfl rfl kc_i0 ?_
    refine ws_goto 33 rfl rfl ?_
    refine ws_iret rfl rfl rfl (Nat.le_of_ble_eq_true rfl) ?_
    exact ⟨by unfold dw; rw [if_pos hb0], rfl⟩
  · have e := dz_pos (A := A) hb0
    have hq := Nat.div_le_self (dz A b p) (1 + n)
    refine ws_istore_3 8 rfl rfl rfl rfl ?_
    refine ws_aload_0 9 rfl rfl ?_
    refine ws_getfr 12 rfl rfl rfl rfl rfl ?_
    refine ws_iload_1 13 rfl rfl ?_
    refine ws_ialdn 14 rfl rfl rfl (by omega) (by omega) hdz ?_
    refine ws_if_nen 21 17 rfl rfl rfl (by omega) (fun h9 => ?_) (fun h9 => absurd h9 (by omega))
    refine ws_iconst 22 rfl rfl kc_i1 ?_
    refine ws_aload_0 23 rfl rfl ?_
    refine ws_getfr 26 rfl rfl rfl rfl rfl ?_
    refine ws_iload_1 27 rfl rfl ?_
    refine ws_ialdn 28 rfl rfl rfl (by omega) (by omega) hdz ?_
    refine ws_iload_3 29 rfl rfl ?_
    refine ws_idiv 30 rfl rfl (kn_ne0 (by omega) (by omega)) (pk_div (by omega) (by omega) (by omega)) ?_
    refine ws_invS2p 33 rfl rfl rfl (p_maxn _ _ (by omega) (by omega)) rfl rfl rfl ?_
    refine ws_iret rfl rfl rfl (Nat.le_of_ble_eq_true rfl) ?_
    exact ⟨by unfold dw; rw [if_neg hb0], rfl⟩
end DRAWS
end
section
/-! ===== glances, in numbers ===== -/
/-- a sum of n terms from lo on -/
def sg (f : Nat → Nat) (lo : Nat) : Nat → Nat
  | 0 => 0
  | n + 1 => sg f lo n + f (lo + n)
theorem sg_front (f : Nat → Nat) : ∀ (n lo : Nat), sg f lo (n + 1) = f lo + sg f (lo + 1) n
  | 0, lo => by show 0 + f (lo + 0) = f lo + 0; simp
  | n + 1, lo => by
    show sg f lo (n + 1) + f (lo + (n + 1)) = f lo + (sg f (lo + 1) n + f (lo + 1 + n))
    rw [sg_front f n lo, show lo + (n + 1) = lo + 1 + n by omega]
    omega
theorem sg_congr {f g : Nat → Nat} {lo : Nat} : ∀ {n : Nat}, (∀ i, i < n → f (lo + i) = g (lo + i)) → sg f lo n = sg g lo n
  | 0, _ => rfl
  | n + 1, h => by
    show sg f lo n + f (lo + n) = sg g lo n + g (lo + n)
    rw [sg_congr (fun i hi => h i (by omega)), h n (by omega)]
theorem sg_add (f g : Nat → Nat) (lo : Nat) : ∀ n, sg (fun i => f i + g i) lo n = sg f lo n + sg g lo n
  | 0 => rfl
  | n + 1 => by
    show sg (fun i => f i + g i) lo n + (f (lo + n) + g (lo + n)) = (sg f lo n + f (lo + n)) + (sg g lo n + g (lo + n))
    rw [sg_add f g lo n]
    omega
theorem sg_zero (lo : Nat) : ∀ n, sg (fun _ => 0) lo n = 0
  | 0 => rfl
  | n + 1 => by show sg (fun _ => 0) lo n + 0 = 0; rw [sg_zero lo n]
theorem sg_le {f g : Nat → Nat} {lo : Nat} : ∀ {n : Nat}, (∀ i, i < n → f (lo + i) ≤ g (lo + i)) → sg f lo n ≤ sg g lo n
  | 0, _ => Nat.le_refl 0
  | n + 1, h => Nat.add_le_add (sg_le (fun i hi => h i (by omega))) (h n (by omega))
theorem sg_mono {f : Nat → Nat} {lo : Nat} : ∀ {n m : Nat}, n ≤ m → sg f lo n ≤ sg f lo m
  | n, 0, h => by
    have : n = 0 := by omega
    rw [this]
    exact Nat.le_refl _
  | n, m + 1, h => by
    rcases Nat.lt_or_ge n (m + 1) with h1 | h1
    · exact Nat.le_trans (sg_mono (by omega)) (Nat.le_add_right _ _)
    · have : n = m + 1 := by omega
      rw [this]
      exact Nat.le_refl _
theorem sg_term {f : Nat → Nat} {n i : Nat} (h : i < n) : f i ≤ sg f 0 n := by
  have h1 : f i ≤ sg f 0 (i + 1) := by
    show f i ≤ sg f 0 i + f (0 + i)
    rw [Nat.zero_add]
    omega
  exact Nat.le_trans h1 (sg_mono h)
/-- one place of a sum -/
theorem sg_one (v : Nat) (t : Nat) : ∀ n, sg (fun u => if u = t then v else 0) 0 n = if t < n then v else 0
  | 0 => by rw [if_neg (Nat.not_lt_zero t)]; rfl
  | n + 1 => by
    show sg (fun u => if u = t then v else 0) 0 n + (if 0 + n = t then v else 0) = _
    rw [sg_one v t n, Nat.zero_add]
    by_cases h : n = t
    · rw [if_neg (by omega), if_pos h, if_pos (by omega), Nat.zero_add]
    · rw [if_neg h, Nat.add_zero]
      by_cases h2 : t < n
      · rw [if_pos h2, if_pos (by omega)]
      · rw [if_neg h2, if_neg (by omega)]
theorem sg_comm (F : Nat → Nat → Nat) (m : Nat) : ∀ n, sg (fun u => sg (fun s => F s u) 0 m) 0 n = sg (fun s => sg (fun u => F s u) 0 n) 0 m
  | 0 => by show 0 = sg (fun _ => 0) 0 m; rw [sg_zero]
  | n + 1 => by
    show sg (fun u => sg (fun s => F s u) 0 m) 0 n + sg (fun s => F s (0 + n)) 0 m = sg (fun s => sg (fun u => F s u) 0 n + F s (0 + n)) 0 m
    rw [sg_comm F m n, sg_add]
/-- may a glance fall on the thing at p, for one who has seen s -/
def mf (b : Nat → Nat) (s p : Nat) : Bool := decide (¬ b p = 0) && decide (s / 2 ^ (b p - 1) % 2 = 0)
section GL
variable (b w : Nat → Nat) (s f : Nat)
/-- what draws, of the first k places from f on -/
def smf (k : Nat) : Nat := sg (fun p => bif mf b s p then w p else 0) f k
/-- the last of them, and 1; 0: there is none -/
def laf : Nat → Nat
  | 0 => 0
  | k + 1 => bif mf b s (f + k) then f + k + 1 else laf k
variable (n v : Nat)
/-- what goes over at the place f + k, as long as it isn't the last -/
def qf (k : Nat) : Nat := v * w (f + k) / smf b w s f n
/-- what has gone over before place f + k, the last one left out -/
def lff : Nat → Nat
  | 0 => v
  | k + 1 => bif mf b s (f + k) then (if f + k + 1 = laf b s f n then 0 else lff k - qf b w s f n v k) else lff k
/-- what goes over at the place f + k -/
def owf (k : Nat) : Nat := if f + k + 1 = laf b s f n then lff b w s f n v k else qf b w s f n v k
/-- what has come to u from the first k places -/
def csf : Nat → Nat → Nat
  | 0, _ => 0
  | k + 1, u => bif mf b s (f + k) then csf k u + (if u = s ||| 2 ^ (b (f + k) - 1) then owf b w s f n v k else 0) else csf k u
/-- what comes to u of the part v of the set s -/
def ctf (u : Nat) : Nat := csf b w s f n v n u + (if u = s then lff b w s f n v n else 0)
end GL
/-- the parts behind a glance -/
def gla (b w : Nat → Nat) (f n : Nat) (P : Nat → Nat) (u : Nat) : Nat := sg (fun s => ctf b w s f n (P s) u) 0 32
theorem laf_le (b : Nat → Nat) (s f : Nat) : ∀ k, laf b s f k ≤ f + k
  | 0 => Nat.zero_le _
  | k + 1 => by
    show (bif mf b s (f + k) then f + k + 1 else laf b s f k) ≤ f + (k + 1)
    cases mf b s (f + k) with
    | true => show f + k + 1 ≤ f + (k + 1); omega
    | false => have := laf_le b s f k; show laf b s f k ≤ f + (k + 1); omega
theorem laf_mono (b : Nat → Nat) (s f : Nat) : ∀ {k m : Nat}, k ≤ m → laf b s f k ≤ laf b s f m
  | k, 0, h => by
    have : k = 0 := by omega
    rw [this]; exact Nat.le_refl _
  | k, m + 1, h => by
    rcases Nat.lt_or_ge k (m + 1) with h1 | h1
    · have h2 := laf_mono b s f (show k ≤ m by omega)
      show _ ≤ (bif mf b s (f + m) then f + m + 1 else laf b s f m)
      cases mf b s (f + m) with
      | true => have := laf_le b s f k; show _ ≤ f + m + 1; omega
      | false => exact h2
    · have : k = m + 1 := by omega
      rw [this]; exact Nat.le_refl _
/-- where one may fall, the last isn't ahead of it -/
theorem laf_ge {b : Nat → Nat} {s f k m : Nat} (h : mf b s (f + k) = true) (hk : k < m) : f + k + 1 ≤ laf b s f m := by
  have h1 : laf b s f (k + 1) = f + k + 1 := by show (bif mf b s (f + k) then f + k + 1 else _) = _; rw [h]; rfl
  rw [← h1]
  exact laf_mono b s f hk
theorem laf_mf {b : Nat → Nat} {s f : Nat} : ∀ {k : Nat}, 0 < laf b s f k → ∃ i, i < k ∧ laf b s f k = f + i + 1 ∧ mf b s (f + i) = true
  | 0, h => by cases h
  | k + 1, h => by
    cases hm : mf b s (f + k) with
    | true => exact ⟨k, by omega, by show (bif mf b s (f + k) then f + k + 1 else _) = _; rw [hm]; rfl, hm⟩
    | false =>
      have e : laf b s f (k + 1) = laf b s f k := by show (bif mf b s (f + k) then f + k + 1 else _) = _; rw [hm]; rfl
      rw [e] at h ⊢
      obtain ⟨i, h1, h2, h3⟩ := laf_mf h
      exact ⟨i, by omega, h2, h3⟩
theorem smf_s (b w : Nat → Nat) (s f k : Nat) : smf b w s f (k + 1) = smf b w s f k + (bif mf b s (f + k) then w (f + k) else 0) := rfl
theorem div_add_le (a c d : Nat) : a / d + c / d ≤ (a + c) / d := by
  rcases Nat.eq_zero_or_pos d with h | h
  · subst h; simp
  · rw [Nat.le_div_iff_mul_le h, Nat.add_mul]
    exact Nat.add_le_add (Nat.div_mul_le_self a d) (Nat.div_mul_le_self c d)
/-- what is left: as long as the last isn't passed, the part less what went over, and that isn't more -/
theorem lff_ge (b w : Nat → Nat) (s f n v : Nat) : ∀ k, k ≤ n → f + k < laf b s f n → v ≤ lff b w s f n v k + v * smf b w s f k / smf b w s f n ∧ lff b w s f n v k ≤ v
  | 0, _, _ => by
    exact ⟨Nat.le_add_right _ _, Nat.le_refl _⟩
  | k + 1, hk, hl => by
    obtain ⟨h1, h2⟩ := lff_ge b w s f n v k (by omega) (by omega)
    cases hm : mf b s (f + k) with
    | false =>
      have e1 : lff b w s f n v (k + 1) = lff b w s f n v k := by show (bif mf b s (f + k) then _ else _) = _; rw [hm]; rfl
      have e2 : smf b w s f (k + 1) = smf b w s f k := by rw [smf_s, hm]; rfl
      rw [e1, e2]
      exact ⟨h1, h2⟩
    | true =>
      have e1 : lff b w s f n v (k + 1) = lff b w s f n v k - qf b w s f n v k := by
        show (bif mf b s (f + k) then (if f + k + 1 = laf b s f n then 0 else _) else _) = _
        rw [hm]
        show (if f + k + 1 = laf b s f n then 0 else _) = _
        rw [if_neg (by omega)]
      have e2 : smf b w s f (k + 1) = smf b w s f k + w (f + k) := by rw [smf_s, hm]; rfl
      rw [e1, e2, Nat.mul_add]
      have h3 := div_add_le (v * smf b w s f k) (v * w (f + k)) (smf b w s f n)
      have h4 : qf b w s f n v k = v * w (f + k) / smf b w s f n := rfl
      omega
theorem smf_mono {b w : Nat → Nat} {s f k m : Nat} (h : k ≤ m) : smf b w s f k ≤ smf b w s f m := sg_mono h
/-- what goes over isn't more than what is left -/
theorem qf_le (b w : Nat → Nat) (s f n v k : Nat) (hk : k < n) (hm : mf b s (f + k) = true) (hl : f + k + 1 < laf b s f n + 1) (hp : 0 < smf b w s f n) : owf b w s f n v k ≤ lff b w s f n v k := by
  unfold owf
  split
  · exact Nat.le_refl _
  · obtain ⟨h1, h2⟩ := lff_ge b w s f n v k (by omega) (by omega)
    have h3 := div_add_le (v * smf b w s f k) (v * w (f + k)) (smf b w s f n)
    have h4 : qf b w s f n v k = v * w (f + k) / smf b w s f n := rfl
    have e2 : smf b w s f (k + 1) = smf b w s f k + w (f + k) := by rw [smf_s, hm]; rfl
    have h5 : smf b w s f (k + 1) ≤ smf b w s f n := smf_mono (by omega)
    have h6 : (v * smf b w s f k + v * w (f + k)) / smf b w s f n ≤ v := by
      rw [← Nat.mul_add, ← e2]
      calc v * smf b w s f (k + 1) / smf b w s f n ≤ v * smf b w s f n / smf b w s f n := Nat.div_le_div_right (Nat.mul_le_mul_left v h5)
        _ = v := Nat.mul_div_cancel v hp
    omega
/-- behind the last nothing is left -/
theorem lff_0 (b w : Nat → Nat) (s f n v : Nat) : ∀ k, k ≤ n → 0 < laf b s f n → laf b s f n ≤ f + k → lff b w s f n v k = 0
  | 0, _, h0, h => by
    obtain ⟨i, h1, h2, h3⟩ := laf_mf h0
    omega
  | k + 1, hk, h0, h => by
    show (bif mf b s (f + k) then (if f + k + 1 = laf b s f n then 0 else lff b w s f n v k - qf b w s f n v k) else lff b w s f n v k) = 0
    cases hm : mf b s (f + k) with
    | true =>
      have := laf_ge hm (show k < n by omega)
      show (if f + k + 1 = laf b s f n then 0 else _) = 0
      rw [if_pos (by omega)]
    | false =>
      show lff b w s f n v k = 0
      refine lff_0 b w s f n v k (by omega) h0 ?_
      obtain ⟨i, h1, h2, h3⟩ := laf_mf h0
      have : ¬ i = k := fun e => by rw [e, hm] at h3; cases h3
      omega
theorem lff_s {b w : Nat → Nat} {s f n v k : Nat} (hm : mf b s (f + k) = true) : lff b w s f n v (k + 1) = lff b w s f n v k - owf b w s f n v k := by
  show (bif mf b s (f + k) then (if f + k + 1 = laf b s f n then 0 else _) else _) = _
  rw [hm]
  show (if f + k + 1 = laf b s f n then 0 else _) = _
  unfold owf
  split
  · omega
  · rfl
theorem lff_n {b w : Nat → Nat} {s f n v k : Nat} (hm : mf b s (f + k) = false) : lff b w s f n v (k + 1) = lff b w s f n v k := by
  show (bif mf b s (f + k) then _ else _) = _
  rw [hm]
  rfl
theorem csf_s {b w : Nat → Nat} {s f n v k u : Nat} (hm : mf b s (f + k) = true) : csf b w s f n v (k + 1) u = csf b w s f n v k u + (if u = s ||| 2 ^ (b (f + k) - 1) then owf b w s f n v k else 0) := by
  show (bif mf b s (f + k) then _ else _) = _
  rw [hm]
  rfl
theorem csf_n {b w : Nat → Nat} {s f n v k u : Nat} (hm : mf b s (f + k) = false) : csf b w s f n v (k + 1) u = csf b w s f n v k u := by
  show (bif mf b s (f + k) then _ else _) = _
  rw [hm]
  rfl
theorem lff_none {b w : Nat → Nat} {s f n v : Nat} (h : laf b s f n = 0) : ∀ k, k ≤ n → lff b w s f n v k = v ∧ ∀ u, csf b w s f n v k u = 0
  | 0, _ => ⟨rfl, fun _ => rfl⟩
  | k + 1, hk => by
    have hm : mf b s (f + k) = false := by
      cases hm : mf b s (f + k) with
      | false => rfl
      | true => have := laf_ge hm (show k < n by omega); omega
    obtain ⟨h1, h2⟩ := lff_none (b := b) (w := w) (v := v) h k (by omega)
    exact ⟨by rw [lff_n hm]; exact h1, fun u => by rw [csf_n hm]; exact h2 u⟩
/-- nothing of no part -/
theorem ctf_0 (b w : Nat → Nat) (s f n u : Nat) : ctf b w s f n 0 u = 0 := by
  have h : ∀ k, lff b w s f n 0 k = 0 ∧ csf b w s f n 0 k u = 0 := by
    intro k
    induction k with
    | zero => exact ⟨rfl, rfl⟩
    | succ k ih =>
      have ho : owf b w s f n 0 k = 0 := by
        unfold owf qf
        rw [ih.1]
        split <;> simp
      cases hm : mf b s (f + k) with
      | true => exact ⟨by rw [lff_s hm, ih.1]; omega, by rw [csf_s hm, ih.2, ho]; simp⟩
      | false => exact ⟨by rw [lff_n hm]; exact ih.1, by rw [csf_n hm]; exact ih.2⟩
  unfold ctf
  rw [(h n).1, (h n).2]
  simp
theorem or_ge (a c : Nat) : a ≤ a ||| c := Nat.left_le_or
/-- nothing comes to a lesser number -/
theorem ctf_lt {b w : Nat → Nat} {s f n v u : Nat} (h : u < s) : ctf b w s f n v u = 0 := by
  have hc : ∀ k, csf b w s f n v k u = 0 := by
    intro k
    induction k with
    | zero => rfl
    | succ k ih =>
      cases hm : mf b s (f + k) with
      | true =>
        have := or_ge s (2 ^ (b (f + k) - 1))
        rw [csf_s hm, ih, if_neg (by omega)]
      | false => rw [csf_n hm]; exact ih
  unfold ctf
  rw [hc, if_neg (by omega)]
theorem or_lt32 : ∀ s, s < 32 → ∀ d, d < 5 → s ||| 2 ^ d < 32 := by decide
/-- all of a part comes somewhere -/
theorem ctf_sum {b w : Nat → Nat} {s f n v : Nat} (hs : s < 32) (hb : ∀ k, k < n → b (f + k) ≤ 5) (hw : ∀ k, k < n → mf b s (f + k) = true → 0 < w (f + k)) : sg (ctf b w s f n v) 0 32 = v := by
  have hc : ∀ k, k ≤ n → f + k ≤ laf b s f n ∨ laf b s f n ≤ f + k := fun k _ => by omega
  have key : ∀ k, k ≤ n → sg (csf b w s f n v k) 0 32 + lff b w s f n v k = v := by
    intro k
    induction k with
    | zero => intro _; show sg (fun _ => 0) 0 32 + v = v; rw [sg_zero]; omega
    | succ k ih =>
      intro hk
      have ih := ih (by omega)
      cases hm : mf b s (f + k) with
      | false =>
        rw [lff_n hm, show sg (csf b w s f n v (k + 1)) 0 32 = sg (csf b w s f n v k) 0 32 from sg_congr (fun i _ => csf_n hm)]
        exact ih
      | true =>
        have hge := laf_ge hm (show k < n by omega)
        have hd : b (f + k) - 1 < 5 := by have := hb k (by omega); omega
        have ht := or_lt32 s hs _ hd
        have hsp : 0 < smf b w s f n := by
          have h1 : smf b w s f (k + 1) = smf b w s f k + w (f + k) := by rw [smf_s, hm]; rfl
          have h2 := hw k (by omega) hm
          have h3 : smf b w s f (k + 1) ≤ smf b w s f n := smf_mono (by omega)
          omega
        have hle := qf_le b w s f n v k (by omega) hm (by omega) hsp
        have e1 : sg (csf b w s f n v (k + 1)) 0 32 = sg (csf b w s f n v k) 0 32 + owf b w s f n v k := by
          rw [show sg (csf b w s f n v (k + 1)) 0 32 = sg (fun u => csf b w s f n v k u + (if u = s ||| 2 ^ (b (f + k) - 1) then owf b w s f n v k else 0)) 0 32 from sg_congr (fun i _ => csf_s hm), sg_add, sg_one, if_pos ht]
        rw [e1, lff_s hm]
        omega
  have h1 := key n (Nat.le_refl n)
  show sg (fun u => csf b w s f n v n u + (if u = s then lff b w s f n v n else 0)) 0 32 = v
  rw [sg_add, sg_one, if_pos hs]
  exact h1
theorem gla_sum {b w P : Nat → Nat} {f n : Nat} (hb : ∀ k, k < n → b (f + k) ≤ 5) (hw : ∀ k, k < n → ¬ b (f + k) = 0 → 0 < w (f + k)) : sg (gla b w f n P) 0 32 = sg P 0 32 := by
  show sg (fun u => sg (fun s => ctf b w s f n (P s) u) 0 32) 0 32 = _
  rw [sg_comm (fun s u => ctf b w s f n (P s) u)]
  refine sg_congr (fun i hi => ?_)
  refine ctf_sum (by omega) hb (fun k hk hm => hw k hk ?_)
  unfold mf at hm
  simp at hm
  exact hm.1
/-- glances downwards, in one row: what stands behind the sets from k on -/
theorem gla_down {b w P : Nat → Nat} {f n k u : Nat} {D : Nat → Nat} (hk : k < 32) (hD : ∀ u, u < 32 → D u = (if u < k + 1 then P u else 0) + sg (fun s => ctf b w s f n (P s) u) (k + 1) (32 - (k + 1))) (hu : u < 32) :
    D k = P k ∧ (if u = k then 0 else D u) + ctf b w k f n (P k) u = (if u < k then P u else 0) + sg (fun s => ctf b w s f n (P s) u) k (32 - k) := by
  have hz : ∀ m, sg (fun s => ctf b w s f n (P s) k) (k + 1) m = 0 := by
    intro m
    induction m with
    | zero => rfl
    | succ m ih => show _ + ctf b w (k + 1 + m) f n _ k = 0; rw [ih, ctf_lt (by omega)]
  have h1 : D k = P k := by rw [hD k hk, if_pos (by omega), hz, Nat.add_zero]
  refine ⟨h1, ?_⟩
  have e : 32 - k = (32 - (k + 1)) + 1 := by omega
  rw [e, sg_front]
  by_cases hu2 : u = k
  · subst hu2
    rw [if_pos rfl, if_neg (by omega), hz]
    omega
  · rw [if_neg hu2, hD u hu]
    by_cases h3 : u < k
    · rw [if_pos (by omega), if_pos h3]; omega
    · rw [if_neg (by omega), if_neg h3]; omega
/-- how many bits: a glance adds one at most -/
theorem pop_or : ∀ s, s < 32 → ∀ d, d < 5 → pop 5 (s ||| 2 ^ d) ≤ pop 5 s + 1 := by decide +kernel
theorem gla_pop {b w P : Nat → Nat} {f n g : Nat} (hb : ∀ k, k < n → b (f + k) ≤ 5) (hP : ∀ s, s < 32 → g < pop 5 s → P s = 0) : ∀ u, u < 32 → g + 1 < pop 5 u → gla b w f n P u = 0 := by
  intro u hu hg
  unfold gla
  have : ∀ s, s < 32 → ctf b w s f n (P s) u = 0 := by
    intro s hs
    rcases Nat.lt_or_ge g (pop 5 s) with h | h
    · rw [hP s hs h, ctf_0]
    · have hne : ¬ u = s := fun e => by rw [e] at hg; omega
      have hc : ∀ k, k ≤ n → csf b w s f n (P s) k u = 0 := by
        intro k
        induction k with
        | zero => intro _; rfl
        | succ k ih =>
          intro hk
          cases hm : mf b s (f + k) with
          | true =>
            have h2 := pop_or s hs (b (f + k) - 1) (by have := hb k (by omega); omega)
            rw [csf_s hm, ih (by omega), if_neg (fun e => by rw [e] at hg; omega)]
          | false => rw [csf_n hm]; exact ih (by omega)
      unfold ctf
      rw [hc n (Nat.le_refl n), if_neg hne]
  rw [show sg (fun s => ctf b w s f n (P s) u) 0 32 = sg (fun _ => 0) 0 32 from sg_congr (fun i hi => this (0 + i) (by omega)), sg_zero]
end
section
/-! ===== Passers: glance, goBy ===== -/
/-- a counter that may be -1 -/
def lI (x : Nat) : Int32 := if x = 0 then -1 else nI (x - 1)
theorem lI_0 : lI 0 = -1 := rfl
theorem lI_s (m : Nat) : lI (m + 1) = nI m := by
  unfold lI
  rw [if_neg (by omega), Nat.add_sub_cancel]
theorem li_dec (m : Nat) : nI m + Int32.ofInt (-1) = lI m := by
  cases m with
  | zero => decide
  | succ m => rw [lI_s]; exact pk_m1 m
theorem mfb0 : ∀ d, d < 6 → ∀ s, s < 32 → ((nI (if d = 0 then 0 else 2 ^ (d - 1)) &&& (nI s ^^^ (-1)) = 0) ↔ (decide (¬ d = 0) && decide (s / 2 ^ (d - 1) % 2 = 0)) = false) := by decide +kernel
theorem mfb {b : Nat → Nat} {s p : Nat} (hb : b p ≤ 5) (hs : s < 32) : (nI (bt b p) &&& (nI s ^^^ (-1)) = 0) ↔ mf b s p = false := mfb0 (b p) (by omega) s hs
theorem csf_after {b w : Nat → Nat} {s f n v : Nat} (u : Nat) (h0 : 0 < laf b s f n) : ∀ m k, k + m = n → laf b s f n ≤ f + k → csf b w s f n v n u = csf b w s f n v k u := by
  intro m
  induction m with
  | zero => intro k hk _; rw [← hk]; rfl
  | succ m ih =>
    intro k hk hl
    have hm : mf b s (f + k) = false := by
      cases hm : mf b s (f + k) with
      | false => rfl
      | true => have := laf_ge hm (show k < n by omega); omega
    rw [ih (k + 1) (by omega) (by omega), csf_n hm]
theorem c_fill {E : xEx} {S : List xSh} {I : Nat → Nat → Int32} {L : Nat → Nat → Int64} (a n : Nat) (x : Int32) (hS : S[a]? = some (.inl (.int, n))) (hn : n < 100000) : xC E 1 143 [.ref a, .int x] (S, I, L) (fun r t => r = none ∧ ∃ I', t = (S, I', L) ∧ (∀ c, c ≠ a → I' c = I c) ∧ ∀ j, j < n → I' a j = x) := by
  refine xC.mk [some (.ref a), some (.int x), none, none] rfl ?_
  refine ws_iconst 1 rfl rfl kc_i0 ?_
  refine ws_istore_2 2 rfl rfl rfl rfl ?_
  refine ws_aload_0 3 rfl rfl ?_
  refine ws_alen 4 rfl rfl hS rfl ?_
  refine ws_istore_3 5 rfl rfl rfl rfl ?_
  have loop : ∀ (m k : Nat) (I' : Nat → Nat → Int32), k + m = n → (∀ c, c ≠ a → I' c = I c) → (∀ j, j < k → I' a j = x) → xW E 1 143 5 [some (.ref a), some (.int x), some (.int (nI k)), some (.int (nI n))] [] (S, I', L) 0 0 (fun r t => r = none ∧ ∃ I', t = (S, I', L) ∧ (∀ c, c ≠ a → I' c = I c) ∧ ∀ j, j < n → I' a j = x) := by
    intro m
    induction m with
    | zero =>
      intro k I' hk hf hp
      obtain rfl : k = n := by omega
      refine ws_iload_2 6 rfl rfl ?_
      refine ws_iload_3 7 rfl rfl ?_
      refine ws_icmp_gen 20 10 rfl rfl rfl (by omega) (by omega) (fun h9 => ?_) (fun h9 => absurd h9 (by omega))
      refine ws_vret rfl rfl rfl (Nat.le_of_ble_eq_true rfl) ?_
      exact ⟨rfl, I', rfl, hf, hp⟩
    | succ m ih =>
      intro k I' hk hf hp
      refine ws_iload_2 6 rfl rfl ?_
      refine ws_iload_3 7 rfl rfl ?_
      refine ws_icmp_gen 20 10 rfl rfl rfl (by omega) (by omega) (fun h9 => absurd h9 (by omega)) (fun h9 => ?_)
      refine ws_aload_0 11 rfl rfl ?_
      refine ws_iload_2 12 rfl rfl ?_
      refine ws_iload_1 13 rfl rfl ?_
      refine ws_iastn 14 rfl rfl hS (by omega) (by omega) ?_
      refine ws_iinc_2 17 rfl rfl (ki_1 _) rfl rfl ?_
      refine ws_goto 5 rfl rfl ?_
      exact ih (k + 1) _ (by omega) (fun c hc => by rw [wI_ne hc]; exact hf c hc) (fun j hj => by rw [wI_eq]; exact fl (g := fun _ => x) hp rfl j hj)
  exact loop n 0 I (by omega) (fun _ _ => rfl) (fun _ h => by omega)
section GLANCE
variable {E : xEx} {T : List xSh} {I : Nat → Nat → Int32} {L : Nat → Nat → Int64} {A : Nat → Nat → Nat} {b w D : Nat → Nat}
theorem c_glance (s f n to : Nat) (hs : s < 32) (hn : 1 ≤ n) (hfn : f + n ≤ 5) (hto : to + 1 = f + n) (hb : ∀ p, p < 5 → b p ≤ 5) (hw : ∀ p, p < 5 → w p ≤ 101) (hw1 : ∀ p, p < 5 → ¬ b p = 0 → 1 ≤ w p) (hD : D s ≤ 1000000) (h15 : ∀ p, p < 5 → I 15 p = nI (bt b p)) (h17 : ∀ p, p < 5 → I 17 p = nI (w p)) (h18 : ∀ u, u < 32 → I 18 u = nI (D u)) :
    xC E 2 20 [.ref 14, .int (nI s), .int (nI f), .int (nI to)] (xC0 ++ T, I, L) (fun r t => r = none ∧ ∃ I', t = (xC0 ++ T, I', L) ∧ (∀ a, a ≠ 18 → I' a = I a) ∧ ∀ u, u < 32 → I' 18 u = nI ((if u = s then 0 else D u) + ctf b w s f n (D s) u)) := by
  refine xC.mk [some (.ref 14), some (.int (nI s)), some (.int (nI f)), some (.int (nI to)), none, none, none, none, none, none] rfl ?_
  refine ws_iconst 1 rfl rfl kc_i0 ?_
  refine ws_istore_4 3 rfl rfl rfl rfl ?_
  refine ws_iconst 4 rfl rfl kc_im1 ?_
  refine ws_istore_5 6 rfl rfl rfl rfl ?_
  refine ws_iload_2 7 rfl rfl ?_
  refine ws_istore_6 9 rfl rfl rfl rfl ?_
  have hmt : ∀ p, p < 5 → mf b s p = true → ¬ (nI (bt b p) &&& (nI s ^^^ (-1)) = 0) := fun p hp hm q => by rw [mfb (hb p hp) hs, hm] at q; cases q
  have hmn : ∀ p, p < 5 → mf b s p = false → ¬ ¬ (nI (bt b p) &&& (nI s ^^^ (-1)) = 0) := fun p hp hm => not_not_intro ((mfb (hb p hp) hs).mpr hm)
  have hbm : ∀ p, mf b s p = true → ¬ b p = 0 := fun p hm => by unfold mf at hm; simp at hm; exact hm.1
  have hws : ∀ k, k < n → mf b s (f + k) = true → 0 < w (f + k) := fun k hk hm => hw1 _ (by omega) (hbm _ hm)
  have hall : ∀ k, k ≤ n → smf b w s f k ≤ 101 * k := by
    intro k
    induction k with
    | zero => intro _; exact Nat.le_refl 0
    | succ k ih =>
      intro hk
      have h1 := ih (by omega)
      have h2 := hw (f + k) (by omega)
      rw [smf_s]
      cases mf b s (f + k) with
      | true => show _ + w (f + k) ≤ _; omega
      | false => show _ + 0 ≤ _; omega
  have loop2 : ∀ (m k l : Nat) (I' : Nat → Nat → Int32) (z : Option Value), laf b s f n = l → f + k + 1 + m = l → 0 < smf b w s f n → (∀ a, a ≠ 18 → I' a = I a) → (∀ u, u < 32 → I' 18 u = nI ((if u = s then 0 else D u) + csf b w s f n (D s) k u)) → xW E 2 20 84 [some (.ref 14), some (.int (nI s)), some (.int (nI f)), some (.int (nI to)), some (.int (nI (smf b w s f n))), some (.int (nI (l - 1))), some (.int (nI (D s))), some (.int (nI (lff b w s f n (D s) k))), some (.int (nI (f + k))), z] [] (xC0 ++ T, I', L) 0 0 (fun r t => r = none ∧ ∃ I', t = (xC0 ++ T, I', L) ∧ (∀ a, a ≠ 18 → I' a = I a) ∧ ∀ u, u < 32 → I' 18 u = nI ((if u = s then 0 else D u) + ctf b w s f n (D s) u)) := by
    intro m
    induction m with
    | zero =>
      intro k l I' z hl hk hsp hf hp
      have hln := laf_le b s f n
      obtain ⟨i, i1, i2, i3⟩ := laf_mf (show 0 < laf b s f n by omega)
      obtain rfl : i = k := by omega
      have e5 : l - 1 = f + i := by omega
      rw [e5]
      have h15' : I' 15 (f + i) = nI (2 ^ (b (f + i) - 1)) := by rw [hf 15 (by decide), h15 _ (by omega), bt_1 (hbm _ i3)]
      have ho := or_lt32 s hs (b (f + i) - 1) (by have := hb (f + i) (by omega); omega)
      have hpo := hp _ ho
      refine ws_iload_8 86 rfl rfl ?_
      refine ws_iload_5 88 rfl rfl ?_
      refine ws_icmp_gen 152 91 rfl rfl rfl (by omega) (by omega) (fun h9 => ?_) (fun h9 => absurd h9 (by omega))
      refine ws_aload_0 153 rfl rfl ?_
      refine ws_getfr 156 rfl rfl rfl rfl rfl ?_
      refine ws_iload_1 157 rfl rfl ?_
      refine ws_aload_0 158 rfl rfl ?_
      refine ws_getfr 161 rfl rfl rfl rfl rfl ?_
      refine ws_iload_5 163 rfl rfl ?_
      refine ws_ialdn 164 rfl rfl rfl (by omega) (by omega) h15' ?_
      refine ws_ior 165 rfl rfl (kn_or _ _) ?_
      refine ws_dup2 166 rfl rfl rfl rfl ?_
      refine ws_ialdn 167 rfl rfl rfl (by omega) (by omega) hpo ?_
      refine ws_iload_7 169 rfl rfl ?_
      refine ws_iadd 170 rfl rfl (nI_add _ _) ?_
      refine ws_iastn 171 rfl rfl rfl (by omega) (by omega) ?_
      refine ws_vret rfl rfl rfl (Nat.le_of_ble_eq_true rfl) ?_
      refine ⟨rfl, _, rfl, fun a ha => by rw [wI_ne ha]; exact hf a ha, fun u hu => ?_⟩
      show upd (I' 18) _ _ u = _
      have e6 : owf b w s f n (D s) i = lff b w s f n (D s) i := by unfold owf; rw [if_pos (by omega)]
      have e7 : ctf b w s f n (D s) u = csf b w s f n (D s) (i + 1) u := by
        unfold ctf
        rw [lff_0 b w s f n (D s) n (Nat.le_refl n) (by omega) (by omega), csf_after u (by omega) (n - (i + 1)) (i + 1) (by omega) (by omega)]
        simp
      rw [e7, csf_s i3, e6]
      by_cases e : u = s ||| 2 ^ (b (f + i) - 1)
      · rw [if_pos e, e, pk_us, Nat.add_assoc]
      · rw [if_neg e, pk_un e, hp u hu, Nat.add_zero]
    | succ m ih =>
      intro k l I' z hl hk hsp hf hp
      have hln := laf_le b s f n
      have hk5 : f + k < 5 := by omega
      cases hm : mf b s (f + k) with
      | false =>
        have h15' : I' 15 (f + k) = nI (bt b (f + k)) := by rw [hf 15 (by decide), h15 _ hk5]
        refine ws_iload_8 86 rfl rfl ?_
        refine ws_iload_5 88 rfl rfl ?_
        refine ws_icmp_gen 152 91 rfl rfl rfl (by omega) (by omega) (fun h9 => absurd h9 (by omega)) (fun h9 => ?_)
        refine ws_aload_0 92 rfl rfl ?_
        refine ws_getfr 95 rfl rfl rfl rfl rfl ?_
        refine ws_iload_8 97 rfl rfl ?_
        refine ws_ialdn 98 rfl rfl rfl (by omega) (by omega) h15' ?_
        refine ws_iload_1 99 rfl rfl ?_
        refine ws_iconst 100 rfl rfl kc_im1 ?_
        refine ws_ixor 101 rfl rfl rfl ?_
        refine ws_iand 102 rfl rfl rfl ?_
        refine ws_if_eq 146 105 rfl rfl rfl (fun h9 => ?_) (fun h9 => absurd h9 (hmn _ hk5 hm))
        refine ws_iinc_8 149 rfl rfl (ki_1 _) rfl rfl ?_
        refine ws_goto 84 rfl rfl ?_
        rw [← lff_n (w := w) (n := n) (v := D s) hm]; exact ih (k + 1) l I' _ hl (by omega) hsp hf (fun u hu => by rw [csf_n hm]; exact hp u hu)
      | true =>
        have hb9 := hb (f + k) hk5
        have hw9 := hw (f + k) hk5
        have h15' : I' 15 (f + k) = nI (bt b (f + k)) := by rw [hf 15 (by decide), h15 _ hk5]
        have h15'' : I' 15 (f + k) = nI (2 ^ (b (f + k) - 1)) := by rw [h15', bt_1 (hbm _ hm)]
        have h17' : I' 17 (f + k) = nI (w (f + k)) := by rw [hf 17 (by decide), h17 _ hk5]
        have ho := or_lt32 s hs (b (f + k) - 1) (by omega)
        have hpo := hp _ ho
        have hmul : D s * w (f + k) ≤ 1000000 * 101 := Nat.mul_le_mul hD hw9
        have hsm := hall n (Nat.le_refl n)
        have hle := qf_le b w s f n (D s) k (by omega) hm (by omega) hsp
        have e6 : owf b w s f n (D s) k = D s * w (f + k) / smf b w s f n := by unfold owf qf; rw [if_neg (by omega)]
        rw [e6] at hle
        refine ws_iload_8 86 rfl rfl ?_
        refine ws_iload_5 88 rfl rfl ?_
        refine ws_icmp_gen 152 91 rfl rfl rfl (by omega) (by omega) (fun h9 => absurd h9 (by omega)) (fun h9 => ?_)
        refine ws_aload_0 92 rfl rfl ?_
        refine ws_getfr 95 rfl rfl rfl rfl rfl ?_
        refine ws_iload_8 97 rfl rfl ?_
        refine ws_ialdn 98 rfl rfl rfl (by omega) (by omega) h15' ?_
        refine ws_iload_1 99 rfl rfl ?_
        refine ws_iconst 100 rfl rfl kc_im1 ?_
        refine ws_ixor 101 rfl rfl rfl ?_
        refine ws_iand 102 rfl rfl rfl ?_
        refine ws_if_eq 146 105 rfl rfl rfl (fun h9 => absurd h9 (hmt _ hk5 hm)) (fun h9 => ?_)
        refine ws_iload_6 107 rfl rfl ?_
        refine ws_aload_0 108 rfl rfl ?_
        refine ws_getfr 111 rfl rfl rfl rfl rfl ?_
        refine ws_iload_8 113 rfl rfl ?_
        refine ws_ialdn 114 rfl rfl rfl (by omega) (by omega) h17' ?_
        refine ws_imul 115 rfl rfl (pk_mul _ _) ?_
        refine ws_iload_4 117 rfl rfl ?_
        refine ws_idiv 118 rfl rfl (kn_ne0 (by omega) (by omega)) (pk_div (by omega) (by omega) (by omega)) ?_
        refine ws_istore_9 120 rfl rfl rfl rfl ?_
        refine ws_aload_0 121 rfl rfl ?_
        refine ws_getfr 124 rfl rfl rfl rfl rfl ?_
        refine ws_iload_1 125 rfl rfl ?_
        refine ws_aload_0 126 rfl rfl ?_
        refine ws_getfr 129 rfl rfl rfl rfl rfl ?_
        refine ws_iload_8 131 rfl rfl ?_
        refine ws_ialdn 132 rfl rfl rfl (by omega) (by omega) h15'' ?_
        refine ws_ior 133 rfl rfl (kn_or _ _) ?_
        refine ws_dup2 134 rfl rfl rfl rfl ?_
        refine ws_ialdn 135 rfl rfl rfl (by omega) (by omega) hpo ?_
        refine ws_iload_9 137 rfl rfl ?_
        refine ws_iadd 138 rfl rfl (nI_add _ _) ?_
        refine ws_iastn 139 rfl rfl rfl (by omega) (by omega) ?_
        refine ws_iload_7 141 rfl rfl ?_
        refine ws_iload_9 143 rfl rfl ?_
        refine ws_isub 144 rfl rfl (pk_sub (by omega)) ?_
        refine ws_istore_7 146 rfl rfl rfl rfl ?_
        refine ws_iinc_8 149 rfl rfl (ki_1 _) rfl rfl ?_
        refine ws_goto 84 rfl rfl ?_
        rw [← e6, ← lff_s (w := w) (n := n) (v := D s) hm]; refine ih (k + 1) l _ _ hl (by omega) hsp (fun a ha => by rw [wI_ne ha]; exact hf a ha) (fun u hu => ?_)
        show upd (I' 18) _ _ u = _
        rw [csf_s hm]
        by_cases e : u = s ||| 2 ^ (b (f + k) - 1)
        · rw [if_pos e, e, pk_us, Nat.add_assoc]
        · rw [if_neg e, pk_un e, hp u hu, Nat.add_zero]
  have loop1 : ∀ (m k : Nat), k + m = n → xW E 2 20 9 [some (.ref 14), some (.int (nI s)), some (.int (nI f)), some (.int (nI to)), some (.int (nI (smf b w s f k))), some (.int (lI (laf b s f k))), some (.int (nI (f + k))), none, none, none] [] (xC0 ++ T, I, L) 0 0 (fun r t => r = none ∧ ∃ I', t = (xC0 ++ T, I', L) ∧ (∀ a, a ≠ 18 → I' a = I a) ∧ ∀ u, u < 32 → I' 18 u = nI ((if u = s then 0 else D u) + ctf b w s f n (D s) u)) := by
    intro m
    induction m with
    | zero =>
      intro k hk
      obtain rfl : k = n := by omega
      have hsm := hall k (Nat.le_refl k)
      rcases Nat.eq_zero_or_pos (laf b s f k) with h0 | h0
      · rw [h0, lI_0]
        refine ws_iload_6 11 rfl rfl ?_
        refine ws_iload_3 12 rfl rfl ?_
        refine ws_icmp_gtn 51 15 rfl rfl rfl (by omega) (by omega) (fun h9 => ?_) (fun h9 => absurd h9 (by omega))
        refine ws_iload_5 53 rfl rfl ?_
        refine ws_if_lt 61 56 rfl rfl rfl (fun h9 => ?_) (fun h9 => absurd h9 (by decide))
        refine ws_vret rfl rfl rfl (Nat.le_of_ble_eq_true rfl) ?_
        refine ⟨rfl, I, rfl, fun _ _ => rfl, fun u hu => ?_⟩
        obtain ⟨n1, n2⟩ := lff_none (w := w) (v := D s) h0 k (Nat.le_refl k)
        rw [h18 u hu]
        unfold ctf
        rw [n1, n2]
        congr 1
        by_cases e : u = s
        · rw [if_pos e, if_pos e, e]; omega
        · rw [if_neg e, if_neg e]; omega
      · obtain ⟨i, i1, i2, i3⟩ := laf_mf h0
        have hsp : 0 < smf b w s f k := by
          have h1 : smf b w s f (i + 1) = smf b w s f i + w (f + i) := by rw [smf_s, i3]; rfl
          have h2 := hws i i1 i3
          have h3 : smf b w s f (i + 1) ≤ smf b w s f k := smf_mono (by omega)
          omega
        obtain ⟨l, hl⟩ : ∃ l, l = laf b s f k := ⟨_, rfl⟩
        rw [← hl] at i2 ⊢
        rw [show lI l = nI (l - 1) by unfold lI; rw [if_neg (by omega)]]
        have hln := laf_le b s f k
        have h18s := h18 s hs
        refine ws_iload_6 11 rfl rfl ?_
        refine ws_iload_3 12 rfl rfl ?_
        refine ws_icmp_gtn 51 15 rfl rfl rfl (by omega) (by omega) (fun h9 => ?_) (fun h9 => absurd h9 (by omega))
        refine ws_iload_5 53 rfl rfl ?_
        refine ws_if_ltn 61 56 rfl rfl rfl (by omega) (fun h9 => absurd h9 (by omega)) (fun h9 => ?_)
        refine ws_iload_4 58 rfl rfl ?_
        refine ws_if_gtn 62 61 rfl rfl rfl (by omega) (fun h9 => ?_) (fun h9 => absurd h9 (by omega))
        refine ws_aload_0 63 rfl rfl ?_
        refine ws_getfr 66 rfl rfl rfl rfl rfl ?_
        refine ws_iload_1 67 rfl rfl ?_
        refine ws_ialdn 68 rfl rfl rfl (by omega) (by omega) h18s ?_
        refine ws_istore_6 70 rfl rfl rfl rfl ?_
        refine ws_iload_6 72 rfl rfl ?_
        refine ws_istore_7 74 rfl rfl rfl rfl ?_
        refine ws_aload_0 75 rfl rfl ?_
        refine ws_getfr 78 rfl rfl rfl rfl rfl ?_
        refine ws_iload_1 79 rfl rfl ?_
        refine ws_iconst 80 rfl rfl kc_i0 ?_
        refine ws_iastn 81 rfl rfl rfl (by omega) (by omega) ?_
        refine ws_iload_2 82 rfl rfl ?_
        refine ws_istore_8 84 rfl rfl rfl rfl ?_
        refine loop2 (l - (f + 1)) 0 l _ _ hl.symm (by omega) hsp (fun a ha => wI_ne ha) (fun u hu => ?_)
        show upd (I 18) s _ u = nI ((if u = s then 0 else D u) + 0)
        by_cases e : u = s
        · rw [if_pos e, e, pk_us]
        · rw [if_neg e, pk_un e, h18 u hu, Nat.add_zero]
    | succ m ih =>
      intro k hk
      have hk5 : f + k < 5 := by omega
      have h15' := h15 _ hk5
      have h17' := h17 _ hk5
      have hsm := hall k (by omega)
      have hw9 := hw (f + k) hk5
      cases hm : mf b s (f + k) with
      | false =>
        have e1 : smf b w s f (k + 1) = smf b w s f k := by rw [smf_s, hm]; rfl
        have e2 : laf b s f (k + 1) = laf b s f k := by show (bif mf b s (f + k) then _ else _) = _; rw [hm]; rfl
        refine ws_iload_6 11 rfl rfl ?_
        refine ws_iload_3 12 rfl rfl ?_
        refine ws_icmp_gtn 51 15 rfl rfl rfl (by omega) (by omega) (fun h9 => absurd h9 (by omega)) (fun h9 => ?_)
        refine ws_aload_0 16 rfl rfl ?_
        refine ws_getfr 19 rfl rfl rfl rfl rfl ?_
        refine ws_iload_6 21 rfl rfl ?_
        refine ws_ialdn 22 rfl rfl rfl (by omega) (by omega) h15' ?_
        refine ws_iload_1 23 rfl rfl ?_
        refine ws_iconst 24 rfl rfl kc_im1 ?_
        refine ws_ixor 25 rfl rfl rfl ?_
        refine ws_iand 26 rfl rfl rfl ?_
        refine ws_if_eq 45 29 rfl rfl rfl (fun h9 => ?_) (fun h9 => absurd h9 (hmn _ hk5 hm))
        refine ws_iinc_6 48 rfl rfl (ki_1 _) rfl rfl ?_
        refine ws_goto 9 rfl rfl ?_
        rw [← e1, ← e2]; exact ih (k + 1) (by omega)
      | true =>
        have e1 : smf b w s f (k + 1) = smf b w s f k + w (f + k) := by rw [smf_s, hm]; rfl
        have e2 : lI (laf b s f (k + 1)) = nI (f + k) := by rw [show laf b s f (k + 1) = f + k + 1 by show (bif mf b s (f + k) then _ else _) = _; rw [hm]; rfl]; exact lI_s _
        refine ws_iload_6 11 rfl rfl ?_
        refine ws_iload_3 12 rfl rfl ?_
        refine ws_icmp_gtn 51 15 rfl rfl rfl (by omega) (by omega) (fun h9 => absurd h9 (by omega)) (fun h9 => ?_)
        refine ws_aload_0 16 rfl rfl ?_
        refine ws_getfr 19 rfl rfl rfl rfl rfl ?_
        refine ws_iload_6 21 rfl rfl ?_
        refine ws_ialdn 22 rfl rfl rfl (by omega) (by omega) h15' ?_
        refine ws_iload_1 23 rfl rfl ?_
        refine ws_iconst 24 rfl rfl kc_im1 ?_
        refine ws_ixor 25 rfl rfl rfl ?_
        refine ws_iand 26 rfl rfl rfl ?_
        refine ws_if_eq 45 29 rfl rfl rfl (fun h9 => absurd h9 (hmt _ hk5 hm)) (fun h9 => ?_)
        refine ws_iload_4 31 rfl rfl ?_
        refine ws_aload_0 32 rfl rfl ?_
        refine ws_getfr 35 rfl rfl rfl rfl rfl ?_
        refine ws_iload_6 37 rfl rfl ?_
        refine ws_ialdn 38 rfl rfl rfl (by omega) (by omega) h17' ?_
        refine ws_iadd 39 rfl rfl (nI_add _ _) ?_
        refine ws_istore_4 41 rfl rfl rfl rfl ?_
        refine ws_iload_6 43 rfl rfl ?_
        refine ws_istore_5 45 rfl rfl rfl rfl ?_
        refine ws_iinc_6 48 rfl rfl (ki_1 _) rfl rfl ?_
        refine ws_goto 9 rfl rfl ?_
        rw [← e1, ← e2]; exact ih (k + 1) (by omega)
  exact loop1 n 0 (by omega)
/-- where glance g of a kind begins, and how many places it reaches -/
def gfr (A : Nat → Nat → Nat) (k g : Nat) : Nat := if A 3 (k * 6 + 0) = 0 then g else 5 - min 5 (g + A 3 (k * 6 + 2))
def gnn (A : Nat → Nat → Nat) (k g : Nat) : Nat := min 5 (g + A 3 (k * 6 + 2)) - g
/-- parts behind g glances -/
def pt (A : Nat → Nat → Nat) (b : Nat → Nat) (k more : Nat) : Nat → Nat → Nat
  | 0, u => if u = 0 then 1000000 else 0
  | g + 1, u => gla b (fun p => dw A b p (A 3 (k * 6 + 3) + more)) (gfr A k g) (gnn A k g) (pt A b k more g) u
theorem pt_sum {k more : Nat} (hb : ∀ p, p < 5 → b p ≤ 5) : ∀ g, g ≤ 5 → sg (pt A b k more g) 0 32 = 1000000
  | 0, _ => by
    have h := sg_one 1000000 0 32
    rw [if_pos (by omega)] at h
    exact h
  | g + 1, hg => by
    have ih : sg (pt A b k more g) 0 32 = 1000000 := pt_sum hb g (by omega)
    have hr : gfr A k g + gnn A k g ≤ 5 := by unfold gfr gnn; split <;> omega
    rw [← ih]
    exact gla_sum (fun i hi => hb _ (by omega)) (fun i _ h => dw_pos h)
theorem pt_le {k more g u : Nat} (hb : ∀ p, p < 5 → b p ≤ 5) (hg : g ≤ 5) (hu : u < 32) : pt A b k more g u ≤ 1000000 := by
  rw [← pt_sum (A := A) (k := k) (more := more) hb g hg]
  exact sg_term hu
theorem pt_pop {k more : Nat} (hb : ∀ p, p < 5 → b p ≤ 5) : ∀ g, g ≤ 5 → ∀ u, u < 32 → g < pop 5 u → pt A b k more g u = 0
  | 0, _ => by
    intro u hu h
    have : ¬ u = 0 := fun e => by rw [e] at h; exact absurd h (by decide)
    exact if_neg this
  | g + 1, hg => by
    have hr : gfr A k g + gnn A k g ≤ 5 := by unfold gfr gnn; split <;> omega
    exact gla_pop (fun i hi => hb _ (by omega)) (pt_pop hb g (by omega))
/-- what is known of kinds -/
def okK (A : Nat → Nat → Nat) : Prop := ∀ k, k < 4 → A 3 (k * 6 + 0) ≤ 1 ∧ (1 ≤ A 3 (k * 6 + 1) ∧ A 3 (k * 6 + 1) ≤ 4) ∧ (1 ≤ A 3 (k * 6 + 2) ∧ A 3 (k * 6 + 2) ≤ 5) ∧ A 3 (k * 6 + 3) ≤ 9 ∧ A 3 (k * 6 + 4) ≤ 5 ∧ A 3 (k * 6 + 5) ≤ 999
theorem c_goBy (k more : Nat) (hk : k < 4) (hm : more ≤ 9) (hKi : ∀ j, j < 24 → I 9 j = nI (A 3 j)) (hok : okK A) (h1 : ∀ j, j < 5 → A 0 j ≤ 9) (h2 : ∀ j, j < 5 → A 1 j ≤ 9) (hb : ∀ p, p < 5 → b p ≤ 5) (h15 : ∀ p, p < 5 → I 15 p = nI (bt b p)) (h16 : ∀ p, p < 5 → I 16 p = nI (dz A b p)) :
    xC E 3 19 [.ref 14, .int (nI k), .int (nI more)] (xC0 ++ T, I, L) (fun r t => r = none ∧ ∃ I', t = (xC0 ++ T, I', L) ∧ (∀ a, a ≠ 17 → a ≠ 18 → I' a = I a) ∧ ∀ u, u < 32 → I' 18 u = nI (pt A b k more (A 3 (k * 6 + 1)) u)) := by
  refine xC.mk [some (.ref 14), some (.int (nI k)), some (.int (nI more)), none, none, none, none, none, none, none, none] rfl ?_
  obtain ⟨k0, k1, k2, k3, k4, k5⟩ := hok k hk
  have hh : ∀ (I' : Nat → Nat → Int32), I' 9 = I 9 → ∀ w, w < 6 → xC E 1 27 [.ref 5, .int (nI k), .int (nI w)] (xC0 ++ T, I', L) (rV (.int (nI (A 3 (k * 6 + w)))) (xC0 ++ T, I', L)) := fun I' h w hw => c_habit (fun j hj => by rw [h]; exact hKi j hj) k w hk hw
  obtain ⟨nb, hnb⟩ : ∃ nb, nb = A 3 (k * 6 + 3) + more := ⟨_, rfl⟩
  refine ws_aload_0 1 rfl rfl ?_
  refine ws_getfr 4 rfl rfl rfl rfl rfl ?_
  refine ws_iload_1 5 rfl rfl ?_
  refine ws_iconst 6 rfl rfl kc_i3 ?_
  refine ws_invV2p 9 rfl rfl rfl rfl (hh I rfl 3 (by omega)) rfl rfl rfl ?_
  refine ws_iload_2 10 rfl rfl ?_
  refine ws_iadd 11 rfl rfl (nI_add _ _) ?_
  refine ws_istore_3 12 rfl rfl rfl rfl ?_
  refine ws_iconst 13 rfl rfl kc_i0 ?_
  refine ws_istore_4 15 rfl rfl rfl rfl ?_
  rw [← hnb]
  -- the inner loop over sets
  have inner : ∀ (x g m to : Nat) (P : Nat → Nat) (I' : Nat → Nat → Int32) (z4 : Int32), g ≤ 4 → 1 ≤ gnn A k g → gfr A k g + gnn A k g ≤ 5 → to + 1 = gfr A k g + gnn A k g → x ≤ 32 → (∀ u, u < 32 → P u ≤ 1000000) → (∀ a, a ≠ 17 → a ≠ 18 → I' a = I a) → (∀ p, p < 5 → I' 17 p = nI (dw A b p nb)) → (∀ u, u < 32 → I' 18 u = nI ((if u < x then P u else 0) + sg (fun s => ctf b (fun p => dw A b p nb) s (gfr A k g) (gnn A k g) (P s) u) x (32 - x))) → (∀ (I' : Nat → Nat → Int32), (∀ a, a ≠ 17 → a ≠ 18 → I' a = I a) → (∀ p, p < 5 → I' 17 p = nI (dw A b p nb)) → (∀ u, u < 32 → I' 18 u = nI (gla b (fun p => dw A b p nb) (gfr A k g) (gnn A k g) P u)) → xW E 3 19 189 [some (.ref 14), some (.int (nI k)), some (.int (nI more)), some (.int (nI nb)), some (.int z4), some (.int (nI (A 3 (k * 6 + 1)))), some (.int (nI g)), some (.int (nI m)), some (.int (nI (gfr A k g))), some (.int (nI to)), some (.int (-1))] [] (xC0 ++ T, I', L) 0 0 (fun r t => r = none ∧ ∃ I', t = (xC0 ++ T, I', L) ∧ (∀ a, a ≠ 17 → a ≠ 18 → I' a = I a) ∧ ∀ u, u < 32 → I' 18 u = nI (pt A b k more (A 3 (k * 6 + 1)) u))) →
      xW E 3 19 158 [some (.ref 14), some (.int (nI k)), some (.int (nI more)), some (.int (nI nb)), some (.int z4), some (.int (nI (A 3 (k * 6 + 1)))), some (.int (nI g)), some (.int (nI m)), some (.int (nI (gfr A k g))), some (.int (nI to)), some (.int (lI x))] [] (xC0 ++ T, I', L) 0 0 (fun r t => r = none ∧ ∃ I', t = (xC0 ++ T, I', L) ∧ (∀ a, a ≠ 17 → a ≠ 18 → I' a = I a) ∧ ∀ u, u < 32 → I' 18 u = nI (pt A b k more (A 3 (k * 6 + 1)) u)) := by
    intro x
    induction x with
    | zero =>
      intro g m to P I' z4 hg g1 g2 hto hx hP hf h17 h18 kk
      rw [lI_0]
      refine ws_iload_10 160 rfl rfl ?_
      refine ws_if_lt 189 163 rfl rfl rfl (fun h9 => ?_) (fun h9 => absurd h9 (by decide))
      exact kk I' hf h17 (fun u hu => by rw [h18 u hu, if_neg (by omega), Nat.zero_add]; rfl)
    | succ x ih =>
      intro g m to P I' z4 hg g1 g2 hto hx hP hf h17 h18 kk
      rw [lI_s]
      have hx32 : x < 32 := by omega
      have hd := fun u hu => gla_down (b := b) (w := fun p => dw A b p nb) (P := P) (f := gfr A k g) (n := gnn A k g) (k := x) (u := u) (D := fun u => (if u < x + 1 then P u else 0) + sg (fun s => ctf b (fun p => dw A b p nb) s (gfr A k g) (gnn A k g) (P s) u) (x + 1) (32 - (x + 1))) hx32 (fun _ _ => rfl) hu
      have h18x : I' 18 x = nI (P x) := by rw [h18 x hx32]; exact congrArg nI (hd x hx32).1
      have hPx := hP x hx32
      refine ws_iload_10 160 rfl rfl ?_
      refine ws_if_ltn 189 163 rfl rfl rfl (by omega) (fun h9 => absurd h9 (by omega)) (fun h9 => ?_)
      refine ws_aload_0 164 rfl rfl ?_
      refine ws_getfr 167 rfl rfl rfl rfl rfl ?_
      refine ws_iload_10 169 rfl rfl ?_
      refine ws_ialdn 170 rfl rfl rfl (by omega) (by omega) h18x ?_
      refine ws_if_len 183 173 rfl rfl rfl (by omega) (fun hz => ?_) (fun hz => ?_)
      · have hz0 : P x = 0 := by omega
        refine ws_iinc_10 186 rfl rfl (li_dec _) rfl rfl ?_
        refine ws_goto 158 rfl rfl ?_
        refine ih g m to P I' z4 hg g1 g2 hto (by omega) hP hf h17 (fun u hu => ?_) kk
        rw [← (hd u hu).2, hz0, ctf_0, h18 u hu]
        congr 1
        by_cases e : u = x
        · rw [if_pos e, e]
          exact (hd x hx32).1.trans hz0
        · rw [if_neg e]
          rfl
      · refine ws_aload_0 174 rfl rfl ?_
        refine ws_iload_10 176 rfl rfl ?_
        refine ws_iload_8 178 rfl rfl ?_
        refine ws_iload_9 180 rfl rfl ?_
        refine ws_invV3 183 rfl rfl rfl rfl (c_glance x (gfr A k g) (gnn A k g) to (D := fun u => (if u < x + 1 then P u else 0) + sg (fun s => ctf b (fun p => dw A b p nb) s (gfr A k g) (gnn A k g) (P s) u) (x + 1) (32 - (x + 1))) (w := fun p => dw A b p nb) hx32 g1 g2 hto hb (fun p hp => dw_le h1 h2 hp (hb p hp)) (fun p _ h => dw_pos h) (by rw [(hd x hx32).1]; exact hPx) (fun p hp => by rw [hf 15 (by decide) (by decide)]; exact h15 p hp) h17 h18) rfl rfl rfl ?_
        rintro _ _ ⟨rfl, I2, rfl, hf2, h18'⟩
        refine ws_iinc_10 186 rfl rfl (li_dec _) rfl rfl ?_
        refine ws_goto 158 rfl rfl ?_
        exact ih g m to P I2 z4 hg g1 g2 hto (by omega) hP (fun a ha ha2 => by rw [hf2 a ha2]; exact hf a ha ha2) (fun p hp => by rw [hf2 17 (by decide)]; exact h17 p hp) (fun u hu => by rw [h18' u hu, ← (hd u hu).2, (hd x hx32).1]) kk
  -- glances
  have outer : ∀ (m g : Nat) (I' : Nat → Nat → Int32) (z7 z8 z9 z10 : Option Value), g + m = A 3 (k * 6 + 1) → (∀ a, a ≠ 17 → a ≠ 18 → I' a = I a) → (∀ p, p < 5 → I' 17 p = nI (dw A b p nb)) → (∀ u, u < 32 → I' 18 u = nI (pt A b k more g u)) → xW E 3 19 95 [some (.ref 14), some (.int (nI k)), some (.int (nI more)), some (.int (nI nb)), some (.int (nI (A 3 (k * 6 + 0)))), some (.int (nI (A 3 (k * 6 + 1)))), some (.int (nI g)), z7, z8, z9, z10] [] (xC0 ++ T, I', L) 0 0 (fun r t => r = none ∧ ∃ I', t = (xC0 ++ T, I', L) ∧ (∀ a, a ≠ 17 → a ≠ 18 → I' a = I a) ∧ ∀ u, u < 32 → I' 18 u = nI (pt A b k more (A 3 (k * 6 + 1)) u)) := by
    intro m
    induction m with
    | zero =>
      intro g I' z7 z8 z9 z10 hg hf h17 h18
      obtain rfl : g = A 3 (k * 6 + 1) := by omega
      refine ws_iload_6 97 rfl rfl ?_
      refine ws_iload_5 99 rfl rfl ?_
      refine ws_icmp_gen 195 102 rfl rfl rfl (by omega) (by omega) (fun h9 => ?_) (fun h9 => absurd h9 (by omega))
      refine ws_vret rfl rfl rfl (Nat.le_of_ble_eq_true rfl) ?_
      exact ⟨rfl, I', rfl, hf, h18⟩
    | succ m ih =>
      intro g I' z7 z8 z9 z10 hg hf h17 h18
      have hab := hh I' (hf 9 (by decide) (by decide))
      have g1 : 1 ≤ gnn A k g := by unfold gnn; omega
      have g2 : gfr A k g + gnn A k g ≤ 5 := by unfold gfr gnn; split <;> omega
      have step : ∀ (I' : Nat → Nat → Int32) (z7 z8 z9 z10 : Option Value), (∀ a, a ≠ 17 → a ≠ 18 → I' a = I a) → (∀ p, p < 5 → I' 17 p = nI (dw A b p nb)) → (∀ u, u < 32 → I' 18 u = nI (gla b (fun p => dw A b p nb) (gfr A k g) (gnn A k g) (pt A b k more g) u)) → xW E 3 19 189 [some (.ref 14), some (.int (nI k)), some (.int (nI more)), some (.int (nI nb)), some (.int (nI (A 3 (k * 6 + 0)))), some (.int (nI (A 3 (k * 6 + 1)))), some (.int (nI g)), z7, z8, z9, z10] [] (xC0 ++ T, I', L) 0 0 (fun r t => r = none ∧ ∃ I', t = (xC0 ++ T, I', L) ∧ (∀ a, a ≠ 17 → a ≠ 18 → I' a = I a) ∧ ∀ u, u < 32 → I' 18 u = nI (pt A b k more (A 3 (k * 6 + 1)) u)) := by
        intro I' z7 z8 z9 z10 hf h17 h18
        refine ws_iinc_6 192 rfl rfl (ki_1 _) rfl rfl ?_
        refine ws_goto 95 rfl rfl ?_
        exact ih (g + 1) I' _ _ _ _ (by omega) hf h17 (fun u hu => by rw [h18 u hu, hnb]; rfl)
      have hPle : ∀ u, u < 32 → pt A b k more g u ≤ 1000000 := fun u hu => pt_le hb (by omega) hu
      have h18i : ∀ u, u < 32 → I' 18 u = nI ((if u < 32 then pt A b k more g u else 0) + sg (fun s => ctf b (fun p => dw A b p nb) s (gfr A k g) (gnn A k g) (pt A b k more g s) u) 32 (32 - 32)) := fun u hu => by rw [if_pos hu, h18 u hu]; rfl
      have e31 : nI 31 = lI 32 := (lI_s 31).symm
      refine ws_iload_6 97 rfl rfl ?_
      refine ws_iload_5 99 rfl rfl ?_
      refine ws_icmp_gen 195 102 rfl rfl rfl (by omega) (by omega) (fun h9 => absurd h9 (by omega)) (fun h9 => ?_)
      refine ws_iconst 103 rfl rfl kc_i5 ?_
      refine ws_iload_6 105 rfl rfl ?_
      refine ws_aload_0 106 rfl rfl ?_
      refine ws_getfr 109 rfl rfl rfl rfl rfl ?_
      refine ws_iload_1 110 rfl rfl ?_
      refine ws_iconst 111 rfl rfl kc_i2 ?_
      refine ws_invV2p 114 rfl rfl rfl rfl (hab 2 (by omega)) rfl rfl rfl ?_
      refine ws_iadd 115 rfl rfl (nI_add _ _) ?_
      refine ws_invS2p 118 rfl rfl rfl (p_minn _ _ (by omega) (by omega)) rfl rfl rfl ?_
      refine ws_iconst 119 rfl rfl kc_i1 ?_
      refine ws_isub 120 rfl rfl (pk_sub (by omega)) ?_
      refine ws_istore_7 122 rfl rfl rfl rfl ?_
      rcases Nat.eq_zero_or_pos (A 3 (k * 6 + 0)) with hs | hs
      · have e1 : gfr A k g = g := by unfold gfr; rw [if_pos hs]
        have e2 : min 5 (g + A 3 (k * 6 + 2)) - 1 + 1 = gfr A k g + gnn A k g := by rw [e1]; unfold gnn; omega
        refine ws_iload_4 124 rfl rfl ?_
        refine ws_if_eqn 134 127 rfl rfl rfl (by omega) (fun h9 => ?_) (fun h9 => absurd h9 (by omega))
        refine ws_iload_6 136 rfl rfl ?_
        refine ws_istore_8 138 rfl rfl rfl rfl ?_
        refine ws_iload_4 140 rfl rfl ?_
        refine ws_if_eqn 150 143 rfl rfl rfl (by omega) (fun h9 => ?_) (fun h9 => absurd h9 (by omega))
        refine ws_iload_7 152 rfl rfl ?_
        refine ws_istore_9 154 rfl rfl rfl rfl ?_
        refine ws_bipush 156 rfl rfl kc_b31 ?_
        refine ws_istore_10 158 rfl rfl rfl rfl ?_
        rw [e31]
        have := inner 32 g (min 5 (g + A 3 (k * 6 + 2)) - 1) (min 5 (g + A 3 (k * 6 + 2)) - 1) (pt A b k more g) I' (nI (A 3 (k * 6 + 0))) (by omega) g1 g2 e2 (Nat.le_refl 32) hPle hf h17 h18i (fun I2 a b c => step I2 _ _ _ _ a b c)
        rw [e1] at this
        exact this
      · have e1 : gfr A k g = 4 - (min 5 (g + A 3 (k * 6 + 2)) - 1) := by unfold gfr; rw [if_neg (by omega)]; omega
        have e2 : 4 - g + 1 = gfr A k g + gnn A k g := by rw [e1]; unfold gnn; omega
        refine ws_iload_4 124 rfl rfl ?_
        refine ws_if_eqn 134 127 rfl rfl rfl (by omega) (fun h9 => absurd h9 (by omega)) (fun h9 => ?_)
        refine ws_iconst 128 rfl rfl kc_i4 ?_
        refine ws_iload_7 130 rfl rfl ?_
        refine ws_isub 131 rfl rfl (pk_sub (by omega)) ?_
        refine ws_goto 136 rfl rfl ?_
        refine ws_istore_8 138 rfl rfl rfl rfl ?_
        refine ws_iload_4 140 rfl rfl ?_
        refine ws_if_eqn 150 143 rfl rfl rfl (by omega) (fun h9 => absurd h9 (by omega)) (fun h9 => ?_)
        refine ws_iconst 144 rfl rfl kc_i4 ?_
        refine ws_iload_6 146 rfl rfl ?_
        refine ws_isub 147 rfl rfl (pk_sub (by omega)) ?_
        refine ws_goto 152 rfl rfl ?_
        refine ws_istore_9 154 rfl rfl rfl rfl ?_
        refine ws_bipush 156 rfl rfl kc_b31 ?_
        refine ws_istore_10 158 rfl rfl rfl rfl ?_
        rw [e31]
        have := inner 32 g (min 5 (g + A 3 (k * 6 + 2)) - 1) (4 - g) (pt A b k more g) I' (nI (A 3 (k * 6 + 0))) (by omega) g1 g2 e2 (Nat.le_refl 32) hPle hf h17 h18i (fun I2 a b c => step I2 _ _ _ _ a b c)
        rw [e1] at this
        exact this
  -- what draws
  have draws : ∀ (m p : Nat) (I' : Nat → Nat → Int32), p + m = 5 → (∀ a, a ≠ 17 → a ≠ 18 → I' a = I a) → (∀ q, q < p → I' 17 q = nI (dw A b q nb)) → xW E 3 19 15 [some (.ref 14), some (.int (nI k)), some (.int (nI more)), some (.int (nI nb)), some (.int (nI p)), none, none, none, none, none, none] [] (xC0 ++ T, I', L) 0 0 (fun r t => r = none ∧ ∃ I', t = (xC0 ++ T, I', L) ∧ (∀ a, a ≠ 17 → a ≠ 18 → I' a = I a) ∧ ∀ u, u < 32 → I' 18 u = nI (pt A b k more (A 3 (k * 6 + 1)) u)) := by
    intro m
    induction m with
    | zero =>
      intro p I' hp hf h17
      obtain rfl : p = 5 := by omega
      refine ws_iload_4 17 rfl rfl ?_
      refine ws_iconst 18 rfl rfl kc_i5 ?_
      refine ws_icmp_gen 41 21 rfl rfl rfl (by omega) (by omega) (fun h9 => ?_) (fun h9 => absurd h9 (by omega))
      refine ws_aload_0 42 rfl rfl ?_
      refine ws_getfr 45 rfl rfl rfl rfl rfl ?_
      refine ws_iconst 46 rfl rfl kc_i0 ?_
      refine ws_invS2 49 rfl rfl rfl (c_fill 18 32 (nI 0) rfl (by omega)) rfl rfl rfl ?_
      rintro _ _ ⟨rfl, I2, rfl, hf2, h18⟩
      have hab := hh (wI I2 18 0 (nI 1000000)) (by rw [wI_ne (by decide), hf2 9 (by decide), hf 9 (by decide) (by decide)])
      have hm5 : min 5 (A 3 (k * 6 + 1)) = A 3 (k * 6 + 1) := by omega
      have fin := outer (A 3 (k * 6 + 1)) 0 (wI I2 18 0 (nI 1000000)) none none none none (by omega) (fun a ha ha2 => by rw [wI_ne ha2, hf2 a ha2]; exact hf a ha ha2) (fun p hp => by rw [wI_ne (by decide), hf2 17 (by decide)]; exact h17 p hp) (fun u hu => by
        rw [wI_eq]
        show _ = nI (if u = 0 then 1000000 else 0)
        by_cases e : u = 0
        · rw [if_pos e, e, pk_us]
        · rw [if_neg e, pk_un e]; exact h18 u hu)
      refine ws_aload_0 50 rfl rfl ?_
      refine ws_getfr 53 rfl rfl rfl rfl rfl ?_
      refine ws_iconst 54 rfl rfl kc_i0 ?_
      refine ws_ldc 56 rfl rfl rfl (show (1000000 : Int32) = nI 1000000 by decide) ?_
      refine ws_iastn 57 rfl rfl rfl (by omega) (by omega) ?_
      refine ws_aload_0 58 rfl rfl ?_
      refine ws_getfr 61 rfl rfl rfl rfl rfl ?_
      refine ws_iload_1 62 rfl rfl ?_
      refine ws_iconst 63 rfl rfl kc_i0 ?_
      refine ws_invV2p 66 rfl rfl rfl rfl (hab 0 (by omega)) rfl rfl rfl ?_
      refine ws_iconst 67 rfl rfl kc_i1 ?_
      rcases Nat.eq_zero_or_pos (A 3 (k * 6 + 0)) with hs | hs
      · rw [hs] at fin
        rw [hs]
        refine ws_icmp_nen 74 70 rfl rfl rfl (by omega) (by omega) (fun h9 => ?_) (fun h9 => absurd h9 (by omega))
        refine ws_iconst 75 rfl rfl kc_i0 ?_
        refine ws_istore_4 77 rfl rfl rfl rfl ?_
        refine ws_iconst 78 rfl rfl kc_i5 ?_
        refine ws_aload_0 79 rfl rfl ?_
        refine ws_getfr 82 rfl rfl rfl rfl rfl ?_
        refine ws_iload_1 83 rfl rfl ?_
        refine ws_iconst 84 rfl rfl kc_i1 ?_
        refine ws_invV2p 87 rfl rfl rfl rfl (hab 1 (by omega)) rfl rfl rfl ?_
        refine ws_invS2p 90 rfl rfl rfl (p_minn _ _ (by omega) (by omega)) rfl rfl rfl ?_
        rw [hm5]
        refine ws_istore_5 92 rfl rfl rfl rfl ?_
        refine ws_iconst 93 rfl rfl kc_i0 ?_
        refine ws_istore_6 95 rfl rfl rfl rfl ?_
        exact fin
      · have hs1 : A 3 (k * 6 + 0) = 1 := by omega
        rw [hs1] at fin
        rw [hs1]
        refine ws_icmp_nen 74 70 rfl rfl rfl (by omega) (by omega) (fun h9 => absurd h9 (by omega)) (fun h9 => ?_)
        refine ws_iconst 71 rfl rfl kc_i1 ?_
        refine ws_goto 75 rfl rfl ?_
        refine ws_istore_4 77 rfl rfl rfl rfl ?_
        refine ws_iconst 78 rfl rfl kc_i5 ?_
        refine ws_aload_0 79 rfl rfl ?_
        refine ws_getfr 82 rfl rfl rfl rfl rfl ?_
        refine ws_iload_1 83 rfl rfl ?_
        refine ws_iconst 84 rfl rfl kc_i1 ?_
        refine ws_invV2p 87 rfl rfl rfl rfl (hab 1 (by omega)) rfl rfl rfl ?_
        refine ws_invS2p 90 rfl rfl rfl (p_minn _ _ (by omega) (by omega)) rfl rfl rfl ?_
        rw [hm5]
        refine ws_istore_5 92 rfl rfl rfl rfl ?_
        refine ws_iconst 93 rfl rfl kc_i0 ?_
        refine ws_istore_6 95 rfl rfl rfl rfl ?_
        exact fin
    | succ m ih =>
      intro p I' hp hf h17
      have h16' : I' 16 p = nI (dz A b p) := by rw [hf 16 (by decide) (by decide)]; exact h16 p (by omega)
      refine ws_iload_4 17 rfl rfl ?_
      refine ws_iconst 18 rfl rfl kc_i5 ?_
      refine ws_icmp_gen 41 21 rfl rfl rfl (by omega) (by omega) (fun h9 => absurd h9 (by omega)) (fun h9 => ?_)
      refine ws_aload_0 22 rfl rfl ?_
      refine ws_getfr 25 rfl rfl rfl rfl rfl ?_
      refine ws_iload_4 27 rfl rfl ?_
      refine ws_aload_0 28 rfl rfl ?_
      refine ws_iload_4 30 rfl rfl ?_
      refine ws_iload_3 31 rfl rfl ?_
      refine ws_invV2p 34 rfl rfl rfl rfl (c_pullOn p nb (by omega) (by omega) h1 h2 (hb p (by omega)) h16') rfl rfl rfl ?_
      refine ws_iastn 35 rfl rfl rfl (by omega) (by omega) ?_
      refine ws_iinc_4 38 rfl rfl (ki_1 _) rfl rfl ?_
      refine ws_goto 15 rfl rfl ?_
      exact ih (p + 1) _ (by omega) (fun a ha ha2 => by rw [wI_ne ha]; exact hf a ha ha2) (fl h17 rfl)
  exact draws 5 0 I rfl (fun _ _ _ => rfl) (fun _ h => by omega)
end GLANCE
end
section
/-! ===== Passers: what comes of it ===== -/
theorem pop11 : ∀ u, u < 32 → pop 11 u = pop 5 u := by decide +kernel
theorem p_bitCount5 (n : Nat) (hn : n < 32) : xP 1 138 [.int (nI n)] (.int (nI (pop 5 n))) := by
  rw [← pop11 n hn]
  exact p_bitCount n (by omega)
theorem p_below5e : xP 1 80 [.int (nI 5), .int (nI 5)] (.int (xb false)) := by
  have h := p_below (nI 5) 5 4 (by omega) rfl
  rwa [show rg 0 4 (nI 5) = false by decide] at h
/-- is what one of a kind wants among the set -/
def wn (A : Nat → Nat → Nat) (k s : Nat) : Nat := if A 3 (k * 6 + 4) < 5 then s / 2 ^ (A 3 (k * 6 + 4)) % 2 else 0
def soS (A : Nat → Nat → Nat) (F P : Nat → Nat) (k s : Nat) : Nat := P s * F (0 * 10 + 2 * pop 5 s + wn A k s) / 1000
def coS (A : Nat → Nat → Nat) (F P : Nat → Nat) (k s : Nat) : Nat := soS A F P k s * F (1 * 10 + 2 * pop 5 s + wn A k s) / 1000
def paS (A : Nat → Nat → Nat) (F P : Nat → Nat) (k s : Nat) : Nat := coS A F P k s * (if wn A k s = 1 then A 0 (1 * 5 + A 3 (k * 6 + 4)) else A 6 0)
theorem wn_lt (A : Nat → Nat → Nat) (k s : Nat) : wn A k s < 2 := by
  unfold wn
  split <;> omega
theorem div1000 {p f : Nat} (hf : f ≤ 1000) : p * f / 1000 ≤ p := by
  calc p * f / 1000 ≤ p * 1000 / 1000 := Nat.div_le_div_right (Nat.mul_le_mul_left p hf)
    _ = p := Nat.mul_div_cancel p (by omega)
theorem soS_le {A : Nat → Nat → Nat} {F P : Nat → Nat} {k s : Nat} (hF : ∀ j, j < 20 → F j ≤ 1000) (hp : pop 5 s ≤ 4) : soS A F P k s ≤ P s := by
  have := wn_lt A k s
  exact div1000 (hF _ (by omega))
theorem coS_le {A : Nat → Nat → Nat} {F P : Nat → Nat} {k s : Nat} (hF : ∀ j, j < 20 → F j ≤ 1000) (hp : pop 5 s ≤ 4) : coS A F P k s ≤ P s := by
  have := wn_lt A k s
  exact Nat.le_trans (div1000 (hF _ (by omega))) (soS_le hF hp)
theorem paS_0 {A : Nat → Nat → Nat} {F P : Nat → Nat} {k s : Nat} (h : P s = 0) : soS A F P k s = 0 ∧ coS A F P k s = 0 ∧ paS A F P k s = 0 := by
  have h1 : soS A F P k s = 0 := by unfold soS; rw [h]; simp
  have h2 : coS A F P k s = 0 := by unfold coS; rw [h1]; simp
  exact ⟨h1, h2, by unfold paS; rw [h2]; simp⟩
theorem paS_le {A : Nat → Nat → Nat} {F P : Nat → Nat} {k s : Nat} (hF : ∀ j, j < 20 → F j ≤ 1000) (hp : 4 < pop 5 s → P s = 0) (h3 : ∀ j, j < 15 → A 0 j ≤ 99) (ho : A 6 0 ≤ 99) : paS A F P k s ≤ 99 * P s := by
  rcases Nat.lt_or_ge 4 (pop 5 s) with h | h
  · rw [(paS_0 (hp h)).2.2]; omega
  · have h1 := coS_le (A := A) (P := P) (k := k) hF h
    unfold paS
    rw [Nat.mul_comm 99]
    refine Nat.mul_le_mul h1 ?_
    by_cases hw : wn A k s = 1
    · rw [if_pos hw]
      by_cases h5 : A 3 (k * 6 + 4) < 5
      · exact h3 _ (by omega)
      · unfold wn at hw
        rw [if_neg h5] at hw
        omega
    · rw [if_neg hw]; exact ho
/-- pay of a kind; the week -/
def payF (A : Nat → Nat → Nat) (F : Nat → Nat) (b : Nat → Nat) (more k : Nat) : Nat := sg (paS A F (pt A b k more (A 3 (k * 6 + 1))) k) 0 32
def wkF (A : Nat → Nat → Nat) (F : Nat → Nat) (b : Nat → Nat) (more : Nat) : Nat := sg (fun k => payF A F b more k * A 3 (k * 6 + 5)) 0 4 / 1000
theorem sg_mul (c : Nat) (f : Nat → Nat) (lo : Nat) : ∀ n, sg (fun i => c * f i) lo n = c * sg f lo n
  | 0 => by simp [sg]
  | n + 1 => by
    show sg (fun i => c * f i) lo n + c * f (lo + n) = c * (sg f lo n + f (lo + n))
    rw [sg_mul c f lo n, Nat.mul_add]
theorem payF_le {A : Nat → Nat → Nat} {F b : Nat → Nat} {more k : Nat} (hk : k < 4) (hok : okK A) (hb : ∀ p, p < 5 → b p ≤ 5) (hF : ∀ j, j < 20 → F j ≤ 1000) (h3 : ∀ j, j < 15 → A 0 j ≤ 99) (ho : A 6 0 ≤ 99) : payF A F b more k ≤ 99000000 := by
  obtain ⟨-, k1, -⟩ := hok k hk
  have h := sg_le (f := paS A F (pt A b k more (A 3 (k * 6 + 1))) k) (g := fun s => 99 * pt A b k more (A 3 (k * 6 + 1)) s) (lo := 0) (n := 32) (fun i hi => paS_le hF (fun h => pt_pop hb _ (by omega) _ (by omega) (by omega)) h3 ho)
  rw [sg_mul, pt_sum hb _ (by omega)] at h
  exact h
theorem wk_sum_le {A : Nat → Nat → Nat} {F b : Nat → Nat} {more : Nat} (hok : okK A) (hb : ∀ p, p < 5 → b p ≤ 5) (hF : ∀ j, j < 20 → F j ≤ 1000) (h3 : ∀ j, j < 15 → A 0 j ≤ 99) (ho : A 6 0 ≤ 99) : ∀ n, n ≤ 4 → sg (fun k => payF A F b more k * A 3 (k * 6 + 5)) 0 n ≤ 98901000000 * n := by
  intro n
  induction n with
  | zero => intro _; exact Nat.le_refl 0
  | succ n ih =>
    intro hn
    have h1 := ih (by omega)
    have h2 : payF A F b more n * A 3 (n * 6 + 5) ≤ 99000000 * 999 := Nat.mul_le_mul (payF_le (by omega) hok hb hF h3 ho) (hok n (by omega)).2.2.2.2.2
    show sg _ 0 n + (fun k => payF A F b more k * A 3 (k * 6 + 5)) (0 + n) ≤ _
    rw [Nat.zero_add]
    show _ + payF A F b more n * A 3 (n * 6 + 5) ≤ _
    omega
theorem wkF_le {A : Nat → Nat → Nat} {F b : Nat → Nat} {more : Nat} (hok : okK A) (hb : ∀ p, p < 5 → b p ≤ 5) (hF : ∀ j, j < 20 → F j ≤ 1000) (h3 : ∀ j, j < 15 → A 0 j ≤ 99) (ho : A 6 0 ≤ 99) : wkF A F b more ≤ 395604000 := by
  have := wk_sum_le (more := more) hok hb hF h3 ho 4 (by omega)
  unfold wkF
  omega
section WEEK
variable {E : xEx} {T : List xSh} {I : Nat → Nat → Int32} {L : Nat → Nat → Int64} {A : Nat → Nat → Nat} {b F P : Nat → Nat}
theorem c_sawIt (t : Nat) (ht : t < 5) (h18 : ∀ u, u < 32 → I 18 u = nI (P u)) : xC E 1 21 [.ref 14, .int (nI t)] (xC0 ++ T, I, L) (rV (.int (nI (sg (fun u => if u / 2 ^ t % 2 = 1 then P u else 0) 0 32))) (xC0 ++ T, I, L)) := by
  refine xC.mk [some (.ref 14), some (.int (nI t)), none, none] rfl ?_
  refine ws_iconst 1 rfl rfl kc_i0 ?_
  refine ws_istore_2 2 rfl rfl rfl rfl ?_
  refine ws_iconst 3 rfl rfl kc_i0 ?_
  refine ws_istore_3 4 rfl rfl rfl rfl ?_
  have loop : ∀ m k : Nat, k + m = 32 → xW E 1 21 4 [some (.ref 14), some (.int (nI t)), some (.int (nI (sg (fun u => if u / 2 ^ t % 2 = 1 then P u else 0) 0 k))), some (.int (nI k))] [] (xC0 ++ T, I, L) 0 0 (rV (.int (nI (sg (fun u => if u / 2 ^ t % 2 = 1 then P u else 0) 0 32))) (xC0 ++ T, I, L)) := by
    intro m
    induction m with
    | zero =>
      intro k hk
      obtain rfl : k = 32 := by omega
      refine ws_iload_3 5 rfl rfl ?_
      refine ws_bipush 7 rfl rfl kc_b32 ?_
      refine ws_icmp_gen 34 10 rfl rfl rfl (by omega) (by omega) (fun h9 => ?_) (fun h9 => absurd h9 (by omega))
      refine ws_iload_2 35 rfl rfl ?_
      refine ws_iret rfl rfl rfl (Nat.le_of_ble_eq_true rfl) ?_
      exact ⟨rfl, rfl⟩
    | succ m ih =>
      intro k hk
      have e : k / 2 ^ t &&& 1 = k / 2 ^ t % 2 := Nat.and_one_is_mod _
      have h18k := h18 k (by omega)
      have es : sg (fun u => if u / 2 ^ t % 2 = 1 then P u else 0) 0 (k + 1) = sg (fun u => if u / 2 ^ t % 2 = 1 then P u else 0) 0 k + (if k / 2 ^ t % 2 = 1 then P k else 0) := by
        show _ + (fun u => if u / 2 ^ t % 2 = 1 then P u else 0) (0 + k) = _
        rw [Nat.zero_add]
      refine ws_iload_3 5 rfl rfl ?_
      refine ws_bipush 7 rfl rfl kc_b32 ?_
      refine ws_icmp_gen 34 10 rfl rfl rfl (by omega) (by omega) (fun h9 => absurd h9 (by omega)) (fun h9 => ?_)
      refine ws_iload_3 11 rfl rfl ?_
      refine ws_iload_1 12 rfl rfl ?_
      refine ws_ishr 13 rfl rfl (kn_shr (by omega) (by omega)) ?_
      refine ws_iconst 14 rfl rfl kc_i1 ?_
      refine ws_iand 15 rfl rfl (kn_and _ _) ?_
      refine ws_iconst 16 rfl rfl kc_i1 ?_
      rw [e]
      refine ws_icmp_nen 28 19 rfl rfl rfl (by omega) (by omega) (fun hb => ?_) (fun hb => ?_)
      · refine ws_iinc_3 31 rfl rfl (ki_1 _) rfl rfl ?_
        refine ws_goto 4 rfl rfl ?_
        have := ih (k + 1) (by omega); rw [es, if_neg hb] at this; exact this
      · refine ws_iload_2 20 rfl rfl ?_
        refine ws_aload_0 21 rfl rfl ?_
        refine ws_getfr 24 rfl rfl rfl rfl rfl ?_
        refine ws_iload_3 25 rfl rfl ?_
        refine ws_ialdn 26 rfl rfl rfl (by omega) (by omega) h18k ?_
        refine ws_iadd 27 rfl rfl (nI_add _ _) ?_
        refine ws_istore_2 28 rfl rfl rfl rfl ?_
        refine ws_iinc_3 31 rfl rfl (ki_1 _) rfl rfl ?_
        refine ws_goto 4 rfl rfl ?_
        have := ih (k + 1) (by omega); rw [es, if_pos hb] at this; exact this
  exact loop 32 0 rfl
theorem c_reckon (k : Nat) (hk : k < 4) (hTh : ∀ j, j < 15 → I 6 j = nI (A 0 j)) (hKi : ∀ j, j < 24 → I 9 j = nI (A 3 j)) (hAn : ∀ j, j < 20 → I 10 j = nI (F j)) (hOt : I 5 7 = nI (A 6 0)) (hok : okK A) (hF : ∀ j, j < 20 → F j ≤ 1000) (h18 : ∀ u, u < 32 → I 18 u = nI (P u)) (hP : ∀ u, u < 32 → P u ≤ 1000000) (hpp : ∀ u, u < 32 → 4 < pop 5 u → P u = 0) :
    xC E 2 22 [.ref 14, .int (nI k)] (xC0 ++ T, I, L) (fun r t => r = none ∧ ∃ I', t = (xC0 ++ T, I', L) ∧ (∀ a, a ≠ 14 → I' a = I a) ∧ I' 14 5 = nI (sg (soS A F P k) 0 32) ∧ I' 14 6 = nI (sg (coS A F P k) 0 32) ∧ I' 14 7 = nI (sg (paS A F P k) 0 32)) := by
  refine xC.mk [some (.ref 14), some (.int (nI k)), none, none, none, none, none, none, none, none] rfl ?_
  obtain ⟨k0, k1, k2, k3, k4, k5⟩ := hok k hk
  obtain ⟨w, hw⟩ : ∃ w, w = A 3 (k * 6 + 4) := ⟨_, rfl⟩
  have loop : ∀ (wb : Bool) (wc : Nat), (wb = true → w < 5 ∧ wc = A 0 (1 * 5 + w)) → (wb = false → ¬ w < 5) → ∀ (m s : Nat) (I' : Nat → Nat → Int32) (z6 z7 z8 z9 : Option Value), s + m = 32 → (∀ a, a ≠ 14 → I' a = I a) → I' 14 5 = nI (sg (soS A F P k) 0 s) → I' 14 6 = nI (sg (coS A F P k) 0 s) → I' 14 7 = nI (sg (paS A F P k) 0 s) → xW E 2 22 53 [some (.ref 14), some (.int (nI k)), some (.int (nI w)), some (.int (xb wb)), some (.int (nI wc)), some (.int (nI s)), z6, z7, z8, z9] [] (xC0 ++ T, I', L) 0 0 (fun r t => r = none ∧ ∃ I', t = (xC0 ++ T, I', L) ∧ (∀ a, a ≠ 14 → I' a = I a) ∧ I' 14 5 = nI (sg (soS A F P k) 0 32) ∧ I' 14 6 = nI (sg (coS A F P k) 0 32) ∧ I' 14 7 = nI (sg (paS A F P k) 0 32)) := by
    intro wb wc hwt hwf m
    induction m with
    | zero =>
      intro s I' z6 z7 z8 z9 hs hf i5 i6 i7
      obtain rfl : s = 32 := by omega
      refine ws_iload_5 55 rfl rfl ?_
      refine ws_bipush 57 rfl rfl kc_b32 ?_
      refine ws_icmp_gen 207 60 rfl rfl rfl (by omega) (by omega) (fun h9 => ?_) (fun h9 => absurd h9 (by omega))
      refine ws_vret rfl rfl rfl (Nat.le_of_ble_eq_true rfl) ?_
      exact ⟨rfl, I', rfl, hf, i5, i6, i7⟩
    | succ m ih =>
      intro s I' z6 z7 z8 z9 hs hf i5 i6 i7
      have hs32 : s < 32 := by omega
      have h18s : I' 18 s = nI (P s) := by rw [hf 18 (by decide)]; exact h18 s hs32
      have hPs := hP s hs32
      have hpl := pop_le 5 s
      have es : ∀ f : Nat → Nat, sg f 0 (s + 1) = sg f 0 s + f s := fun f => by show _ + f (0 + s) = _; rw [Nat.zero_add]
      have skip : P s = 0 → ∀ (z6 z7 z8 z9 : Option Value), xW E 2 22 201 [some (.ref 14), some (.int (nI k)), some (.int (nI w)), some (.int (xb wb)), some (.int (nI wc)), some (.int (nI s)), z6, z7, z8, z9] [] (xC0 ++ T, I', L) 0 0 (fun r t => r = none ∧ ∃ I', t = (xC0 ++ T, I', L) ∧ (∀ a, a ≠ 14 → I' a = I a) ∧ I' 14 5 = nI (sg (soS A F P k) 0 32) ∧ I' 14 6 = nI (sg (coS A F P k) 0 32) ∧ I' 14 7 = nI (sg (paS A F P k) 0 32)) := by
        intro h0 z6 z7 z8 z9
        obtain ⟨p1, p2, p3⟩ := paS_0 (A := A) (F := F) (k := k) h0
        refine ws_iinc_5 204 rfl rfl (ki_1 _) rfl rfl ?_
        refine ws_goto 53 rfl rfl ?_
        exact ih (s + 1) I' _ _ _ _ (by omega) hf (by rw [es, p1]; exact i5) (by rw [es, p2]; exact i6) (by rw [es, p3]; exact i7)
      refine ws_iload_5 55 rfl rfl ?_
      refine ws_bipush 57 rfl rfl kc_b32 ?_
      refine ws_icmp_gen 207 60 rfl rfl rfl (by omega) (by omega) (fun h9 => absurd h9 (by omega)) (fun h9 => ?_)
      refine ws_iload_5 62 rfl rfl ?_
      refine ws_invS1p 65 rfl rfl rfl (p_bitCount5 s hs32) rfl rfl rfl ?_
      refine ws_istore_6 67 rfl rfl rfl rfl ?_
      refine ws_aload_0 68 rfl rfl ?_
      refine ws_getfr 71 rfl rfl rfl rfl rfl ?_
      refine ws_iload_5 73 rfl rfl ?_
      refine ws_ialdn 74 rfl rfl rfl (by omega) (by omega) h18s ?_
      refine ws_if_eqn 201 77 rfl rfl rfl (by omega) (fun c1 => ?_) (fun c1 => ?_)
      · exact skip c1 _ _ _ _
      · refine ws_iload_6 79 rfl rfl ?_
        refine ws_iconst 80 rfl rfl kc_i4 ?_
        refine ws_icmp_len 86 83 rfl rfl rfl (by omega) (by omega) (fun c2 => ?_) (fun c2 => ?_)
        · have hAn' : ∀ j, j < 20 → I' 10 j = nI (F j) := fun j hj => by rw [hf 10 (by decide)]; exact hAn j hj
          have mid : ∀ (z8 z9 : Option Value) (wv : Nat), wv = wn A k s → xW E 2 22 102 [some (.ref 14), some (.int (nI k)), some (.int (nI w)), some (.int (xb wb)), some (.int (nI wc)), some (.int (nI s)), some (.int (nI (pop 5 s))), some (.int (nI wv)), z8, z9] [] (xC0 ++ T, I', L) 0 0 (fun r t => r = none ∧ ∃ I', t = (xC0 ++ T, I', L) ∧ (∀ a, a ≠ 14 → I' a = I a) ∧ I' 14 5 = nI (sg (soS A F P k) 0 32) ∧ I' 14 6 = nI (sg (coS A F P k) 0 32) ∧ I' 14 7 = nI (sg (paS A F P k) 0 32)) := by
            intro z8 z9 wv hwv
            have hwl := wn_lt A k s
            rw [← hwv] at hwl
            have hf0 := hF (0 * 10 + 2 * pop 5 s + wv) (by omega)
            have hf1 := hF (1 * 10 + 2 * pop 5 s + wv) (by omega)
            have m0 : P s * F (0 * 10 + 2 * pop 5 s + wv) ≤ 1000000 * 1000 := Nat.mul_le_mul hPs hf0
            have so_e : P s * F (0 * 10 + 2 * pop 5 s + wv) / 1000 = soS A F P k s := by rw [hwv]; rfl
            have so_l := soS_le (A := A) (P := P) (k := k) hF c2
            have m1 : soS A F P k s * F (1 * 10 + 2 * pop 5 s + wv) ≤ 1000000 * 1000 := Nat.mul_le_mul (by omega) hf1
            have co_e : soS A F P k s * F (1 * 10 + 2 * pop 5 s + wv) / 1000 = coS A F P k s := by rw [hwv]; rfl
            have co_l := coS_le (A := A) (P := P) (k := k) hF c2
            refine ws_aload_0 103 rfl rfl ?_
            refine ws_getfr 106 rfl rfl rfl rfl rfl ?_
            refine ws_iload_5 108 rfl rfl ?_
            refine ws_ialdn 109 rfl rfl rfl (by omega) (by omega) h18s ?_
            refine ws_aload_0 110 rfl rfl ?_
            refine ws_getfr 113 rfl rfl rfl rfl rfl ?_
            refine ws_iconst 114 rfl rfl kc_i0 ?_
            refine ws_iload_6 116 rfl rfl ?_
            refine ws_iload_7 118 rfl rfl ?_
            refine ws_invV3p 121 rfl rfl rfl rfl (c_answer hAn' 0 _ _ (by omega) (by omega) hwl) rfl rfl rfl ?_
            refine ws_imul 122 rfl rfl (pk_mul _ _) ?_
            refine ws_sipush 125 rfl rfl kc_s1000 ?_
            refine ws_idiv 126 rfl rfl (kn_ne0 (by omega) (by omega)) (pk_div (by omega) (by omega) (by omega)) ?_
            rw [so_e]
            refine ws_istore_8 128 rfl rfl rfl rfl ?_
            refine ws_iload_8 130 rfl rfl ?_
            refine ws_aload_0 131 rfl rfl ?_
            refine ws_getfr 134 rfl rfl rfl rfl rfl ?_
            refine ws_iconst 135 rfl rfl kc_i1 ?_
            refine ws_iload_6 137 rfl rfl ?_
            refine ws_iload_7 139 rfl rfl ?_
            refine ws_invV3p 142 rfl rfl rfl rfl (c_answer hAn' 1 _ _ (by omega) (by omega) hwl) rfl rfl rfl ?_
            refine ws_imul 143 rfl rfl (pk_mul _ _) ?_
            refine ws_sipush 146 rfl rfl kc_s1000 ?_
            refine ws_idiv 147 rfl rfl (kn_ne0 (by omega) (by omega)) (pk_div (by omega) (by omega) (by omega)) ?_
            rw [co_e]
            have j5 : ∀ x y z : Int32, wI (wI (wI I' 14 5 x) 14 6 y) 14 7 z 14 5 = x := fun _ _ _ => rfl
            have j6 : ∀ x y z : Int32, wI (wI (wI I' 14 5 x) 14 6 y) 14 7 z 14 6 = y := fun _ _ _ => rfl
            have j7 : ∀ x y z : Int32, wI (wI (wI I' 14 5 x) 14 6 y) 14 7 z 14 7 = z := fun _ _ _ => rfl
            have hfr : ∀ (x y z : Int32) (a : Nat), a ≠ 14 → wI (wI (wI I' 14 5 x) 14 6 y) 14 7 z a = I a := fun x y z a ha => by rw [wI_ne ha, wI_ne ha, wI_ne ha]; exact hf a ha
            have hOt' : ∀ x y : Int32, wI (wI I' 14 5 x) 14 6 y 5 7 = nI (A 6 0) := fun x y => by rw [wI_ne (by decide), wI_ne (by decide), hf 5 (by decide)]; exact hOt
            have e7 : ∀ x y : Int32, wI (wI I' 14 5 x) 14 6 y 14 7 = nI (sg (paS A F P k) 0 s) := fun _ _ => i7
            refine ws_istore_9 149 rfl rfl rfl rfl ?_
            refine ws_aload_0 150 rfl rfl ?_
            refine ws_dup 151 rfl rfl rfl ?_
            refine ws_getfi 154 rfl rfl rfl rfl rfl i5 ?_
            refine ws_iload_8 156 rfl rfl ?_
            refine ws_iadd 157 rfl rfl (nI_add _ _) ?_
            refine ws_putfi 160 rfl rfl rfl rfl rfl rfl rfl rfl ?_
            refine ws_aload_0 161 rfl rfl ?_
            refine ws_dup 162 rfl rfl rfl ?_
            refine ws_getfi 165 rfl rfl rfl rfl rfl i6 ?_
            refine ws_iload_9 167 rfl rfl ?_
            refine ws_iadd 168 rfl rfl (nI_add _ _) ?_
            refine ws_putfi 171 rfl rfl rfl rfl rfl rfl rfl rfl ?_
            refine ws_aload_0 172 rfl rfl ?_
            refine ws_dup 173 rfl rfl rfl ?_
            refine ws_getfi 176 rfl rfl rfl rfl rfl (e7 _ _) ?_
            refine ws_iload_9 178 rfl rfl ?_
            refine ws_iload_7 180 rfl rfl ?_
            refine ws_iconst 181 rfl rfl kc_i1 ?_
            refine ws_icmp_nen 189 184 rfl rfl rfl (by omega) (by omega) (fun c3 => ?_) (fun c3 => ?_)
            · have pe : paS A F P k s = coS A F P k s * A 6 0 := by unfold paS; rw [if_neg (by omega)]
              refine ws_aload_0 190 rfl rfl ?_
              refine ws_getfr 193 rfl rfl rfl rfl rfl ?_
              refine ws_getfi 196 rfl rfl rfl rfl rfl (hOt' _ _) ?_
              refine ws_imul 197 rfl rfl (pk_mul _ _) ?_
              refine ws_iadd 198 rfl rfl (nI_add _ _) ?_
              refine ws_putfi 201 rfl rfl rfl rfl rfl rfl rfl rfl ?_
              refine ws_iinc_5 204 rfl rfl (ki_1 _) rfl rfl ?_
              refine ws_goto 53 rfl rfl ?_
              exact ih (s + 1) _ _ _ _ _ (by omega) (hfr _ _ _) ((j5 _ _ _).trans (by rw [es])) ((j6 _ _ _).trans (by rw [es])) ((j7 _ _ _).trans (by rw [es, pe]))
            · have hb5 : w < 5 := by
                rcases Nat.lt_or_ge w 5 with h | h
                · exact h
                · rw [hwv] at c3; unfold wn at c3; rw [← hw, if_neg (by omega)] at c3; omega
              have hwb : wb = true := by
                cases wb with
                | true => rfl
                | false => exact absurd hb5 (hwf rfl)
              obtain ⟨-, hwc⟩ := hwt hwb
              have pe : paS A F P k s = coS A F P k s * wc := by unfold paS; rw [if_pos (by omega), hwc, hw]
              refine ws_iload_4 186 rfl rfl ?_
              refine ws_goto 196 rfl rfl ?_
              refine ws_imul 197 rfl rfl (pk_mul _ _) ?_
              refine ws_iadd 198 rfl rfl (nI_add _ _) ?_
              refine ws_putfi 201 rfl rfl rfl rfl rfl rfl rfl rfl ?_
              refine ws_iinc_5 204 rfl rfl (ki_1 _) rfl rfl ?_
              refine ws_goto 53 rfl rfl ?_
              exact ih (s + 1) _ _ _ _ _ (by omega) (hfr _ _ _) ((j5 _ _ _).trans (by rw [es])) ((j6 _ _ _).trans (by rw [es])) ((j7 _ _ _).trans (by rw [es, pe]))
          refine ws_iload_3 87 rfl rfl ?_
          refine ws_if_eqb 99 90 rfl rfl rfl (fun c4 => ?_) (fun c4 => ?_)
          · refine ws_iconst 100 rfl rfl kc_i0 ?_
            refine ws_istore_7 102 rfl rfl rfl rfl ?_
            exact mid _ _ _ (by unfold wn; rw [← hw, if_neg (hwf c4)])
          · have hw5 := (hwt c4).1
            have e : s / 2 ^ w &&& 1 = s / 2 ^ w % 2 := Nat.and_one_is_mod _
            refine ws_iload_5 92 rfl rfl ?_
            refine ws_iload_2 93 rfl rfl ?_
            refine ws_ishr 94 rfl rfl (kn_shr (by omega) (by omega)) ?_
            refine ws_iconst 95 rfl rfl kc_i1 ?_
            refine ws_iand 96 rfl rfl (kn_and _ _) ?_
            refine ws_goto 100 rfl rfl ?_
            rw [e]
            refine ws_istore_7 102 rfl rfl rfl rfl ?_
            exact mid _ _ _ (by unfold wn; rw [← hw, if_pos hw5])
        · refine ws_goto 201 rfl rfl ?_
          exact skip (hpp s hs32 (by omega)) _ _ _ _
  have hh := c_habit (E := E) (T := T) (L := L) (I := wI (wI (wI I 14 5 (nI 0)) 14 6 (nI 0)) 14 7 (nI 0)) (A := A) (fun j hj => hKi j hj) k 4 hk (by omega)
  rw [← hw] at hh k4
  have st := loop
  rcases Nat.lt_or_ge w 5 with h5 | h5
  · have ht := c_trait (E := E) (T := T) (L := L) (I := wI (wI (wI I 14 5 (nI 0)) 14 6 (nI 0)) 14 7 (nI 0)) (A := A) (fun j hj => hTh j hj) w 1 h5 (by omega)
    refine ws_aload_0 1 rfl rfl ?_
    refine ws_iconst 2 rfl rfl kc_i0 ?_
    refine ws_putfi 5 rfl rfl rfl rfl rfl rfl rfl rfl ?_
    refine ws_aload_0 6 rfl rfl ?_
    refine ws_iconst 7 rfl rfl kc_i0 ?_
    refine ws_putfi 10 rfl rfl rfl rfl rfl rfl rfl rfl ?_
    refine ws_aload_0 11 rfl rfl ?_
    refine ws_iconst 12 rfl rfl kc_i0 ?_
    refine ws_putfi 15 rfl rfl rfl rfl rfl rfl rfl rfl ?_
    refine ws_aload_0 16 rfl rfl ?_
    refine ws_getfr 19 rfl rfl rfl rfl rfl ?_
    refine ws_iload_1 20 rfl rfl ?_
    refine ws_iconst 21 rfl rfl kc_i4 ?_
    refine ws_invV2p 24 rfl rfl rfl rfl (hh) rfl rfl rfl ?_
    refine ws_istore_2 25 rfl rfl rfl rfl ?_
    refine ws_iload_2 26 rfl rfl ?_
    refine ws_iconst 27 rfl rfl kc_i5 ?_
    refine ws_invSN2p 30 rfl rfl rfl (p_below5t w h5) rfl rfl rfl ?_
    refine ws_istore_3 31 rfl rfl rfl rfl ?_
    refine ws_iload_3 32 rfl rfl ?_
    refine ws_if_eqb 47 35 rfl rfl rfl (fun h9 => absurd h9 (by first | decide | simp_all)) (fun h9 => ?_)
    refine ws_aload_0 36 rfl rfl ?_
    refine ws_getfr 39 rfl rfl rfl rfl rfl ?_
    refine ws_iload_2 40 rfl rfl ?_
    refine ws_iconst 41 rfl rfl kc_i1 ?_
    refine ws_invV2p 44 rfl rfl rfl rfl (ht) rfl rfl rfl ?_
    refine ws_goto 48 rfl rfl ?_
    refine ws_istore_4 50 rfl rfl rfl rfl ?_
    refine ws_iconst 51 rfl rfl kc_i0 ?_
    refine ws_istore_5 53 rfl rfl rfl rfl ?_
    exact loop true _ (fun _ => ⟨h5, rfl⟩) (fun h => by cases h) 32 0 _ _ _ _ _ rfl (fun a ha => by rw [wI_ne ha, wI_ne ha, wI_ne ha]) rfl rfl rfl
  · obtain rfl : w = 5 := by omega
    refine ws_aload_0 1 rfl rfl ?_
    refine ws_iconst 2 rfl rfl kc_i0 ?_
    refine ws_putfi 5 rfl rfl rfl rfl rfl rfl rfl rfl ?_
    refine ws_aload_0 6 rfl rfl ?_
    refine ws_iconst 7 rfl rfl kc_i0 ?_
    refine ws_putfi 10 rfl rfl rfl rfl rfl rfl rfl rfl ?_
    refine ws_aload_0 11 rfl rfl ?_
    refine ws_iconst 12 rfl rfl kc_i0 ?_
    refine ws_putfi 15 rfl rfl rfl rfl rfl rfl rfl rfl ?_
    refine ws_aload_0 16 rfl rfl ?_
    refine ws_getfr 19 rfl rfl rfl rfl rfl ?_
    refine ws_iload_1 20 rfl rfl ?_
    refine ws_iconst 21 rfl rfl kc_i4 ?_
    refine ws_invV2p 24 rfl rfl rfl rfl (hh) rfl rfl rfl ?_
    refine ws_istore_2 25 rfl rfl rfl rfl ?_
    refine ws_iload_2 26 rfl rfl ?_
    refine ws_iconst 27 rfl rfl kc_i5 ?_
    refine ws_invSN2p 30 rfl rfl rfl (p_below5e) rfl rfl rfl ?_
    refine ws_istore_3 31 rfl rfl rfl rfl ?_
    refine ws_iload_3 32 rfl rfl ?_
    refine ws_if_eqb 47 35 rfl rfl rfl (fun h9 => ?_) (fun h9 => absurd h9 (by first | decide | simp_all))
    refine ws_iconst 48 rfl rfl kc_i0 ?_
    refine ws_istore_4 50 rfl rfl rfl rfl ?_
    refine ws_iconst 51 rfl rfl kc_i0 ?_
    refine ws_istore_5 53 rfl rfl rfl rfl ?_
    exact loop false _ (fun h => by cases h) (fun _ => by omega) 32 0 _ _ _ _ _ rfl (fun a ha => by rw [wI_ne ha, wI_ne ha, wI_ne ha]) rfl rfl rfl
theorem c_weekOf (c more : Nat) (hc : c ≠ 16) (hc2 : c ≠ 15) (hc3 : c < 14 ∨ 18 < c) (hm : more ≤ 9) (hS : (xC0 ++ T)[c]? = some (.inl (.int, 5))) (hTh : ∀ j, j < 15 → I 6 j = nI (A 0 j)) (hLi : ∀ j, j < 5 → I 7 j = nI (A 1 j)) (hKi : ∀ j, j < 24 → I 9 j = nI (A 3 j)) (hAn : ∀ j, j < 20 → I 10 j = nI (F j)) (hOt : I 5 7 = nI (A 6 0)) (h1 : ∀ j, j < 5 → A 0 j ≤ 9) (h2 : ∀ j, j < 5 → A 1 j ≤ 9) (h3 : ∀ j, j < 15 → A 0 j ≤ 99) (ho : A 6 0 ≤ 99) (hok : okK A) (hF : ∀ j, j < 20 → F j ≤ 1000) (hb : ∀ p, p < 5 → b p ≤ 5) (hrow : ∀ p, p < 5 → I c p = rw6 (b p)) :
    xC E 4 23 [.ref 14, .ref c, .int (nI more)] (xC0 ++ T, I, L) (fun r t => r = some (.int (nI (wkF A F b more))) ∧ ∃ I', t = (xC0 ++ T, I', L) ∧ (∀ a, a < 14 ∨ 18 < a → I' a = I a)) := by
  refine xC.mk [some (.ref 14), some (.ref c), some (.int (nI more)), none, none, none, none] rfl ?_
  refine ws_aload_0 1 rfl rfl ?_
  refine ws_aload_1 2 rfl rfl ?_
  refine ws_invV1 5 rfl rfl rfl rfl (c_standBefore c hc hc2 hS hTh hLi h1 h2 h3 hb hrow) rfl rfl rfl ?_
  rintro _ _ ⟨rfl, I2, rfl, hf2, h15, h16⟩
  have loop : ∀ (m k : Nat) (I' : Nat → Nat → Int32) (z : Option Value), k + m = 4 → (∀ a, a < 14 ∨ 18 < a → I' a = I a) → (∀ p, p < 5 → I' 15 p = nI (bt b p)) → (∀ p, p < 5 → I' 16 p = nI (dz A b p)) → xW E 4 23 10 [some (.ref 14), some (.ref c), some (.int (nI more)), some (.long (lN (sg (fun k => payF A F b more k * A 3 (k * 6 + 5)) 0 k))), none, some (.int (nI k)), z] [] (xC0 ++ T, I', L) 0 0 (fun r t => r = some (.int (nI (wkF A F b more))) ∧ ∃ I', t = (xC0 ++ T, I', L) ∧ (∀ a, a < 14 ∨ 18 < a → I' a = I a)) := by
    intro m
    induction m with
    | zero =>
      intro k I' z hk hf h15 h16
      obtain rfl : k = 4 := by omega
      have hsl := wk_sum_le (more := more) hok hb hF h3 ho 4 (by omega)
      refine ws_iload_5 12 rfl rfl ?_
      refine ws_iconst 13 rfl rfl kc_i4 ?_
      refine ws_icmp_gen 64 16 rfl rfl rfl (by omega) (by omega) (fun h9 => ?_) (fun h9 => absurd h9 (by omega))
      refine ws_lload_3 65 rfl rfl ?_
      refine ws_ldc2 68 rfl rfl rfl (show (1000 : Int64) = lN 1000 from rfl) ?_
      refine ws_ldiv 69 rfl rfl (kn_lne0 (by omega) (by omega)) (pk_lDiv (by omega) (by omega) (by omega)) ?_
      refine ws_l2i 70 rfl rfl (lN_i _) ?_
      refine ws_iret rfl rfl rfl (Nat.le_of_ble_eq_true rfl) ?_
      exact ⟨rfl, I', rfl, hf⟩
    | succ m ih =>
      intro k I' z hk hf h15 h16
      have hk4 : k < 4 := by omega
      have es : sg (fun k => payF A F b more k * A 3 (k * 6 + 5)) 0 (k + 1) = sg (fun k => payF A F b more k * A 3 (k * 6 + 5)) 0 k + payF A F b more k * A 3 (k * 6 + 5) := by
        show _ + (fun k => payF A F b more k * A 3 (k * 6 + 5)) (0 + k) = _
        rw [Nat.zero_add]
      have hKi' : ∀ j, j < 24 → I' 9 j = nI (A 3 j) := fun j hj => by rw [hf 9 (by omega)]; exact hKi j hj
      obtain ⟨k0, k1, k2, k3, k4, k5⟩ := hok k hk4
      refine ws_iload_5 12 rfl rfl ?_
      refine ws_iconst 13 rfl rfl kc_i4 ?_
      refine ws_icmp_gen 64 16 rfl rfl rfl (by omega) (by omega) (fun h9 => absurd h9 (by omega)) (fun h9 => ?_)
      refine ws_aload_0 17 rfl rfl ?_
      refine ws_getfr 20 rfl rfl rfl rfl rfl ?_
      refine ws_iload_5 22 rfl rfl ?_
      refine ws_iconst 23 rfl rfl kc_i5 ?_
      refine ws_invV2p 26 rfl rfl rfl rfl (c_habit hKi' k 5 hk4 (by omega)) rfl rfl rfl ?_
      refine ws_istore_6 28 rfl rfl rfl rfl ?_
      refine ws_iload_6 30 rfl rfl ?_
      refine ws_if_len 58 33 rfl rfl rfl (by omega) (fun c1 => ?_) (fun c1 => ?_)
      · have c0 : A 3 (k * 6 + 5) = 0 := by omega
        refine ws_iinc_5 61 rfl rfl (ki_1 _) rfl rfl ?_
        refine ws_goto 10 rfl rfl ?_
        have := ih (k + 1) I' (some (.int (nI (A 3 (k * 6 + 5))))) (by omega) hf h15 h16; rw [es, c0, Nat.mul_zero, Nat.add_zero] at this; rw [c0]; exact this
      · refine ws_aload_0 34 rfl rfl ?_
        refine ws_iload_5 36 rfl rfl ?_
        refine ws_iload_2 37 rfl rfl ?_
        refine ws_invV2 40 rfl rfl rfl rfl (c_goBy k more hk4 hm hKi' hok h1 h2 hb h15 h16) rfl rfl rfl ?_
        rintro _ _ ⟨rfl, I3, rfl, hf3, h18⟩
        refine ws_aload_0 41 rfl rfl ?_
        refine ws_iload_5 43 rfl rfl ?_
        refine ws_invV1 46 rfl rfl rfl rfl (c_reckon (A := A) (F := F) k hk4 (fun j hj => by rw [hf3 6 (by decide) (by decide), hf 6 (by omega)]; exact hTh j hj) (fun j hj => by rw [hf3 9 (by decide) (by decide)]; exact hKi' j hj) (fun j hj => by rw [hf3 10 (by decide) (by decide), hf 10 (by omega)]; exact hAn j hj) (by rw [hf3 5 (by decide) (by decide), hf 5 (by omega)]; exact hOt) hok hF h18 (fun u hu => pt_le hb (by omega) hu) (fun u hu h => pt_pop hb _ (by omega) u hu (by omega))) rfl rfl rfl ?_
        rintro _ _ ⟨rfl, I4, rfl, hf4, i5, i6, i7⟩
        have hpay := payF_le (more := more) hk4 hok hb hF h3 ho
        have i7 : I4 14 7 = nI (payF A F b more k) := i7
        refine ws_lload_3 47 rfl rfl ?_
        refine ws_aload_0 48 rfl rfl ?_
        refine ws_getfi 51 rfl rfl rfl rfl rfl i7 ?_
        refine ws_i2l 52 rfl rfl (nI_l (by omega)) ?_
        refine ws_iload_6 54 rfl rfl ?_
        refine ws_i2l 55 rfl rfl (nI_l (by omega)) ?_
        refine ws_lmul 56 rfl rfl (lN_mul _ _) ?_
        refine ws_ladd 57 rfl rfl (lN_add _ _) ?_
        refine ws_lstore_3 58 rfl rfl rfl rfl ?_
        refine ws_iinc_5 61 rfl rfl (ki_1 _) rfl rfl ?_
        refine ws_goto 10 rfl rfl ?_
        have := ih (k + 1) I4 (some (.int (nI (A 3 (k * 6 + 5))))) (by omega) (fun a ha => by rw [hf4 a (by omega), hf3 a (by omega) (by omega)]; exact hf a ha) (fun p hp => by rw [hf4 15 (by decide), hf3 15 (by decide) (by decide)]; exact h15 p hp) (fun p hp => by rw [hf4 16 (by decide), hf3 16 (by decide) (by decide)]; exact h16 p hp); rw [es] at this; exact this
  refine ws_lconst (v := lN 0) 6 rfl rfl rfl ?_
  refine ws_lstore_3 7 rfl rfl rfl rfl ?_
  refine ws_iconst 8 rfl rfl kc_i0 ?_
  refine ws_istore_5 10 rfl rfl rfl rfl ?_
  exact loop 4 0 I2 _ rfl (fun a ha => hf2 a (by omega) (by omega)) h15 h16
end WEEK
end
section
/-! ===== the reference: draws, glances, weeks ===== -/
abbrev xS : List xSh := xC0 ++ xM0
theorem li_sub (p : Nat) : nI p - nI 1 = lI p := by
  cases p with
  | zero => decide
  | succ p => rw [lI_s]; exact nI_pred p
/-- a place that may be -6 -/
def eI (x : Nat) : Int32 := if x = 0 then -6 else nI (x - 1)
theorem eI_s (m : Nat) : eI (m + 1) = nI m := by
  unfold eI
  rw [if_neg (by omega), Nat.add_sub_cancel]
section MDRAW
variable {E : xEx} {I : Nat → Nat → Int32} {L : Nat → Nat → Int64} {A : Nat → Nat → Nat} {b w P : Nat → Nat}
theorem m_looks (x p : Nat) (hx : x = p + 1) (hTh : ∀ j, j < 15 → I 43 j = nI (A 0 j)) (hb : ∀ p, p < 5 → b p ≤ 5) (hat : ∀ p, p < 5 → I 53 p = nI (b p)) (hp : p < 6) : xC E 1 95 [.ref 42, .int (nI p)] (xS, I, L) (rV (.int (nI (if p < 5 then lo A b p else 0))) (xS, I, L)) := by
  refine xC.mk [some (.ref 42), some (.int (nI p))] rfl ?_
  rcases Nat.lt_or_ge p 5 with h5 | h5
  · have ha := hat p h5
    have hb5 := hb p h5
    rw [if_pos h5]
    by_cases hb0 : b p = 0
    · rw [show lo A b p = 0 from if_pos hb0]
      refine ws_iload_1 1 rfl rfl ?_
      refine ws_if_ltn 18 4 rfl rfl rfl (by omega) (fun h9 => absurd h9 (by omega)) (fun h9 => ?_)
      refine ws_iload_1 5 rfl rfl ?_
      refine ws_iconst 6 rfl rfl kc_i4 ?_
      refine ws_icmp_gtn 18 9 rfl rfl rfl (by omega) (by omega) (fun h9 => absurd h9 (by omega)) (fun h9 => ?_)
      refine ws_aload_0 10 rfl rfl ?_
      refine ws_getfr 13 rfl rfl rfl rfl rfl ?_
      refine ws_iload_1 14 rfl rfl ?_
      refine ws_ialdn 15 rfl rfl rfl (by omega) (by omega) ha ?_
      refine ws_if_nen 22 18 rfl rfl rfl (by omega) (fun h9 => absurd h9 (by omega)) (fun h9 => ?_)
      refine ws_iconst 19 rfl rfl kc_i0 ?_
      refine ws_goto 36 rfl rfl ?_
      refine ws_iret rfl rfl rfl (Nat.le_of_ble_eq_true rfl) ?_
      exact ⟨rfl, rfl⟩
    · rw [show lo A b p = A 0 (9 + b p) by unfold lo; rw [if_neg hb0]; congr 1; omega]
      refine ws_iload_1 1 rfl rfl ?_
      refine ws_if_ltn 18 4 rfl rfl rfl (by omega) (fun h9 => absurd h9 (by omega)) (fun h9 => ?_)
      refine ws_iload_1 5 rfl rfl ?_
      refine ws_iconst 6 rfl rfl kc_i4 ?_
      refine ws_icmp_gtn 18 9 rfl rfl rfl (by omega) (by omega) (fun h9 => absurd h9 (by omega)) (fun h9 => ?_)
      refine ws_aload_0 10 rfl rfl ?_
      refine ws_getfr 13 rfl rfl rfl rfl rfl ?_
      refine ws_iload_1 14 rfl rfl ?_
      refine ws_ialdn 15 rfl rfl rfl (by omega) (by omega) ha ?_
      refine ws_if_nen 22 18 rfl rfl rfl (by omega) (fun h9 => ?_) (fun h9 => absurd h9 (by omega))
      refine ws_aload_0 23 rfl rfl ?_
      refine ws_getfr 26 rfl rfl rfl rfl rfl ?_
      refine ws_bipush 28 rfl rfl kc_b9 ?_
      refine ws_aload_0 29 rfl rfl ?_
      refine ws_getfr 32 rfl rfl rfl rfl rfl ?_
      refine ws_iload_1 33 rfl rfl ?_
      refine ws_ialdn 34 rfl rfl rfl (by omega) (by omega) ha ?_
      refine ws_iadd 35 rfl rfl (nI_add _ _) ?_
      refine ws_ialdn 36 rfl rfl rfl (by omega) (by omega) (hTh _ (by omega)) ?_
      refine ws_iret rfl rfl rfl (Nat.le_of_ble_eq_true rfl) ?_
      exact ⟨rfl, rfl⟩
  · rw [if_neg (by omega)]
    refine ws_iload_1 1 rfl rfl ?_
    refine ws_if_ltn 18 4 rfl rfl rfl (by omega) (fun h9 => absurd h9 (by omega)) (fun h9 => ?_)
    refine ws_iload_1 5 rfl rfl ?_
    refine ws_iconst 6 rfl rfl kc_i4 ?_
    refine ws_icmp_gtn 18 9 rfl rfl rfl (by omega) (by omega) (fun h9 => ?_) (fun h9 => absurd h9 (by omega))
    refine ws_iconst 19 rfl rfl kc_i0 ?_
    refine ws_goto 36 rfl rfl ?_
    refine ws_iret rfl rfl rfl (Nat.le_of_ble_eq_true rfl) ?_
    exact ⟨rfl, rfl⟩
theorem m_looksm : xC E 1 95 [.ref 42, .int (-1)] (xS, I, L) (rV (.int (nI 0)) (xS, I, L)) := by
  refine xC.mk [some (.ref 42), some (.int (-1))] rfl ?_
  refine ws_iload_1 1 rfl rfl ?_
  refine ws_if_lt 18 4 rfl rfl rfl (fun h9 => ?_) (fun h9 => absurd h9 (by decide))
  refine ws_iconst 19 rfl rfl kc_i0 ?_
  refine ws_goto 36 rfl rfl ?_
  refine ws_iret rfl rfl rfl (Nat.le_of_ble_eq_true rfl) ?_
  exact ⟨rfl, rfl⟩
theorem m_drawsOf (p n : Nat) (hp : p < 5) (hn : n < 100) (hTh : ∀ j, j < 15 → I 43 j = nI (A 0 j)) (hLi : ∀ j, j < 5 → I 44 j = nI (A 1 j)) (h1 : ∀ j, j < 5 → A 0 j ≤ 9) (h2 : ∀ j, j < 5 → A 1 j ≤ 9) (h3 : ∀ j, j < 15 → A 0 j ≤ 99) (hb : ∀ p, p < 5 → b p ≤ 5) (hat : ∀ p, p < 5 → I 53 p = nI (b p)) : xC E 2 96 [.ref 42, .int (nI p), .int (nI n)] (xS, I, L) (rV (.int (nI (dw A b p n))) (xS, I, L)) := by
  refine xC.mk [some (.ref 42), some (.int (nI p)), some (.int (nI n)), none, none] rfl ?_
  have ha := hat p hp
  have hb5 := hb p hp
  by_cases hb0 : b p = 0
  · refine ws_aload_0 1 rfl rfl ?_
    refine ws_getfr 4 rfl rfl rfl rfl rfl ?_
    refine ws_iload_1 5 rfl rfl ?_
    refine ws_ialdn 6 rfl rfl rfl (by omega) (by omega) ha ?_
    refine ws_if_nen 11 9 rfl rfl rfl (by omega) (fun h9 => absurd h9 (by omega)) (fun h9 => ?_)
    refine ws_iconst 10 rfl rfl kc_i0 ?_
    refine ws_iret rfl rfl rfl (Nat.le_of_ble_eq_true rfl) ?_
    exact ⟨by unfold dw; rw [if_pos hb0], rfl⟩
  · have loop : ∀ m k : Nat, k + m = 5 → xW E 2 96 16 [some (.ref 42), some (.int (nI p)), some (.int (nI n)), some (.int (nI (cn b k))), some (.int (nI k))] [] (xS, I, L) 0 0 (rV (.int (nI (dw A b p n))) (xS, I, L)) := by
      intro m
      induction m with
      | succ m ih =>
        intro k hk
        have hak := hat k (by omega)
        have hbk := hb k (by omega)
        have hcn := cn_le b k
        by_cases hz : b k = 0
        · have e9 : cn b (k + 1) = cn b k + 0 := by show cn b k + (if b k = 0 then 0 else 1) = _; rw [if_pos hz]
          refine ws_iload_4 18 rfl rfl ?_
          refine ws_iconst 19 rfl rfl kc_i5 ?_
          refine ws_icmp_gen 46 22 rfl rfl rfl (by omega) (by omega) (fun h9 => absurd h9 (by omega)) (fun h9 => ?_)
          refine ws_iload_3 23 rfl rfl ?_
          refine ws_aload_0 24 rfl rfl ?_
          refine ws_getfr 27 rfl rfl rfl rfl rfl ?_
          refine ws_iload_4 29 rfl rfl ?_
          refine ws_ialdn 30 rfl rfl rfl (by omega) (by omega) hak ?_
          refine ws_if_len 37 33 rfl rfl rfl (by omega) (fun h9 => ?_) (fun h9 => absurd h9 (by omega))
          refine ws_iconst 38 rfl rfl kc_i0 ?_
          refine ws_iadd 39 rfl rfl (nI_add _ _) ?_
          refine ws_istore_3 40 rfl rfl rfl rfl ?_
          refine ws_iinc_4 43 rfl rfl (ki_1 _) rfl rfl ?_
          refine ws_goto 16 rfl rfl ?_
          rw [← e9]; exact ih (k + 1) (by omega)
        · have e9 : cn b (k + 1) = cn b k + 1 := by show cn b k + (if b k = 0 then 0 else 1) = _; rw [if_neg hz]
          refine ws_iload_4 18 rfl rfl ?_
          refine ws_iconst 19 rfl rfl kc_i5 ?_
          refine ws_icmp_gen 46 22 rfl rfl rfl (by omega) (by omega) (fun h9 => absurd h9 (by omega)) (fun h9 => ?_)
          refine ws_iload_3 23 rfl rfl ?_
          refine ws_aload_0 24 rfl rfl ?_
          refine ws_getfr 27 rfl rfl rfl rfl rfl ?_
          refine ws_iload_4 29 rfl rfl ?_
          refine ws_ialdn 30 rfl rfl rfl (by omega) (by omega) hak ?_
          refine ws_if_len 37 33 rfl rfl rfl (by omega) (fun h9 => absurd h9 (by omega)) (fun h9 => ?_)
          refine ws_iconst 34 rfl rfl kc_i1 ?_
          refine ws_goto 38 rfl rfl ?_
          refine ws_iadd 39 rfl rfl (nI_add _ _) ?_
          refine ws_istore_3 40 rfl rfl rfl rfl ?_
          refine ws_iinc_4 43 rfl rfl (ki_1 _) rfl rfl ?_
          refine ws_goto 16 rfl rfl ?_
          rw [← e9]; exact ih (k + 1) (by omega)
      | zero =>
        intro k hk
        obtain rfl : k = 5 := by omega
        have hcn := cn_le b 5
        have hTp : I 43 (b p - 1) = nI (A 0 (b p - 1)) := hTh _ (by omega)
        have hLp := hLi p hp
        have hbp := pb_le h1 h2 hp hb5
        have epb : A 0 (b p - 1) * A 1 p = pb A b p := by unfold pb; rw [if_neg hb0]
        have hlr : xC E 1 95 [.ref 42, .int (nI (p + 1))] (xS, I, L) (rV (.int (nI (if p + 1 < 5 then lo A b (p + 1) else 0))) (xS, I, L)) := m_looks _ (p + 1) rfl hTh hb hat (by omega)
        have hll : xC E 1 95 [.ref 42, .int (lI p)] (xS, I, L) (rV (.int (nI (if 1 ≤ p then lo A b (p - 1) else 0))) (xS, I, L)) := by
          cases p with
          | zero => exact m_looksm
          | succ q =>
            rw [lI_s, if_pos (by omega), Nat.add_sub_cancel]
            have := m_looks (E := E) (L := L) _ q rfl hTh hb hat (by omega)
            rwa [if_pos (by omega)] at this
        have hlo : ∀ q, q < 5 → lo A b q ≤ 99 := fun q hq => by
          have := hb q hq
          unfold lo
          split
          · omega
          · exact h3 _ (by omega)
        obtain ⟨xl, hxl⟩ : ∃ x, x = (if 1 ≤ p then lo A b (p - 1) else 0) := ⟨_, rfl⟩
        obtain ⟨xr, hxr⟩ : ∃ x, x = (if p + 1 < 5 then lo A b (p + 1) else 0) := ⟨_, rfl⟩
        rw [← hxl] at hll
        rw [← hxr] at hlr
        have hxl9 : xl ≤ 99 := by rw [hxl]; split; exact hlo _ (by omega); omega
        have hxr9 : xr ≤ 99 := by rw [hxr]; split; exact hlo _ (by omega); omega
        have epl : pl A b 5 p = pb A b p + (if xl = 2 then 10 else 0) + (if xr = 1 then 10 else 0) := by
          unfold pl
          have c1 : (p + 1 < 5 ∧ lo A b (p + 1) = 1) ↔ xr = 1 := by
            rw [hxr]
            by_cases h : p + 1 < 5
            · rw [if_pos h]; exact ⟨fun q => q.2, fun q => ⟨h, q⟩⟩
            · rw [if_neg h]; omega
          have c2 : ((1 ≤ p ∧ p - 1 < 5) ∧ lo A b (p - 1) = 2) ↔ xl = 2 := by
            rw [hxl]
            by_cases h : 1 ≤ p
            · rw [if_pos h]; exact ⟨fun q => q.2, fun q => ⟨⟨h, by omega⟩, q⟩⟩
            · rw [if_neg h]; omega
          simp only [c1, c2]
          omega
        have hpl := pl_le (k := 5) h1 h2 hp hb5
        have edz : dz A b p = max 1 (pl A b 5 p - 3 * (cn b 5 - 3)) := by unfold dz; rw [if_neg hb0]
        have edw : dw A b p n = max 1 (dz A b p / (1 + n)) := by unfold dw; rw [if_neg hb0]
        have fin : ∀ z : Nat, z = dz A b p → xW E 2 96 145 [some (.ref 42), some (.int (nI p)), some (.int (nI n)), some (.int (nI (cn b 5))), some (.int (nI z))] [] (xS, I, L) 0 0 (rV (.int (nI (dw A b p n))) (xS, I, L)) := by
          intro z hz
          have hzl := dz_le h1 h2 hp hb5
          have hq := Nat.div_le_self z (1 + n)
          refine ws_iload_4 147 rfl rfl ?_
          refine ws_iconst 148 rfl rfl kc_i1 ?_
          refine ws_iload_2 149 rfl rfl ?_
          refine ws_iadd 150 rfl rfl (nI_add _ _) ?_
          refine ws_idiv 151 rfl rfl (kn_ne0 (by omega) (by omega)) (pk_div (by omega) (by omega) (by omega)) ?_
          refine ws_istore_4 153 rfl rfl rfl rfl ?_
          refine ws_iload_4 155 rfl rfl ?_
          refine ws_iconst 156 rfl rfl kc_i1 ?_
          refine ws_icmp_gen 163 159 rfl rfl rfl (by omega) (by omega) (fun c1 => ?_) (fun c1 => ?_)
          · refine ws_iload_4 165 rfl rfl ?_
            refine ws_iret rfl rfl rfl (Nat.le_of_ble_eq_true rfl) ?_
            exact ⟨by rw [edw, ← hz, Nat.max_eq_right c1], rfl⟩
          · refine ws_iconst 160 rfl rfl kc_i1 ?_
            refine ws_goto 165 rfl rfl ?_
            refine ws_iret rfl rfl rfl (Nat.le_of_ble_eq_true rfl) ?_
            exact ⟨by rw [edw, ← hz, Nat.max_eq_left (by omega)], rfl⟩
        have mid : ∀ y : Nat, y = pl A b 5 p → xW E 2 96 112 [some (.ref 42), some (.int (nI p)), some (.int (nI n)), some (.int (nI (cn b 5))), some (.int (nI y))] [] (xS, I, L) 0 0 (rV (.int (nI (dw A b p n))) (xS, I, L)) := by
          intro y hy
          refine ws_iload_4 114 rfl rfl ?_
          refine ws_iload_3 115 rfl rfl ?_
          refine ws_iconst 116 rfl rfl kc_i3 ?_
          refine ws_icmp_len 127 119 rfl rfl rfl (by omega) (by omega) (fun c1 => ?_) (fun c1 => ?_)
          · refine ws_iconst 128 rfl rfl kc_i0 ?_
            refine ws_isub 129 rfl rfl (pk_sub (by omega)) ?_
            refine ws_istore_4 131 rfl rfl rfl rfl ?_
            refine ws_iload_4 133 rfl rfl ?_
            refine ws_iconst 134 rfl rfl kc_i1 ?_
            refine ws_icmp_gen 141 137 rfl rfl rfl (by omega) (by omega) (fun c2 => ?_) (fun c2 => ?_)
            · refine ws_iload_4 143 rfl rfl ?_
              refine ws_istore_4 145 rfl rfl rfl rfl ?_
              exact fin _ (by rw [edz, ← hy]; omega)
            · refine ws_iconst 138 rfl rfl kc_i1 ?_
              refine ws_goto 143 rfl rfl ?_
              refine ws_istore_4 145 rfl rfl rfl rfl ?_
              exact fin _ (by rw [edz, ← hy]; omega)
          · rcases Nat.lt_or_ge y (3 * (cn b 5 - 3)) with c2 | c2
            · have hneg := pk_sneg (a := y) (b := 3 * (cn b 5 - 3)) (by omega) c2
              refine ws_iconst 120 rfl rfl kc_i3 ?_
              refine ws_iload_3 121 rfl rfl ?_
              refine ws_iconst 122 rfl rfl kc_i3 ?_
              refine ws_isub 123 rfl rfl (pk_sub (by omega)) ?_
              refine ws_imul 124 rfl rfl (pk_mul _ _) ?_
              refine ws_goto 128 rfl rfl ?_
              refine ws_isub 129 rfl rfl rfl ?_
              refine ws_istore_4 131 rfl rfl rfl rfl ?_
              refine ws_iload_4 133 rfl rfl ?_
              refine ws_iconst 134 rfl rfl kc_i1 ?_
              refine ws_icmp_ge 141 137 rfl rfl rfl (fun c3 => ?_) (fun c3 => ?_)
              · exfalso
                rw [i32_lt, Int32.toInt_zero] at hneg
                rw [i32_le, nI_toInt (by omega)] at c3
                omega
              · refine ws_iconst 138 rfl rfl kc_i1 ?_
                refine ws_goto 143 rfl rfl ?_
                refine ws_istore_4 145 rfl rfl rfl rfl ?_
                exact fin _ (by rw [edz, ← hy]; omega)
            · refine ws_iconst 120 rfl rfl kc_i3 ?_
              refine ws_iload_3 121 rfl rfl ?_
              refine ws_iconst 122 rfl rfl kc_i3 ?_
              refine ws_isub 123 rfl rfl (pk_sub (by omega)) ?_
              refine ws_imul 124 rfl rfl (pk_mul _ _) ?_
              refine ws_goto 128 rfl rfl ?_
              refine ws_isub 129 rfl rfl (pk_sub (by omega)) ?_
              refine ws_istore_4 131 rfl rfl rfl rfl ?_
              refine ws_iload_4 133 rfl rfl ?_
              refine ws_iconst 134 rfl rfl kc_i1 ?_
              refine ws_icmp_gen 141 137 rfl rfl rfl (by omega) (by omega) (fun c3 => ?_) (fun c3 => ?_)
              · refine ws_iload_4 143 rfl rfl ?_
                refine ws_istore_4 145 rfl rfl rfl rfl ?_
                exact fin _ (by rw [edz, ← hy]; omega)
              · refine ws_iconst 138 rfl rfl kc_i1 ?_
                refine ws_goto 143 rfl rfl ?_
                refine ws_istore_4 145 rfl rfl rfl rfl ?_
                exact fin _ (by rw [edz, ← hy]; omega)
        refine ws_iload_4 18 rfl rfl ?_
        refine ws_iconst 19 rfl rfl kc_i5 ?_
        refine ws_icmp_gen 46 22 rfl rfl rfl (by omega) (by omega) (fun h9 => ?_) (fun h9 => absurd h9 (by omega))
        refine ws_aload_0 47 rfl rfl ?_
        refine ws_getfr 50 rfl rfl rfl rfl rfl ?_
        refine ws_aload_0 51 rfl rfl ?_
        refine ws_getfr 54 rfl rfl rfl rfl rfl ?_
        refine ws_iload_1 55 rfl rfl ?_
        refine ws_ialdn 56 rfl rfl rfl (by omega) (by omega) ha ?_
        refine ws_iconst 57 rfl rfl kc_i1 ?_
        refine ws_isub 58 rfl rfl (pk_sub (by omega)) ?_
        refine ws_ialdn 59 rfl rfl rfl (by omega) (by omega) hTp ?_
        refine ws_aload_0 60 rfl rfl ?_
        refine ws_getfr 63 rfl rfl rfl rfl rfl ?_
        refine ws_iload_1 64 rfl rfl ?_
        refine ws_ialdn 65 rfl rfl rfl (by omega) (by omega) hLp ?_
        refine ws_imul 66 rfl rfl (pk_mul _ _) ?_
        rw [epb]
        refine ws_istore_4 68 rfl rfl rfl rfl ?_
        refine ws_iload_4 70 rfl rfl ?_
        refine ws_aload_0 71 rfl rfl ?_
        refine ws_iload_1 72 rfl rfl ?_
        refine ws_iconst 73 rfl rfl kc_i1 ?_
        refine ws_isub 74 rfl rfl (li_sub _) ?_
        refine ws_invV1p 77 rfl rfl rfl rfl (hll) rfl rfl rfl ?_
        refine ws_iconst 78 rfl rfl kc_i2 ?_
        refine ws_icmp_nen 86 81 rfl rfl rfl (by omega) (by omega) (fun d1 => ?_) (fun d1 => ?_)
        · refine ws_iconst 87 rfl rfl kc_i0 ?_
          refine ws_iadd 88 rfl rfl (nI_add _ _) ?_
          refine ws_istore_4 90 rfl rfl rfl rfl ?_
          refine ws_iload_4 92 rfl rfl ?_
          refine ws_aload_0 93 rfl rfl ?_
          refine ws_iload_1 94 rfl rfl ?_
          refine ws_iconst 95 rfl rfl kc_i1 ?_
          refine ws_iadd 96 rfl rfl (nI_add _ _) ?_
          refine ws_invV1p 99 rfl rfl rfl rfl (hlr) rfl rfl rfl ?_
          refine ws_iconst 100 rfl rfl kc_i1 ?_
          refine ws_icmp_nen 108 103 rfl rfl rfl (by omega) (by omega) (fun d2 => ?_) (fun d2 => ?_)
          · refine ws_iconst 109 rfl rfl kc_i0 ?_
            refine ws_iadd 110 rfl rfl (nI_add _ _) ?_
            refine ws_istore_4 112 rfl rfl rfl rfl ?_
            exact mid _ (by rw [epl, if_neg d1, if_neg d2])
          · refine ws_bipush 105 rfl rfl kc_b10 ?_
            refine ws_goto 109 rfl rfl ?_
            refine ws_iadd 110 rfl rfl (nI_add _ _) ?_
            refine ws_istore_4 112 rfl rfl rfl rfl ?_
            exact mid _ (by rw [epl, if_neg d1, if_pos d2])
        · refine ws_bipush 83 rfl rfl kc_b10 ?_
          refine ws_goto 87 rfl rfl ?_
          refine ws_iadd 88 rfl rfl (nI_add _ _) ?_
          refine ws_istore_4 90 rfl rfl rfl rfl ?_
          refine ws_iload_4 92 rfl rfl ?_
          refine ws_aload_0 93 rfl rfl ?_
          refine ws_iload_1 94 rfl rfl ?_
          refine ws_iconst 95 rfl rfl kc_i1 ?_
          refine ws_iadd 96 rfl rfl (nI_add _ _) ?_
          refine ws_invV1p 99 rfl rfl rfl rfl (hlr) rfl rfl rfl ?_
          refine ws_iconst 100 rfl rfl kc_i1 ?_
          refine ws_icmp_nen 108 103 rfl rfl rfl (by omega) (by omega) (fun d2 => ?_) (fun d2 => ?_)
          · refine ws_iconst 109 rfl rfl kc_i0 ?_
            refine ws_iadd 110 rfl rfl (nI_add _ _) ?_
            refine ws_istore_4 112 rfl rfl rfl rfl ?_
            exact mid _ (by rw [epl, if_pos d1, if_neg d2])
          · refine ws_bipush 105 rfl rfl kc_b10 ?_
            refine ws_goto 109 rfl rfl ?_
            refine ws_iadd 110 rfl rfl (nI_add _ _) ?_
            refine ws_istore_4 112 rfl rfl rfl rfl ?_
            exact mid _ (by rw [epl, if_pos d1, if_pos d2])
    refine ws_aload_0 1 rfl rfl ?_
    refine ws_getfr 4 rfl rfl rfl rfl rfl ?_
    refine ws_iload_1 5 rfl rfl ?_
    refine ws_ialdn 6 rfl rfl rfl (by omega) (by omega) ha ?_
    refine ws_if_nen 11 9 rfl rfl rfl (by omega) (fun h9 => ?_) (fun h9 => absurd h9 (by omega))
    refine ws_iconst 12 rfl rfl kc_i0 ?_
    refine ws_istore_3 13 rfl rfl rfl rfl ?_
    refine ws_iconst 14 rfl rfl kc_i0 ?_
    refine ws_istore_4 16 rfl rfl rfl rfl ?_
    exact loop 5 0 rfl
theorem m_lookAtWindow (hst : ∀ p, p < 5 → I 46 p = nI (b p)) : xC E 1 97 [.ref 42] (xS, I, L) (fun r t => r = none ∧ ∃ I', t = (xS, I', L) ∧ (∀ a, a ≠ 53 → I' a = I a) ∧ ∀ p, p < 5 → I' 53 p = nI (b p)) := by
  refine xC.mk [some (.ref 42), none] rfl ?_
  refine ws_iconst 1 rfl rfl kc_i0 ?_
  refine ws_istore_1 2 rfl rfl rfl rfl ?_
  have loop : ∀ (m k : Nat) (I' : Nat → Nat → Int32), k + m = 5 → (∀ a, a ≠ 53 → I' a = I a) → (∀ p, p < k → I' 53 p = nI (b p)) → xW E 1 97 2 [some (.ref 42), some (.int (nI k))] [] (xS, I', L) 0 0 (fun r t => r = none ∧ ∃ I', t = (xS, I', L) ∧ (∀ a, a ≠ 53 → I' a = I a) ∧ ∀ p, p < 5 → I' 53 p = nI (b p)) := by
    intro m
    induction m with
    | zero =>
      intro k I' hk hf hp
      obtain rfl : k = 5 := by omega
      refine ws_iload_1 3 rfl rfl ?_
      refine ws_iconst 4 rfl rfl kc_i5 ?_
      refine ws_icmp_gen 25 7 rfl rfl rfl (by omega) (by omega) (fun h9 => ?_) (fun h9 => absurd h9 (by omega))
      refine ws_vret rfl rfl rfl (Nat.le_of_ble_eq_true rfl) ?_
      exact ⟨rfl, I', rfl, hf, hp⟩
    | succ m ih =>
      intro k I' hk hf hp
      have e : I' 46 k = nI (b k) := by rw [hf 46 (by decide)]; exact hst k (by omega)
      refine ws_iload_1 3 rfl rfl ?_
      refine ws_iconst 4 rfl rfl kc_i5 ?_
      refine ws_icmp_gen 25 7 rfl rfl rfl (by omega) (by omega) (fun h9 => absurd h9 (by omega)) (fun h9 => ?_)
      refine ws_aload_0 8 rfl rfl ?_
      refine ws_getfr 11 rfl rfl rfl rfl rfl ?_
      refine ws_iload_1 12 rfl rfl ?_
      refine ws_aload_0 13 rfl rfl ?_
      refine ws_getfr 16 rfl rfl rfl rfl rfl ?_
      refine ws_iload_1 17 rfl rfl ?_
      refine ws_ialdn 18 rfl rfl rfl (by omega) (by omega) e ?_
      refine ws_iastn 19 rfl rfl rfl (by omega) (by omega) ?_
      refine ws_iinc_1 22 rfl rfl (ki_1 _) rfl rfl ?_
      refine ws_goto 2 rfl rfl ?_
      exact ih (k + 1) _ (by omega) (fun a ha => by rw [wI_ne ha]; exact hf a ha) (fl hp rfl)
  exact loop 5 0 I rfl (fun _ _ => rfl) (fun _ h => by omega)
theorem m_mayFall (p s : Nat) (hp : p < 5) (hs : s < 32) (hb : ∀ p, p < 5 → b p ≤ 5) (hat : ∀ p, p < 5 → I 53 p = nI (b p)) : xC E 1 106 [.ref 42, .int (nI p), .int (nI s)] (xS, I, L) (rV (.int (xb (mf b s p))) (xS, I, L)) := by
  refine xC.mk [some (.ref 42), some (.int (nI p)), some (.int (nI s))] rfl ?_
  have ha := hat p hp
  have hb5 := hb p hp
  by_cases hb0 : b p = 0
  · refine ws_aload_0 1 rfl rfl ?_
    refine ws_getfr 4 rfl rfl rfl rfl rfl ?_
    refine ws_iload_1 5 rfl rfl ?_
    refine ws_ialdn 6 rfl rfl rfl (by omega) (by omega) ha ?_
    refine ws_if_len 28 9 rfl rfl rfl (by omega) (fun h9 => ?_) (fun h9 => absurd h9 (by omega))
    refine ws_iconst 29 rfl rfl kc_i0 ?_
    refine ws_zret rfl rfl (by first | exact xb_01 _ | decide) rfl (Nat.le_of_ble_eq_true rfl) ?_
    exact ⟨by simp [mf, hb0, xb], rfl⟩
  · have e : s / 2 ^ (b p - 1) &&& 1 = s / 2 ^ (b p - 1) % 2 := Nat.and_one_is_mod _
    refine ws_aload_0 1 rfl rfl ?_
    refine ws_getfr 4 rfl rfl rfl rfl rfl ?_
    refine ws_iload_1 5 rfl rfl ?_
    refine ws_ialdn 6 rfl rfl rfl (by omega) (by omega) ha ?_
    refine ws_if_len 28 9 rfl rfl rfl (by omega) (fun h9 => absurd h9 (by omega)) (fun h9 => ?_)
    refine ws_iload_2 10 rfl rfl ?_
    refine ws_aload_0 11 rfl rfl ?_
    refine ws_getfr 14 rfl rfl rfl rfl rfl ?_
    refine ws_iload_1 15 rfl rfl ?_
    refine ws_ialdn 16 rfl rfl rfl (by omega) (by omega) ha ?_
    refine ws_iconst 17 rfl rfl kc_i1 ?_
    refine ws_isub 18 rfl rfl (pk_sub (by omega)) ?_
    refine ws_ishr 19 rfl rfl (kn_shr (by omega) (by omega)) ?_
    refine ws_iconst 20 rfl rfl kc_i1 ?_
    refine ws_iand 21 rfl rfl (kn_and _ _) ?_
    rw [e]
    refine ws_if_nen 28 24 rfl rfl rfl (by omega) (fun c1 => ?_) (fun c1 => ?_)
    · refine ws_iconst 29 rfl rfl kc_i0 ?_
      refine ws_zret rfl rfl (by first | exact xb_01 _ | decide) rfl (Nat.le_of_ble_eq_true rfl) ?_
      exact ⟨by simp [mf, hb0, xb, c1], rfl⟩
    · refine ws_iconst 25 rfl rfl kc_i1 ?_
      refine ws_goto 29 rfl rfl ?_
      refine ws_zret rfl rfl (by first | exact xb_01 _ | decide) rfl (Nat.le_of_ble_eq_true rfl) ?_
      exact ⟨by simp [mf, hb0, xb, c1], rfl⟩
theorem m_glance (f n to : Nat) (hn : 1 ≤ n) (hfn : f + n ≤ 5) (hto : min 4 to + 1 = f + n) (hto2 : to < 100) (hb : ∀ p, p < 5 → b p ≤ 5) (hw : ∀ p, p < 5 → w p ≤ 101) (hw1 : ∀ p, p < 5 → ¬ b p = 0 → 1 ≤ w p) (hP : ∀ u, u < 32 → P u ≤ 1000000) (hat : ∀ p, p < 5 → I 53 p = nI (b p)) (h54 : ∀ p, p < 5 → I 54 p = nI (w p)) (h56 : ∀ u, u < 32 → I 56 u = nI (P u)) :
    xC E 2 107 [.ref 42, .int (nI f), .int (nI to)] (xS, I, L) (fun r t => r = none ∧ ∃ I', t = (xS, I', L) ∧ (∀ a, a ≠ 56 → a ≠ 57 → I' a = I a) ∧ ∀ u, u < 32 → I' 56 u = nI (gla b w f n P u)) := by
  refine xC.mk [some (.ref 42), some (.int (nI f)), some (.int (nI to)), none, none, none, none, none, none, none] rfl ?_
  have hbm : ∀ s p, mf b s p = true → ¬ b p = 0 := fun s p hm => by unfold mf at hm; simp at hm; exact hm.1
  -- the parts copied back
  have copy : ∀ (m k : Nat) (I' : Nat → Nat → Int32) (z5 z6 z7 z8 z9 : Option Value), k + m = 32 → (∀ a, a ≠ 56 → a ≠ 57 → I' a = I a) → (∀ u, u < 32 → I' 57 u = nI (gla b w f n P u)) → (∀ u, u < k → I' 56 u = nI (gla b w f n P u)) → xW E 2 107 247 [some (.ref 42), some (.int (nI f)), some (.int (nI to)), some (.int (nI (min 4 to))), some (.int (nI k)), z5, z6, z7, z8, z9] [] (xS, I', L) 0 0 (fun r t => r = none ∧ ∃ I', t = (xS, I', L) ∧ (∀ a, a ≠ 56 → a ≠ 57 → I' a = I a) ∧ ∀ u, u < 32 → I' 56 u = nI (gla b w f n P u)) := by
    intro m
    induction m with
    | zero =>
      intro k I' z5 z6 z7 z8 z9 hk hf h57 h56
      obtain rfl : k = 32 := by omega
      refine ws_iload_4 249 rfl rfl ?_
      refine ws_bipush 251 rfl rfl kc_b32 ?_
      refine ws_icmp_gen 274 254 rfl rfl rfl (by omega) (by omega) (fun h9 => ?_) (fun h9 => absurd h9 (by omega))
      refine ws_vret rfl rfl rfl (Nat.le_of_ble_eq_true rfl) ?_
      exact ⟨rfl, I', rfl, hf, h56⟩
    | succ m ih =>
      intro k I' z5 z6 z7 z8 z9 hk hf h57 h56
      refine ws_iload_4 249 rfl rfl ?_
      refine ws_bipush 251 rfl rfl kc_b32 ?_
      refine ws_icmp_gen 274 254 rfl rfl rfl (by omega) (by omega) (fun h9 => absurd h9 (by omega)) (fun h9 => ?_)
      refine ws_aload_0 255 rfl rfl ?_
      refine ws_getfr 258 rfl rfl rfl rfl rfl ?_
      refine ws_iload_4 260 rfl rfl ?_
      refine ws_aload_0 261 rfl rfl ?_
      refine ws_getfr 264 rfl rfl rfl rfl rfl ?_
      refine ws_iload_4 266 rfl rfl ?_
      refine ws_ialdn 267 rfl rfl rfl (by omega) (by omega) (h57 k (by omega)) ?_
      refine ws_iastn 268 rfl rfl rfl (by omega) (by omega) ?_
      refine ws_iinc_4 271 rfl rfl (ki_1 _) rfl rfl ?_
      refine ws_goto 247 rfl rfl ?_
      exact ih (k + 1) _ _ _ _ _ _ (by omega) (fun a ha ha2 => by rw [wI_ne ha]; exact hf a ha ha2) h57 (fl h56 rfl)
  -- the sets
  have sets : ∀ (m s : Nat) (I' : Nat → Nat → Int32) (z5 z6 z7 z8 z9 : Option Value), s + m = 32 → (∀ a, a ≠ 57 → I' a = I a) → (∀ u, u < 32 → I' 57 u = nI (sg (fun s => ctf b w s f n (P s) u) 0 s)) → xW E 2 107 38 [some (.ref 42), some (.int (nI f)), some (.int (nI to)), some (.int (nI (min 4 to))), some (.int (nI s)), z5, z6, z7, z8, z9] [] (xS, I', L) 0 0 (fun r t => r = none ∧ ∃ I', t = (xS, I', L) ∧ (∀ a, a ≠ 56 → a ≠ 57 → I' a = I a) ∧ ∀ u, u < 32 → I' 56 u = nI (gla b w f n P u)) := by
    intro m
    induction m with
    | zero =>
      intro s I' z5 z6 z7 z8 z9 hs hf h57
      obtain rfl : s = 32 := by omega
      refine ws_iload_4 40 rfl rfl ?_
      refine ws_bipush 42 rfl rfl kc_b32 ?_
      refine ws_icmp_gen 244 45 rfl rfl rfl (by omega) (by omega) (fun h9 => ?_) (fun h9 => absurd h9 (by omega))
      refine ws_iconst 245 rfl rfl kc_i0 ?_
      refine ws_istore_4 247 rfl rfl rfl rfl ?_
      exact copy 32 0 I' _ _ _ _ _ rfl (fun a _ ha => hf a ha) h57 (fun _ h => by omega)
    | succ m ih =>
      intro s I' z5 z6 z7 z8 z9 hs hf h57
      have hs32 : s < 32 := by omega
      have hat' : ∀ (I2 : Nat → Nat → Int32), (∀ a, a ≠ 57 → I2 a = I a) → ∀ p, p < 5 → I2 53 p = nI (b p) := fun I2 h p hp => by rw [h 53 (by decide)]; exact hat p hp
      have h56' : ∀ (I2 : Nat → Nat → Int32), (∀ a, a ≠ 57 → I2 a = I a) → I2 56 s = nI (P s) := fun I2 h => by rw [h 56 (by decide)]; exact h56 s hs32
      have h54' : ∀ (I2 : Nat → Nat → Int32), (∀ a, a ≠ 57 → I2 a = I a) → ∀ p, p < 5 → I2 54 p = nI (w p) := fun I2 h p hp => by rw [h 54 (by decide)]; exact h54 p hp
      have hPs := hP s hs32
      have es : ∀ u, sg (fun s => ctf b w s f n (P s) u) 0 (s + 1) = sg (fun s => ctf b w s f n (P s) u) 0 s + ctf b w s f n (P s) u := fun u => by
        show _ + (fun s => ctf b w s f n (P s) u) (0 + s) = _
        rw [Nat.zero_add]
      have hall : ∀ k, k ≤ n → smf b w s f k ≤ 101 * k := by
        intro k
        induction k with
        | zero => intro _; exact Nat.le_refl 0
        | succ k ih =>
          intro hk
          have h1 := ih (by omega)
          have h2 := hw (f + k) (by omega)
          rw [smf_s]
          cases mf b s (f + k) with
          | true => show _ + w (f + k) ≤ _; omega
          | false => show _ + 0 ≤ _; omega
      have hsp : 0 < laf b s f n → 0 < smf b w s f n := fun h0 => by
        obtain ⟨i, i1, i2, i3⟩ := laf_mf h0
        have h1 : smf b w s f (i + 1) = smf b w s f i + w (f + i) := by rw [smf_s, i3]; rfl
        have h2 := hw1 (f + i) (by omega) (hbm _ _ i3)
        have h3 : smf b w s f (i + 1) ≤ smf b w s f n := smf_mono (by omega)
        omega
      -- what goes over
      have over : ∀ (m k : Nat) (I2 : Nat → Nat → Int32) (z9 : Option Value), k + m = n → (∀ a, a ≠ 57 → I2 a = I a) → (∀ u, u < 32 → I2 57 u = nI (sg (fun s => ctf b w s f n (P s) u) 0 s + csf b w s f n (P s) k u)) → xW E 2 107 136 [some (.ref 42), some (.int (nI f)), some (.int (nI to)), some (.int (nI (min 4 to))), some (.int (nI s)), some (.int (nI (smf b w s f n))), some (.int (eI (laf b s f n))), some (.int (nI (lff b w s f n (P s) k))), some (.int (nI (f + k))), z9] [] (xS, I2, L) 0 0 (fun r t => r = none ∧ ∃ I', t = (xS, I', L) ∧ (∀ a, a ≠ 56 → a ≠ 57 → I' a = I a) ∧ ∀ u, u < 32 → I' 56 u = nI (gla b w f n P u)) := by
        intro m
        induction m with
        | zero =>
          intro k I2 z9 hk hf2 h57'
          obtain rfl : k = n := by omega
          refine ws_iload_8 138 rfl rfl ?_
          refine ws_iload_3 139 rfl rfl ?_
          refine ws_icmp_gtn 226 142 rfl rfl rfl (by omega) (by omega) (fun h9 => ?_) (fun h9 => absurd h9 (by omega))
          refine ws_aload_0 227 rfl rfl ?_
          refine ws_getfr 230 rfl rfl rfl rfl rfl ?_
          refine ws_iload_4 232 rfl rfl ?_
          refine ws_dup2 233 rfl rfl rfl rfl ?_
          refine ws_ialdn 234 rfl rfl rfl (by omega) (by omega) (h57' s hs32) ?_
          refine ws_iload_7 236 rfl rfl ?_
          refine ws_iadd 237 rfl rfl (nI_add _ _) ?_
          refine ws_iastn 238 rfl rfl rfl (by omega) (by omega) ?_
          refine ws_iinc_4 241 rfl rfl (ki_1 _) rfl rfl ?_
          refine ws_goto 38 rfl rfl ?_
          refine ih (s + 1) _ _ _ _ _ _ (by omega) (fun a ha => by rw [wI_ne ha]; exact hf2 a ha) (fun u hu => ?_)
          show upd (I2 57) s _ u = _
          rw [es, show ctf b w s f k (P s) u = csf b w s f k (P s) k u + (if u = s then lff b w s f k (P s) k else 0) from rfl]
          by_cases e : u = s
          · rw [if_pos e, e, pk_us, Nat.add_assoc]
          · rw [if_neg e, pk_un e, h57' u hu, Nat.add_zero]
        | succ m ih2 =>
          intro k I2 z9 hk hf2 h57'
          have hk5 : f + k < 5 := by omega
          have hmay := m_mayFall (E := E) (L := L) (f + k) s hk5 hs32 hb (hat' I2 hf2)
          cases hm : mf b s (f + k) with
          | false =>
            rw [hm] at hmay
            refine ws_iload_8 138 rfl rfl ?_
            refine ws_iload_3 139 rfl rfl ?_
            refine ws_icmp_gtn 226 142 rfl rfl rfl (by omega) (by omega) (fun h9 => absurd h9 (by omega)) (fun h9 => ?_)
            refine ws_aload_0 143 rfl rfl ?_
            refine ws_iload_8 145 rfl rfl ?_
            refine ws_iload_4 147 rfl rfl ?_
            refine ws_invV2p 150 rfl rfl rfl rfl (hmay) rfl rfl rfl ?_
            refine ws_if_eqb 220 153 rfl rfl rfl (fun h9 => ?_) (fun h9 => absurd h9 (by first | decide | simp_all))
            refine ws_iinc_8 223 rfl rfl (ki_1 _) rfl rfl ?_
            refine ws_goto 136 rfl rfl ?_
            rw [← lff_n (w := w) (n := n) (v := P s) hm]; exact ih2 (k + 1) I2 _ (by omega) hf2 (fun u hu => by rw [csf_n hm]; exact h57' u hu)
          | true =>
            rw [hm] at hmay
            have hge := laf_ge hm (show k < n by omega)
            have hsp' := hsp (by omega)
            have hle := qf_le b w s f n (P s) k (by omega) hm (by omega) hsp'
            have hb9 := hb (f + k) hk5
            have hw9 := hw (f + k) hk5
            have hsm := hall n (Nat.le_refl n)
            have hb1 := hbm _ _ hm
            have ho := or_lt32 s hs32 (b (f + k) - 1) (by omega)
            obtain ⟨w1, w2⟩ := pw5 (b (f + k) - 1) (by omega)
            have hpo := h57' _ ho
            have hat2 := hat' I2 hf2 (f + k) hk5
            have h56s := h56' I2 hf2
            have h54s := h54' I2 hf2 (f + k) hk5
            have hmul : P s * w (f + k) ≤ 1000000 * 101 := Nat.mul_le_mul hPs hw9
            have fin : ∀ (o : Nat), o = owf b w s f n (P s) k → xW E 2 107 187 [some (.ref 42), some (.int (nI f)), some (.int (nI to)), some (.int (nI (min 4 to))), some (.int (nI s)), some (.int (nI (smf b w s f n))), some (.int (eI (laf b s f n))), some (.int (nI (lff b w s f n (P s) k))), some (.int (nI (f + k))), z9] [.int (nI o)] (xS, I2, L) 0 0 (fun r t => r = none ∧ ∃ I', t = (xS, I', L) ∧ (∀ a, a ≠ 56 → a ≠ 57 → I' a = I a) ∧ ∀ u, u < 32 → I' 56 u = nI (gla b w f n P u)) := by
              intro o ho2
              rw [← ho2] at hle
              have e1 : 1 * 2 ^ (b (f + k) - 1) = 2 ^ (b (f + k) - 1) := Nat.one_mul _
              refine ws_istore_9 189 rfl rfl rfl rfl ?_
              refine ws_aload_0 190 rfl rfl ?_
              refine ws_getfr 193 rfl rfl rfl rfl rfl ?_
              refine ws_iload_4 195 rfl rfl ?_
              refine ws_iconst 196 rfl rfl kc_i1 ?_
              refine ws_aload_0 197 rfl rfl ?_
              refine ws_getfr 200 rfl rfl rfl rfl rfl ?_
              refine ws_iload_8 202 rfl rfl ?_
              refine ws_ialdn 203 rfl rfl rfl (by omega) (by omega) hat2 ?_
              refine ws_iconst 204 rfl rfl kc_i1 ?_
              refine ws_isub 205 rfl rfl (pk_sub (by omega)) ?_
              refine ws_ishl 206 rfl rfl (by rw [kn_shl (by omega) (by omega), e1]) ?_
              refine ws_ior 207 rfl rfl (kn_or _ _) ?_
              refine ws_dup2 208 rfl rfl rfl rfl ?_
              refine ws_ialdn 209 rfl rfl rfl (by omega) (by omega) hpo ?_
              refine ws_iload_9 211 rfl rfl ?_
              refine ws_iadd 212 rfl rfl (nI_add _ _) ?_
              refine ws_iastn 213 rfl rfl rfl (by omega) (by omega) ?_
              refine ws_iload_7 215 rfl rfl ?_
              refine ws_iload_9 217 rfl rfl ?_
              refine ws_isub 218 rfl rfl (pk_sub (by omega)) ?_
              refine ws_istore_7 220 rfl rfl rfl rfl ?_
              refine ws_iinc_8 223 rfl rfl (ki_1 _) rfl rfl ?_
              refine ws_goto 136 rfl rfl ?_
              rw [ho2, ← lff_s (w := w) (n := n) (v := P s) hm]; refine ih2 (k + 1) _ _ (by omega) (fun a ha => by rw [wI_ne ha]; exact hf2 a ha) (fun u hu => ?_)
              show upd (I2 57) _ _ u = _
              rw [csf_s hm]
              by_cases e : u = s ||| 2 ^ (b (f + k) - 1)
              · rw [if_pos e, e, pk_us, Nat.add_assoc]
              · rw [if_neg e, pk_un e, h57' u hu, Nat.add_zero]
            rcases Nat.lt_or_ge (f + k + 1) (laf b s f n) with hl | hl
            · have e6 : P s * w (f + k) / smf b w s f n = owf b w s f n (P s) k := by unfold owf qf; rw [if_neg (by omega)]
              have e7 : eI (laf b s f n) = nI (laf b s f n - 1) := by unfold eI; rw [if_neg (by omega)]
              have hln := laf_le b s f n
              have hne : ¬ nI (f + k) = eI (laf b s f n) := by rw [e7, kn_eq (by omega) (by omega)]; omega
              refine ws_iload_8 138 rfl rfl ?_
              refine ws_iload_3 139 rfl rfl ?_
              refine ws_icmp_gtn 226 142 rfl rfl rfl (by omega) (by omega) (fun h9 => absurd h9 (by omega)) (fun h9 => ?_)
              refine ws_aload_0 143 rfl rfl ?_
              refine ws_iload_8 145 rfl rfl ?_
              refine ws_iload_4 147 rfl rfl ?_
              refine ws_invV2p 150 rfl rfl rfl rfl (hmay) rfl rfl rfl ?_
              refine ws_if_eqb 220 153 rfl rfl rfl (fun h9 => absurd h9 (by first | decide | simp_all)) (fun h9 => ?_)
              refine ws_iload_8 155 rfl rfl ?_
              refine ws_iload_6 157 rfl rfl ?_
              refine ws_icmp_ne 165 160 rfl rfl rfl (fun h9 => ?_) (fun h9 => absurd h9 hne)
              refine ws_aload_0 166 rfl rfl ?_
              refine ws_getfr 169 rfl rfl rfl rfl rfl ?_
              refine ws_iload_4 171 rfl rfl ?_
              refine ws_ialdn 172 rfl rfl rfl (by omega) (by omega) h56s ?_
              refine ws_i2l 173 rfl rfl (nI_l (by omega)) ?_
              refine ws_aload_0 174 rfl rfl ?_
              refine ws_getfr 177 rfl rfl rfl rfl rfl ?_
              refine ws_iload_8 179 rfl rfl ?_
              refine ws_ialdn 180 rfl rfl rfl (by omega) (by omega) h54s ?_
              refine ws_i2l 181 rfl rfl (nI_l (by omega)) ?_
              refine ws_lmul 182 rfl rfl (lN_mul _ _) ?_
              refine ws_iload_5 184 rfl rfl ?_
              refine ws_i2l 185 rfl rfl (nI_l (by omega)) ?_
              refine ws_ldiv 186 rfl rfl (kn_lne0 (by omega) (by omega)) (pk_lDiv (by omega) (by omega) (by omega)) ?_
              refine ws_l2i 187 rfl rfl (lN_i _) ?_
              exact fin _ e6
            · have e7 : eI (laf b s f n) = nI (f + k) := by rw [show laf b s f n = f + k + 1 by omega]; exact eI_s _
              have e6 : lff b w s f n (P s) k = owf b w s f n (P s) k := by unfold owf; rw [if_pos (by omega)]
              refine ws_iload_8 138 rfl rfl ?_
              refine ws_iload_3 139 rfl rfl ?_
              refine ws_icmp_gtn 226 142 rfl rfl rfl (by omega) (by omega) (fun h9 => absurd h9 (by omega)) (fun h9 => ?_)
              refine ws_aload_0 143 rfl rfl ?_
              refine ws_iload_8 145 rfl rfl ?_
              refine ws_iload_4 147 rfl rfl ?_
              refine ws_invV2p 150 rfl rfl rfl rfl (hmay) rfl rfl rfl ?_
              refine ws_if_eqb 220 153 rfl rfl rfl (fun h9 => absurd h9 (by first | decide | simp_all)) (fun h9 => ?_)
              refine ws_iload_8 155 rfl rfl ?_
              refine ws_iload_6 157 rfl rfl ?_
              refine ws_icmp_ne 165 160 rfl rfl rfl (fun h9 => absurd h9 (not_not_intro e7.symm)) (fun h9 => ?_)
              refine ws_iload_7 162 rfl rfl ?_
              refine ws_goto 187 rfl rfl ?_
              exact fin _ e6
      -- what may be
      have first : ∀ (m k : Nat) (z8 z9 : Option Value), k + m = n → xW E 2 107 65 [some (.ref 42), some (.int (nI f)), some (.int (nI to)), some (.int (nI (min 4 to))), some (.int (nI s)), some (.int (nI (smf b w s f k))), some (.int (eI (laf b s f k))), some (.int (nI (f + k))), z8, z9] [] (xS, I', L) 0 0 (fun r t => r = none ∧ ∃ I', t = (xS, I', L) ∧ (∀ a, a ≠ 56 → a ≠ 57 → I' a = I a) ∧ ∀ u, u < 32 → I' 56 u = nI (gla b w f n P u)) := by
        intro m
        induction m with
        | zero =>
          intro k z8 z9 hk
          obtain rfl : k = n := by omega
          refine ws_iload_7 67 rfl rfl ?_
          refine ws_iload_3 68 rfl rfl ?_
          refine ws_icmp_gtn 124 71 rfl rfl rfl (by omega) (by omega) (fun h9 => ?_) (fun h9 => absurd h9 (by omega))
          refine ws_aload_0 125 rfl rfl ?_
          refine ws_getfr 128 rfl rfl rfl rfl rfl ?_
          refine ws_iload_4 130 rfl rfl ?_
          refine ws_ialdn 131 rfl rfl rfl (by omega) (by omega) (h56' I' hf) ?_
          refine ws_istore_7 133 rfl rfl rfl rfl ?_
          refine ws_iload_1 134 rfl rfl ?_
          refine ws_istore_8 136 rfl rfl rfl rfl ?_
          exact over k 0 I' _ (by omega) hf (fun u hu => by rw [h57 u hu]; rfl)
        | succ m ih2 =>
          intro k z8 z9 hk
          have hk5 : f + k < 5 := by omega
          have hmay := m_mayFall (E := E) (L := L) (f + k) s hk5 hs32 hb (hat' I' hf)
          have h54s := h54' I' hf (f + k) hk5
          have hsm := hall k (by omega)
          have hw9 := hw (f + k) hk5
          cases hm : mf b s (f + k) with
          | false =>
            rw [hm] at hmay
            have e1 : smf b w s f (k + 1) = smf b w s f k + 0 := by rw [smf_s, hm]; rfl
            have e2 : laf b s f (k + 1) = laf b s f k := by show (bif mf b s (f + k) then _ else _) = _; rw [hm]; rfl
            refine ws_iload_7 67 rfl rfl ?_
            refine ws_iload_3 68 rfl rfl ?_
            refine ws_icmp_gtn 124 71 rfl rfl rfl (by omega) (by omega) (fun h9 => absurd h9 (by omega)) (fun h9 => ?_)
            refine ws_iload_5 73 rfl rfl ?_
            refine ws_aload_0 74 rfl rfl ?_
            refine ws_iload_7 76 rfl rfl ?_
            refine ws_iload_4 78 rfl rfl ?_
            refine ws_invV2p 81 rfl rfl rfl rfl (hmay) rfl rfl rfl ?_
            refine ws_if_eqb 94 84 rfl rfl rfl (fun h9 => ?_) (fun h9 => absurd h9 (by first | decide | simp_all))
            refine ws_iconst 95 rfl rfl kc_i0 ?_
            refine ws_iadd 96 rfl rfl (nI_add _ _) ?_
            refine ws_istore_5 98 rfl rfl rfl rfl ?_
            refine ws_aload_0 99 rfl rfl ?_
            refine ws_iload_7 101 rfl rfl ?_
            refine ws_iload_4 103 rfl rfl ?_
            refine ws_invV2p 106 rfl rfl rfl rfl (hmay) rfl rfl rfl ?_
            refine ws_if_eqb 114 109 rfl rfl rfl (fun h9 => ?_) (fun h9 => absurd h9 (by first | decide | simp_all))
            refine ws_iload_6 116 rfl rfl ?_
            refine ws_istore_6 118 rfl rfl rfl rfl ?_
            refine ws_iinc_7 121 rfl rfl (ki_1 _) rfl rfl ?_
            refine ws_goto 65 rfl rfl ?_
            rw [← e1, ← e2]; exact ih2 (k + 1) _ _ (by omega)
          | true =>
            rw [hm] at hmay
            have e1 : smf b w s f (k + 1) = smf b w s f k + w (f + k) := by rw [smf_s, hm]; rfl
            have e2 : eI (laf b s f (k + 1)) = nI (f + k) := by rw [show laf b s f (k + 1) = f + k + 1 by show (bif mf b s (f + k) then _ else _) = _; rw [hm]; rfl]; exact eI_s _
            refine ws_iload_7 67 rfl rfl ?_
            refine ws_iload_3 68 rfl rfl ?_
            refine ws_icmp_gtn 124 71 rfl rfl rfl (by omega) (by omega) (fun h9 => absurd h9 (by omega)) (fun h9 => ?_)
            refine ws_iload_5 73 rfl rfl ?_
            refine ws_aload_0 74 rfl rfl ?_
            refine ws_iload_7 76 rfl rfl ?_
            refine ws_iload_4 78 rfl rfl ?_
            refine ws_invV2p 81 rfl rfl rfl rfl (hmay) rfl rfl rfl ?_
            refine ws_if_eqb 94 84 rfl rfl rfl (fun h9 => absurd h9 (by first | decide | simp_all)) (fun h9 => ?_)
            refine ws_aload_0 85 rfl rfl ?_
            refine ws_getfr 88 rfl rfl rfl rfl rfl ?_
            refine ws_iload_7 90 rfl rfl ?_
            refine ws_ialdn 91 rfl rfl rfl (by omega) (by omega) h54s ?_
            refine ws_goto 95 rfl rfl ?_
            refine ws_iadd 96 rfl rfl (nI_add _ _) ?_
            refine ws_istore_5 98 rfl rfl rfl rfl ?_
            refine ws_aload_0 99 rfl rfl ?_
            refine ws_iload_7 101 rfl rfl ?_
            refine ws_iload_4 103 rfl rfl ?_
            refine ws_invV2p 106 rfl rfl rfl rfl (hmay) rfl rfl rfl ?_
            refine ws_if_eqb 114 109 rfl rfl rfl (fun h9 => absurd h9 (by first | decide | simp_all)) (fun h9 => ?_)
            refine ws_iload_7 111 rfl rfl ?_
            refine ws_goto 116 rfl rfl ?_
            refine ws_istore_6 118 rfl rfl rfl rfl ?_
            refine ws_iinc_7 121 rfl rfl (ki_1 _) rfl rfl ?_
            refine ws_goto 65 rfl rfl ?_
            rw [← e1, ← e2]; exact ih2 (k + 1) _ _ (by omega)
      refine ws_iload_4 40 rfl rfl ?_
      refine ws_bipush 42 rfl rfl kc_b32 ?_
      refine ws_icmp_gen 244 45 rfl rfl rfl (by omega) (by omega) (fun h9 => absurd h9 (by omega)) (fun h9 => ?_)
      refine ws_aload_0 46 rfl rfl ?_
      refine ws_getfr 49 rfl rfl rfl rfl rfl ?_
      refine ws_iload_4 51 rfl rfl ?_
      refine ws_ialdn 52 rfl rfl rfl (by omega) (by omega) (h56' I' hf) ?_
      refine ws_if_len 238 55 rfl rfl rfl (by omega) (fun hz => ?_) (fun hz => ?_)
      · have hz0 : P s = 0 := by omega
        refine ws_iinc_4 241 rfl rfl (ki_1 _) rfl rfl ?_
        refine ws_goto 38 rfl rfl ?_
        exact ih (s + 1) I' _ _ _ _ _ (by omega) hf (fun u hu => by rw [es, hz0, ctf_0, Nat.add_zero]; exact h57 u hu)
      · refine ws_iconst 56 rfl rfl kc_i0 ?_
        refine ws_istore_5 58 rfl rfl rfl rfl ?_
        refine ws_bipush 60 rfl rfl kc_bm6 ?_
        refine ws_istore_6 62 rfl rfl rfl rfl ?_
        refine ws_iload_1 63 rfl rfl ?_
        refine ws_istore_7 65 rfl rfl rfl rfl ?_
        exact first n 0 _ _ (by omega)
  have zero : ∀ (m k : Nat) (I' : Nat → Nat → Int32), k + m = 32 → (∀ a, a ≠ 57 → I' a = I a) → (∀ u, u < k → I' 57 u = nI 0) → xW E 2 107 14 [some (.ref 42), some (.int (nI f)), some (.int (nI to)), some (.int (nI (min 4 to))), some (.int (nI k)), none, none, none, none, none] [] (xS, I', L) 0 0 (fun r t => r = none ∧ ∃ I', t = (xS, I', L) ∧ (∀ a, a ≠ 56 → a ≠ 57 → I' a = I a) ∧ ∀ u, u < 32 → I' 56 u = nI (gla b w f n P u)) := by
    intro m
    induction m with
    | zero =>
      intro k I' hk hf h57
      obtain rfl : k = 32 := by omega
      refine ws_iload_4 16 rfl rfl ?_
      refine ws_bipush 18 rfl rfl kc_b32 ?_
      refine ws_icmp_gen 35 21 rfl rfl rfl (by omega) (by omega) (fun h9 => ?_) (fun h9 => absurd h9 (by omega))
      refine ws_iconst 36 rfl rfl kc_i0 ?_
      refine ws_istore_4 38 rfl rfl rfl rfl ?_
      exact sets 32 0 I' _ _ _ _ _ rfl hf h57
    | succ m ih =>
      intro k I' hk hf h57
      refine ws_iload_4 16 rfl rfl ?_
      refine ws_bipush 18 rfl rfl kc_b32 ?_
      refine ws_icmp_gen 35 21 rfl rfl rfl (by omega) (by omega) (fun h9 => absurd h9 (by omega)) (fun h9 => ?_)
      refine ws_aload_0 22 rfl rfl ?_
      refine ws_getfr 25 rfl rfl rfl rfl rfl ?_
      refine ws_iload_4 27 rfl rfl ?_
      refine ws_iconst 28 rfl rfl kc_i0 ?_
      refine ws_iastn 29 rfl rfl rfl (by omega) (by omega) ?_
      refine ws_iinc_4 32 rfl rfl (ki_1 _) rfl rfl ?_
      refine ws_goto 14 rfl rfl ?_
      exact ih (k + 1) _ (by omega) (fun a ha => by rw [wI_ne ha]; exact hf a ha) (fl (g := fun _ => nI 0) h57 rfl)
  have z := zero 32 0 I rfl (fun _ _ => rfl) (fun _ h => by omega)
  refine ws_iload_2 1 rfl rfl ?_
  refine ws_iconst 2 rfl rfl kc_i4 ?_
  refine ws_icmp_len 9 5 rfl rfl rfl (by omega) (by omega) (fun c1 => ?_) (fun c1 => ?_)
  · rw [show min 4 to = to by omega] at z
    refine ws_iload_2 10 rfl rfl ?_
    refine ws_istore_3 11 rfl rfl rfl rfl ?_
    refine ws_iconst 12 rfl rfl kc_i0 ?_
    refine ws_istore_4 14 rfl rfl rfl rfl ?_
    exact z
  · rw [show min 4 to = 4 by omega] at z
    refine ws_iconst 6 rfl rfl kc_i4 ?_
    refine ws_goto 10 rfl rfl ?_
    refine ws_istore_3 11 rfl rfl rfl rfl ?_
    refine ws_iconst 12 rfl rfl kc_i0 ?_
    refine ws_istore_4 14 rfl rfl rfl rfl ?_
    exact z
end MDRAW
end
section
/-! ===== the reference: parts, deeds, weeks ===== -/
section MWEEK
variable {E : xEx} {I : Nat → Nat → Int32} {L : Nat → Nat → Int64} {A : Nat → Nat → Nat} {b F G0 G1 : Nat → Nat}
theorem m_layParts (k more : Nat) (hk : k < 4) (hm : more ≤ 9) (hTh : ∀ j, j < 15 → I 43 j = nI (A 0 j)) (hLi : ∀ j, j < 5 → I 44 j = nI (A 1 j)) (hKi : ∀ j, j < 24 → I 47 j = nI (A 3 j)) (hok : okK A) (h1 : ∀ j, j < 5 → A 0 j ≤ 9) (h2 : ∀ j, j < 5 → A 1 j ≤ 9) (h3 : ∀ j, j < 15 → A 0 j ≤ 99) (hb : ∀ p, p < 5 → b p ≤ 5) (hat : ∀ p, p < 5 → I 53 p = nI (b p)) :
    xC E 3 105 [.ref 42, .int (nI k), .int (nI more)] (xS, I, L) (fun r t => r = none ∧ ∃ I', t = (xS, I', L) ∧ (∀ a, a ≠ 54 → a ≠ 56 → a ≠ 57 → I' a = I a) ∧ ∀ u, u < 32 → I' 56 u = nI (pt A b k more (A 3 (k * 6 + 1)) u)) := by
  refine xC.mk [some (.ref 42), some (.int (nI k)), some (.int (nI more)), none, none] rfl ?_
  obtain ⟨k0, k1, k2, k3, k4, k5⟩ := hok k hk
  have hkd : ∀ (I' : Nat → Nat → Int32), I' 47 = I 47 → ∀ w, w < 6 → I' 47 (6 * k + w) = nI (A 3 (k * 6 + w)) := fun I' h w hw => by rw [h, Nat.mul_comm 6 k]; exact hKi _ (by omega)
  have hkd0 : ∀ (I' : Nat → Nat → Int32), I' 47 = I 47 → I' 47 (6 * k) = nI (A 3 (k * 6 + 0)) := fun I' h => hkd I' h 0 (by omega)
  obtain ⟨nb, hnb⟩ : ∃ nb, nb = A 3 (k * 6 + 3) + more := ⟨_, rfl⟩
  have outer : ∀ (m g : Nat) (I' : Nat → Nat → Int32) (z4 : Option Value), g + m = A 3 (k * 6 + 1) → (∀ a, a ≠ 54 → a ≠ 56 → a ≠ 57 → I' a = I a) → (∀ p, p < 5 → I' 54 p = nI (dw A b p nb)) → (∀ u, u < 32 → I' 56 u = nI (pt A b k more g u)) → xW E 3 105 68 [some (.ref 42), some (.int (nI k)), some (.int (nI more)), some (.int (nI g)), z4] [] (xS, I', L) 0 0 (fun r t => r = none ∧ ∃ I', t = (xS, I', L) ∧ (∀ a, a ≠ 54 → a ≠ 56 → a ≠ 57 → I' a = I a) ∧ ∀ u, u < 32 → I' 56 u = nI (pt A b k more (A 3 (k * 6 + 1)) u)) := by
    intro m
    induction m with
    | zero =>
      intro g I' z4 hg hf h54 h56
      obtain rfl : g = A 3 (k * 6 + 1) := by omega
      have h47 := hf 47 (by decide) (by decide) (by decide)
      refine ws_iload_3 69 rfl rfl ?_
      refine ws_aload_0 70 rfl rfl ?_
      refine ws_getfr 73 rfl rfl rfl rfl rfl ?_
      refine ws_bipush 75 rfl rfl kc_b6 ?_
      refine ws_iload_1 76 rfl rfl ?_
      refine ws_imul 77 rfl rfl (pk_mul _ _) ?_
      refine ws_iconst 78 rfl rfl kc_i1 ?_
      refine ws_iadd 79 rfl rfl (nI_add _ _) ?_
      refine ws_ialdn 80 rfl rfl rfl (by omega) (by omega) (hkd I' h47 1 (by omega)) ?_
      refine ws_icmp_gen 170 83 rfl rfl rfl (by omega) (by omega) (fun h9 => ?_) (fun h9 => absurd h9 (by omega))
      refine ws_vret rfl rfl rfl (Nat.le_of_ble_eq_true rfl) ?_
      exact ⟨rfl, I', rfl, hf, h56⟩
    | succ m ih =>
      intro g I' z4 hg hf h54 h56
      have h47 := hf 47 (by decide) (by decide) (by decide)
      have g1 : 1 ≤ gnn A k g := by unfold gnn; omega
      have g2 : gfr A k g + gnn A k g ≤ 5 := by unfold gfr gnn; split <;> omega
      have hgl : ∀ (fr to : Nat), fr = gfr A k g → min 4 to + 1 = gfr A k g + gnn A k g → to < 100 → xC E 2 107 [.ref 42, .int (nI fr), .int (nI to)] (xS, I', L) (fun r t => r = none ∧ ∃ I2, t = (xS, I2, L) ∧ (∀ a, a ≠ 56 → a ≠ 57 → I2 a = I' a) ∧ ∀ u, u < 32 → I2 56 u = nI (gla b (fun p => dw A b p nb) (gfr A k g) (gnn A k g) (pt A b k more g) u)) := by
        intro fr to hfr hto hto2
        rw [hfr]
        exact m_glance (gfr A k g) (gnn A k g) to g1 g2 hto hto2 hb (fun p hp => dw_le h1 h2 hp (hb p hp)) (fun p _ h => dw_pos h) (fun u hu => pt_le hb (by omega) hu) (fun p hp => by rw [hf 53 (by decide) (by decide) (by decide)]; exact hat p hp) h54 h56
      have step : ∀ (I2 : Nat → Nat → Int32) (z4 : Option Value), (∀ a, a ≠ 56 → a ≠ 57 → I2 a = I' a) → (∀ u, u < 32 → I2 56 u = nI (gla b (fun p => dw A b p nb) (gfr A k g) (gnn A k g) (pt A b k more g) u)) → xW E 3 105 164 [some (.ref 42), some (.int (nI k)), some (.int (nI more)), some (.int (nI g)), z4] [] (xS, I2, L) 0 0 (fun r t => r = none ∧ ∃ I', t = (xS, I', L) ∧ (∀ a, a ≠ 54 → a ≠ 56 → a ≠ 57 → I' a = I a) ∧ ∀ u, u < 32 → I' 56 u = nI (pt A b k more (A 3 (k * 6 + 1)) u)) := by
        intro I2 z4 hf2 h56'
        refine ws_iinc_3 167 rfl rfl (ki_1 _) rfl rfl ?_
        refine ws_goto 68 rfl rfl ?_
        exact ih (g + 1) I2 _ (by omega) (fun a a1 a2 a3 => by rw [hf2 a a2 a3]; exact hf a a1 a2 a3) (fun p hp => by rw [hf2 54 (by decide) (by decide)]; exact h54 p hp) (fun u hu => by rw [h56' u hu, hnb]; rfl)
      rcases Nat.eq_zero_or_pos (A 3 (k * 6 + 0)) with hs | hs
      · have e1 : gfr A k g = g := by unfold gfr; rw [if_pos hs]
        have e0 := hkd0 I' h47
        rw [hs] at e0
        refine ws_iload_3 69 rfl rfl ?_
        refine ws_aload_0 70 rfl rfl ?_
        refine ws_getfr 73 rfl rfl rfl rfl rfl ?_
        refine ws_bipush 75 rfl rfl kc_b6 ?_
        refine ws_iload_1 76 rfl rfl ?_
        refine ws_imul 77 rfl rfl (pk_mul _ _) ?_
        refine ws_iconst 78 rfl rfl kc_i1 ?_
        refine ws_iadd 79 rfl rfl (nI_add _ _) ?_
        refine ws_ialdn 80 rfl rfl rfl (by omega) (by omega) (hkd I' h47 1 (by omega)) ?_
        refine ws_icmp_gen 170 83 rfl rfl rfl (by omega) (by omega) (fun h9 => absurd h9 (by omega)) (fun h9 => ?_)
        refine ws_aload_0 84 rfl rfl ?_
        refine ws_getfr 87 rfl rfl rfl rfl rfl ?_
        refine ws_bipush 89 rfl rfl kc_b6 ?_
        refine ws_iload_1 90 rfl rfl ?_
        refine ws_imul 91 rfl rfl (pk_mul _ _) ?_
        refine ws_ialdn 92 rfl rfl rfl (by omega) (by omega) e0 ?_
        refine ws_if_nen 99 95 rfl rfl rfl (by omega) (fun h9 => absurd h9 (by omega)) (fun h9 => ?_)
        refine ws_iload_3 96 rfl rfl ?_
        refine ws_goto 114 rfl rfl ?_
        refine ws_istore_4 116 rfl rfl rfl rfl ?_
        refine ws_aload_0 117 rfl rfl ?_
        refine ws_iload_4 119 rfl rfl ?_
        refine ws_if_gen 126 122 rfl rfl rfl (by omega) (fun h9 => ?_) (fun h9 => absurd h9 (by omega))
        refine ws_iload_4 128 rfl rfl ?_
        refine ws_aload_0 129 rfl rfl ?_
        refine ws_getfr 132 rfl rfl rfl rfl rfl ?_
        refine ws_bipush 134 rfl rfl kc_b6 ?_
        refine ws_iload_1 135 rfl rfl ?_
        refine ws_imul 136 rfl rfl (pk_mul _ _) ?_
        refine ws_ialdn 137 rfl rfl rfl (by omega) (by omega) e0 ?_
        refine ws_if_nen 158 140 rfl rfl rfl (by omega) (fun h9 => absurd h9 (by omega)) (fun h9 => ?_)
        refine ws_iload_3 141 rfl rfl ?_
        refine ws_aload_0 142 rfl rfl ?_
        refine ws_getfr 145 rfl rfl rfl rfl rfl ?_
        refine ws_bipush 147 rfl rfl kc_b6 ?_
        refine ws_iload_1 148 rfl rfl ?_
        refine ws_imul 149 rfl rfl (pk_mul _ _) ?_
        refine ws_iconst 150 rfl rfl kc_i2 ?_
        refine ws_iadd 151 rfl rfl (nI_add _ _) ?_
        refine ws_ialdn 152 rfl rfl rfl (by omega) (by omega) (hkd I' h47 2 (by omega)) ?_
        refine ws_iadd 153 rfl rfl (nI_add _ _) ?_
        refine ws_iconst 154 rfl rfl kc_i1 ?_
        refine ws_isub 155 rfl rfl (pk_sub (by omega)) ?_
        refine ws_goto 161 rfl rfl ?_
        refine ws_invV2 164 rfl rfl rfl rfl (hgl _ _ e1.symm (by rw [e1]; unfold gnn; omega) (by omega)) rfl rfl rfl ?_
        rintro _ _ ⟨rfl, I2, rfl, hf2, h56'⟩
        exact step I2 _ hf2 h56'
      · have hs1 : A 3 (k * 6 + 0) = 1 := by omega
        have e0 := hkd0 I' h47
        rw [hs1] at e0
        have hr := hkd I' h47 2 (by omega)
        rcases Nat.lt_or_ge (5 - g) (A 3 (k * 6 + 2)) with c1 | c1
        · have e1 : gfr A k g = 0 := by unfold gfr; rw [if_neg (by omega)]; omega
          have hneg := pk_sneg (a := 5 - g) (b := A 3 (k * 6 + 2)) (by omega) c1
          refine ws_iload_3 69 rfl rfl ?_
          refine ws_aload_0 70 rfl rfl ?_
          refine ws_getfr 73 rfl rfl rfl rfl rfl ?_
          refine ws_bipush 75 rfl rfl kc_b6 ?_
          refine ws_iload_1 76 rfl rfl ?_
          refine ws_imul 77 rfl rfl (pk_mul _ _) ?_
          refine ws_iconst 78 rfl rfl kc_i1 ?_
          refine ws_iadd 79 rfl rfl (nI_add _ _) ?_
          refine ws_ialdn 80 rfl rfl rfl (by omega) (by omega) (hkd I' h47 1 (by omega)) ?_
          refine ws_icmp_gen 170 83 rfl rfl rfl (by omega) (by omega) (fun h9 => absurd h9 (by omega)) (fun h9 => ?_)
          refine ws_aload_0 84 rfl rfl ?_
          refine ws_getfr 87 rfl rfl rfl rfl rfl ?_
          refine ws_bipush 89 rfl rfl kc_b6 ?_
          refine ws_iload_1 90 rfl rfl ?_
          refine ws_imul 91 rfl rfl (pk_mul _ _) ?_
          refine ws_ialdn 92 rfl rfl rfl (by omega) (by omega) e0 ?_
          refine ws_if_nen 99 95 rfl rfl rfl (by omega) (fun h9 => ?_) (fun h9 => absurd h9 (by omega))
          refine ws_iconst 100 rfl rfl kc_i5 ?_
          refine ws_iload_3 101 rfl rfl ?_
          refine ws_isub 102 rfl rfl (pk_sub (by omega)) ?_
          refine ws_aload_0 103 rfl rfl ?_
          refine ws_getfr 106 rfl rfl rfl rfl rfl ?_
          refine ws_bipush 108 rfl rfl kc_b6 ?_
          refine ws_iload_1 109 rfl rfl ?_
          refine ws_imul 110 rfl rfl (pk_mul _ _) ?_
          refine ws_iconst 111 rfl rfl kc_i2 ?_
          refine ws_iadd 112 rfl rfl (nI_add _ _) ?_
          refine ws_ialdn 113 rfl rfl rfl (by omega) (by omega) hr ?_
          refine ws_isub 114 rfl rfl rfl ?_
          refine ws_istore_4 116 rfl rfl rfl rfl ?_
          refine ws_aload_0 117 rfl rfl ?_
          refine ws_iload_4 119 rfl rfl ?_
          refine ws_if_ge 126 122 rfl rfl rfl (fun h9 => absurd h9 (by rw [Int32.not_le]; exact hneg)) (fun h9 => ?_)
          refine ws_iconst 123 rfl rfl kc_i0 ?_
          refine ws_goto 128 rfl rfl ?_
          refine ws_aload_0 129 rfl rfl ?_
          refine ws_getfr 132 rfl rfl rfl rfl rfl ?_
          refine ws_bipush 134 rfl rfl kc_b6 ?_
          refine ws_iload_1 135 rfl rfl ?_
          refine ws_imul 136 rfl rfl (pk_mul _ _) ?_
          refine ws_ialdn 137 rfl rfl rfl (by omega) (by omega) e0 ?_
          refine ws_if_nen 158 140 rfl rfl rfl (by omega) (fun h9 => ?_) (fun h9 => absurd h9 (by omega))
          refine ws_iconst 159 rfl rfl kc_i4 ?_
          refine ws_iload_3 160 rfl rfl ?_
          refine ws_isub 161 rfl rfl (pk_sub (by omega)) ?_
          refine ws_invV2 164 rfl rfl rfl rfl (hgl 0 (4 - g) e1.symm (by rw [e1]; unfold gnn; omega) (by omega)) rfl rfl rfl ?_
          rintro _ _ ⟨rfl, I2, rfl, hf2, h56'⟩
          exact step I2 _ hf2 h56'
        · have e1 : gfr A k g = 5 - g - A 3 (k * 6 + 2) := by unfold gfr; rw [if_neg (by omega)]; omega
          refine ws_iload_3 69 rfl rfl ?_
          refine ws_aload_0 70 rfl rfl ?_
          refine ws_getfr 73 rfl rfl rfl rfl rfl ?_
          refine ws_bipush 75 rfl rfl kc_b6 ?_
          refine ws_iload_1 76 rfl rfl ?_
          refine ws_imul 77 rfl rfl (pk_mul _ _) ?_
          refine ws_iconst 78 rfl rfl kc_i1 ?_
          refine ws_iadd 79 rfl rfl (nI_add _ _) ?_
          refine ws_ialdn 80 rfl rfl rfl (by omega) (by omega) (hkd I' h47 1 (by omega)) ?_
          refine ws_icmp_gen 170 83 rfl rfl rfl (by omega) (by omega) (fun h9 => absurd h9 (by omega)) (fun h9 => ?_)
          refine ws_aload_0 84 rfl rfl ?_
          refine ws_getfr 87 rfl rfl rfl rfl rfl ?_
          refine ws_bipush 89 rfl rfl kc_b6 ?_
          refine ws_iload_1 90 rfl rfl ?_
          refine ws_imul 91 rfl rfl (pk_mul _ _) ?_
          refine ws_ialdn 92 rfl rfl rfl (by omega) (by omega) e0 ?_
          refine ws_if_nen 99 95 rfl rfl rfl (by omega) (fun h9 => ?_) (fun h9 => absurd h9 (by omega))
          refine ws_iconst 100 rfl rfl kc_i5 ?_
          refine ws_iload_3 101 rfl rfl ?_
          refine ws_isub 102 rfl rfl (pk_sub (by omega)) ?_
          refine ws_aload_0 103 rfl rfl ?_
          refine ws_getfr 106 rfl rfl rfl rfl rfl ?_
          refine ws_bipush 108 rfl rfl kc_b6 ?_
          refine ws_iload_1 109 rfl rfl ?_
          refine ws_imul 110 rfl rfl (pk_mul _ _) ?_
          refine ws_iconst 111 rfl rfl kc_i2 ?_
          refine ws_iadd 112 rfl rfl (nI_add _ _) ?_
          refine ws_ialdn 113 rfl rfl rfl (by omega) (by omega) hr ?_
          refine ws_isub 114 rfl rfl (pk_sub (by omega)) ?_
          refine ws_istore_4 116 rfl rfl rfl rfl ?_
          refine ws_aload_0 117 rfl rfl ?_
          refine ws_iload_4 119 rfl rfl ?_
          refine ws_if_gen 126 122 rfl rfl rfl (by omega) (fun h9 => ?_) (fun h9 => absurd h9 (by omega))
          refine ws_iload_4 128 rfl rfl ?_
          refine ws_aload_0 129 rfl rfl ?_
          refine ws_getfr 132 rfl rfl rfl rfl rfl ?_
          refine ws_bipush 134 rfl rfl kc_b6 ?_
          refine ws_iload_1 135 rfl rfl ?_
          refine ws_imul 136 rfl rfl (pk_mul _ _) ?_
          refine ws_ialdn 137 rfl rfl rfl (by omega) (by omega) e0 ?_
          refine ws_if_nen 158 140 rfl rfl rfl (by omega) (fun h9 => ?_) (fun h9 => absurd h9 (by omega))
          refine ws_iconst 159 rfl rfl kc_i4 ?_
          refine ws_iload_3 160 rfl rfl ?_
          refine ws_isub 161 rfl rfl (pk_sub (by omega)) ?_
          refine ws_invV2 164 rfl rfl rfl rfl (hgl _ (4 - g) e1.symm (by rw [e1]; unfold gnn; omega) (by omega)) rfl rfl rfl ?_
          rintro _ _ ⟨rfl, I2, rfl, hf2, h56'⟩
          exact step I2 _ hf2 h56'
  have zero : ∀ (m p : Nat) (I' : Nat → Nat → Int32), p + m = 32 → (∀ a, a ≠ 54 → a ≠ 56 → a ≠ 57 → I' a = I a) → (∀ p, p < 5 → I' 54 p = nI (dw A b p nb)) → (∀ u, u < p → I' 56 u = nI 0) → xW E 3 105 39 [some (.ref 42), some (.int (nI k)), some (.int (nI more)), some (.int (nI p)), none] [] (xS, I', L) 0 0 (fun r t => r = none ∧ ∃ I', t = (xS, I', L) ∧ (∀ a, a ≠ 54 → a ≠ 56 → a ≠ 57 → I' a = I a) ∧ ∀ u, u < 32 → I' 56 u = nI (pt A b k more (A 3 (k * 6 + 1)) u)) := by
    intro m
    induction m with
    | zero =>
      intro p I' hp hf h54 h56
      obtain rfl : p = 32 := by omega
      refine ws_iload_3 40 rfl rfl ?_
      refine ws_bipush 42 rfl rfl kc_b32 ?_
      refine ws_icmp_gen 58 45 rfl rfl rfl (by omega) (by omega) (fun h9 => ?_) (fun h9 => absurd h9 (by omega))
      refine ws_aload_0 59 rfl rfl ?_
      refine ws_getfr 62 rfl rfl rfl rfl rfl ?_
      refine ws_iconst 63 rfl rfl kc_i0 ?_
      refine ws_ldc 65 rfl rfl rfl (show (1000000 : Int32) = nI 1000000 by decide) ?_
      refine ws_iastn 66 rfl rfl rfl (by omega) (by omega) ?_
      refine ws_iconst 67 rfl rfl kc_i0 ?_
      refine ws_istore_3 68 rfl rfl rfl rfl ?_
      refine outer (A 3 (k * 6 + 1)) 0 _ _ (by omega) (fun a a1 a2 a3 => by rw [wI_ne a2]; exact hf a a1 a2 a3) h54 (fun u hu => ?_)
      show upd (I' 56) 0 _ u = nI (if u = 0 then 1000000 else 0)
      by_cases e : u = 0
      · rw [if_pos e, e, pk_us]
      · rw [if_neg e, pk_un e]; exact h56 u hu
    | succ m ih =>
      intro p I' hp hf h54 h56
      refine ws_iload_3 40 rfl rfl ?_
      refine ws_bipush 42 rfl rfl kc_b32 ?_
      refine ws_icmp_gen 58 45 rfl rfl rfl (by omega) (by omega) (fun h9 => absurd h9 (by omega)) (fun h9 => ?_)
      refine ws_aload_0 46 rfl rfl ?_
      refine ws_getfr 49 rfl rfl rfl rfl rfl ?_
      refine ws_iload_3 50 rfl rfl ?_
      refine ws_iconst 51 rfl rfl kc_i0 ?_
      refine ws_iastn 52 rfl rfl rfl (by omega) (by omega) ?_
      refine ws_iinc_3 55 rfl rfl (ki_1 _) rfl rfl ?_
      refine ws_goto 39 rfl rfl ?_
      exact ih (p + 1) _ (by omega) (fun a a1 a2 a3 => by rw [wI_ne a2]; exact hf a a1 a2 a3) h54 (fl (g := fun _ => nI 0) h56 rfl)
  have draws : ∀ (m p : Nat) (I' : Nat → Nat → Int32), p + m = 5 → (∀ a, a ≠ 54 → a ≠ 56 → a ≠ 57 → I' a = I a) → (∀ q, q < p → I' 54 q = nI (dw A b q nb)) → xW E 3 105 2 [some (.ref 42), some (.int (nI k)), some (.int (nI more)), some (.int (nI p)), none] [] (xS, I', L) 0 0 (fun r t => r = none ∧ ∃ I', t = (xS, I', L) ∧ (∀ a, a ≠ 54 → a ≠ 56 → a ≠ 57 → I' a = I a) ∧ ∀ u, u < 32 → I' 56 u = nI (pt A b k more (A 3 (k * 6 + 1)) u)) := by
    intro m
    induction m with
    | zero =>
      intro p I' hp hf h54
      obtain rfl : p = 5 := by omega
      refine ws_iload_3 3 rfl rfl ?_
      refine ws_iconst 4 rfl rfl kc_i5 ?_
      refine ws_icmp_gen 37 7 rfl rfl rfl (by omega) (by omega) (fun h9 => ?_) (fun h9 => absurd h9 (by omega))
      refine ws_iconst 38 rfl rfl kc_i0 ?_
      refine ws_istore_3 39 rfl rfl rfl rfl ?_
      exact zero 32 0 I' rfl hf h54 (fun _ h => by omega)
    | succ m ih =>
      intro p I' hp hf h54
      have hd := m_drawsOf (E := E) (L := L) (I := I') (A := A) (b := b) p nb (by omega) (by omega) (fun j hj => by rw [hf 43 (by decide) (by decide) (by decide)]; exact hTh j hj) (fun j hj => by rw [hf 44 (by decide) (by decide) (by decide)]; exact hLi j hj) h1 h2 h3 hb (fun j hj => by rw [hf 53 (by decide) (by decide) (by decide)]; exact hat j hj)
      rw [hnb] at hd
      have h47 := hf 47 (by decide) (by decide) (by decide)
      refine ws_iload_3 3 rfl rfl ?_
      refine ws_iconst 4 rfl rfl kc_i5 ?_
      refine ws_icmp_gen 37 7 rfl rfl rfl (by omega) (by omega) (fun h9 => absurd h9 (by omega)) (fun h9 => ?_)
      refine ws_aload_0 8 rfl rfl ?_
      refine ws_getfr 11 rfl rfl rfl rfl rfl ?_
      refine ws_iload_3 12 rfl rfl ?_
      refine ws_aload_0 13 rfl rfl ?_
      refine ws_iload_3 14 rfl rfl ?_
      refine ws_aload_0 15 rfl rfl ?_
      refine ws_getfr 18 rfl rfl rfl rfl rfl ?_
      refine ws_bipush 20 rfl rfl kc_b6 ?_
      refine ws_iload_1 21 rfl rfl ?_
      refine ws_imul 22 rfl rfl (pk_mul _ _) ?_
      refine ws_iconst 23 rfl rfl kc_i3 ?_
      refine ws_iadd 24 rfl rfl (nI_add _ _) ?_
      refine ws_ialdn 25 rfl rfl rfl (by omega) (by omega) (hkd I' h47 3 (by omega)) ?_
      refine ws_iload_2 26 rfl rfl ?_
      refine ws_iadd 27 rfl rfl (nI_add _ _) ?_
      refine ws_invV2p 30 rfl rfl rfl rfl (hd) rfl rfl rfl ?_
      refine ws_iastn 31 rfl rfl rfl (by omega) (by omega) ?_
      refine ws_iinc_3 34 rfl rfl (ki_1 _) rfl rfl ?_
      refine ws_goto 2 rfl rfl ?_
      exact ih (p + 1) _ (by omega) (fun a a1 a2 a3 => by rw [wI_ne a1]; exact hf a a1 a2 a3) (fl h54 (by rw [hnb]))
  refine ws_iconst 1 rfl rfl kc_i0 ?_
  refine ws_istore_3 2 rfl rfl rfl rfl ?_
  exact draws 5 0 I rfl (fun _ _ _ _ => rfl) (fun _ h => by omega)
theorem m_layDeeds (k more : Nat) (hk : k < 4) (hm : more ≤ 9) (hTh : ∀ j, j < 15 → I 43 j = nI (A 0 j)) (hLi : ∀ j, j < 5 → I 44 j = nI (A 1 j)) (hKi : ∀ j, j < 24 → I 47 j = nI (A 3 j)) (hOt : I 42 8 = nI (A 6 0)) (h58 : ∀ j, j < 12 → I 58 j = nI (G0 j)) (h59 : ∀ j, j < 12 → I 59 j = nI (G1 j)) (hG0 : ∀ j, j < 10 → G0 j = F j) (hG1 : ∀ j, j < 10 → G1 j = F (10 + j)) (hok : okK A) (hF : ∀ j, j < 20 → F j ≤ 1000) (h1 : ∀ j, j < 5 → A 0 j ≤ 9) (h2 : ∀ j, j < 5 → A 1 j ≤ 9) (h3 : ∀ j, j < 15 → A 0 j ≤ 99) (ho : A 6 0 ≤ 99) (hb : ∀ p, p < 5 → b p ≤ 5) (hat : ∀ p, p < 5 → I 53 p = nI (b p)) :
    xC E 4 112 [.ref 42, .int (nI k), .int (nI more)] (xS, I, L) (fun r t => r = none ∧ ∃ I' L', t = (xS, I', L') ∧ (∀ a, a ≠ 54 → a ≠ 56 → a ≠ 57 → I' a = I a) ∧ (∀ a, a ≠ 42 → L' a = L a) ∧ L' 42 20 = lN (sg (soS A F (pt A b k more (A 3 (k * 6 + 1))) k) 0 32) ∧ L' 42 21 = lN (sg (coS A F (pt A b k more (A 3 (k * 6 + 1))) k) 0 32) ∧ L' 42 22 = lN (payF A F b more k)) := by
  refine xC.mk [some (.ref 42), some (.int (nI k)), some (.int (nI more)), none, none, none, none, none, none, none, none] rfl ?_
  obtain ⟨k0, k1, k2, k3, k4, k5⟩ := hok k hk
  refine ws_aload_0 1 rfl rfl ?_
  refine ws_iload_1 2 rfl rfl ?_
  refine ws_iload_2 3 rfl rfl ?_
  refine ws_invV2 6 rfl rfl rfl rfl (m_layParts k more hk hm hTh hLi hKi hok h1 h2 h3 hb hat) rfl rfl rfl ?_
  rintro _ _ ⟨rfl, I1, rfl, hf1, h56⟩
  obtain ⟨P, hP⟩ : ∃ P, P = pt A b k more (A 3 (k * 6 + 1)) := ⟨_, rfl⟩
  have hPl : ∀ u, u < 32 → P u ≤ 1000000 := fun u hu => by rw [hP]; exact pt_le hb (by omega) hu
  have hPp : ∀ u, u < 32 → 4 < pop 5 u → P u = 0 := fun u hu h => by rw [hP]; exact pt_pop hb _ (by omega) u hu (by omega)
  rw [← hP] at h56 ⊢
  rw [show payF A F b more k = sg (paS A F P k) 0 32 by rw [hP]; rfl]
  obtain ⟨w, hw⟩ : ∃ w, w = A 3 (k * 6 + 4) := ⟨_, rfl⟩
  have hw47 : I1 47 (6 * k + 4) = nI w := by rw [hf1 47 (by decide) (by decide) (by decide), Nat.mul_comm 6 k, hw]; exact hKi _ (by omega)
  have loop : ∀ (m s : Nat) (L' : Nat → Nat → Int64) (z5 z6 z7 z8 z9 z10 : Option Value), s + m = 32 → xcat (z6.getD .null) = false → xcat (z8.getD .null) = false → (∀ a, a ≠ 42 → L' a = L a) → L' 42 20 = lN (sg (soS A F P k) 0 s) → L' 42 21 = lN (sg (coS A F P k) 0 s) → L' 42 22 = lN (sg (paS A F P k) 0 s) → xW E 4 112 36 [some (.ref 42), some (.int (nI k)), some (.int (nI more)), some (.int (nI w)), some (.int (nI s)), none, none, none, none, none, none] [] (xS, I1, L') 0 0 (fun r t => r = none ∧ ∃ I' L', t = (xS, I', L') ∧ (∀ a, a ≠ 54 → a ≠ 56 → a ≠ 57 → I' a = I a) ∧ (∀ a, a ≠ 42 → L' a = L a) ∧ L' 42 20 = lN (sg (soS A F P k) 0 32) ∧ L' 42 21 = lN (sg (coS A F P k) 0 32) ∧ L' 42 22 = lN (sg (paS A F P k) 0 32)) := by
    intro m
    induction m with
    | zero =>
      intro s L' z5 z6 z7 z8 z9 z10 hs z6c z8c hf l0 l1 l2
      obtain rfl : s = 32 := by omega
      refine ws_iload_4 38 rfl rfl ?_
      refine ws_bipush 40 rfl rfl kc_b32 ?_
      refine ws_icmp_gen 184 43 rfl rfl rfl (by omega) (by omega) (fun h9 => ?_) (fun h9 => absurd h9 (by omega))
      refine ws_vret rfl rfl rfl (Nat.le_of_ble_eq_true rfl) ?_
      exact ⟨rfl, I1, L', rfl, hf1, hf, l0, l1, l2⟩
    | succ m ih =>
      intro s L' z5 z6 z7 z8 z9 z10 hs z6c z8c hf l0 l1 l2
      have hs32 : s < 32 := by omega
      have h56s := h56 s hs32
      have hPs := hPl s hs32
      have es : ∀ f : Nat → Nat, sg f 0 (s + 1) = sg f 0 s + f s := fun f => by show _ + f (0 + s) = _; rw [Nat.zero_add]
      refine ws_iload_4 38 rfl rfl ?_
      refine ws_bipush 40 rfl rfl kc_b32 ?_
      refine ws_icmp_gen 184 43 rfl rfl rfl (by omega) (by omega) (fun h9 => absurd h9 (by omega)) (fun h9 => ?_)
      refine ws_aload_0 44 rfl rfl ?_
      refine ws_getfr 47 rfl rfl rfl rfl rfl ?_
      refine ws_iload_4 49 rfl rfl ?_
      refine ws_ialdn 50 rfl rfl rfl (by omega) (by omega) h56s ?_
      refine ws_if_len 178 53 rfl rfl rfl (by omega) (fun c1 => ?_) (fun c1 => ?_)
      · have h0 : P s = 0 := by omega
        obtain ⟨p1, p2, p3⟩ := paS_0 (A := A) (F := F) (k := k) h0
        refine ws_iinc_4 181 rfl rfl (ki_1 _) rfl rfl ?_
        refine ws_goto 36 rfl rfl ?_
        exact ih (s + 1) L' none none none none none none (by omega) rfl rfl hf (by rw [es, p1]; exact l0) (by rw [es, p2]; exact l1) (by rw [es, p3]; exact l2)
      · have hp4 : pop 5 s ≤ 4 := by
          rcases Nat.lt_or_ge 4 (pop 5 s) with h | h
          · have := hPp s hs32 h; omega
          · exact h
        have mid : ∀ (wv : Nat), wv = wn A k s → xW E 4 112 70 [some (.ref 42), some (.int (nI k)), some (.int (nI more)), some (.int (nI w)), some (.int (nI s)), some (.int (nI wv)), none, none, none, none, none] [] (xS, I1, L') 0 0 (fun r t => r = none ∧ ∃ I' L', t = (xS, I', L') ∧ (∀ a, a ≠ 54 → a ≠ 56 → a ≠ 57 → I' a = I a) ∧ (∀ a, a ≠ 42 → L' a = L a) ∧ L' 42 20 = lN (sg (soS A F P k) 0 32) ∧ L' 42 21 = lN (sg (coS A F P k) 0 32) ∧ L' 42 22 = lN (sg (paS A F P k) 0 32)) := by
          intro wv hwv
          have hwl := wn_lt A k s
          rw [← hwv] at hwl
          have hf0 := hF (0 * 10 + 2 * pop 5 s + wv) (by omega)
          have hf1' := hF (1 * 10 + 2 * pop 5 s + wv) (by omega)
          have g0 : I1 58 (2 * pop 5 s + wv) = nI (F (0 * 10 + 2 * pop 5 s + wv)) := by rw [hf1 58 (by decide) (by decide) (by decide), h58 _ (by omega), hG0 _ (by omega), Nat.zero_mul, Nat.zero_add]
          have g1 : I1 59 (2 * pop 5 s + wv) = nI (F (1 * 10 + 2 * pop 5 s + wv)) := by rw [hf1 59 (by decide) (by decide) (by decide), h59 _ (by omega), hG1 _ (by omega), Nat.one_mul, Nat.add_assoc]
          have so_e : P s * F (0 * 10 + 2 * pop 5 s + wv) / 1000 = soS A F P k s := by rw [hwv]; rfl
          have m0 : P s * F (0 * 10 + 2 * pop 5 s + wv) ≤ 1000000 * 1000 := Nat.mul_le_mul hPs hf0
          have so_l := soS_le (A := A) (P := P) (k := k) hF hp4
          have m1 : soS A F P k s * F (1 * 10 + 2 * pop 5 s + wv) ≤ 1000000 * 1000 := Nat.mul_le_mul (by omega) hf1'
          have co_e : soS A F P k s * F (1 * 10 + 2 * pop 5 s + wv) / 1000 = coS A F P k s := by rw [hwv]; rfl
          refine ws_iconst 71 rfl rfl kc_i2 ?_
          refine ws_iload_4 73 rfl rfl ?_
          refine ws_invS1p 76 rfl rfl rfl (p_bits s (by omega)) rfl rfl rfl ?_
          refine ws_imul 77 rfl rfl (pk_mul _ _) ?_
          refine ws_iload_5 79 rfl rfl ?_
          refine ws_iadd 80 rfl rfl (nI_add _ _) ?_
          refine ws_istore_6 82 rfl rfl rfl rfl ?_
          refine ws_aload_0 83 rfl rfl ?_
          refine ws_getfr 86 rfl rfl rfl rfl rfl ?_
          refine ws_iload_4 88 rfl rfl ?_
          refine ws_ialdn 89 rfl rfl rfl (by omega) (by omega) h56s ?_
          refine ws_i2l 90 rfl rfl (nI_l (by omega)) ?_
          refine ws_aload_0 91 rfl rfl ?_
          refine ws_getfr 94 rfl rfl rfl rfl rfl ?_
          refine ws_iload_6 96 rfl rfl ?_
          refine ws_ialdn 97 rfl rfl rfl (by omega) (by omega) g0 ?_
          refine ws_i2l 98 rfl rfl (nI_l (by omega)) ?_
          refine ws_lmul 99 rfl rfl (lN_mul _ _) ?_
          refine ws_ldc2 102 rfl rfl rfl (show (1000 : Int64) = lN 1000 from rfl) ?_
          refine ws_ldiv 103 rfl rfl (kn_lne0 (by omega) (by omega)) (pk_lDiv (by omega) (by omega) (by omega)) ?_
          rw [so_e]
          refine ws_lstore_7 105 rfl rfl rfl rfl ?_
          refine ws_lload_7 107 rfl rfl ?_
          refine ws_aload_0 108 rfl rfl ?_
          refine ws_getfr 111 rfl rfl rfl rfl rfl ?_
          refine ws_iload_6 113 rfl rfl ?_
          refine ws_ialdn 114 rfl rfl rfl (by omega) (by omega) g1 ?_
          refine ws_i2l 115 rfl rfl (nI_l (by omega)) ?_
          refine ws_lmul 116 rfl rfl (lN_mul _ _) ?_
          refine ws_ldc2 119 rfl rfl rfl (show (1000 : Int64) = lN 1000 from rfl) ?_
          refine ws_ldiv 120 rfl rfl (kn_lne0 (by omega) (by omega)) (pk_lDiv (by omega) (by omega) (by omega)) ?_
          rw [co_e]
          have j0 : ∀ x y z : Int64, wL (wL (wL L' 42 20 x) 42 21 y) 42 22 z 42 20 = x := fun _ _ _ => rfl
          have j1 : ∀ x y z : Int64, wL (wL (wL L' 42 20 x) 42 21 y) 42 22 z 42 21 = y := fun _ _ _ => rfl
          have j2 : ∀ x y z : Int64, wL (wL (wL L' 42 20 x) 42 21 y) 42 22 z 42 22 = z := fun _ _ _ => rfl
          have hfr : ∀ (x y z : Int64) (a : Nat), a ≠ 42 → wL (wL (wL L' 42 20 x) 42 21 y) 42 22 z a = L a := fun x y z a ha => by rw [wL_ne ha, wL_ne ha, wL_ne ha]; exact hf a ha
          have e1 : ∀ x : Int64, wL L' 42 20 x 42 21 = lN (sg (coS A F P k) 0 s) := fun _ => l1
          have e2 : ∀ x y : Int64, wL (wL L' 42 20 x) 42 21 y 42 22 = lN (sg (paS A F P k) 0 s) := fun _ _ => l2
          refine ws_lstore_9 122 rfl rfl rfl rfl ?_
          refine ws_aload_0 123 rfl rfl ?_
          refine ws_dup 124 rfl rfl rfl ?_
          refine ws_getfl 127 rfl rfl rfl rfl rfl l0 ?_
          refine ws_lload_7 129 rfl rfl ?_
          refine ws_ladd 130 rfl rfl (lN_add _ _) ?_
          refine ws_putfl 133 rfl rfl rfl rfl rfl rfl rfl rfl ?_
          refine ws_aload_0 134 rfl rfl ?_
          refine ws_dup 135 rfl rfl rfl ?_
          refine ws_getfl 138 rfl rfl rfl rfl rfl (e1 _) ?_
          refine ws_lload_9 140 rfl rfl ?_
          refine ws_ladd 141 rfl rfl (lN_add _ _) ?_
          refine ws_putfl 144 rfl rfl rfl rfl rfl rfl rfl rfl ?_
          refine ws_aload_0 145 rfl rfl ?_
          refine ws_dup 146 rfl rfl rfl ?_
          refine ws_getfl 149 rfl rfl rfl rfl rfl (e2 _ _) ?_
          refine ws_lload_9 151 rfl rfl ?_
          refine ws_iload_5 153 rfl rfl ?_
          refine ws_iconst 154 rfl rfl kc_i1 ?_
          refine ws_icmp_nen 168 157 rfl rfl rfl (by omega) (by omega) (fun c3 => ?_) (fun c3 => ?_)
          · have pe : paS A F P k s = coS A F P k s * A 6 0 := by unfold paS; rw [if_neg (by omega)]
            have hOt' : I1 42 8 = nI (A 6 0) := by rw [hf1 42 (by decide) (by decide) (by decide)]; exact hOt
            refine ws_aload_0 169 rfl rfl ?_
            refine ws_getfi 172 rfl rfl rfl rfl rfl hOt' ?_
            refine ws_i2l 173 rfl rfl (nI_l (by omega)) ?_
            refine ws_lmul 174 rfl rfl (lN_mul _ _) ?_
            refine ws_ladd 175 rfl rfl (lN_add _ _) ?_
            refine ws_putfl 178 rfl rfl rfl rfl rfl rfl rfl rfl ?_
            refine ws_forget 5 _ rfl ?_
            refine ws_forget 6 _ rfl ?_
            refine ws_forget 7 _ rfl ?_
            refine ws_forget 9 _ rfl ?_
            refine ws_iinc_4 181 rfl rfl (ki_1 _) rfl rfl ?_
            refine ws_goto 36 rfl rfl ?_
            exact ih (s + 1) _ none none none none none none (by omega) rfl rfl (hfr _ _ _) ((j0 _ _ _).trans (by rw [es])) ((j1 _ _ _).trans (by rw [es])) ((j2 _ _ _).trans (by rw [es, pe]))
          · have hb5 : w < 5 := by
              rcases Nat.lt_or_ge w 5 with h | h
              · exact h
              · rw [hwv] at c3; unfold wn at c3; rw [← hw, if_neg (by omega)] at c3; omega
            have pe : paS A F P k s = coS A F P k s * A 0 (5 + w) := by unfold paS; rw [if_pos (by omega), hw]
            have hTc : I1 43 (5 + w) = nI (A 0 (5 + w)) := by rw [hf1 43 (by decide) (by decide) (by decide)]; exact hTh _ (by omega)
            have hTl := h3 (5 + w) (by omega)
            refine ws_aload_0 158 rfl rfl ?_
            refine ws_getfr 161 rfl rfl rfl rfl rfl ?_
            refine ws_iconst 162 rfl rfl kc_i5 ?_
            refine ws_iload_3 163 rfl rfl ?_
            refine ws_iadd 164 rfl rfl (nI_add _ _) ?_
            refine ws_ialdn 165 rfl rfl rfl (by omega) (by omega) hTc ?_
            refine ws_goto 172 rfl rfl ?_
            refine ws_i2l 173 rfl rfl (nI_l (by omega)) ?_
            refine ws_lmul 174 rfl rfl (lN_mul _ _) ?_
            refine ws_ladd 175 rfl rfl (lN_add _ _) ?_
            refine ws_putfl 178 rfl rfl rfl rfl rfl rfl rfl rfl ?_
            refine ws_forget 5 _ rfl ?_
            refine ws_forget 6 _ rfl ?_
            refine ws_forget 7 _ rfl ?_
            refine ws_forget 9 _ rfl ?_
            refine ws_iinc_4 181 rfl rfl (ki_1 _) rfl rfl ?_
            refine ws_goto 36 rfl rfl ?_
            exact ih (s + 1) _ none none none none none none (by omega) rfl rfl (hfr _ _ _) ((j0 _ _ _).trans (by rw [es])) ((j1 _ _ _).trans (by rw [es])) ((j2 _ _ _).trans (by rw [es, pe]))
        rw [← hw] at k4
        refine ws_iload_3 54 rfl rfl ?_
        refine ws_iconst 55 rfl rfl kc_i5 ?_
        refine ws_icmp_gen 67 58 rfl rfl rfl (by omega) (by omega) (fun c4 => ?_) (fun c4 => ?_)
        · refine ws_iconst 68 rfl rfl kc_i0 ?_
          refine ws_istore_5 70 rfl rfl rfl rfl ?_
          exact mid _ (by unfold wn; rw [← hw, if_neg (by omega)])
        · have e : s / 2 ^ w &&& 1 = s / 2 ^ w % 2 := Nat.and_one_is_mod _
          refine ws_iload_4 60 rfl rfl ?_
          refine ws_iload_3 61 rfl rfl ?_
          refine ws_ishr 62 rfl rfl (kn_shr (by omega) (by omega)) ?_
          refine ws_iconst 63 rfl rfl kc_i1 ?_
          refine ws_iand 64 rfl rfl (kn_and _ _) ?_
          refine ws_goto 68 rfl rfl ?_
          rw [e]
          refine ws_istore_5 70 rfl rfl rfl rfl ?_
          exact mid _ (by unfold wn; rw [← hw, if_pos c4])
  refine ws_aload_0 7 rfl rfl ?_
  refine ws_getfr 10 rfl rfl rfl rfl rfl ?_
  refine ws_bipush 12 rfl rfl kc_b6 ?_
  refine ws_iload_1 13 rfl rfl ?_
  refine ws_imul 14 rfl rfl (pk_mul _ _) ?_
  refine ws_iconst 15 rfl rfl kc_i4 ?_
  refine ws_iadd 16 rfl rfl (nI_add _ _) ?_
  refine ws_ialdn 17 rfl rfl rfl (by omega) (by omega) hw47 ?_
  refine ws_istore_3 18 rfl rfl rfl rfl ?_
  refine ws_aload_0 19 rfl rfl ?_
  refine ws_lconst (v := lN 0) 20 rfl rfl rfl ?_
  refine ws_putfl 23 rfl rfl rfl rfl rfl rfl rfl rfl ?_
  refine ws_aload_0 24 rfl rfl ?_
  refine ws_lconst (v := lN 0) 25 rfl rfl rfl ?_
  refine ws_putfl 28 rfl rfl rfl rfl rfl rfl rfl rfl ?_
  refine ws_aload_0 29 rfl rfl ?_
  refine ws_lconst (v := lN 0) 30 rfl rfl rfl ?_
  refine ws_putfl 33 rfl rfl rfl rfl rfl rfl rfl rfl ?_
  refine ws_iconst 34 rfl rfl kc_i0 ?_
  refine ws_istore_4 36 rfl rfl rfl rfl ?_
  exact loop 32 0 _ none none none none none none rfl rfl rfl (fun a ha => by rw [wL_ne ha, wL_ne ha, wL_ne ha]) rfl rfl rfl
theorem m_weekOf (more : Nat) (hm : more ≤ 9) (hTh : ∀ j, j < 15 → I 43 j = nI (A 0 j)) (hLi : ∀ j, j < 5 → I 44 j = nI (A 1 j)) (hKi : ∀ j, j < 24 → I 47 j = nI (A 3 j)) (hOt : I 42 8 = nI (A 6 0)) (h58 : ∀ j, j < 12 → I 58 j = nI (G0 j)) (h59 : ∀ j, j < 12 → I 59 j = nI (G1 j)) (hG0 : ∀ j, j < 10 → G0 j = F j) (hG1 : ∀ j, j < 10 → G1 j = F (10 + j)) (hok : okK A) (hF : ∀ j, j < 20 → F j ≤ 1000) (h1 : ∀ j, j < 5 → A 0 j ≤ 9) (h2 : ∀ j, j < 5 → A 1 j ≤ 9) (h3 : ∀ j, j < 15 → A 0 j ≤ 99) (ho : A 6 0 ≤ 99) (hb : ∀ p, p < 5 → b p ≤ 5) (hat : ∀ p, p < 5 → I 53 p = nI (b p)) :
    xC E 5 114 [.ref 42, .int (nI more)] (xS, I, L) (fun r t => r = some (.int (nI (wkF A F b more))) ∧ ∃ I' L', t = (xS, I', L') ∧ (∀ a, a ≠ 54 → a ≠ 56 → a ≠ 57 → I' a = I a) ∧ (∀ a, a ≠ 42 → L' a = L a)) := by
  refine xC.mk [some (.ref 42), some (.int (nI more)), none, none, none] rfl ?_
  have loop : ∀ (m k : Nat) (I' : Nat → Nat → Int32) (L' : Nat → Nat → Int64), k + m = 4 → (∀ a, a ≠ 54 → a ≠ 56 → a ≠ 57 → I' a = I a) → (∀ a, a ≠ 42 → L' a = L a) → xW E 5 114 5 [some (.ref 42), some (.int (nI more)), some (.long (lN (sg (fun k => payF A F b more k * A 3 (k * 6 + 5)) 0 k))), none, some (.int (nI k))] [] (xS, I', L') 0 0 (fun r t => r = some (.int (nI (wkF A F b more))) ∧ ∃ I' L', t = (xS, I', L') ∧ (∀ a, a ≠ 54 → a ≠ 56 → a ≠ 57 → I' a = I a) ∧ (∀ a, a ≠ 42 → L' a = L a)) := by
    intro m
    induction m with
    | zero =>
      intro k I' L' hk hf hfl
      obtain rfl : k = 4 := by omega
      have hsl := wk_sum_le (more := more) hok hb hF h3 ho 4 (by omega)
      refine ws_iload_4 7 rfl rfl ?_
      refine ws_iconst 8 rfl rfl kc_i4 ?_
      refine ws_icmp_gen 60 11 rfl rfl rfl (by omega) (by omega) (fun h9 => ?_) (fun h9 => absurd h9 (by omega))
      refine ws_lload_2 61 rfl rfl ?_
      refine ws_ldc2 64 rfl rfl rfl (show (1000 : Int64) = lN 1000 from rfl) ?_
      refine ws_ldiv 65 rfl rfl (kn_lne0 (by omega) (by omega)) (pk_lDiv (by omega) (by omega) (by omega)) ?_
      refine ws_l2i 66 rfl rfl (lN_i _) ?_
      refine ws_iret rfl rfl rfl (Nat.le_of_ble_eq_true rfl) ?_
      exact ⟨rfl, I', L', rfl, hf, hfl⟩
    | succ m ih =>
      intro k I' L' hk hf hfl
      have hk4 : k < 4 := by omega
      obtain ⟨k0, k1, k2, k3, k4, k5⟩ := hok k hk4
      have es : sg (fun k => payF A F b more k * A 3 (k * 6 + 5)) 0 (k + 1) = sg (fun k => payF A F b more k * A 3 (k * 6 + 5)) 0 k + payF A F b more k * A 3 (k * 6 + 5) := by
        show _ + (fun k => payF A F b more k * A 3 (k * 6 + 5)) (0 + k) = _
        rw [Nat.zero_add]
      have h47 : ∀ (I2 : Nat → Nat → Int32), (∀ a, a ≠ 54 → a ≠ 56 → a ≠ 57 → I2 a = I a) → I2 47 (6 * k + 5) = nI (A 3 (k * 6 + 5)) := fun I2 h => by rw [h 47 (by decide) (by decide) (by decide), Nat.mul_comm 6 k]; exact hKi _ (by omega)
      refine ws_iload_4 7 rfl rfl ?_
      refine ws_iconst 8 rfl rfl kc_i4 ?_
      refine ws_icmp_gen 60 11 rfl rfl rfl (by omega) (by omega) (fun h9 => absurd h9 (by omega)) (fun h9 => ?_)
      refine ws_aload_0 12 rfl rfl ?_
      refine ws_getfr 15 rfl rfl rfl rfl rfl ?_
      refine ws_bipush 17 rfl rfl kc_b6 ?_
      refine ws_iload_4 19 rfl rfl ?_
      refine ws_imul 20 rfl rfl (pk_mul _ _) ?_
      refine ws_iconst 21 rfl rfl kc_i5 ?_
      refine ws_iadd 22 rfl rfl (nI_add _ _) ?_
      refine ws_ialdn 23 rfl rfl rfl (by omega) (by omega) (h47 I' hf) ?_
      refine ws_if_len 54 26 rfl rfl rfl (by omega) (fun c1 => ?_) (fun c1 => ?_)
      · have c0 : A 3 (k * 6 + 5) = 0 := by omega
        refine ws_iinc_4 57 rfl rfl (ki_1 _) rfl rfl ?_
        refine ws_goto 5 rfl rfl ?_
        have := ih (k + 1) I' L' (by omega) hf hfl; rw [es, c0, Nat.mul_zero, Nat.add_zero] at this; exact this
      · refine ws_aload_0 27 rfl rfl ?_
        refine ws_iload_4 29 rfl rfl ?_
        refine ws_iload_1 30 rfl rfl ?_
        refine ws_invV2 33 rfl rfl rfl rfl (m_layDeeds k more hk4 hm (fun j hj => by rw [hf 43 (by decide) (by decide) (by decide)]; exact hTh j hj) (fun j hj => by rw [hf 44 (by decide) (by decide) (by decide)]; exact hLi j hj) (fun j hj => by rw [hf 47 (by decide) (by decide) (by decide)]; exact hKi j hj) (by rw [hf 42 (by decide) (by decide) (by decide)]; exact hOt) (fun j hj => by rw [hf 58 (by decide) (by decide) (by decide)]; exact h58 j hj) (fun j hj => by rw [hf 59 (by decide) (by decide) (by decide)]; exact h59 j hj) hG0 hG1 hok hF h1 h2 h3 ho hb (fun j hj => by rw [hf 53 (by decide) (by decide) (by decide)]; exact hat j hj)) rfl rfl rfl ?_
        rintro _ _ ⟨rfl, I2, L2, rfl, hf2, hfl2, l0, l1, l2⟩
        have hf3 : ∀ a, a ≠ 54 → a ≠ 56 → a ≠ 57 → I2 a = I a := fun a a1 a2 a3 => by rw [hf2 a a1 a2 a3]; exact hf a a1 a2 a3
        refine ws_lload_2 34 rfl rfl ?_
        refine ws_aload_0 35 rfl rfl ?_
        refine ws_getfl 38 rfl rfl rfl rfl rfl l2 ?_
        refine ws_aload_0 39 rfl rfl ?_
        refine ws_getfr 42 rfl rfl rfl rfl rfl ?_
        refine ws_bipush 44 rfl rfl kc_b6 ?_
        refine ws_iload_4 46 rfl rfl ?_
        refine ws_imul 47 rfl rfl (pk_mul _ _) ?_
        refine ws_iconst 48 rfl rfl kc_i5 ?_
        refine ws_iadd 49 rfl rfl (nI_add _ _) ?_
        refine ws_ialdn 50 rfl rfl rfl (by omega) (by omega) (h47 I2 hf3) ?_
        refine ws_i2l 51 rfl rfl (nI_l (by omega)) ?_
        refine ws_lmul 52 rfl rfl (lN_mul _ _) ?_
        refine ws_ladd 53 rfl rfl (lN_add _ _) ?_
        refine ws_lstore_2 54 rfl rfl rfl rfl ?_
        refine ws_iinc_4 57 rfl rfl (ki_1 _) rfl rfl ?_
        refine ws_goto 5 rfl rfl ?_
        have := ih (k + 1) I2 L2 (by omega) hf3 (fun a ha => by rw [hfl2 a ha]; exact hfl a ha); rw [es] at this; exact this
  refine ws_lconst (v := lN 0) 1 rfl rfl rfl ?_
  refine ws_lstore_2 2 rfl rfl rfl rfl ?_
  refine ws_iconst 3 rfl rfl kc_i0 ?_
  refine ws_istore_4 5 rfl rfl rfl rfl ?_
  exact loop 4 0 I L rfl (fun _ _ _ _ => rfl) (fun _ _ => rfl)
end MWEEK
end
section
/-! ===== laws: what they come to ===== -/
theorem ws_tswn {E : xEx} {d mi pc : Nat} {lv : xLv} {st : List Value} {σ : xMem} {k q : Nat} {Q : Option Value → xMem → Prop} {dflt lo hi off : Int} {offs : Array Int} {len : Nat} (c j dt t : Nat) (hc : c < 2147483648) (hf : xft mi pc = some (.tableswitch dflt lo hi offs, len)) (hD : (pc : Int) + dflt = (dt : Int)) (hj : (c : Int) = lo + j) (hh : (c : Int) ≤ hi) (ho : offs[j]? = some off) (ht : (pc : Int) + off = (t : Int)) (kk : xW E d mi t lv st σ k q Q) : xW E d mi pc lv (.int (nI c) :: st) σ k q Q := by
  refine ws_tsw dt hf hD (fun h => ?_) (fun i hi1 hi2 => ?_)
  · exfalso
    rw [nI_toInt hc] at h
    omega
  · rw [nI_toInt hc] at hi1
    have : i = j := by omega
    subst this
    exact ⟨off, t, ho, ht, kk⟩
theorem ws_tswd {E : xEx} {d mi pc : Nat} {lv : xLv} {st : List Value} {σ : xMem} {k q : Nat} {Q : Option Value → xMem → Prop} {x : Int32} {dflt lo hi : Int} {offs : Array Int} {len : Nat} (dt : Nat) (hf : xft mi pc = some (.tableswitch dflt lo hi offs, len)) (hD : (pc : Int) + dflt = (dt : Int)) (hx : x.toInt < lo ∨ hi < x.toInt) (kk : xW E d mi dt lv st σ k q Q) : xW E d mi pc lv (.int x :: st) σ k q Q := by
  refine ws_tsw dt hf hD (fun _ => kk) (fun i hi1 hi2 => ?_)
  exfalso
  omega
theorem al_13 {c : Nat} (h : al c = true) : c = 115 ∨ c = 119 ∨ c = 104 ∨ (48 ≤ c ∧ c ≤ 57) := by
  simp only [al, Bool.or_eq_true, Bool.and_eq_true, decide_eq_true_eq] at h
  omega
theorem jn_4 {c : Nat} (h : jn c = true) : c = 43 ∨ c = 45 ∨ c = 42 ∨ c = 109 := by
  simp only [jn, Bool.or_eq_true, decide_eq_true_eq] at h
  omega
theorem p_alone (c s w : Nat) (hc : al c = true) (hs : s < 1000) (hw : w < 1000) : xP 1 13 [.int (nI c), .int (nI s), .int (nI w)] (.long (lN (av c s w))) := by
  intro E σ
  refine xC.mk [some (.int (nI c)), some (.int (nI s)), some (.int (nI w))] rfl ?_
  refine ws_iload_0 1 rfl rfl ?_
  rcases al_13 hc with rfl | rfl | rfl | ⟨h1, h2⟩
  · refine ws_lsw (off := 35) 36 rfl (by decide) (by decide) rfl ?_
    refine ws_iload_1 37 rfl rfl ?_
    refine ws_i2l 38 rfl rfl (nI_l (by omega)) ?_
    refine ws_lret rfl rfl rfl (Nat.le_of_ble_eq_true rfl) ?_
    exact ⟨rfl, rfl⟩
  · refine ws_lsw (off := 38) 39 rfl (by decide) (by decide) rfl ?_
    refine ws_iload_2 40 rfl rfl ?_
    refine ws_i2l 41 rfl rfl (nI_l (by omega)) ?_
    refine ws_lret rfl rfl rfl (Nat.le_of_ble_eq_true rfl) ?_
    exact ⟨rfl, rfl⟩
  · refine ws_lsw (off := 41) 42 rfl (by decide) (by decide) rfl ?_
    refine ws_ldc2 45 rfl rfl rfl (show (100 : Int64) = lN 100 from rfl) ?_
    refine ws_lret rfl rfl rfl (Nat.le_of_ble_eq_true rfl) ?_
    exact ⟨rfl, rfl⟩
  · have e : av c s w = c - 48 := by unfold av; rw [if_neg (by omega), if_neg (by omega), if_neg (by omega)]
    rw [e]
    have hd : c = 48 ∨ c = 49 ∨ c = 50 ∨ c = 51 ∨ c = 52 ∨ c = 53 ∨ c = 54 ∨ c = 55 ∨ c = 56 ∨ c = 57 := by omega
    refine ws_lsw (off := 45) 46 rfl (by decide) ?_ rfl ?_
    · rcases hd with rfl | rfl | rfl | rfl | rfl | rfl | rfl | rfl | rfl | rfl <;> decide
    · refine ws_iload_0 47 rfl rfl ?_
      refine ws_bipush 49 rfl rfl kc_b48 ?_
      refine ws_isub 50 rfl rfl (pk_sub (by omega)) ?_
      refine ws_i2l 51 rfl rfl (nI_l (by omega)) ?_
      refine ws_lret rfl rfl rfl (Nat.le_of_ble_eq_true rfl) ?_
      exact ⟨rfl, rfl⟩
def jv (c : Nat) (x y : Int64) : Int64 := if c = 43 then x + y else if c = 45 then x - y else if c = 42 then x * y else mnL x y
theorem p_joined (c : Nat) (x y : Int64) (hc : jn c = true) : xP 2 14 [.int (nI c), .long x, .long y] (.long (jv c x y)) := by
  intro E σ
  refine xC.mk [some (.int (nI c)), some (.long x), none, some (.long y), none] rfl ?_
  refine ws_iload_0 1 rfl rfl ?_
  rcases jn_4 hc with rfl | rfl | rfl | rfl
  · refine ws_tswn 43 1 44 32 (by omega) rfl rfl rfl (by decide) rfl rfl ?_
    refine ws_lload_1 33 rfl rfl ?_
    refine ws_lload_3 34 rfl rfl ?_
    refine ws_ladd 35 rfl rfl rfl ?_
    refine ws_lret rfl rfl rfl (Nat.le_of_ble_eq_true rfl) ?_
    exact ⟨rfl, rfl⟩
  · refine ws_tswn 45 3 44 36 (by omega) rfl rfl rfl (by decide) rfl rfl ?_
    refine ws_lload_1 37 rfl rfl ?_
    refine ws_lload_3 38 rfl rfl ?_
    refine ws_lsub 39 rfl rfl rfl ?_
    refine ws_lret rfl rfl rfl (Nat.le_of_ble_eq_true rfl) ?_
    exact ⟨rfl, rfl⟩
  · refine ws_tswn 42 0 44 40 (by omega) rfl rfl rfl (by decide) rfl rfl ?_
    refine ws_lload_1 41 rfl rfl ?_
    refine ws_lload_3 42 rfl rfl ?_
    refine ws_lmul 43 rfl rfl rfl ?_
    refine ws_lret rfl rfl rfl (Nat.le_of_ble_eq_true rfl) ?_
    exact ⟨rfl, rfl⟩
  · refine ws_tswd 44 rfl rfl (by decide) ?_
    refine ws_lload_1 45 rfl rfl ?_
    refine ws_lload_3 46 rfl rfl ?_
    refine ws_invS2p 49 rfl rfl rfl (p_minL x y) rfl rfl rfl ?_
    refine ws_lret rfl rfl rfl (Nat.le_of_ble_eq_true rfl) ?_
    exact ⟨rfl, rfl⟩
/-- how many texts must still come -/
def due (t : Nat → Nat) : Nat → Nat
  | 0 => 1
  | i + 1 => bif jn (t i) then due t i + 1 else due t i - 1
/-- a text that stands as a law -/
def okL (t : Nat → Nat) (n : Nat) : Prop := (n ≤ 15 ∧ due t n = 0) ∧ ∀ i, i < n → (t i < 128 ∧ (al (t i) = true ∨ jn (t i) = true)) ∧ 0 < due t i
theorem okL_jn {t : Nat → Nat} {n i : Nat} (h : okL t n) (hi : i < n) (hj : jn (t i) = false) : al (t i) = true := by
  rcases (h.2 i hi).1.2 with q | q
  · exact q
  · rw [hj] at q; cases q
def ev1 (c s w : Nat) (l : List Int64) : List Int64 := bif jn c then (match l with | x :: y :: r => jv c x y :: r | l => l) else lN (av c s w) :: l
/-- the stack behind the last k signs -/
def evl (t : Nat → Nat) (n s w : Nat) : Nat → List Int64
  | 0 => []
  | k + 1 => ev1 (t (n - (k + 1))) s w (evl t n s w k)
theorem evl_len {t : Nat → Nat} {n : Nat} (s w : Nat) (h : okL t n) : ∀ k, k ≤ n → (evl t n s w k).length = due t (n - k)
  | 0, _ => by rw [Nat.sub_zero, h.1.2]; rfl
  | k + 1, hk => by
    have ih := evl_len s w h k (by omega)
    have hi : n - (k + 1) < n := by omega
    have e : n - k = n - (k + 1) + 1 := by omega
    have hd := (h.2 _ hi).2
    rw [e] at ih
    have e2 : due t (n - (k + 1) + 1) = (bif jn (t (n - (k + 1))) then due t (n - (k + 1)) + 1 else due t (n - (k + 1)) - 1) := rfl
    show (ev1 (t (n - (k + 1))) s w (evl t n s w k)).length = _
    unfold ev1
    cases hj : jn (t (n - (k + 1))) with
    | true =>
      rw [e2, hj] at ih
      show (match evl t n s w k with | x :: y :: r => jv _ x y :: r | l => l).length = _
      match hl : evl t n s w k with
      | [] => rw [hl] at ih; simp at ih
      | [x] => rw [hl] at ih; simp at ih; omega
      | x :: y :: r => rw [hl] at ih; simp at ih ⊢; omega
    | false =>
      rw [e2, hj] at ih
      show (_ :: evl t n s w k).length = _
      rw [List.length_cons, ih]
      show due t (n - (k + 1)) - 1 + 1 = _
      omega
theorem due_le (t : Nat → Nat) : ∀ i, due t i ≤ i + 1
  | 0 => Nat.le_refl 1
  | i + 1 => by
    have := due_le t i
    show (bif jn (t i) then due t i + 1 else due t i - 1) ≤ _
    cases jn (t i) with
    | true => show due t i + 1 ≤ _; omega
    | false => show due t i - 1 ≤ _; omega
theorem evl_le (t : Nat → Nat) (n s w : Nat) : ∀ k, (evl t n s w k).length ≤ k
  | 0 => Nat.le_refl 0
  | k + 1 => by
    have ih := evl_le t n s w k
    show (ev1 _ s w (evl t n s w k)).length ≤ _
    unfold ev1
    cases jn (t (n - (k + 1))) with
    | true =>
      show (match evl t n s w k with | x :: y :: r => jv _ x y :: r | l => l).length ≤ _
      match hl : evl t n s w k with
      | [] => rw [hl] at ih; simp at ih ⊢
      | [x] => rw [hl] at ih; simp at ih ⊢
      | x :: y :: r => rw [hl] at ih; simp at ih ⊢; omega
    | false => show (_ :: _).length ≤ _; rw [List.length_cons]; omega
/-- a row of longs holds a stack -/
def rel (V : Nat → Int64) (l : List Int64) : Prop := ∀ j x, l[j]? = some x → V (l.length - 1 - j) = x
theorem rel_nil (V : Nat → Int64) : rel V [] := fun j x h => by simp at h
theorem rel_push {V : Nat → Int64} {l : List Int64} {x : Int64} (h : rel V l) : rel (vp_updL V l.length x) (x :: l) := by
  intro j y hj
  cases j with
  | zero =>
    have : x = y := by simpa using hj
    rw [← this, List.length_cons, Nat.add_sub_cancel, Nat.sub_zero]
    exact pk_uLs
  | succ j =>
    have hj : l[j]? = some y := by simpa using hj
    have hl : j < l.length := (List.getElem?_eq_some_iff.mp hj).1
    have e : (x :: l).length - 1 - (j + 1) = l.length - 1 - j := by rw [List.length_cons]; omega
    rw [e, pk_uLn (by omega)]
    exact h j y hj
theorem rel_tail {V : Nat → Int64} {l : List Int64} {x : Int64} (h : rel V (x :: l)) : rel V l := by
  intro j y hj
  have hl : j < l.length := (List.getElem?_eq_some_iff.mp hj).1
  have := h (j + 1) y (by simpa using hj)
  rwa [show (x :: l).length - 1 - (j + 1) = l.length - 1 - j by rw [List.length_cons]; omega] at this
theorem rel_top {V : Nat → Int64} {l : List Int64} {x : Int64} (h : rel V (x :: l)) : V l.length = x := by
  have := h 0 x rfl
  rwa [List.length_cons, Nat.add_sub_cancel, Nat.sub_zero] at this
/-- what a law comes to, in thousandths -/
def clv (x : Int64) : Nat := if x < 0 then 0 else if 1000 < x then 1000 else x.toInt.toNat
theorem clv_le (x : Int64) : clv x ≤ 1000 := by
  unfold clv
  split
  · omega
  · split
    · omega
    · rename_i h
      have h2 : x.toInt ≤ 1000 := by
        have := Int64.not_lt.mp h
        rw [Int64.le_iff_toInt_le] at this
        exact this
      omega
theorem clv_in {x : Int64} (h1 : ¬ x < 0) (h2 : ¬ 1000 < x) : x.toInt32 = nI (clv x) := by
  obtain ⟨m, hm, rfl⟩ := pk_lOf h1
  have e : clv (lN m) = m := by
    unfold clv
    rw [if_neg h1, if_neg h2, pk_lT hm]
    rfl
  rw [e]
  exact lN_i m
theorem clv_lo {x : Int64} (h1 : x < 0) : clv x = 0 := if_pos h1
theorem clv_hi {x : Int64} (h1 : ¬ x < 0) (h2 : 1000 < x) : clv x = 1000 := by
  unfold clv
  rw [if_neg h1, if_pos h2]
theorem clv_mm (x : Int64) : (mxL (lN 0) (mnL (lN 1000) x)).toInt32 = nI (clv x) := by
  by_cases h1 : x < 0
  · rw [clv_lo h1]
    have h2 : x < lN 1000 := Int64.lt_trans h1 (by decide)
    unfold mnL
    rw [if_pos h2]
    unfold mxL
    rw [if_neg (fun q => absurd (Int64.lt_trans q h1) (by decide))]
    exact lN_i 0
  · by_cases h2 : (1000 : Int64) < x
    · rw [clv_hi h1 h2]
      unfold mnL
      rw [if_neg (show ¬ x < lN 1000 from fun q => absurd (Int64.lt_trans (show x < 1000 from q) h2) Int64.lt_irrefl)]
      decide
    · by_cases h3 : x = 1000
      · subst h3
        decide
      · have h4 : x < lN 1000 := by
          show x < 1000
          rw [Int64.lt_iff_toInt_lt] at h2 ⊢
          have : ¬ x.toInt = (1000 : Int64).toInt := fun q => h3 (Int64.toInt_inj.mp q)
          omega
        unfold mnL
        rw [if_pos h4]
        unfold mxL
        by_cases h5 : lN 0 < x
        · rw [if_pos h5]
          exact clv_in h1 h2
        · rw [if_neg h5]
          have h6 : x = 0 := by
            apply Int64.toInt_inj.mp
            rw [Int64.lt_iff_toInt_lt] at h1 h5
            have e0 : (lN 0).toInt = (0 : Int64).toInt := rfl
            rw [e0] at h5
            omega
          rw [h6]
          decide
def lwv (t : Nat → Nat) (n s w : Nat) : Nat := clv ((evl t n s w n).headD 0)
theorem mn_lt (x y : Int64) : (if x < y then x else y) = mnL x y := by
  unfold mnL
  by_cases h : x < y
  · rw [if_pos h, if_neg (fun q => absurd (Int64.lt_trans h q) (Int64.lt_irrefl))]
  · rw [if_neg h]
    by_cases h2 : y < x
    · rw [if_pos h2]
    · rw [if_neg h2]
      apply Int64.toInt_inj.mp
      rw [Int64.lt_iff_toInt_lt] at h h2
      omega
theorem evl_1 {t : Nat → Nat} {n k s w : Nat} (hj : jn (t (n - (k + 1))) = false) : evl t n s w (k + 1) = lN (av (t (n - (k + 1))) s w) :: evl t n s w k := by
  show ev1 _ s w _ = _
  unfold ev1
  rw [hj]
  rfl
theorem evl_2 {t : Nat → Nat} {n k s w : Nat} (h : okL t n) (hk : k < n) (hj : jn (t (n - (k + 1))) = true) : ∃ x y r, evl t n s w k = x :: y :: r ∧ evl t n s w (k + 1) = jv (t (n - (k + 1))) x y :: r := by
  have hl := evl_len s w h k (by omega)
  have e : n - k = n - (k + 1) + 1 := by omega
  rw [e] at hl
  have e2 : due t (n - (k + 1) + 1) = due t (n - (k + 1)) + 1 := by show (bif jn (t (n - (k + 1))) then _ else _) = _; rw [hj]; rfl
  have hd := (h.2 (n - (k + 1)) (by omega)).2
  rw [e2] at hl
  match hq : evl t n s w k with
  | [] => rw [hq] at hl; simp at hl
  | [x] => rw [hq] at hl; simp at hl; omega
  | x :: y :: r =>
    refine ⟨x, y, r, rfl, ?_⟩
    show ev1 _ s w _ = _
    unfold ev1
    rw [hj, hq]
    rfl
section LAWS
variable {E : xEx} {T : List xSh} {I : Nat → Nat → Int32} {L : Nat → Nat → Int64} {t : Nat → Nat} {n : Nat}
theorem c_comesTo (s w : Nat) (hs : s < 1000) (hw : w < 1000) (hok : okL t n) (hn : I 1 3 = nI n) (ht : ∀ i, i < n → I 2 i = nI (t i)) : xC E 3 10 [.ref 1, .int (nI s), .int (nI w)] (xC0 ++ T, I, L) (fun r u => r = some (.long ((evl t n s w n).headD 0)) ∧ ∃ L', u = (xC0 ++ T, I, L') ∧ ∀ a, a ≠ 4 → L' a = L a) := by
  refine xC.mk [some (.ref 1), some (.int (nI s)), some (.int (nI w)), none, none] rfl ?_
  have hn15 := hok.1.1
  have loop : ∀ (x k : Nat) (L' : Nat → Nat → Int64), x + k = n → (∀ a, a ≠ 4 → L' a = L a) → rel (L' 4) (evl t n s w k) → xW E 3 10 10 [some (.ref 1), some (.int (nI s)), some (.int (nI w)), some (.int (nI (evl t n s w k).length)), some (.int (lI x))] [] (xC0 ++ T, I, L') 0 0 (fun r u => r = some (.long ((evl t n s w n).headD 0)) ∧ ∃ L', u = (xC0 ++ T, I, L') ∧ ∀ a, a ≠ 4 → L' a = L a) := by
    intro x
    induction x with
    | zero =>
      intro k L' hk hf hr
      obtain rfl : k = n := by omega
      rw [lI_0]
      have hl := evl_len s w hok k (Nat.le_refl k)
      rw [Nat.sub_self] at hl
      have hl1 : (evl t k s w k).length = 1 := hl
      have hv : L' 4 0 = (evl t k s w k).headD 0 := by
        match hq : evl t k s w k with
        | [] => rw [hq] at hl1; simp at hl1
        | [x] => rw [hq] at hr; exact rel_top hr
        | x :: y :: r => rw [hq] at hl1; simp at hl1
      refine ws_iload_4 12 rfl rfl ?_
      refine ws_if_lt 98 15 rfl rfl rfl (fun h9 => ?_) (fun h9 => absurd h9 (by decide))
      refine ws_aload_0 99 rfl rfl ?_
      refine ws_getfr 102 rfl rfl rfl rfl rfl ?_
      refine ws_iconst 103 rfl rfl kc_i0 ?_
      refine ws_laldn 104 rfl rfl rfl (by omega) (by omega) hv ?_
      refine ws_lret rfl rfl rfl (Nat.le_of_ble_eq_true rfl) ?_
      exact ⟨rfl, L', rfl, hf⟩
    | succ x ih =>
      intro k L' hk hf hr
      rw [lI_s]
      have hx : n - (k + 1) = x := by omega
      have hxn : x < n := by omega
      have htx := ht x hxn
      have hc := (hok.2 x hxn).1.1
      have hlk := evl_le t n s w k
      cases hj : jn (t x) with
      | false =>
        have ha := okL_jn hok hxn hj
        have pj := p_joinsTwo (t x) (by omega)
        rw [hj] at pj
        have e1 := evl_1 (s := s) (w := w) (n := n) (k := k) (t := t) (by rw [hx]; exact hj)
        rw [hx] at e1
        have e2 : (evl t n s w (k + 1)).length = (evl t n s w k).length + 1 := by rw [e1]; rfl
        refine ws_iload_4 12 rfl rfl ?_
        refine ws_if_ltn 98 15 rfl rfl rfl (by omega) (fun h9 => absurd h9 (by omega)) (fun h9 => ?_)
        refine ws_aload_0 16 rfl rfl ?_
        refine ws_getfr 19 rfl rfl rfl rfl rfl ?_
        refine ws_iload_4 21 rfl rfl ?_
        refine ws_ialdn 22 rfl rfl rfl (by omega) (by omega) htx ?_
        refine ws_invS1p 25 rfl rfl rfl (pj) rfl rfl rfl ?_
        refine ws_if_neb 52 28 rfl rfl rfl (fun h9 => absurd h9 (by first | decide | simp_all)) (fun h9 => ?_)
        refine ws_aload_0 29 rfl rfl ?_
        refine ws_getfr 32 rfl rfl rfl rfl rfl ?_
        refine ws_iload_3 33 rfl rfl ?_
        refine ws_aload_0 34 rfl rfl ?_
        refine ws_getfr 37 rfl rfl rfl rfl rfl ?_
        refine ws_iload_4 39 rfl rfl ?_
        refine ws_ialdn 40 rfl rfl rfl (by omega) (by omega) htx ?_
        refine ws_iload_1 41 rfl rfl ?_
        refine ws_iload_2 42 rfl rfl ?_
        refine ws_invS3p 45 rfl rfl rfl (p_alone (t x) s w ha hs hw) rfl rfl rfl ?_
        refine ws_lastn 46 rfl rfl rfl (by omega) (by omega) ?_
        refine ws_iinc_3 49 rfl rfl (ki_1 _) rfl rfl ?_
        refine ws_goto 92 rfl rfl ?_
        refine ws_iinc_4 95 rfl rfl (li_dec _) rfl rfl ?_
        refine ws_goto 10 rfl rfl ?_
        rw [← e2]; refine ih (k + 1) _ (by omega) (fun a ha => by rw [wL_ne ha]; exact hf a ha) ?_
        rw [e1]
        exact rel_push hr
      | true =>
        have pj := p_joinsTwo (t x) (by omega)
        rw [hj] at pj
        obtain ⟨a, b, r, e1, e2⟩ := evl_2 (s := s) (w := w) hok (show k < n by omega) (by rw [hx]; exact hj)
        rw [hx] at e2
        have e3 : (evl t n s w k).length = r.length + 2 := by rw [e1]; rfl
        have e4 : (evl t n s w (k + 1)).length = r.length + 1 := by rw [e2]; rfl
        rw [e1] at hr
        have v1 : L' 4 (r.length + 1) = a := rel_top hr
        have v2 : L' 4 r.length = b := rel_top (rel_tail hr)
        rw [e3]
        rw [e3] at hlk
        have e5 : r.length + 2 - 1 = r.length + 1 := by omega
        have e6 : r.length + 1 - 1 = r.length := by omega
        refine ws_iload_4 12 rfl rfl ?_
        refine ws_if_ltn 98 15 rfl rfl rfl (by omega) (fun h9 => absurd h9 (by omega)) (fun h9 => ?_)
        refine ws_aload_0 16 rfl rfl ?_
        refine ws_getfr 19 rfl rfl rfl rfl rfl ?_
        refine ws_iload_4 21 rfl rfl ?_
        refine ws_ialdn 22 rfl rfl rfl (by omega) (by omega) htx ?_
        refine ws_invS1p 25 rfl rfl rfl (pj) rfl rfl rfl ?_
        refine ws_if_neb 52 28 rfl rfl rfl (fun h9 => ?_) (fun h9 => absurd h9 (by first | decide | simp_all))
        refine ws_iload_3 53 rfl rfl ?_
        refine ws_iconst 54 rfl rfl kc_i2 ?_
        refine ws_icmp_ltn 92 57 rfl rfl rfl (by omega) (by omega) (fun h9 => absurd h9 (by omega)) (fun h9 => ?_)
        refine ws_iinc_3 60 rfl rfl (ki_m1 (by omega)) rfl rfl ?_
        rw [e5]
        refine ws_aload_0 61 rfl rfl ?_
        refine ws_getfr 64 rfl rfl rfl rfl rfl ?_
        refine ws_iload_3 65 rfl rfl ?_
        refine ws_iconst 66 rfl rfl kc_i1 ?_
        refine ws_isub 67 rfl rfl (pk_sub (by omega)) ?_
        rw [e6]
        refine ws_aload_0 68 rfl rfl ?_
        refine ws_getfr 71 rfl rfl rfl rfl rfl ?_
        refine ws_iload_4 73 rfl rfl ?_
        refine ws_ialdn 74 rfl rfl rfl (by omega) (by omega) htx ?_
        refine ws_aload_0 75 rfl rfl ?_
        refine ws_getfr 78 rfl rfl rfl rfl rfl ?_
        refine ws_iload_3 79 rfl rfl ?_
        refine ws_laldn 80 rfl rfl rfl (by omega) (by omega) v1 ?_
        refine ws_aload_0 81 rfl rfl ?_
        refine ws_getfr 84 rfl rfl rfl rfl rfl ?_
        refine ws_iload_3 85 rfl rfl ?_
        refine ws_iconst 86 rfl rfl kc_i1 ?_
        refine ws_isub 87 rfl rfl (pk_sub (by omega)) ?_
        rw [e6]
        refine ws_laldn 88 rfl rfl rfl (by omega) (by omega) v2 ?_
        refine ws_invS3p 91 rfl rfl rfl (p_joined (t x) a b hj) rfl rfl rfl ?_
        refine ws_lastn 92 rfl rfl rfl (by omega) (by omega) ?_
        refine ws_iinc_4 95 rfl rfl (li_dec _) rfl rfl ?_
        refine ws_goto 10 rfl rfl ?_
        rw [← e4]; refine ih (k + 1) _ (by omega) (fun a ha => by rw [wL_ne ha]; exact hf a ha) ?_
        rw [e2]
        exact rel_push (rel_tail (rel_tail hr))
  have e0 := li_sub n
  refine ws_iconst 1 rfl rfl kc_i0 ?_
  refine ws_istore_3 2 rfl rfl rfl rfl ?_
  refine ws_aload_0 3 rfl rfl ?_
  refine ws_getfi 6 rfl rfl rfl rfl rfl hn ?_
  refine ws_iconst 7 rfl rfl kc_i1 ?_
  refine ws_isub 8 rfl rfl e0 ?_
  refine ws_istore_4 10 rfl rfl rfl rfl ?_
  exact loop n 0 L (by omega) (fun _ _ => rfl) (rel_nil _)
theorem c_becomeLaw (wh : Nat) (hwh : wh < 2) (hok : okL t n) (hn : I 1 3 = nI n) (ht : ∀ i, i < n → I 2 i = nI (t i)) : xC E 4 9 [.ref 1, .ref 5, .int (nI wh)] (xC0 ++ T, I, L) (fun r u => r = none ∧ ∃ I' L', u = (xC0 ++ T, I', L') ∧ (∀ a, a ≠ 1 → a ≠ 10 → I' a = I a) ∧ I' 1 3 = nI 0 ∧ (∀ j, j < 10 → I' 10 (wh * 10 + j) = nI (lwv t n (j / 2) (j % 2))) ∧ (∀ j, ¬ (wh * 10 ≤ j ∧ j < wh * 10 + 10) → I' 10 j = I 10 j) ∧ ∀ a, a ≠ 4 → L' a = L a) := by
  refine xC.mk [some (.ref 1), some (.ref 5), some (.int (nI wh)), none, none, none] rfl ?_
  refine ws_iconst 1 rfl rfl kc_i0 ?_
  refine ws_istore_3 2 rfl rfl rfl rfl ?_
  have loop : ∀ (m k : Nat) (I' : Nat → Nat → Int32) (L' : Nat → Nat → Int64) (z : Option Value), k + m = 10 → (∀ a, a ≠ 10 → I' a = I a) → (∀ j, j < k → I' 10 (wh * 10 + j) = nI (lwv t n (j / 2) (j % 2))) → (∀ j, ¬ (wh * 10 ≤ j ∧ j < wh * 10 + 10) → I' 10 j = I 10 j) → (∀ a, a ≠ 4 → L' a = L a) → xW E 4 9 2 [some (.ref 1), some (.ref 5), some (.int (nI wh)), some (.int (nI k)), z, none] [] (xC0 ++ T, I', L') 0 0 (fun r u => r = none ∧ ∃ I' L', u = (xC0 ++ T, I', L') ∧ (∀ a, a ≠ 1 → a ≠ 10 → I' a = I a) ∧ I' 1 3 = nI 0 ∧ (∀ j, j < 10 → I' 10 (wh * 10 + j) = nI (lwv t n (j / 2) (j % 2))) ∧ (∀ j, ¬ (wh * 10 ≤ j ∧ j < wh * 10 + 10) → I' 10 j = I 10 j) ∧ ∀ a, a ≠ 4 → L' a = L a) := by
    intro m
    induction m with
    | zero =>
      intro k I' L' z hk hf hp hq hl
      obtain rfl : k = 10 := by omega
      refine ws_iload_3 3 rfl rfl ?_
      refine ws_bipush 5 rfl rfl kc_b10 ?_
      refine ws_icmp_gen 50 8 rfl rfl rfl (by omega) (by omega) (fun h9 => ?_) (fun h9 => absurd h9 (by omega))
      refine ws_aload_0 51 rfl rfl ?_
      refine ws_iconst 52 rfl rfl kc_i0 ?_
      refine ws_putfi 55 rfl rfl rfl rfl rfl rfl rfl rfl ?_
      refine ws_vret rfl rfl rfl (Nat.le_of_ble_eq_true rfl) ?_
      exact ⟨rfl, _, L', rfl, fun a a1 a2 => by rw [wI_ne a1]; exact hf a a2, rfl, hp, hq, hl⟩
    | succ m ih =>
      intro k I' L' z hk hf hp hq hl
      refine ws_iload_3 3 rfl rfl ?_
      refine ws_bipush 5 rfl rfl kc_b10 ?_
      refine ws_icmp_gen 50 8 rfl rfl rfl (by omega) (by omega) (fun h9 => absurd h9 (by omega)) (fun h9 => ?_)
      refine ws_aload_0 9 rfl rfl ?_
      refine ws_iload_3 10 rfl rfl ?_
      refine ws_iconst 11 rfl rfl kc_i2 ?_
      refine ws_idiv 12 rfl rfl (kn_ne0 (by omega) (by omega)) (pk_div (by omega) (by omega) (by omega)) ?_
      refine ws_iload_3 13 rfl rfl ?_
      refine ws_iconst 14 rfl rfl kc_i2 ?_
      refine ws_irem 15 rfl rfl (kn_ne0 (by omega) (by omega)) (pk_rem (by omega) (by omega) (by omega)) ?_
      refine ws_invV2 18 rfl rfl rfl rfl (c_comesTo (k / 2) (k % 2) (by omega) (by omega) hok (by rw [hf 1 (by decide)]; exact hn) (fun i hi => by rw [hf 2 (by decide)]; exact ht i hi)) rfl rfl rfl ?_
      rintro _ _ ⟨rfl, L2, rfl, hl2⟩
      refine ws_lstore_4 20 rfl rfl rfl rfl ?_
      refine ws_aload_1 21 rfl rfl ?_
      refine ws_getfr 24 rfl rfl rfl rfl rfl ?_
      refine ws_iload_2 25 rfl rfl ?_
      refine ws_bipush 27 rfl rfl kc_b10 ?_
      refine ws_imul 28 rfl rfl (pk_mul _ _) ?_
      refine ws_iload_3 29 rfl rfl ?_
      refine ws_iadd 30 rfl rfl (nI_add _ _) ?_
      refine ws_lconst (v := lN 0) 31 rfl rfl rfl ?_
      refine ws_ldc2 34 rfl rfl rfl (show (1000 : Int64) = lN 1000 from rfl) ?_
      refine ws_lload_4 36 rfl rfl ?_
      refine ws_invS2p 39 rfl rfl rfl (p_minL _ _) rfl rfl rfl ?_
      refine ws_invS2p 42 rfl rfl rfl (p_maxL _ _) rfl rfl rfl ?_
      refine ws_l2i 43 rfl rfl (clv_mm _) ?_
      refine ws_iastn 44 rfl rfl rfl (by omega) (by omega) ?_
      refine ws_iinc_3 47 rfl rfl (ki_1 _) rfl rfl ?_
      refine ws_goto 2 rfl rfl ?_
      refine ih (k + 1) _ _ _ (by omega) (fun a ha => by rw [wI_ne ha]; exact hf a ha) (fun j hj => ?_) (fun j hj => ?_) (fun a ha => by rw [hl2 a ha]; exact hl a ha)
      · show upd (I' 10) (wh * 10 + k) _ (wh * 10 + j) = _
        by_cases e : j = k
        · rw [e, pk_us]; rfl
        · rw [pk_un (by omega)]; exact hp j (by omega)
      · show upd (I' 10) (wh * 10 + k) _ j = _
        rw [pk_un (by omega)]
        exact hq j hj
  exact loop 10 0 I L _ rfl (fun _ _ => rfl) (fun _ h => by omega) (fun _ _ => rfl) (fun _ _ => rfl)
theorem m_saysOf (wh s w : Nat) (hwh : wh < 2) (hs : s < 1000) (hw : w < 1000) (hok : okL t n) (hn : I 48 wh = nI n) (ht : ∀ i, i < n → I 49 (15 * wh + i) = nI (t i)) : xC E 3 103 [.ref 42, .int (nI wh), .int (nI s), .int (nI w)] (xS, I, L) (fun r u => r = some (.int (nI (lwv t n s w))) ∧ ∃ L', u = (xS, I, L') ∧ ∀ a, a ≠ 55 → L' a = L a) := by
  refine xC.mk [some (.ref 42), some (.int (nI wh)), some (.int (nI s)), some (.int (nI w)), none, none, none, none, none, none, none] rfl ?_
  have hn15 := hok.1.1
  have loop : ∀ (x k : Nat) (L' : Nat → Nat → Int64), x + k = n → (∀ a, a ≠ 55 → L' a = L a) → rel (L' 55) (evl t n s w k) → xW E 3 103 18 [some (.ref 42), some (.int (nI wh)), some (.int (nI s)), some (.int (nI w)), some (.int (nI (evl t n s w k).length)), some (.int (lI (15 * wh + x))), none, none, none, none, none] [] (xS, I, L') 0 0 (fun r u => r = some (.int (nI (lwv t n s w))) ∧ ∃ L', u = (xS, I, L') ∧ ∀ a, a ≠ 55 → L' a = L a) := by
    intro x
    induction x with
    | zero =>
      intro k L' hk hf hr
      obtain rfl : k = n := by omega
      have hl := evl_len s w hok k (Nat.le_refl k)
      rw [Nat.sub_self] at hl
      have hl1 : (evl t k s w k).length = 1 := hl
      have hv : L' 55 0 = (evl t k s w k).headD 0 := by
        match hq : evl t k s w k with
        | [] => rw [hq] at hl1; simp at hl1
        | [x] => rw [hq] at hr; exact rel_top hr
        | x :: y :: r => rw [hq] at hl1; simp at hl1
      have hlt : lI (15 * wh + 0) < nI (15 * wh) := by
        rcases (show wh = 0 ∨ wh = 1 by omega) with rfl | rfl <;> decide
      obtain ⟨X, hX⟩ : ∃ X, X = (evl t k s w k).headD 0 := ⟨_, rfl⟩
      rw [← hX] at hv
      have hlw : lwv t k s w = clv X := by rw [hX]; rfl
      rw [hlw]
      refine ws_iload_5 20 rfl rfl ?_
      refine ws_bipush 22 rfl rfl kc_b15 ?_
      refine ws_iload_1 23 rfl rfl ?_
      refine ws_imul 24 rfl rfl (pk_mul _ _) ?_
      refine ws_icmp_lt 200 27 rfl rfl rfl (fun h9 => ?_) (fun h9 => absurd h9 (fun q => q hlt))
      refine ws_aload_0 201 rfl rfl ?_
      refine ws_getfr 204 rfl rfl rfl rfl rfl ?_
      refine ws_iconst 205 rfl rfl kc_i0 ?_
      refine ws_laldn 206 rfl rfl rfl (by omega) (by omega) hv ?_
      refine ws_lconst (v := lN 0) 207 rfl rfl rfl ?_
      refine ws_lcmp 208 rfl rfl ?_
      refine ws_lc_ge 215 211 rfl rfl rfl (fun c1 => ?_) (fun c1 => ?_)
      · refine ws_aload_0 216 rfl rfl ?_
        refine ws_getfr 219 rfl rfl rfl rfl rfl ?_
        refine ws_iconst 220 rfl rfl kc_i0 ?_
        refine ws_laldn 221 rfl rfl rfl (by omega) (by omega) hv ?_
        refine ws_ldc2 224 rfl rfl rfl (show (1000 : Int64) = lN 1000 from rfl) ?_
        refine ws_lcmp 225 rfl rfl ?_
        refine ws_lc_le 234 228 rfl rfl rfl (fun c2 => ?_) (fun c2 => ?_)
        · have d1 : ¬ X < 0 := Int64.not_lt.mpr c1
          have d2 : ¬ (1000 : Int64) < X := Int64.not_lt.mpr c2
          refine ws_aload_0 235 rfl rfl ?_
          refine ws_getfr 238 rfl rfl rfl rfl rfl ?_
          refine ws_iconst 239 rfl rfl kc_i0 ?_
          refine ws_laldn 240 rfl rfl rfl (by omega) (by omega) hv ?_
          refine ws_l2i 241 rfl rfl (clv_in d1 d2) ?_
          refine ws_iret rfl rfl rfl (Nat.le_of_ble_eq_true rfl) ?_
          exact ⟨rfl, L', rfl, hf⟩
        · have d1 : ¬ X < 0 := Int64.not_lt.mpr c1
          have d2 : (1000 : Int64) < X := Int64.not_le.mp c2
          rw [clv_hi d1 d2]
          refine ws_sipush 231 rfl rfl kc_s1000 ?_
          refine ws_goto 241 rfl rfl ?_
          refine ws_iret rfl rfl rfl (Nat.le_of_ble_eq_true rfl) ?_
          exact ⟨rfl, L', rfl, hf⟩
      · have d1 : X < 0 := Int64.not_le.mp c1
        rw [clv_lo d1]
        refine ws_iconst 212 rfl rfl kc_i0 ?_
        refine ws_goto 241 rfl rfl ?_
        refine ws_iret rfl rfl rfl (Nat.le_of_ble_eq_true rfl) ?_
        exact ⟨rfl, L', rfl, hf⟩
    | succ x ih =>
      intro k L' hk hf hr
      rw [show 15 * wh + (x + 1) = 15 * wh + x + 1 from rfl, lI_s]
      have hx : n - (k + 1) = x := by omega
      have hxn : x < n := by omega
      have htx := ht x hxn
      have hc := (hok.2 x hxn).1.1
      have hlk := evl_le t n s w k
      have pp := p_partsOf (t x) (by omega)
      cases hj : jn (t x) with
      | false =>
        have ha := okL_jn hok hxn hj
        rw [ha] at pp
        have e1 := evl_1 (s := s) (w := w) (n := n) (k := k) (t := t) (by rw [hx]; exact hj)
        rw [hx] at e1
        have e2 : (evl t n s w (k + 1)).length = (evl t n s w k).length + 1 := by rw [e1]; rfl
        have fin : ∀ y : Nat, y = av (t x) s w → xW E 3 103 93 [some (.ref 42), some (.int (nI wh)), some (.int (nI s)), some (.int (nI w)), some (.int (nI (evl t n s w k).length)), some (.int (nI (15 * wh + x))), some (.int (nI (t x))), none, none, none, none] [.long (lN y), .int (nI (evl t n s w k).length), .ref 55] (xS, I, L') 0 0 (fun r u => r = some (.int (nI (lwv t n s w))) ∧ ∃ L', u = (xS, I, L') ∧ ∀ a, a ≠ 55 → L' a = L a) := by
          intro y hy
          refine ws_lastn 94 rfl rfl rfl (by omega) (by omega) ?_
          refine ws_iinc_4 97 rfl rfl (ki_1 _) rfl rfl ?_
          refine ws_goto 194 rfl rfl ?_
          refine ws_forget 6 _ rfl ?_
          refine ws_iinc_5 197 rfl rfl (li_dec _) rfl rfl ?_
          refine ws_goto 18 rfl rfl ?_
          rw [← e2]; refine ih (k + 1) _ (by omega) (fun a ha => by rw [wL_ne ha]; exact hf a ha) ?_
          rw [e1, ← hy]
          exact rel_push hr
        rcases al_13 ha with q | q | q | ⟨q1, q2⟩
        · refine ws_iload_5 20 rfl rfl ?_
          refine ws_bipush 22 rfl rfl kc_b15 ?_
          refine ws_iload_1 23 rfl rfl ?_
          refine ws_imul 24 rfl rfl (pk_mul _ _) ?_
          refine ws_icmp_ltn 200 27 rfl rfl rfl (by omega) (by omega) (fun h9 => absurd h9 (by omega)) (fun h9 => ?_)
          refine ws_aload_0 28 rfl rfl ?_
          refine ws_getfr 31 rfl rfl rfl rfl rfl ?_
          refine ws_iload_5 33 rfl rfl ?_
          refine ws_ialdn 34 rfl rfl rfl (by omega) (by omega) htx ?_
          refine ws_istore_6 36 rfl rfl rfl rfl ?_
          refine ws_iload_6 38 rfl rfl ?_
          refine ws_invS1p 41 rfl rfl rfl (pp) rfl rfl rfl ?_
          refine ws_if_nen 100 44 rfl rfl rfl (by omega) (fun h9 => absurd h9 (by omega)) (fun h9 => ?_)
          refine ws_aload_0 45 rfl rfl ?_
          refine ws_getfr 48 rfl rfl rfl rfl rfl ?_
          refine ws_iload_4 50 rfl rfl ?_
          refine ws_iload_6 52 rfl rfl ?_
          refine ws_bipush 54 rfl rfl kc_b115 ?_
          refine ws_icmp_nen 62 57 rfl rfl rfl (by omega) (by omega) (fun h9 => absurd h9 (by omega)) (fun h9 => ?_)
          refine ws_iload_2 58 rfl rfl ?_
          refine ws_i2l 59 rfl rfl (nI_l (by omega)) ?_
          refine ws_goto 93 rfl rfl ?_
          exact fin _ (by rw [q]; rfl)
        · refine ws_iload_5 20 rfl rfl ?_
          refine ws_bipush 22 rfl rfl kc_b15 ?_
          refine ws_iload_1 23 rfl rfl ?_
          refine ws_imul 24 rfl rfl (pk_mul _ _) ?_
          refine ws_icmp_ltn 200 27 rfl rfl rfl (by omega) (by omega) (fun h9 => absurd h9 (by omega)) (fun h9 => ?_)
          refine ws_aload_0 28 rfl rfl ?_
          refine ws_getfr 31 rfl rfl rfl rfl rfl ?_
          refine ws_iload_5 33 rfl rfl ?_
          refine ws_ialdn 34 rfl rfl rfl (by omega) (by omega) htx ?_
          refine ws_istore_6 36 rfl rfl rfl rfl ?_
          refine ws_iload_6 38 rfl rfl ?_
          refine ws_invS1p 41 rfl rfl rfl (pp) rfl rfl rfl ?_
          refine ws_if_nen 100 44 rfl rfl rfl (by omega) (fun h9 => absurd h9 (by omega)) (fun h9 => ?_)
          refine ws_aload_0 45 rfl rfl ?_
          refine ws_getfr 48 rfl rfl rfl rfl rfl ?_
          refine ws_iload_4 50 rfl rfl ?_
          refine ws_iload_6 52 rfl rfl ?_
          refine ws_bipush 54 rfl rfl kc_b115 ?_
          refine ws_icmp_nen 62 57 rfl rfl rfl (by omega) (by omega) (fun h9 => ?_) (fun h9 => absurd h9 (by omega))
          refine ws_iload_6 64 rfl rfl ?_
          refine ws_bipush 66 rfl rfl kc_b119 ?_
          refine ws_icmp_nen 74 69 rfl rfl rfl (by omega) (by omega) (fun h9 => absurd h9 (by omega)) (fun h9 => ?_)
          refine ws_iload_3 70 rfl rfl ?_
          refine ws_i2l 71 rfl rfl (nI_l (by omega)) ?_
          refine ws_goto 93 rfl rfl ?_
          exact fin _ (by rw [q]; rfl)
        · refine ws_iload_5 20 rfl rfl ?_
          refine ws_bipush 22 rfl rfl kc_b15 ?_
          refine ws_iload_1 23 rfl rfl ?_
          refine ws_imul 24 rfl rfl (pk_mul _ _) ?_
          refine ws_icmp_ltn 200 27 rfl rfl rfl (by omega) (by omega) (fun h9 => absurd h9 (by omega)) (fun h9 => ?_)
          refine ws_aload_0 28 rfl rfl ?_
          refine ws_getfr 31 rfl rfl rfl rfl rfl ?_
          refine ws_iload_5 33 rfl rfl ?_
          refine ws_ialdn 34 rfl rfl rfl (by omega) (by omega) htx ?_
          refine ws_istore_6 36 rfl rfl rfl rfl ?_
          refine ws_iload_6 38 rfl rfl ?_
          refine ws_invS1p 41 rfl rfl rfl (pp) rfl rfl rfl ?_
          refine ws_if_nen 100 44 rfl rfl rfl (by omega) (fun h9 => absurd h9 (by omega)) (fun h9 => ?_)
          refine ws_aload_0 45 rfl rfl ?_
          refine ws_getfr 48 rfl rfl rfl rfl rfl ?_
          refine ws_iload_4 50 rfl rfl ?_
          refine ws_iload_6 52 rfl rfl ?_
          refine ws_bipush 54 rfl rfl kc_b115 ?_
          refine ws_icmp_nen 62 57 rfl rfl rfl (by omega) (by omega) (fun h9 => ?_) (fun h9 => absurd h9 (by omega))
          refine ws_iload_6 64 rfl rfl ?_
          refine ws_bipush 66 rfl rfl kc_b119 ?_
          refine ws_icmp_nen 74 69 rfl rfl rfl (by omega) (by omega) (fun h9 => ?_) (fun h9 => absurd h9 (by omega))
          refine ws_iload_6 76 rfl rfl ?_
          refine ws_bipush 78 rfl rfl kc_b104 ?_
          refine ws_icmp_nen 87 81 rfl rfl rfl (by omega) (by omega) (fun h9 => absurd h9 (by omega)) (fun h9 => ?_)
          refine ws_ldc2 84 rfl rfl rfl (show (100 : Int64) = lN 100 from rfl) ?_
          refine ws_goto 93 rfl rfl ?_
          exact fin _ (by rw [q]; rfl)
        · refine ws_iload_5 20 rfl rfl ?_
          refine ws_bipush 22 rfl rfl kc_b15 ?_
          refine ws_iload_1 23 rfl rfl ?_
          refine ws_imul 24 rfl rfl (pk_mul _ _) ?_
          refine ws_icmp_ltn 200 27 rfl rfl rfl (by omega) (by omega) (fun h9 => absurd h9 (by omega)) (fun h9 => ?_)
          refine ws_aload_0 28 rfl rfl ?_
          refine ws_getfr 31 rfl rfl rfl rfl rfl ?_
          refine ws_iload_5 33 rfl rfl ?_
          refine ws_ialdn 34 rfl rfl rfl (by omega) (by omega) htx ?_
          refine ws_istore_6 36 rfl rfl rfl rfl ?_
          refine ws_iload_6 38 rfl rfl ?_
          refine ws_invS1p 41 rfl rfl rfl (pp) rfl rfl rfl ?_
          refine ws_if_nen 100 44 rfl rfl rfl (by omega) (fun h9 => absurd h9 (by omega)) (fun h9 => ?_)
          refine ws_aload_0 45 rfl rfl ?_
          refine ws_getfr 48 rfl rfl rfl rfl rfl ?_
          refine ws_iload_4 50 rfl rfl ?_
          refine ws_iload_6 52 rfl rfl ?_
          refine ws_bipush 54 rfl rfl kc_b115 ?_
          refine ws_icmp_nen 62 57 rfl rfl rfl (by omega) (by omega) (fun h9 => ?_) (fun h9 => absurd h9 (by omega))
          refine ws_iload_6 64 rfl rfl ?_
          refine ws_bipush 66 rfl rfl kc_b119 ?_
          refine ws_icmp_nen 74 69 rfl rfl rfl (by omega) (by omega) (fun h9 => ?_) (fun h9 => absurd h9 (by omega))
          refine ws_iload_6 76 rfl rfl ?_
          refine ws_bipush 78 rfl rfl kc_b104 ?_
          refine ws_icmp_nen 87 81 rfl rfl rfl (by omega) (by omega) (fun h9 => ?_) (fun h9 => absurd h9 (by omega))
          refine ws_iload_6 89 rfl rfl ?_
          refine ws_bipush 91 rfl rfl kc_b48 ?_
          refine ws_isub 92 rfl rfl (pk_sub (by omega)) ?_
          refine ws_i2l 93 rfl rfl (nI_l (by omega)) ?_
          exact fin _ (by unfold av; rw [if_neg (by omega), if_neg (by omega), if_neg (by omega)])
      | true =>
        rw [hj, jn_al hj] at pp
        obtain ⟨a, b, r, e1, e2⟩ := evl_2 (s := s) (w := w) hok (show k < n by omega) (by rw [hx]; exact hj)
        rw [hx] at e2
        have e3 : (evl t n s w k).length = r.length + 2 := by rw [e1]; rfl
        have e4 : (evl t n s w (k + 1)).length = r.length + 2 - 1 := by rw [e2]; rfl
        rw [e1] at hr
        have v1 : L' 55 (r.length + 2 - 1) = a := rel_top hr
        have v2 : L' 55 (r.length + 2 - 2) = b := rel_top (rel_tail hr)
        rw [e3]
        rw [e3] at hlk
        have fin : ∀ y : Int64, y = jv (t x) a b → xW E 3 103 190 [some (.ref 42), some (.int (nI wh)), some (.int (nI s)), some (.int (nI w)), some (.int (nI (r.length + 2))), some (.int (nI (15 * wh + x))), some (.int (nI (t x))), some (.long a), none, some (.long b), none] [.long y, .int (nI (r.length + 2 - 2)), .ref 55] (xS, I, L') 0 0 (fun r u => r = some (.int (nI (lwv t n s w))) ∧ ∃ L', u = (xS, I, L') ∧ ∀ a, a ≠ 55 → L' a = L a) := by
          intro y hy
          refine ws_lastn 191 rfl rfl rfl (by omega) (by omega) ?_
          refine ws_iinc_4 194 rfl rfl (ki_m1 (by omega)) rfl rfl ?_
          refine ws_forget 6 _ rfl ?_
          refine ws_forget 7 _ rfl ?_
          refine ws_forget 9 _ rfl ?_
          refine ws_iinc_5 197 rfl rfl (li_dec _) rfl rfl ?_
          refine ws_goto 18 rfl rfl ?_
          rw [← e4]; refine ih (k + 1) _ (by omega) (fun a ha => by rw [wL_ne ha]; exact hf a ha) ?_
          rw [e2, ← hy]
          exact rel_push (rel_tail (rel_tail hr))
        rcases jn_4 hj with q | q | q | q
        · refine ws_iload_5 20 rfl rfl ?_
          refine ws_bipush 22 rfl rfl kc_b15 ?_
          refine ws_iload_1 23 rfl rfl ?_
          refine ws_imul 24 rfl rfl (pk_mul _ _) ?_
          refine ws_icmp_ltn 200 27 rfl rfl rfl (by omega) (by omega) (fun h9 => absurd h9 (by omega)) (fun h9 => ?_)
          refine ws_aload_0 28 rfl rfl ?_
          refine ws_getfr 31 rfl rfl rfl rfl rfl ?_
          refine ws_iload_5 33 rfl rfl ?_
          refine ws_ialdn 34 rfl rfl rfl (by omega) (by omega) htx ?_
          refine ws_istore_6 36 rfl rfl rfl rfl ?_
          refine ws_iload_6 38 rfl rfl ?_
          refine ws_invS1p 41 rfl rfl rfl (pp) rfl rfl rfl ?_
          refine ws_if_nen 100 44 rfl rfl rfl (by omega) (fun h9 => ?_) (fun h9 => absurd h9 (by omega))
          refine ws_aload_0 101 rfl rfl ?_
          refine ws_getfr 104 rfl rfl rfl rfl rfl ?_
          refine ws_iload_4 106 rfl rfl ?_
          refine ws_iconst 107 rfl rfl kc_i1 ?_
          refine ws_isub 108 rfl rfl (pk_sub (by omega)) ?_
          refine ws_laldn 109 rfl rfl rfl (by omega) (by omega) v1 ?_
          refine ws_lstore_7 111 rfl rfl rfl rfl ?_
          refine ws_aload_0 112 rfl rfl ?_
          refine ws_getfr 115 rfl rfl rfl rfl rfl ?_
          refine ws_iload_4 117 rfl rfl ?_
          refine ws_iconst 118 rfl rfl kc_i2 ?_
          refine ws_isub 119 rfl rfl (pk_sub (by omega)) ?_
          refine ws_laldn 120 rfl rfl rfl (by omega) (by omega) v2 ?_
          refine ws_lstore_9 122 rfl rfl rfl rfl ?_
          refine ws_aload_0 123 rfl rfl ?_
          refine ws_getfr 126 rfl rfl rfl rfl rfl ?_
          refine ws_iload_4 128 rfl rfl ?_
          refine ws_iconst 129 rfl rfl kc_i2 ?_
          refine ws_isub 130 rfl rfl (pk_sub (by omega)) ?_
          refine ws_iload_6 132 rfl rfl ?_
          refine ws_bipush 134 rfl rfl kc_b43 ?_
          refine ws_icmp_nen 145 137 rfl rfl rfl (by omega) (by omega) (fun h9 => absurd h9 (by omega)) (fun h9 => ?_)
          refine ws_lload_7 139 rfl rfl ?_
          refine ws_lload_9 141 rfl rfl ?_
          refine ws_ladd 142 rfl rfl rfl ?_
          refine ws_goto 190 rfl rfl ?_
          exact fin _ (by rw [q]; rfl)
        · refine ws_iload_5 20 rfl rfl ?_
          refine ws_bipush 22 rfl rfl kc_b15 ?_
          refine ws_iload_1 23 rfl rfl ?_
          refine ws_imul 24 rfl rfl (pk_mul _ _) ?_
          refine ws_icmp_ltn 200 27 rfl rfl rfl (by omega) (by omega) (fun h9 => absurd h9 (by omega)) (fun h9 => ?_)
          refine ws_aload_0 28 rfl rfl ?_
          refine ws_getfr 31 rfl rfl rfl rfl rfl ?_
          refine ws_iload_5 33 rfl rfl ?_
          refine ws_ialdn 34 rfl rfl rfl (by omega) (by omega) htx ?_
          refine ws_istore_6 36 rfl rfl rfl rfl ?_
          refine ws_iload_6 38 rfl rfl ?_
          refine ws_invS1p 41 rfl rfl rfl (pp) rfl rfl rfl ?_
          refine ws_if_nen 100 44 rfl rfl rfl (by omega) (fun h9 => ?_) (fun h9 => absurd h9 (by omega))
          refine ws_aload_0 101 rfl rfl ?_
          refine ws_getfr 104 rfl rfl rfl rfl rfl ?_
          refine ws_iload_4 106 rfl rfl ?_
          refine ws_iconst 107 rfl rfl kc_i1 ?_
          refine ws_isub 108 rfl rfl (pk_sub (by omega)) ?_
          refine ws_laldn 109 rfl rfl rfl (by omega) (by omega) v1 ?_
          refine ws_lstore_7 111 rfl rfl rfl rfl ?_
          refine ws_aload_0 112 rfl rfl ?_
          refine ws_getfr 115 rfl rfl rfl rfl rfl ?_
          refine ws_iload_4 117 rfl rfl ?_
          refine ws_iconst 118 rfl rfl kc_i2 ?_
          refine ws_isub 119 rfl rfl (pk_sub (by omega)) ?_
          refine ws_laldn 120 rfl rfl rfl (by omega) (by omega) v2 ?_
          refine ws_lstore_9 122 rfl rfl rfl rfl ?_
          refine ws_aload_0 123 rfl rfl ?_
          refine ws_getfr 126 rfl rfl rfl rfl rfl ?_
          refine ws_iload_4 128 rfl rfl ?_
          refine ws_iconst 129 rfl rfl kc_i2 ?_
          refine ws_isub 130 rfl rfl (pk_sub (by omega)) ?_
          refine ws_iload_6 132 rfl rfl ?_
          refine ws_bipush 134 rfl rfl kc_b43 ?_
          refine ws_icmp_nen 145 137 rfl rfl rfl (by omega) (by omega) (fun h9 => ?_) (fun h9 => absurd h9 (by omega))
          refine ws_iload_6 147 rfl rfl ?_
          refine ws_bipush 149 rfl rfl kc_b45 ?_
          refine ws_icmp_nen 160 152 rfl rfl rfl (by omega) (by omega) (fun h9 => absurd h9 (by omega)) (fun h9 => ?_)
          refine ws_lload_7 154 rfl rfl ?_
          refine ws_lload_9 156 rfl rfl ?_
          refine ws_lsub 157 rfl rfl rfl ?_
          refine ws_goto 190 rfl rfl ?_
          exact fin _ (by rw [q]; rfl)
        · refine ws_iload_5 20 rfl rfl ?_
          refine ws_bipush 22 rfl rfl kc_b15 ?_
          refine ws_iload_1 23 rfl rfl ?_
          refine ws_imul 24 rfl rfl (pk_mul _ _) ?_
          refine ws_icmp_ltn 200 27 rfl rfl rfl (by omega) (by omega) (fun h9 => absurd h9 (by omega)) (fun h9 => ?_)
          refine ws_aload_0 28 rfl rfl ?_
          refine ws_getfr 31 rfl rfl rfl rfl rfl ?_
          refine ws_iload_5 33 rfl rfl ?_
          refine ws_ialdn 34 rfl rfl rfl (by omega) (by omega) htx ?_
          refine ws_istore_6 36 rfl rfl rfl rfl ?_
          refine ws_iload_6 38 rfl rfl ?_
          refine ws_invS1p 41 rfl rfl rfl (pp) rfl rfl rfl ?_
          refine ws_if_nen 100 44 rfl rfl rfl (by omega) (fun h9 => ?_) (fun h9 => absurd h9 (by omega))
          refine ws_aload_0 101 rfl rfl ?_
          refine ws_getfr 104 rfl rfl rfl rfl rfl ?_
          refine ws_iload_4 106 rfl rfl ?_
          refine ws_iconst 107 rfl rfl kc_i1 ?_
          refine ws_isub 108 rfl rfl (pk_sub (by omega)) ?_
          refine ws_laldn 109 rfl rfl rfl (by omega) (by omega) v1 ?_
          refine ws_lstore_7 111 rfl rfl rfl rfl ?_
          refine ws_aload_0 112 rfl rfl ?_
          refine ws_getfr 115 rfl rfl rfl rfl rfl ?_
          refine ws_iload_4 117 rfl rfl ?_
          refine ws_iconst 118 rfl rfl kc_i2 ?_
          refine ws_isub 119 rfl rfl (pk_sub (by omega)) ?_
          refine ws_laldn 120 rfl rfl rfl (by omega) (by omega) v2 ?_
          refine ws_lstore_9 122 rfl rfl rfl rfl ?_
          refine ws_aload_0 123 rfl rfl ?_
          refine ws_getfr 126 rfl rfl rfl rfl rfl ?_
          refine ws_iload_4 128 rfl rfl ?_
          refine ws_iconst 129 rfl rfl kc_i2 ?_
          refine ws_isub 130 rfl rfl (pk_sub (by omega)) ?_
          refine ws_iload_6 132 rfl rfl ?_
          refine ws_bipush 134 rfl rfl kc_b43 ?_
          refine ws_icmp_nen 145 137 rfl rfl rfl (by omega) (by omega) (fun h9 => ?_) (fun h9 => absurd h9 (by omega))
          refine ws_iload_6 147 rfl rfl ?_
          refine ws_bipush 149 rfl rfl kc_b45 ?_
          refine ws_icmp_nen 160 152 rfl rfl rfl (by omega) (by omega) (fun h9 => ?_) (fun h9 => absurd h9 (by omega))
          refine ws_iload_6 162 rfl rfl ?_
          refine ws_bipush 164 rfl rfl kc_b42 ?_
          refine ws_icmp_nen 175 167 rfl rfl rfl (by omega) (by omega) (fun h9 => absurd h9 (by omega)) (fun h9 => ?_)
          refine ws_lload_7 169 rfl rfl ?_
          refine ws_lload_9 171 rfl rfl ?_
          refine ws_lmul 172 rfl rfl rfl ?_
          refine ws_goto 190 rfl rfl ?_
          exact fin _ (by rw [q]; rfl)
        · have ej : jv (t x) a b = if a < b then a else b := by rw [mn_lt, q]; rfl
          refine ws_iload_5 20 rfl rfl ?_
          refine ws_bipush 22 rfl rfl kc_b15 ?_
          refine ws_iload_1 23 rfl rfl ?_
          refine ws_imul 24 rfl rfl (pk_mul _ _) ?_
          refine ws_icmp_ltn 200 27 rfl rfl rfl (by omega) (by omega) (fun h9 => absurd h9 (by omega)) (fun h9 => ?_)
          refine ws_aload_0 28 rfl rfl ?_
          refine ws_getfr 31 rfl rfl rfl rfl rfl ?_
          refine ws_iload_5 33 rfl rfl ?_
          refine ws_ialdn 34 rfl rfl rfl (by omega) (by omega) htx ?_
          refine ws_istore_6 36 rfl rfl rfl rfl ?_
          refine ws_iload_6 38 rfl rfl ?_
          refine ws_invS1p 41 rfl rfl rfl (pp) rfl rfl rfl ?_
          refine ws_if_nen 100 44 rfl rfl rfl (by omega) (fun h9 => ?_) (fun h9 => absurd h9 (by omega))
          refine ws_aload_0 101 rfl rfl ?_
          refine ws_getfr 104 rfl rfl rfl rfl rfl ?_
          refine ws_iload_4 106 rfl rfl ?_
          refine ws_iconst 107 rfl rfl kc_i1 ?_
          refine ws_isub 108 rfl rfl (pk_sub (by omega)) ?_
          refine ws_laldn 109 rfl rfl rfl (by omega) (by omega) v1 ?_
          refine ws_lstore_7 111 rfl rfl rfl rfl ?_
          refine ws_aload_0 112 rfl rfl ?_
          refine ws_getfr 115 rfl rfl rfl rfl rfl ?_
          refine ws_iload_4 117 rfl rfl ?_
          refine ws_iconst 118 rfl rfl kc_i2 ?_
          refine ws_isub 119 rfl rfl (pk_sub (by omega)) ?_
          refine ws_laldn 120 rfl rfl rfl (by omega) (by omega) v2 ?_
          refine ws_lstore_9 122 rfl rfl rfl rfl ?_
          refine ws_aload_0 123 rfl rfl ?_
          refine ws_getfr 126 rfl rfl rfl rfl rfl ?_
          refine ws_iload_4 128 rfl rfl ?_
          refine ws_iconst 129 rfl rfl kc_i2 ?_
          refine ws_isub 130 rfl rfl (pk_sub (by omega)) ?_
          refine ws_iload_6 132 rfl rfl ?_
          refine ws_bipush 134 rfl rfl kc_b43 ?_
          refine ws_icmp_nen 145 137 rfl rfl rfl (by omega) (by omega) (fun h9 => ?_) (fun h9 => absurd h9 (by omega))
          refine ws_iload_6 147 rfl rfl ?_
          refine ws_bipush 149 rfl rfl kc_b45 ?_
          refine ws_icmp_nen 160 152 rfl rfl rfl (by omega) (by omega) (fun h9 => ?_) (fun h9 => absurd h9 (by omega))
          refine ws_iload_6 162 rfl rfl ?_
          refine ws_bipush 164 rfl rfl kc_b42 ?_
          refine ws_icmp_nen 175 167 rfl rfl rfl (by omega) (by omega) (fun h9 => ?_) (fun h9 => absurd h9 (by omega))
          refine ws_lload_7 177 rfl rfl ?_
          refine ws_lload_9 179 rfl rfl ?_
          refine ws_lcmp 180 rfl rfl ?_
          refine ws_lc_ge 188 183 rfl rfl rfl (fun c1 => ?_) (fun c1 => ?_)
          · refine ws_lload_9 190 rfl rfl ?_
            exact fin _ (by rw [ej, if_neg (Int64.not_lt.mpr c1)])
          · refine ws_lload_7 185 rfl rfl ?_
            refine ws_goto 190 rfl rfl ?_
            exact fin _ (by rw [ej, if_pos (Int64.not_le.mp c1)])
  have e0 := li_sub (15 * wh + n)
  refine ws_iconst 1 rfl rfl kc_i0 ?_
  refine ws_istore_4 3 rfl rfl rfl rfl ?_
  refine ws_bipush 5 rfl rfl kc_b15 ?_
  refine ws_iload_1 6 rfl rfl ?_
  refine ws_imul 7 rfl rfl (pk_mul _ _) ?_
  refine ws_aload_0 8 rfl rfl ?_
  refine ws_getfr 11 rfl rfl rfl rfl rfl ?_
  refine ws_iload_1 12 rfl rfl ?_
  refine ws_ialdn 13 rfl rfl rfl (by omega) (by omega) hn ?_
  refine ws_iadd 14 rfl rfl (nI_add _ _) ?_
  refine ws_iconst 15 rfl rfl kc_i1 ?_
  refine ws_isub 16 rfl rfl e0 ?_
  refine ws_istore_5 18 rfl rfl rfl rfl ?_
  exact loop n 0 L (by omega) (fun _ _ => rfl) (rel_nil _)
theorem m_layLaws {t0 t1 : Nat → Nat} {n0 n1 : Nat} (ok0 : okL t0 n0) (ok1 : okL t1 n1) (hn0 : I 48 0 = nI n0) (hn1 : I 48 1 = nI n1) (ht0 : ∀ i, i < n0 → I 49 (15 * 0 + i) = nI (t0 i)) (ht1 : ∀ i, i < n1 → I 49 (15 * 1 + i) = nI (t1 i)) : xC E 4 111 [.ref 42] (xS, I, L) (fun r u => r = none ∧ ∃ I' L', u = (xS, I', L') ∧ (∀ a, a ≠ 58 → a ≠ 59 → I' a = I a) ∧ (∀ a, a ≠ 55 → L' a = L a) ∧ (∀ j, j < 12 → I' 58 j = nI (lwv t0 n0 (j / 2) (j % 2))) ∧ ∀ j, j < 12 → I' 59 j = nI (lwv t1 n1 (j / 2) (j % 2))) := by
  refine xC.mk [some (.ref 42), none, none] rfl ?_
  have loop : ∀ (m k : Nat) (I' : Nat → Nat → Int32) (L' : Nat → Nat → Int64), k + m = 12 → (∀ a, a ≠ 58 → a ≠ 59 → I' a = I a) → (∀ a, a ≠ 55 → L' a = L a) → (∀ j, j < k → I' 58 j = nI (lwv t0 n0 (j / 2) (j % 2))) → (∀ j, j < k → I' 59 j = nI (lwv t1 n1 (j / 2) (j % 2))) → (k % 2 = 0 → ∀ z : Option Value, xW E 4 111 2 [some (.ref 42), some (.int (nI (k / 2))), z] [] (xS, I', L') 0 0 (fun r u => r = none ∧ ∃ I' L', u = (xS, I', L') ∧ (∀ a, a ≠ 58 → a ≠ 59 → I' a = I a) ∧ (∀ a, a ≠ 55 → L' a = L a) ∧ (∀ j, j < 12 → I' 58 j = nI (lwv t0 n0 (j / 2) (j % 2))) ∧ ∀ j, j < 12 → I' 59 j = nI (lwv t1 n1 (j / 2) (j % 2)))) ∧ (k % 2 = 1 → xW E 4 111 10 [some (.ref 42), some (.int (nI (k / 2))), some (.int (nI 1))] [] (xS, I', L') 0 0 (fun r u => r = none ∧ ∃ I' L', u = (xS, I', L') ∧ (∀ a, a ≠ 58 → a ≠ 59 → I' a = I a) ∧ (∀ a, a ≠ 55 → L' a = L a) ∧ (∀ j, j < 12 → I' 58 j = nI (lwv t0 n0 (j / 2) (j % 2))) ∧ ∀ j, j < 12 → I' 59 j = nI (lwv t1 n1 (j / 2) (j % 2)))) := by
    intro m
    induction m with
    | zero =>
      intro k I' L' hk hf hl h58 h59
      obtain rfl : k = 12 := by omega
      refine ⟨fun _ z => ?_, fun h => by omega⟩
      show xW E 4 111 2 [some (.ref 42), some (.int (nI 6)), z] [] (xS, I', L') 0 0 _
      refine ws_iload_1 3 rfl rfl ?_
      refine ws_bipush 5 rfl rfl kc_b6 ?_
      refine ws_icmp_gen 61 8 rfl rfl rfl (by omega) (by omega) (fun h9 => ?_) (fun h9 => absurd h9 (by omega))
      refine ws_vret rfl rfl rfl (Nat.le_of_ble_eq_true rfl) ?_
      exact ⟨rfl, I', L', rfl, hf, hl, h58, h59⟩
    | succ m ih =>
      intro k I' L' hk hf hl h58 h59
      have body : ∀ v : Nat, v = k % 2 → xW E 4 111 10 [some (.ref 42), some (.int (nI (k / 2))), some (.int (nI v))] [] (xS, I', L') 0 0 (fun r u => r = none ∧ ∃ I' L', u = (xS, I', L') ∧ (∀ a, a ≠ 58 → a ≠ 59 → I' a = I a) ∧ (∀ a, a ≠ 55 → L' a = L a) ∧ (∀ j, j < 12 → I' 58 j = nI (lwv t0 n0 (j / 2) (j % 2))) ∧ ∀ j, j < 12 → I' 59 j = nI (lwv t1 n1 (j / 2) (j % 2))) := by
        intro v hv
        have ek : 2 * (k / 2) + v = k := by omega
        refine ws_iload_2 11 rfl rfl ?_
        refine ws_iconst 12 rfl rfl kc_i2 ?_
        refine ws_icmp_gen 55 15 rfl rfl rfl (by omega) (by omega) (fun h9 => absurd h9 (by omega)) (fun h9 => ?_)
        refine ws_aload_0 16 rfl rfl ?_
        refine ws_getfr 19 rfl rfl rfl rfl rfl ?_
        refine ws_iconst 20 rfl rfl kc_i2 ?_
        refine ws_iload_1 21 rfl rfl ?_
        refine ws_imul 22 rfl rfl (pk_mul _ _) ?_
        refine ws_iload_2 23 rfl rfl ?_
        refine ws_iadd 24 rfl rfl (nI_add _ _) ?_
        refine ws_aload_0 25 rfl rfl ?_
        refine ws_iconst 26 rfl rfl kc_i0 ?_
        refine ws_iload_1 27 rfl rfl ?_
        refine ws_iload_2 28 rfl rfl ?_
        rw [ek]
        refine ws_invV3 31 rfl rfl rfl rfl (m_saysOf (t := t0) (n := n0) 0 (k / 2) v (by omega) (by omega) (by omega) ok0 (by rw [hf 48 (by decide) (by decide)]; exact hn0) (fun i hi => by rw [hf 49 (by decide) (by decide)]; exact ht0 i hi)) rfl rfl rfl ?_
        rintro _ _ ⟨rfl, L2, rfl, hl2⟩
        refine ws_iastn 32 rfl rfl rfl (by omega) (by omega) ?_
        refine ws_aload_0 33 rfl rfl ?_
        refine ws_getfr 36 rfl rfl rfl rfl rfl ?_
        refine ws_iconst 37 rfl rfl kc_i2 ?_
        refine ws_iload_1 38 rfl rfl ?_
        refine ws_imul 39 rfl rfl (pk_mul _ _) ?_
        refine ws_iload_2 40 rfl rfl ?_
        refine ws_iadd 41 rfl rfl (nI_add _ _) ?_
        refine ws_aload_0 42 rfl rfl ?_
        refine ws_iconst 43 rfl rfl kc_i1 ?_
        refine ws_iload_1 44 rfl rfl ?_
        refine ws_iload_2 45 rfl rfl ?_
        rw [ek]
        refine ws_invV3 48 rfl rfl rfl rfl (m_saysOf (t := t1) (n := n1) 1 (k / 2) v (by omega) (by omega) (by omega) ok1 (by rw [wI_ne (by decide), hf 48 (by decide) (by decide)]; exact hn1) (fun i hi => by rw [wI_ne (by decide), hf 49 (by decide) (by decide)]; exact ht1 i hi)) rfl rfl rfl ?_
        rintro _ _ ⟨rfl, L3, rfl, hl3⟩
        have nx := ih (k + 1) (wI (wI I' 58 k (nI (lwv t0 n0 (k / 2) v))) 59 k (nI (lwv t1 n1 (k / 2) v))) L3 (by omega) (fun a a1 a2 => by rw [wI_ne a2, wI_ne a1]; exact hf a a1 a2) (fun a ha => by rw [hl3 a ha, hl2 a ha]; exact hl a ha) (fl (g := fun j => nI (lwv t0 n0 (j / 2) (j % 2))) h58 (by rw [hv])) (fl (g := fun j => nI (lwv t1 n1 (j / 2) (j % 2))) h59 (by rw [hv]))
        rcases (show v = 0 ∨ v = 1 by omega) with rfl | rfl
        · have nx2 := nx.2 (by omega)
          rw [show (k + 1) / 2 = k / 2 by omega] at nx2
          refine ws_iastn 49 rfl rfl rfl (by omega) (by omega) ?_
          refine ws_iinc_2 52 rfl rfl (ki_1 _) rfl rfl ?_
          refine ws_goto 10 rfl rfl ?_
          exact nx2
        · have nx1 := nx.1 (by omega) (some (.int (nI 2)))
          rw [show (k + 1) / 2 = k / 2 + 1 by omega] at nx1
          refine ws_iastn 49 rfl rfl rfl (by omega) (by omega) ?_
          refine ws_iinc_2 52 rfl rfl (ki_1 _) rfl rfl ?_
          refine ws_goto 10 rfl rfl ?_
          refine ws_iload_2 11 rfl rfl ?_
          refine ws_iconst 12 rfl rfl kc_i2 ?_
          refine ws_icmp_gen 55 15 rfl rfl rfl (by omega) (by omega) (fun h9 => ?_) (fun h9 => absurd h9 (by omega))
          refine ws_iinc_1 58 rfl rfl (ki_1 _) rfl rfl ?_
          refine ws_goto 2 rfl rfl ?_
          exact nx1
      refine ⟨fun h z => ?_, fun h => body 1 h.symm⟩
      refine ws_iload_1 3 rfl rfl ?_
      refine ws_bipush 5 rfl rfl kc_b6 ?_
      refine ws_icmp_gen 61 8 rfl rfl rfl (by omega) (by omega) (fun h9 => absurd h9 (by omega)) (fun h9 => ?_)
      refine ws_iconst 9 rfl rfl kc_i0 ?_
      refine ws_istore_2 10 rfl rfl rfl rfl ?_
      exact body 0 h.symm
  refine ws_iconst 1 rfl rfl kc_i0 ?_
  refine ws_istore_1 2 rfl rfl rfl rfl ?_
  exact (loop 12 0 I L rfl (fun _ _ _ => rfl) (fun _ _ => rfl) (fun _ h => by omega) (fun _ h => by omega)).1 rfl none
end LAWS
end
section
/-! ===== faults of a pad ===== -/
def fo : Option Nat → Int32
  | none => -6
  | some i => nI i
/-- the fault as a window, from the sign i on, things u having stood -/
def wfa (t : Nat → Nat) : Nat → Nat → Nat → Option Nat
  | 0, _, _ => none
  | m + 1, i, u => if 5 ≤ i then some i else if t i = 45 then wfa t m (i + 1) u else if (97 ≤ t i ∧ t i ≤ 101) ∧ u / 2 ^ (t i - 97) % 2 = 0 then wfa t m (i + 1) (u ||| 2 ^ (t i - 97)) else some i
theorem and_pw : ∀ u, u < 32 → ∀ d, d < 5 → (u &&& 2 ^ d = 0 ↔ u / 2 ^ d % 2 = 0) := by decide +kernel
theorem p_below97f (c : Nat) (hc : c < 1000) (h : ¬ (97 ≤ c ∧ c ≤ 101)) : xP 1 80 [.int (nI c - nI 97), .int (nI 5)] (.int (xb false)) := by
  have h1 := p_below (nI c - nI 97) 5 4 (by omega) rfl
  rwa [show rg 0 4 (nI c - nI 97) = false from rg_no (by rw [pk_sub_toInt (by omega) (by omega)]; omega)] at h1
section FAULTW
variable {E : xEx} {T : List xSh} {I : Nat → Nat → Int32} {L : Nat → Nat → Int64} {t : Nat → Nat} {n : Nat}
theorem c_faultAsWindow (hn40 : n ≤ 40) (hc : ∀ i, i < n → t i < 128) (hn : I 1 3 = nI n) (ht : ∀ i, i < n → I 2 i = nI (t i)) : xC E 2 6 [.ref 1] (xC0 ++ T, I, L) (rV (.int (fo (wfa t n 0 0))) (xC0 ++ T, I, L)) := by
  refine xC.mk [some (.ref 1), none, none, none] rfl ?_
  have loop : ∀ (m i u : Nat) (z : Option Value), i + m = n → u < 32 → xW E 2 6 4 [some (.ref 1), some (.int (nI u)), some (.int (nI i)), z] [] (xC0 ++ T, I, L) 0 0 (rV (.int (fo (wfa t m i u))) (xC0 ++ T, I, L)) := by
    intro m
    induction m with
    | zero =>
      intro i u z hi hu
      obtain rfl : i = n := by omega
      refine ws_iload_2 5 rfl rfl ?_
      refine ws_aload_0 6 rfl rfl ?_
      refine ws_getfi 9 rfl rfl rfl rfl rfl hn ?_
      refine ws_icmp_gen 74 12 rfl rfl rfl (by omega) (by omega) (fun h9 => ?_) (fun h9 => absurd h9 (by omega))
      refine ws_bipush 76 rfl rfl kc_bm6 ?_
      refine ws_iret rfl rfl rfl (Nat.le_of_ble_eq_true rfl) ?_
      exact ⟨rfl, rfl⟩
    | succ m ih =>
      intro i u z hi hu
      have htc := ht i (by omega)
      have hcc := hc i (by omega)
      have ew : wfa t (m + 1) i u = if 5 ≤ i then some i else if t i = 45 then wfa t m (i + 1) u else if (97 ≤ t i ∧ t i ≤ 101) ∧ u / 2 ^ (t i - 97) % 2 = 0 then wfa t m (i + 1) (u ||| 2 ^ (t i - 97)) else some i := rfl
      refine ws_iload_2 5 rfl rfl ?_
      refine ws_aload_0 6 rfl rfl ?_
      refine ws_getfi 9 rfl rfl rfl rfl rfl hn ?_
      refine ws_icmp_gen 74 12 rfl rfl rfl (by omega) (by omega) (fun h9 => absurd h9 (by omega)) (fun h9 => ?_)
      refine ws_iload_2 13 rfl rfl ?_
      refine ws_iconst 14 rfl rfl kc_i5 ?_
      refine ws_icmp_ltn 19 17 rfl rfl rfl (by omega) (by omega) (fun c1 => ?_) (fun c1 => ?_)
      · rw [if_neg (by omega)] at ew
        refine ws_aload_0 20 rfl rfl ?_
        refine ws_getfr 23 rfl rfl rfl rfl rfl ?_
        refine ws_iload_2 24 rfl rfl ?_
        refine ws_ialdn 25 rfl rfl rfl (by omega) (by omega) htc ?_
        refine ws_bipush 27 rfl rfl kc_b45 ?_
        refine ws_icmp_nen 33 30 rfl rfl rfl (by omega) (by omega) (fun c2 => ?_) (fun c2 => ?_)
        · rw [if_neg c2] at ew
          by_cases c3 : 97 ≤ t i ∧ t i ≤ 101
          · have hd : t i - 97 < 5 := by omega
            obtain ⟨w1, w2⟩ := pw5 (t i - 97) hd
            have e : u / 2 ^ (t i - 97) &&& 1 = u / 2 ^ (t i - 97) % 2 := Nat.and_one_is_mod _
            have e1 : 1 * 2 ^ (t i - 97) = 2 ^ (t i - 97) := Nat.one_mul _
            refine ws_aload_0 34 rfl rfl ?_
            refine ws_getfr 37 rfl rfl rfl rfl rfl ?_
            refine ws_iload_2 38 rfl rfl ?_
            refine ws_ialdn 39 rfl rfl rfl (by omega) (by omega) htc ?_
            refine ws_bipush 41 rfl rfl kc_b97 ?_
            refine ws_isub 42 rfl rfl (pk_sub (by omega)) ?_
            refine ws_istore_3 43 rfl rfl rfl rfl ?_
            refine ws_iload_3 44 rfl rfl ?_
            refine ws_iconst 45 rfl rfl kc_i5 ?_
            refine ws_invSN2p 48 rfl rfl rfl (p_below5t _ hd) rfl rfl rfl ?_
            refine ws_if_eqb 60 51 rfl rfl rfl (fun h9 => absurd h9 (by first | decide | simp_all)) (fun h9 => ?_)
            refine ws_iload_1 52 rfl rfl ?_
            refine ws_iload_3 53 rfl rfl ?_
            refine ws_ishr 54 rfl rfl (kn_shr (by omega) (by omega)) ?_
            refine ws_iconst 55 rfl rfl kc_i1 ?_
            refine ws_iand 56 rfl rfl (kn_and _ _) ?_
            refine ws_iconst 57 rfl rfl kc_i1 ?_
            rw [e]
            refine ws_icmp_nen 62 60 rfl rfl rfl (by omega) (by omega) (fun c4 => ?_) (fun c4 => ?_)
            · rw [if_pos ⟨c3, by omega⟩] at ew
              rw [ew]
              have ho := or_lt32 u hu _ hd
              refine ws_iload_1 63 rfl rfl ?_
              refine ws_iconst 64 rfl rfl kc_i1 ?_
              refine ws_iload_3 65 rfl rfl ?_
              refine ws_ishl 66 rfl rfl (kn_shl (by omega) (by omega)) ?_
              rw [e1]
              refine ws_ior 67 rfl rfl (kn_or _ _) ?_
              refine ws_istore_1 68 rfl rfl rfl rfl ?_
              refine ws_iinc_2 71 rfl rfl (ki_1 _) rfl rfl ?_
              refine ws_goto 4 rfl rfl ?_
              exact ih (i + 1) _ _ (by omega) ho
            · rw [if_neg (fun q => by omega)] at ew
              rw [ew]
              refine ws_iload_2 61 rfl rfl ?_
              refine ws_iret rfl rfl rfl (Nat.le_of_ble_eq_true rfl) ?_
              exact ⟨rfl, rfl⟩
          · rw [if_neg (fun q => c3 q.1)] at ew
            rw [ew]
            refine ws_aload_0 34 rfl rfl ?_
            refine ws_getfr 37 rfl rfl rfl rfl rfl ?_
            refine ws_iload_2 38 rfl rfl ?_
            refine ws_ialdn 39 rfl rfl rfl (by omega) (by omega) htc ?_
            refine ws_bipush 41 rfl rfl kc_b97 ?_
            refine ws_isub 42 rfl rfl rfl ?_
            refine ws_istore_3 43 rfl rfl rfl rfl ?_
            refine ws_iload_3 44 rfl rfl ?_
            refine ws_iconst 45 rfl rfl kc_i5 ?_
            refine ws_invSN2p 48 rfl rfl rfl (p_below97f _ (by omega) c3) rfl rfl rfl ?_
            refine ws_if_eqb 60 51 rfl rfl rfl (fun h9 => ?_) (fun h9 => absurd h9 (by first | decide | simp_all))
            refine ws_iload_2 61 rfl rfl ?_
            refine ws_iret rfl rfl rfl (Nat.le_of_ble_eq_true rfl) ?_
            exact ⟨rfl, rfl⟩
        · rw [if_pos c2] at ew
          rw [ew]
          refine ws_goto 68 rfl rfl ?_
          refine ws_iinc_2 71 rfl rfl (ki_1 _) rfl rfl ?_
          refine ws_goto 4 rfl rfl ?_
          exact ih (i + 1) u _ (by omega) hu
      · rw [if_pos c1] at ew
        rw [ew]
        refine ws_iload_2 18 rfl rfl ?_
        refine ws_iret rfl rfl rfl (Nat.le_of_ble_eq_true rfl) ?_
        exact ⟨rfl, rfl⟩
  refine ws_iconst 1 rfl rfl kc_i0 ?_
  refine ws_istore_1 2 rfl rfl rfl rfl ?_
  refine ws_iconst 3 rfl rfl kc_i0 ?_
  refine ws_istore_2 4 rfl rfl rfl rfl ?_
  exact loop n 0 0 _ (by omega) (by omega)
theorem m_windowFault (hn40 : n ≤ 40) (hc : ∀ i, i < n → t i < 128) (hn : I 42 2 = nI n) (ht : ∀ i, i < n → I 45 i = nI (t i)) : xC E 2 89 [.ref 42] (xS, I, L) (rV (.int (fo (wfa t n 0 0))) (xS, I, L)) := by
  refine xC.mk [some (.ref 42), none, none, none, none] rfl ?_
  have loop : ∀ (m i u : Nat) (z z2 : Option Value), i + m = n → i ≤ 5 → u < 32 → xW E 2 89 4 [some (.ref 42), some (.int (nI u)), some (.int (nI i)), z, z2] [] (xS, I, L) 0 0 (rV (.int (fo (wfa t m i u))) (xS, I, L)) := by
    intro m
    induction m with
    | zero =>
      intro i u z z2 hi hi5 hu
      obtain rfl : i = n := by omega
      refine ws_iload_2 5 rfl rfl ?_
      refine ws_aload_0 6 rfl rfl ?_
      refine ws_getfi 9 rfl rfl rfl rfl rfl hn ?_
      refine ws_icmp_gen 87 12 rfl rfl rfl (by omega) (by omega) (fun h9 => ?_) (fun h9 => absurd h9 (by omega))
      refine ws_bipush 89 rfl rfl kc_bm6 ?_
      refine ws_iret rfl rfl rfl (Nat.le_of_ble_eq_true rfl) ?_
      exact ⟨rfl, rfl⟩
    | succ m ih =>
      intro i u z z2 hi hi5 hu
      have htc := ht i (by omega)
      have hcc := hc i (by omega)
      have ew : wfa t (m + 1) i u = if 5 ≤ i then some i else if t i = 45 then wfa t m (i + 1) u else if (97 ≤ t i ∧ t i ≤ 101) ∧ u / 2 ^ (t i - 97) % 2 = 0 then wfa t m (i + 1) (u ||| 2 ^ (t i - 97)) else some i := rfl
      have hin := p_in (nI (t i)) (nI 97) (nI 101) 97 101 (by decide) (by decide)
      by_cases c3 : 97 ≤ t i ∧ t i ≤ 101
      · rw [show rg 97 101 (nI (t i)) = true by rw [rg_nI (by omega)]; simp; omega] at hin
        have hd : t i - 97 < 5 := by omega
        obtain ⟨w1, w2⟩ := pw5 (t i - 97) hd
        have e1 : 1 * 2 ^ (t i - 97) = 2 ^ (t i - 97) := Nat.one_mul _
        refine ws_iload_2 5 rfl rfl ?_
        refine ws_aload_0 6 rfl rfl ?_
        refine ws_getfi 9 rfl rfl rfl rfl rfl hn ?_
        refine ws_icmp_gen 87 12 rfl rfl rfl (by omega) (by omega) (fun h9 => absurd h9 (by omega)) (fun h9 => ?_)
        refine ws_aload_0 13 rfl rfl ?_
        refine ws_getfr 16 rfl rfl rfl rfl rfl ?_
        refine ws_iload_2 17 rfl rfl ?_
        refine ws_ialdn 18 rfl rfl rfl (by omega) (by omega) htc ?_
        refine ws_bipush 20 rfl rfl kc_b97 ?_
        refine ws_bipush 22 rfl rfl kc_b101 ?_
        refine ws_invS3p 25 rfl rfl rfl (hin) rfl rfl rfl ?_
        refine ws_istore_3 26 rfl rfl rfl rfl ?_
        refine ws_iload_3 27 rfl rfl ?_
        refine ws_if_eqb 44 30 rfl rfl rfl (fun h9 => absurd h9 (by first | decide | simp_all)) (fun h9 => ?_)
        refine ws_iconst 31 rfl rfl kc_i1 ?_
        refine ws_aload_0 32 rfl rfl ?_
        refine ws_getfr 35 rfl rfl rfl rfl rfl ?_
        refine ws_iload_2 36 rfl rfl ?_
        refine ws_ialdn 37 rfl rfl rfl (by omega) (by omega) htc ?_
        refine ws_bipush 39 rfl rfl kc_b97 ?_
        refine ws_isub 40 rfl rfl (pk_sub (by omega)) ?_
        refine ws_ishl 41 rfl rfl (kn_shl (by omega) (by omega)) ?_
        refine ws_goto 45 rfl rfl ?_
        rw [e1]
        refine ws_istore_4 47 rfl rfl rfl rfl ?_
        refine ws_iload_2 48 rfl rfl ?_
        refine ws_iconst 49 rfl rfl kc_i5 ?_
        refine ws_icmp_eqn 74 52 rfl rfl rfl (by omega) (by omega) (fun c1 => ?_) (fun c1 => ?_)
        · rw [if_pos (by omega)] at ew
          rw [ew]
          refine ws_iload_2 75 rfl rfl ?_
          refine ws_iret rfl rfl rfl (Nat.le_of_ble_eq_true rfl) ?_
          exact ⟨rfl, rfl⟩
        · rw [if_neg (by omega), if_neg (by omega)] at ew
          have hle : u &&& 2 ^ (t i - 97) ≤ u := Nat.and_le_left
          refine ws_iload_3 53 rfl rfl ?_
          refine ws_if_neb 67 56 rfl rfl rfl (fun h9 => ?_) (fun h9 => absurd h9 (by first | decide | simp_all))
          refine ws_iload_1 68 rfl rfl ?_
          refine ws_iload_4 70 rfl rfl ?_
          refine ws_iand 71 rfl rfl (kn_and _ _) ?_
          refine ws_if_eqn 76 74 rfl rfl rfl (by omega) (fun c4 => ?_) (fun c4 => ?_)
          · rw [if_pos ⟨c3, (and_pw u hu _ hd).mp c4⟩] at ew
            rw [ew]
            have ho := or_lt32 u hu _ hd
            refine ws_iload_1 77 rfl rfl ?_
            refine ws_iload_4 79 rfl rfl ?_
            refine ws_ior 80 rfl rfl (kn_or _ _) ?_
            refine ws_istore_1 81 rfl rfl rfl rfl ?_
            refine ws_iinc_2 84 rfl rfl (ki_1 _) rfl rfl ?_
            refine ws_goto 4 rfl rfl ?_
            exact ih (i + 1) _ _ _ (by omega) (by omega) ho
          · rw [if_neg (fun q => c4 ((and_pw u hu _ hd).mpr q.2))] at ew
            rw [ew]
            refine ws_iload_2 75 rfl rfl ?_
            refine ws_iret rfl rfl rfl (Nat.le_of_ble_eq_true rfl) ?_
            exact ⟨rfl, rfl⟩
      · rw [show rg 97 101 (nI (t i)) = false by rw [rg_nI (by omega)]; simp; omega] at hin
        refine ws_iload_2 5 rfl rfl ?_
        refine ws_aload_0 6 rfl rfl ?_
        refine ws_getfi 9 rfl rfl rfl rfl rfl hn ?_
        refine ws_icmp_gen 87 12 rfl rfl rfl (by omega) (by omega) (fun h9 => absurd h9 (by omega)) (fun h9 => ?_)
        refine ws_aload_0 13 rfl rfl ?_
        refine ws_getfr 16 rfl rfl rfl rfl rfl ?_
        refine ws_iload_2 17 rfl rfl ?_
        refine ws_ialdn 18 rfl rfl rfl (by omega) (by omega) htc ?_
        refine ws_bipush 20 rfl rfl kc_b97 ?_
        refine ws_bipush 22 rfl rfl kc_b101 ?_
        refine ws_invS3p 25 rfl rfl rfl (hin) rfl rfl rfl ?_
        refine ws_istore_3 26 rfl rfl rfl rfl ?_
        refine ws_iload_3 27 rfl rfl ?_
        refine ws_if_eqb 44 30 rfl rfl rfl (fun h9 => ?_) (fun h9 => absurd h9 (by first | decide | simp_all))
        refine ws_iconst 45 rfl rfl kc_i0 ?_
        refine ws_istore_4 47 rfl rfl rfl rfl ?_
        refine ws_iload_2 48 rfl rfl ?_
        refine ws_iconst 49 rfl rfl kc_i5 ?_
        refine ws_icmp_eqn 74 52 rfl rfl rfl (by omega) (by omega) (fun c1 => ?_) (fun c1 => ?_)
        · rw [if_pos (by omega)] at ew
          rw [ew]
          refine ws_iload_2 75 rfl rfl ?_
          refine ws_iret rfl rfl rfl (Nat.le_of_ble_eq_true rfl) ?_
          exact ⟨rfl, rfl⟩
        · rw [if_neg (by omega)] at ew
          refine ws_iload_3 53 rfl rfl ?_
          refine ws_if_neb 67 56 rfl rfl rfl (fun h9 => absurd h9 (by first | decide | simp_all)) (fun h9 => ?_)
          refine ws_aload_0 57 rfl rfl ?_
          refine ws_getfr 60 rfl rfl rfl rfl rfl ?_
          refine ws_iload_2 61 rfl rfl ?_
          refine ws_ialdn 62 rfl rfl rfl (by omega) (by omega) htc ?_
          refine ws_bipush 64 rfl rfl kc_b45 ?_
          refine ws_icmp_nen 74 67 rfl rfl rfl (by omega) (by omega) (fun c2 => ?_) (fun c2 => ?_)
          · rw [if_neg c2, if_neg (fun q => c3 q.1)] at ew
            rw [ew]
            refine ws_iload_2 75 rfl rfl ?_
            refine ws_iret rfl rfl rfl (Nat.le_of_ble_eq_true rfl) ?_
            exact ⟨rfl, rfl⟩
          · rw [if_pos c2] at ew
            rw [ew]
            have e0 : u ||| 0 = u := Nat.or_zero u
            have e2 : u &&& 0 = 0 := Nat.and_zero u
            refine ws_iload_1 68 rfl rfl ?_
            refine ws_iload_4 70 rfl rfl ?_
            refine ws_iand 71 rfl rfl (kn_and _ _) ?_
            rw [e2]
            refine ws_if_eqn 76 74 rfl rfl rfl (by omega) (fun h9 => ?_) (fun h9 => absurd h9 (by omega))
            refine ws_iload_1 77 rfl rfl ?_
            refine ws_iload_4 79 rfl rfl ?_
            refine ws_ior 80 rfl rfl (kn_or _ _) ?_
            rw [e0]
            refine ws_istore_1 81 rfl rfl rfl rfl ?_
            refine ws_iinc_2 84 rfl rfl (ki_1 _) rfl rfl ?_
            refine ws_goto 4 rfl rfl ?_
            exact ih (i + 1) u _ _ (by omega) (by omega) hu
  refine ws_iconst 1 rfl rfl kc_i0 ?_
  refine ws_istore_1 2 rfl rfl rfl rfl ?_
  refine ws_iconst 3 rfl rfl kc_i0 ?_
  refine ws_istore_2 4 rfl rfl rfl rfl ?_
  exact loop n 0 0 _ _ (by omega) (by omega) (by omega)
end FAULTW
/-- the fault as a law: depths of the texts that must still come, the next one first -/
def lfa (t : Nat → Nat) (n : Nat) : Nat → Nat → List Nat → Option Nat
  | 0, _, ds => match ds with
    | [] => none
    | _ :: _ => some n
  | m + 1, i, ds => if 15 ≤ i then some i else match ds with
    | [] => some i
    | d :: r => bif jn (t i) then (if 6 ≤ d then some i else lfa t n m (i + 1) ((d + 1) :: (d + 1) :: r)) else bif al (t i) then lfa t n m (i + 1) r else some i
def irel (V : Nat → Int32) (l : List Nat) : Prop := ∀ j x, l[j]? = some x → V (l.length - 1 - j) = nI x
theorem irel_nil (V : Nat → Int32) : irel V [] := fun j x h => by simp at h
theorem irel_push {V : Nat → Int32} {l : List Nat} {x : Nat} (h : irel V l) : irel (upd V l.length (nI x)) (x :: l) := by
  intro j y hj
  cases j with
  | zero =>
    have : x = y := by simpa using hj
    rw [← this, List.length_cons, Nat.add_sub_cancel, Nat.sub_zero]
    exact pk_us
  | succ j =>
    have hj : l[j]? = some y := by simpa using hj
    have hl : j < l.length := (List.getElem?_eq_some_iff.mp hj).1
    have e : (x :: l).length - 1 - (j + 1) = l.length - 1 - j := by rw [List.length_cons]; omega
    rw [e, pk_un (by omega)]
    exact h j y hj
theorem irel_tail {V : Nat → Int32} {l : List Nat} {x : Nat} (h : irel V (x :: l)) : irel V l := by
  intro j y hj
  have hl : j < l.length := (List.getElem?_eq_some_iff.mp hj).1
  have := h (j + 1) y (by simpa using hj)
  rwa [show (x :: l).length - 1 - (j + 1) = l.length - 1 - j by rw [List.length_cons]; omega] at this
theorem irel_top {V : Nat → Int32} {l : List Nat} {x : Nat} (h : irel V (x :: l)) : V l.length = nI x := by
  have := h 0 x rfl
  rwa [List.length_cons, Nat.add_sub_cancel, Nat.sub_zero] at this
theorem irel_off {V : Nat → Int32} {l : List Nat} {k : Nat} {x : Int32} (h : irel V l) (hk : l.length ≤ k) : irel (upd V k x) l := by
  intro j y hj
  have hl : j < l.length := (List.getElem?_eq_some_iff.mp hj).1
  rw [pk_un (by omega)]
  exact h j y hj
/-- no fault as a law: it stands as one -/
theorem lfa_ok {t : Nat → Nat} {n : Nat} (hc : ∀ i, i < n → t i < 128) : ∀ (m i : Nat) (ds : List Nat), i + m = n → ds.length = due t i → lfa t n m i ds = none → (m = 0 ∨ n ≤ 15) ∧ due t n = 0 ∧ ∀ j, i ≤ j → j < n → (t j < 128 ∧ (al (t j) = true ∨ jn (t j) = true)) ∧ 0 < due t j
  | 0, i, ds, hi, hd, h => by
    obtain rfl : i = n := by omega
    refine ⟨Or.inl rfl, ?_, fun j h1 h2 => by omega⟩
    cases ds with
    | nil => exact hd.symm
    | cons d r => cases h
  | m + 1, i, ds, hi, hd, h => by
    unfold lfa at h
    by_cases h15 : 15 ≤ i
    · rw [if_pos h15] at h; cases h
    · rw [if_neg h15] at h
      cases ds with
      | nil => cases h
      | cons d r =>
        have hdi : 0 < due t i := by rw [← hd]; simp
        have hl : r.length = due t i - 1 := by rw [← hd]; simp
        have fin : ∀ ds' : List Nat, ds'.length = due t (i + 1) → (al (t i) = true ∨ jn (t i) = true) → lfa t n m (i + 1) ds' = none → (m + 1 = 0 ∨ n ≤ 15) ∧ due t n = 0 ∧ ∀ j, i ≤ j → j < n → (t j < 128 ∧ (al (t j) = true ∨ jn (t j) = true)) ∧ 0 < due t j := by
          intro ds' hd' ha h'
          obtain ⟨r1, r2, r3⟩ := lfa_ok hc m (i + 1) ds' (by omega) hd' h'
          refine ⟨Or.inr (by omega), r2, fun j h1 h2 => ?_⟩
          rcases Nat.lt_or_ge i j with q | q
          · exact r3 j q h2
          · obtain rfl : j = i := by omega
            exact ⟨⟨hc j h2, ha⟩, hdi⟩
        have ed : due t (i + 1) = (bif jn (t i) then due t i + 1 else due t i - 1) := rfl
        cases hj : jn (t i) with
        | true =>
          simp only [hj, cond_true] at h
          rw [hj] at ed
          by_cases h6 : 6 ≤ d
          · rw [if_pos h6] at h; cases h
          · rw [if_neg h6] at h
            exact fin _ (by rw [ed]; simp [hl]; omega) (Or.inr hj) h
        | false =>
          simp only [hj, cond_false] at h
          rw [hj] at ed
          cases ha : al (t i) with
          | true =>
            simp only [ha, cond_true] at h
            exact fin _ (by rw [ed]; exact hl) (Or.inl ha) h
          | false => simp [ha] at h
theorem lfa_okL {t : Nat → Nat} {n : Nat} (hc : ∀ i, i < n → t i < 128) (h : lfa t n n 0 [0] = none) : okL t n := by
  obtain ⟨h1, h2, h3⟩ := lfa_ok hc n 0 [0] (by omega) rfl h
  refine ⟨⟨?_, h2⟩, fun i hi => h3 i (Nat.zero_le i) hi⟩
  rcases h1 with rfl | h1
  · omega
  · exact h1
/-- how the reference holds the same: how many parts are wanting of each text that stands open -/
def dsT : List Nat → List Nat
  | [] => []
  | r :: rs => List.replicate (r - 1) (rs.length + 1) ++ dsT rs
def prL : List Nat → List Nat
  | [] => []
  | r :: rs => if r = 1 then prL rs else (r - 1) :: rs
def r12 (rs : List Nat) : Prop := ∀ r ∈ rs, r = 1 ∨ r = 2
theorem prL_12 : ∀ {rs : List Nat}, r12 rs → r12 (prL rs)
  | [], h => h
  | r :: rs, h => by
    have ht : r12 rs := fun x hx => h x (List.mem_cons_of_mem _ hx)
    unfold prL
    split
    · exact prL_12 ht
    · rename_i hr
      intro x hx
      rcases List.mem_cons.mp hx with rfl | hx
      · have := h r List.mem_cons_self; omega
      · exact ht x hx
theorem prL_len : ∀ rs : List Nat, (prL rs).length ≤ rs.length
  | [] => Nat.le_refl 0
  | r :: rs => by
    have := prL_len rs
    unfold prL
    split
    · rw [List.length_cons]; omega
    · simp
theorem dsT_pr : ∀ {rs : List Nat}, r12 rs → dsT rs = match prL rs with | [] => [] | r :: q => (r :: q).length :: dsT (r :: q)
  | [], _ => rfl
  | r :: rs, h => by
    have ht : r12 rs := fun x hx => h x (List.mem_cons_of_mem _ hx)
    have hr := h r List.mem_cons_self
    rcases hr with rfl | rfl
    · show List.replicate 0 _ ++ dsT rs = _
      rw [show prL (1 :: rs) = prL rs from if_pos rfl]
      exact dsT_pr ht
    · rfl
section FAULTL
variable {E : xEx} {T : List xSh} {I : Nat → Nat → Int32} {L : Nat → Nat → Int64} {t : Nat → Nat} {n : Nat}
theorem c_faultAsLaw (hn40 : n ≤ 40) (hc : ∀ i, i < n → t i < 128) (hn : I 1 3 = nI n) (ht : ∀ i, i < n → I 2 i = nI (t i)) : xC E 3 7 [.ref 1] (xC0 ++ T, I, L) (fun r u => r = some (.int (fo (lfa t n n 0 [0]))) ∧ ∃ I', u = (xC0 ++ T, I', L) ∧ ∀ a, a ≠ 3 → I' a = I a) := by
  refine xC.mk [some (.ref 1), none, none, none] rfl ?_
  have loop : ∀ (m i : Nat) (ds : List Nat) (I' : Nat → Nat → Int32) (z : Option Value), i + m = n → ds.length ≤ i + 1 → (∀ d ∈ ds, d ≤ 6) → (∀ a, a ≠ 3 → I' a = I a) → irel (I' 3) ds → xW E 3 7 11 [some (.ref 1), some (.int (nI ds.length)), some (.int (nI i)), z] [] (xC0 ++ T, I', L) 0 0 (fun r u => r = some (.int (fo (lfa t n m i ds))) ∧ ∃ I', u = (xC0 ++ T, I', L) ∧ ∀ a, a ≠ 3 → I' a = I a) := by
    intro m
    induction m with
    | zero =>
      intro i ds I' z hi hdl hd6 hf hr
      obtain rfl : i = n := by omega
      have hn' : I' 1 3 = nI i := by rw [hf 1 (by decide)]; exact hn
      cases ds with
      | nil =>
        refine ws_iload_2 12 rfl rfl ?_
        refine ws_aload_0 13 rfl rfl ?_
        refine ws_getfi 16 rfl rfl rfl rfl rfl hn' ?_
        refine ws_icmp_gen 107 19 rfl rfl rfl (by omega) (by omega) (fun h9 => ?_) (fun h9 => absurd h9 (by omega))
        refine ws_iload_1 108 rfl rfl ?_
        refine ws_if_nen 116 111 rfl rfl rfl (by omega) (fun h9 => absurd h9 (by show ¬ ¬ (0 = 0); simp)) (fun h9 => ?_)
        refine ws_bipush 113 rfl rfl kc_bm6 ?_
        refine ws_goto 120 rfl rfl ?_
        refine ws_iret rfl rfl rfl (Nat.le_of_ble_eq_true rfl) ?_
        exact ⟨rfl, I', rfl, hf⟩
      | cons d r =>
        rw [List.length_cons] at hdl ⊢
        refine ws_iload_2 12 rfl rfl ?_
        refine ws_aload_0 13 rfl rfl ?_
        refine ws_getfi 16 rfl rfl rfl rfl rfl hn' ?_
        refine ws_icmp_gen 107 19 rfl rfl rfl (by omega) (by omega) (fun h9 => ?_) (fun h9 => absurd h9 (by omega))
        refine ws_iload_1 108 rfl rfl ?_
        refine ws_if_nen 116 111 rfl rfl rfl (by omega) (fun h9 => ?_) (fun h9 => absurd h9 (by omega))
        refine ws_aload_0 117 rfl rfl ?_
        refine ws_getfi 120 rfl rfl rfl rfl rfl hn' ?_
        refine ws_iret rfl rfl rfl (Nat.le_of_ble_eq_true rfl) ?_
        exact ⟨rfl, I', rfl, hf⟩
    | succ m ih =>
      intro i ds I' z hi hdl hd6 hf hr
      have hn' : I' 1 3 = nI n := by rw [hf 1 (by decide)]; exact hn
      have htc : I' 2 i = nI (t i) := by rw [hf 2 (by decide)]; exact ht i (by omega)
      have hcc := hc i (by omega)
      refine ws_iload_2 12 rfl rfl ?_
      refine ws_aload_0 13 rfl rfl ?_
      refine ws_getfi 16 rfl rfl rfl rfl rfl hn' ?_
      refine ws_icmp_gen 107 19 rfl rfl rfl (by omega) (by omega) (fun h9 => absurd h9 (by omega)) (fun h9 => ?_)
      refine ws_iload_2 20 rfl rfl ?_
      refine ws_bipush 22 rfl rfl kc_b15 ?_
      refine ws_icmp_gen 29 25 rfl rfl rfl (by omega) (by omega) (fun c1 => ?_) (fun c1 => ?_)
      · have ew : lfa t n (m + 1) i ds = some i := by unfold lfa; rw [if_pos c1]
        rw [ew]
        refine ws_iload_2 30 rfl rfl ?_
        refine ws_iret rfl rfl rfl (Nat.le_of_ble_eq_true rfl) ?_
        exact ⟨rfl, I', rfl, hf⟩
      · cases ds with
        | nil =>
          have ew : lfa t n (m + 1) i [] = some i := by unfold lfa; rw [if_neg (by omega)]
          rw [ew]
          refine ws_iload_1 26 rfl rfl ?_
          refine ws_if_gtn 31 29 rfl rfl rfl (by omega) (fun h9 => absurd h9 (by show ¬ (0 < 0); omega)) (fun h9 => ?_)
          refine ws_iload_2 30 rfl rfl ?_
          refine ws_iret rfl rfl rfl (Nat.le_of_ble_eq_true rfl) ?_
          exact ⟨rfl, I', rfl, hf⟩
        | cons d r =>
          have ew : lfa t n (m + 1) i (d :: r) = (bif jn (t i) then (if 6 ≤ d then some i else lfa t n m (i + 1) ((d + 1) :: (d + 1) :: r)) else bif al (t i) then lfa t n m (i + 1) r else some i) := by
            rw [lfa, if_neg (by omega)]
          have hd := hd6 d List.mem_cons_self
          have htop := irel_top hr
          rw [List.length_cons] at hdl ⊢
          have e1 : r.length + 1 - 1 = r.length := Nat.add_sub_cancel ..
          have pj := p_joinsTwo (t i) (by omega)
          have ps := p_standsAlone (t i) (by omega)
          refine ws_iload_1 26 rfl rfl ?_
          refine ws_if_gtn 31 29 rfl rfl rfl (by omega) (fun h9 => ?_) (fun h9 => absurd h9 (by omega))
          refine ws_iinc_1 34 rfl rfl (ki_m1 (by omega)) rfl rfl ?_
          rw [e1]
          cases hj : jn (t i) with
          | true =>
            rw [hj] at pj ew
            refine ws_aload_0 35 rfl rfl ?_
            refine ws_getfr 38 rfl rfl rfl rfl rfl ?_
            refine ws_iload_1 39 rfl rfl ?_
            refine ws_ialdn 40 rfl rfl rfl (by omega) (by omega) htop ?_
            refine ws_istore_3 41 rfl rfl rfl rfl ?_
            refine ws_aload_0 42 rfl rfl ?_
            refine ws_getfr 45 rfl rfl rfl rfl rfl ?_
            refine ws_iload_2 46 rfl rfl ?_
            refine ws_ialdn 47 rfl rfl rfl (by omega) (by omega) htc ?_
            refine ws_invS1p 50 rfl rfl rfl (pj) rfl rfl rfl ?_
            refine ws_if_eqb 87 53 rfl rfl rfl (fun h9 => absurd h9 (by first | decide | simp_all)) (fun h9 => ?_)
            refine ws_iload_3 54 rfl rfl ?_
            refine ws_bipush 56 rfl rfl kc_b6 ?_
            refine ws_icmp_ltn 61 59 rfl rfl rfl (by omega) (by omega) (fun c2 => ?_) (fun c2 => ?_)
            · rw [cond_true, if_neg (by omega)] at ew
              rw [ew]
              have e2 : ((d + 1) :: (d + 1) :: r).length = r.length + 2 := rfl
              have nx := ih (i + 1) ((d + 1) :: (d + 1) :: r) (wI (wI I' 3 r.length (nI (d + 1))) 3 (r.length + 1) (nI (d + 1))) (some (.int (nI d))) (by omega) (by rw [e2]; omega) (fun x hx => by
                rcases List.mem_cons.mp hx with rfl | hx
                · omega
                · rcases List.mem_cons.mp hx with rfl | hx
                  · omega
                  · exact hd6 x (List.mem_cons_of_mem _ hx)) (fun a ha => by rw [wI_ne ha, wI_ne ha]; exact hf a ha) (by
                rw [wI_eq, wI_eq]
                have h1 := irel_push (x := d + 1) (irel_tail hr)
                exact irel_push h1)
              refine ws_aload_0 62 rfl rfl ?_
              refine ws_getfr 65 rfl rfl rfl rfl rfl ?_
              refine ws_iload_1 66 rfl rfl ?_
              refine ws_iload_3 67 rfl rfl ?_
              refine ws_iconst 68 rfl rfl kc_i1 ?_
              refine ws_iadd 69 rfl rfl (nI_add _ _) ?_
              refine ws_iastn 70 rfl rfl rfl (by omega) (by omega) ?_
              refine ws_aload_0 71 rfl rfl ?_
              refine ws_getfr 74 rfl rfl rfl rfl rfl ?_
              refine ws_iload_1 75 rfl rfl ?_
              refine ws_iconst 76 rfl rfl kc_i1 ?_
              refine ws_iadd 77 rfl rfl (nI_add _ _) ?_
              refine ws_iload_3 78 rfl rfl ?_
              refine ws_iconst 79 rfl rfl kc_i1 ?_
              refine ws_iadd 80 rfl rfl (nI_add _ _) ?_
              refine ws_iastn 81 rfl rfl rfl (by omega) (by omega) ?_
              refine ws_iinc_1 84 rfl rfl (by rw [show Int32.ofInt 2 = nI 2 from rfl, nI_add]) rfl rfl ?_
              refine ws_goto 101 rfl rfl ?_
              refine ws_iinc_2 104 rfl rfl (ki_1 _) rfl rfl ?_
              refine ws_goto 11 rfl rfl ?_
              exact nx
            · rw [cond_true, if_pos (by omega)] at ew
              rw [ew]
              refine ws_iload_2 60 rfl rfl ?_
              refine ws_iret rfl rfl rfl (Nat.le_of_ble_eq_true rfl) ?_
              exact ⟨rfl, I', rfl, hf⟩
          | false =>
            rw [hj] at pj ew
            rw [cond_false] at ew
            cases ha : al (t i) with
            | true =>
              rw [ha] at ps ew
              rw [cond_true] at ew
              rw [ew]
              refine ws_aload_0 35 rfl rfl ?_
              refine ws_getfr 38 rfl rfl rfl rfl rfl ?_
              refine ws_iload_1 39 rfl rfl ?_
              refine ws_ialdn 40 rfl rfl rfl (by omega) (by omega) htop ?_
              refine ws_istore_3 41 rfl rfl rfl rfl ?_
              refine ws_aload_0 42 rfl rfl ?_
              refine ws_getfr 45 rfl rfl rfl rfl rfl ?_
              refine ws_iload_2 46 rfl rfl ?_
              refine ws_ialdn 47 rfl rfl rfl (by omega) (by omega) htc ?_
              refine ws_invS1p 50 rfl rfl rfl (pj) rfl rfl rfl ?_
              refine ws_if_eqb 87 53 rfl rfl rfl (fun h9 => ?_) (fun h9 => absurd h9 (by first | decide | simp_all))
              refine ws_aload_0 88 rfl rfl ?_
              refine ws_getfr 91 rfl rfl rfl rfl rfl ?_
              refine ws_iload_2 92 rfl rfl ?_
              refine ws_ialdn 93 rfl rfl rfl (by omega) (by omega) htc ?_
              refine ws_invS1p 96 rfl rfl rfl (ps) rfl rfl rfl ?_
              refine ws_if_neb 101 99 rfl rfl rfl (fun h9 => ?_) (fun h9 => absurd h9 (by first | decide | simp_all))
              refine ws_iinc_2 104 rfl rfl (ki_1 _) rfl rfl ?_
              refine ws_goto 11 rfl rfl ?_
              exact ih (i + 1) r I' _ (by omega) (by omega) (fun x hx => hd6 x (List.mem_cons_of_mem _ hx)) hf (irel_tail hr)
            | false =>
              rw [ha] at ps ew
              rw [cond_false] at ew
              rw [ew]
              refine ws_aload_0 35 rfl rfl ?_
              refine ws_getfr 38 rfl rfl rfl rfl rfl ?_
              refine ws_iload_1 39 rfl rfl ?_
              refine ws_ialdn 40 rfl rfl rfl (by omega) (by omega) htop ?_
              refine ws_istore_3 41 rfl rfl rfl rfl ?_
              refine ws_aload_0 42 rfl rfl ?_
              refine ws_getfr 45 rfl rfl rfl rfl rfl ?_
              refine ws_iload_2 46 rfl rfl ?_
              refine ws_ialdn 47 rfl rfl rfl (by omega) (by omega) htc ?_
              refine ws_invS1p 50 rfl rfl rfl (pj) rfl rfl rfl ?_
              refine ws_if_eqb 87 53 rfl rfl rfl (fun h9 => ?_) (fun h9 => absurd h9 (by first | decide | simp_all))
              refine ws_aload_0 88 rfl rfl ?_
              refine ws_getfr 91 rfl rfl rfl rfl rfl ?_
              refine ws_iload_2 92 rfl rfl ?_
              refine ws_ialdn 93 rfl rfl rfl (by omega) (by omega) htc ?_
              refine ws_invS1p 96 rfl rfl rfl (ps) rfl rfl rfl ?_
              refine ws_if_neb 101 99 rfl rfl rfl (fun h9 => absurd h9 (by first | decide | simp_all)) (fun h9 => ?_)
              refine ws_iload_2 100 rfl rfl ?_
              refine ws_iret rfl rfl rfl (Nat.le_of_ble_eq_true rfl) ?_
              exact ⟨rfl, I', rfl, hf⟩
  refine ws_aload_0 1 rfl rfl ?_
  refine ws_getfr 4 rfl rfl rfl rfl rfl ?_
  refine ws_iconst 5 rfl rfl kc_i0 ?_
  refine ws_iconst 6 rfl rfl kc_i0 ?_
  refine ws_iastn 7 rfl rfl rfl (by omega) (by omega) ?_
  refine ws_iconst 8 rfl rfl kc_i1 ?_
  refine ws_istore_1 9 rfl rfl rfl rfl ?_
  refine ws_iconst 10 rfl rfl kc_i0 ?_
  refine ws_istore_2 11 rfl rfl rfl rfl ?_
  exact loop n 0 [0] _ _ (by omega) (by simp) (fun d hd => by simp at hd; omega) (fun a ha => wI_ne ha) (by rw [wI_eq]; exact irel_push (irel_nil _))
theorem m_lawFault (hn40 : n ≤ 40) (hc : ∀ i, i < n → t i < 128) (hn : I 42 2 = nI n) (ht : ∀ i, i < n → I 45 i = nI (t i)) : xC E 3 91 [.ref 42] (xS, I, L) (fun r u => r = some (.int (fo (lfa t n n 0 [0]))) ∧ ∃ I', u = (xS, I', L) ∧ ∀ a, a ≠ 52 → I' a = I a) := by
  refine xC.mk [some (.ref 42), none, none, none, none] rfl ?_
  -- the levels that are full now
  have pops : ∀ (i : Nat) (p3 : Int32) (v : Option Nat) (rs : List Nat) (I' : Nat → Nat → Int32), rs ≠ [] → r12 rs → rs.length ≤ 6 → (∀ a, a ≠ 52 → I' a = I a) → irel (I' 52) rs → (∀ (I2 : Nat → Nat → Int32) (z4 : Option Value), (∀ a, a ≠ 52 → I2 a = I a) → irel (I2 52) (prL rs) → xW E 3 91 139 [some (.ref 42), some (.int (nI (prL rs).length)), some (.int (nI i)), some (.int p3), z4] [] (xS, I2, L) 0 0 (fun r u => r = some (.int (fo v)) ∧ ∃ I', u = (xS, I', L) ∧ ∀ a, a ≠ 52 → I' a = I a)) → xW E 3 91 72 [some (.ref 42), some (.int (nI rs.length)), some (.int (nI i)), some (.int p3), some (.int (nI 1))] [] (xS, I', L) 0 0 (fun r u => r = some (.int (fo v)) ∧ ∃ I', u = (xS, I', L) ∧ ∀ a, a ≠ 52 → I' a = I a) := by
    intro i p3 v rs
    induction rs with
    | nil => intro I' h; exact absurd rfl h
    | cons r rs ih =>
      intro I' _ hr12 hl hf hr kk
      rw [List.length_cons] at hl ⊢
      have e1 : rs.length + 1 - 1 = rs.length := Nat.add_sub_cancel ..
      have htop := irel_top hr
      have hrr := hr12 r List.mem_cons_self
      have ht12 : r12 rs := fun x hx => hr12 x (List.mem_cons_of_mem _ hx)
      have htop2 : wI I' 52 rs.length (nI (r - 1)) 52 rs.length = nI (r - 1) := by rw [wI_eq, pk_us]
      have hf2 : ∀ a, a ≠ 52 → wI I' 52 rs.length (nI (r - 1)) a = I a := fun a ha => by rw [wI_ne ha]; exact hf a ha
      have hr2 : irel (wI I' 52 rs.length (nI (r - 1)) 52) rs := by rw [wI_eq]; exact irel_off (irel_tail hr) (Nat.le_refl _)
      refine ws_iload_4 74 rfl rfl ?_
      refine ws_if_eqn 139 77 rfl rfl rfl (by omega) (fun h9 => absurd h9 (by omega)) (fun h9 => ?_)
      refine ws_aload_0 78 rfl rfl ?_
      refine ws_getfr 81 rfl rfl rfl rfl rfl ?_
      refine ws_iload_1 82 rfl rfl ?_
      refine ws_iconst 83 rfl rfl kc_i1 ?_
      refine ws_isub 84 rfl rfl (pk_sub (by omega)) ?_
      rw [e1]
      refine ws_dup2 85 rfl rfl rfl rfl ?_
      refine ws_ialdn 86 rfl rfl rfl (by omega) (by omega) htop ?_
      refine ws_iconst 87 rfl rfl kc_i1 ?_
      refine ws_isub 88 rfl rfl (pk_sub (by omega)) ?_
      refine ws_iastn 89 rfl rfl rfl (by omega) (by omega) ?_
      refine ws_aload_0 90 rfl rfl ?_
      refine ws_getfr 93 rfl rfl rfl rfl rfl ?_
      refine ws_iload_1 94 rfl rfl ?_
      refine ws_iconst 95 rfl rfl kc_i1 ?_
      refine ws_isub 96 rfl rfl (pk_sub (by omega)) ?_
      rw [e1]
      rcases hrr with rfl | rfl
      · have ep : prL (1 :: rs) = prL rs := if_pos rfl
        rw [ep] at kk
        refine ws_ialdn 97 rfl rfl rfl (by omega) (by omega) htop2 ?_
        refine ws_if_nen 104 100 rfl rfl rfl (by omega) (fun h9 => absurd h9 (by omega)) (fun h9 => ?_)
        refine ws_iconst 101 rfl rfl kc_i1 ?_
        refine ws_goto 105 rfl rfl ?_
        refine ws_istore_4 107 rfl rfl rfl rfl ?_
        refine ws_iload_1 108 rfl rfl ?_
        refine ws_iload_4 110 rfl rfl ?_
        refine ws_if_eqn 117 113 rfl rfl rfl (by omega) (fun h9 => absurd h9 (by omega)) (fun h9 => ?_)
        refine ws_iconst 114 rfl rfl kc_i1 ?_
        refine ws_goto 118 rfl rfl ?_
        refine ws_isub 119 rfl rfl (pk_sub (by omega)) ?_
        rw [e1]
        cases rs with
        | nil =>
          refine ws_istore_1 120 rfl rfl rfl rfl ?_
          refine ws_iload_4 122 rfl rfl ?_
          refine ws_if_eqn 133 125 rfl rfl rfl (by omega) (fun h9 => absurd h9 (by omega)) (fun h9 => ?_)
          refine ws_iload_1 126 rfl rfl ?_
          refine ws_if_len 133 129 rfl rfl rfl (by omega) (fun h9 => ?_) (fun h9 => absurd h9 (by show ¬ (0 < 0); omega))
          refine ws_iconst 134 rfl rfl kc_i0 ?_
          refine ws_istore_4 136 rfl rfl rfl rfl ?_
          refine ws_goto 72 rfl rfl ?_
          refine ws_iload_4 74 rfl rfl ?_
          refine ws_if_eqn 139 77 rfl rfl rfl (by omega) (fun h9 => ?_) (fun h9 => absurd h9 (by show ¬ ¬ (0 = 0); simp))
          exact kk _ _ hf2 (irel_nil _)
        | cons r2 rs2 =>
          rw [List.length_cons] at hl ih ⊢
          refine ws_istore_1 120 rfl rfl rfl rfl ?_
          refine ws_iload_4 122 rfl rfl ?_
          refine ws_if_eqn 133 125 rfl rfl rfl (by omega) (fun h9 => absurd h9 (by omega)) (fun h9 => ?_)
          refine ws_iload_1 126 rfl rfl ?_
          refine ws_if_len 133 129 rfl rfl rfl (by omega) (fun h9 => absurd h9 (by omega)) (fun h9 => ?_)
          refine ws_iconst 130 rfl rfl kc_i1 ?_
          refine ws_goto 134 rfl rfl ?_
          refine ws_istore_4 136 rfl rfl rfl rfl ?_
          refine ws_goto 72 rfl rfl ?_
          exact ih _ (by simp) ht12 (by omega) hf2 hr2 kk
      · have ep : prL (2 :: rs) = 1 :: rs := if_neg (by omega)
        rw [ep, List.length_cons] at kk
        have e0 : rs.length + 1 - 0 = rs.length + 1 := rfl
        refine ws_ialdn 97 rfl rfl rfl (by omega) (by omega) htop2 ?_
        refine ws_if_nen 104 100 rfl rfl rfl (by omega) (fun h9 => ?_) (fun h9 => absurd h9 (by omega))
        refine ws_iconst 105 rfl rfl kc_i0 ?_
        refine ws_istore_4 107 rfl rfl rfl rfl ?_
        refine ws_iload_1 108 rfl rfl ?_
        refine ws_iload_4 110 rfl rfl ?_
        refine ws_if_eqn 117 113 rfl rfl rfl (by omega) (fun h9 => ?_) (fun h9 => absurd h9 (by omega))
        refine ws_iconst 118 rfl rfl kc_i0 ?_
        refine ws_isub 119 rfl rfl (pk_sub (by omega)) ?_
        rw [e0]
        refine ws_istore_1 120 rfl rfl rfl rfl ?_
        refine ws_iload_4 122 rfl rfl ?_
        refine ws_if_eqn 133 125 rfl rfl rfl (by omega) (fun h9 => ?_) (fun h9 => absurd h9 (by omega))
        refine ws_iconst 134 rfl rfl kc_i0 ?_
        refine ws_istore_4 136 rfl rfl rfl rfl ?_
        refine ws_goto 72 rfl rfl ?_
        refine ws_iload_4 74 rfl rfl ?_
        refine ws_if_eqn 139 77 rfl rfl rfl (by omega) (fun h9 => ?_) (fun h9 => absurd h9 (by omega))
        exact kk _ _ hf2 (by rw [wI_eq]; exact irel_push (irel_tail hr))
  have loop : ∀ (m i : Nat) (rs : List Nat) (I' : Nat → Nat → Int32) (z z2 : Option Value), i + m = n → i ≤ 15 → r12 rs → rs.length ≤ 6 → (∀ a, a ≠ 52 → I' a = I a) → irel (I' 52) rs → xW E 3 91 4 [some (.ref 42), some (.int (nI rs.length)), some (.int (nI i)), z, z2] [] (xS, I', L) 0 0 (fun r u => r = some (.int (fo (lfa t n m i (rs.length :: dsT rs)))) ∧ ∃ I', u = (xS, I', L) ∧ ∀ a, a ≠ 52 → I' a = I a) := by
    intro m
    induction m with
    | zero =>
      intro i rs I' z z2 hi hi15 hr12 hl hf hr
      obtain rfl : i = n := by omega
      have hn' : I' 42 2 = nI i := by rw [hf 42 (by decide)]; exact hn
      refine ws_iload_2 5 rfl rfl ?_
      refine ws_aload_0 6 rfl rfl ?_
      refine ws_getfi 9 rfl rfl rfl rfl rfl hn' ?_
      refine ws_icmp_gen 168 12 rfl rfl rfl (by omega) (by omega) (fun h9 => ?_) (fun h9 => absurd h9 (by omega))
      refine ws_aload_0 169 rfl rfl ?_
      refine ws_getfi 172 rfl rfl rfl rfl rfl hn' ?_
      refine ws_iret rfl rfl rfl (Nat.le_of_ble_eq_true rfl) ?_
      exact ⟨rfl, I', rfl, hf⟩
    | succ m ih =>
      intro i rs I' z z2 hi hi15 hr12 hl hf hr
      have hn' : I' 42 2 = nI n := by rw [hf 42 (by decide)]; exact hn
      have htc : I' 45 i = nI (t i) := by rw [hf 45 (by decide)]; exact ht i (by omega)
      have hcc := hc i (by omega)
      have pp := p_partsOf (t i) (by omega)
      rcases Nat.lt_or_ge i 15 with c1 | c1
      · have ew : lfa t n (m + 1) i (rs.length :: dsT rs) = (bif jn (t i) then (if 6 ≤ rs.length then some i else lfa t n m (i + 1) ((rs.length + 1) :: (rs.length + 1) :: dsT rs)) else bif al (t i) then lfa t n m (i + 1) (dsT rs) else some i) := by
          rw [lfa, if_neg (by omega)]
        cases hj : jn (t i) with
        | true =>
          rw [hj, jn_al hj] at pp
          rw [hj, cond_true] at ew
          rcases Nat.lt_or_ge rs.length 6 with c2 | c2
          · rw [if_neg (by omega)] at ew
            rw [ew]
            have nx := ih (i + 1) (2 :: rs) (wI I' 52 rs.length (nI 2)) (some (.int (nI 2))) z2 (by omega) (by omega) (fun x hx => by
              rcases List.mem_cons.mp hx with rfl | hx
              · omega
              · exact hr12 x hx) (by rw [List.length_cons]; omega) (fun a ha => by rw [wI_ne ha]; exact hf a ha) (by rw [wI_eq]; exact irel_push hr)
            refine ws_iload_2 5 rfl rfl ?_
            refine ws_aload_0 6 rfl rfl ?_
            refine ws_getfi 9 rfl rfl rfl rfl rfl hn' ?_
            refine ws_icmp_gen 168 12 rfl rfl rfl (by omega) (by omega) (fun h9 => absurd h9 (by omega)) (fun h9 => ?_)
            refine ws_aload_0 13 rfl rfl ?_
            refine ws_getfr 16 rfl rfl rfl rfl rfl ?_
            refine ws_iload_2 17 rfl rfl ?_
            refine ws_ialdn 18 rfl rfl rfl (by omega) (by omega) htc ?_
            refine ws_invS1p 21 rfl rfl rfl (pp) rfl rfl rfl ?_
            refine ws_istore_3 22 rfl rfl rfl rfl ?_
            refine ws_iload_2 23 rfl rfl ?_
            refine ws_bipush 25 rfl rfl kc_b15 ?_
            refine ws_icmp_eqn 42 28 rfl rfl rfl (by omega) (by omega) (fun h9 => absurd h9 (by omega)) (fun h9 => ?_)
            refine ws_iload_3 29 rfl rfl ?_
            refine ws_if_ltn 42 32 rfl rfl rfl (by omega) (fun h9 => absurd h9 (by omega)) (fun h9 => ?_)
            refine ws_iload_3 33 rfl rfl ?_
            refine ws_if_len 44 36 rfl rfl rfl (by omega) (fun h9 => absurd h9 (by omega)) (fun h9 => ?_)
            refine ws_iload_1 37 rfl rfl ?_
            refine ws_bipush 39 rfl rfl kc_b6 ?_
            refine ws_icmp_nen 44 42 rfl rfl rfl (by omega) (by omega) (fun h9 => ?_) (fun h9 => absurd h9 (by omega))
            refine ws_iload_3 45 rfl rfl ?_
            refine ws_if_len 61 48 rfl rfl rfl (by omega) (fun h9 => absurd h9 (by omega)) (fun h9 => ?_)
            refine ws_aload_0 49 rfl rfl ?_
            refine ws_getfr 52 rfl rfl rfl rfl rfl ?_
            refine ws_iload_1 53 rfl rfl ?_
            refine ws_iload_3 54 rfl rfl ?_
            refine ws_iastn 55 rfl rfl rfl (by omega) (by omega) ?_
            refine ws_iinc_1 58 rfl rfl (ki_1 _) rfl rfl ?_
            refine ws_goto 162 rfl rfl ?_
            refine ws_iinc_2 165 rfl rfl (ki_1 _) rfl rfl ?_
            refine ws_goto 4 rfl rfl ?_
            exact nx
          · rw [if_pos c2] at ew
            rw [ew]
            refine ws_iload_2 5 rfl rfl ?_
            refine ws_aload_0 6 rfl rfl ?_
            refine ws_getfi 9 rfl rfl rfl rfl rfl hn' ?_
            refine ws_icmp_gen 168 12 rfl rfl rfl (by omega) (by omega) (fun h9 => absurd h9 (by omega)) (fun h9 => ?_)
            refine ws_aload_0 13 rfl rfl ?_
            refine ws_getfr 16 rfl rfl rfl rfl rfl ?_
            refine ws_iload_2 17 rfl rfl ?_
            refine ws_ialdn 18 rfl rfl rfl (by omega) (by omega) htc ?_
            refine ws_invS1p 21 rfl rfl rfl (pp) rfl rfl rfl ?_
            refine ws_istore_3 22 rfl rfl rfl rfl ?_
            refine ws_iload_2 23 rfl rfl ?_
            refine ws_bipush 25 rfl rfl kc_b15 ?_
            refine ws_icmp_eqn 42 28 rfl rfl rfl (by omega) (by omega) (fun h9 => absurd h9 (by omega)) (fun h9 => ?_)
            refine ws_iload_3 29 rfl rfl ?_
            refine ws_if_ltn 42 32 rfl rfl rfl (by omega) (fun h9 => absurd h9 (by omega)) (fun h9 => ?_)
            refine ws_iload_3 33 rfl rfl ?_
            refine ws_if_len 44 36 rfl rfl rfl (by omega) (fun h9 => absurd h9 (by omega)) (fun h9 => ?_)
            refine ws_iload_1 37 rfl rfl ?_
            refine ws_bipush 39 rfl rfl kc_b6 ?_
            refine ws_icmp_nen 44 42 rfl rfl rfl (by omega) (by omega) (fun h9 => absurd h9 (by omega)) (fun h9 => ?_)
            refine ws_iload_2 43 rfl rfl ?_
            refine ws_iret rfl rfl rfl (Nat.le_of_ble_eq_true rfl) ?_
            exact ⟨rfl, I', rfl, hf⟩
        | false =>
          rw [hj, cond_false] at ew
          cases ha : al (t i) with
          | false =>
            rw [hj, ha] at pp
            rw [ha, cond_false] at ew
            rw [ew]
            refine ws_iload_2 5 rfl rfl ?_
            refine ws_aload_0 6 rfl rfl ?_
            refine ws_getfi 9 rfl rfl rfl rfl rfl hn' ?_
            refine ws_icmp_gen 168 12 rfl rfl rfl (by omega) (by omega) (fun h9 => absurd h9 (by omega)) (fun h9 => ?_)
            refine ws_aload_0 13 rfl rfl ?_
            refine ws_getfr 16 rfl rfl rfl rfl rfl ?_
            refine ws_iload_2 17 rfl rfl ?_
            refine ws_ialdn 18 rfl rfl rfl (by omega) (by omega) htc ?_
            refine ws_invS1p 21 rfl rfl rfl (pp) rfl rfl rfl ?_
            refine ws_istore_3 22 rfl rfl rfl rfl ?_
            refine ws_iload_2 23 rfl rfl ?_
            refine ws_bipush 25 rfl rfl kc_b15 ?_
            refine ws_icmp_eqn 42 28 rfl rfl rfl (by omega) (by omega) (fun h9 => absurd h9 (by omega)) (fun h9 => ?_)
            refine ws_iload_3 29 rfl rfl ?_
            refine ws_if_lt 42 32 rfl rfl rfl (fun h9 => ?_) (fun h9 => absurd h9 (by decide))
            refine ws_iload_2 43 rfl rfl ?_
            refine ws_iret rfl rfl rfl (Nat.le_of_ble_eq_true rfl) ?_
            exact ⟨rfl, I', rfl, hf⟩
          | true =>
            rw [hj, ha] at pp
            rw [ha, cond_true] at ew
            rw [ew]
            -- behind a text that is whole
            have fin : ∀ (I2 : Nat → Nat → Int32) (z3 z4 : Option Value), (∀ a, a ≠ 52 → I2 a = I a) → irel (I2 52) (prL rs) → xW E 3 91 139 [some (.ref 42), some (.int (nI (prL rs).length)), some (.int (nI i)), z3, z4] [] (xS, I2, L) 0 0 (fun r u => r = some (.int (fo (lfa t n m (i + 1) (dsT rs)))) ∧ ∃ I', u = (xS, I', L) ∧ ∀ a, a ≠ 52 → I' a = I a) := by
              intro I2 z3 z4 hf2 hr2
              have hd := dsT_pr hr12
              have hpl := prL_len rs
              have hp12 := prL_12 hr12
              have hn2 : I2 42 2 = nI n := by rw [hf2 42 (by decide)]; exact hn
              cases hp : prL rs with
              | nil =>
                rw [hp] at hd
                rw [hd, List.length_nil]
                rcases Nat.eq_zero_or_pos m with h0 | h0
                · subst h0
                  refine ws_iload_1 140 rfl rfl ?_
                  refine ws_if_nen 162 143 rfl rfl rfl (by omega) (fun h9 => absurd h9 (by omega)) (fun h9 => ?_)
                  refine ws_iload_2 144 rfl rfl ?_
                  refine ws_iconst 145 rfl rfl kc_i1 ?_
                  refine ws_iadd 146 rfl rfl (nI_add _ _) ?_
                  refine ws_aload_0 147 rfl rfl ?_
                  refine ws_getfi 150 rfl rfl rfl rfl rfl hn2 ?_
                  refine ws_icmp_nen 158 153 rfl rfl rfl (by omega) (by omega) (fun h9 => absurd h9 (by omega)) (fun h9 => ?_)
                  refine ws_bipush 155 rfl rfl kc_bm6 ?_
                  refine ws_goto 161 rfl rfl ?_
                  refine ws_iret rfl rfl rfl (Nat.le_of_ble_eq_true rfl) ?_
                  exact ⟨rfl, I2, rfl, hf2⟩
                · have el : lfa t n m (i + 1) [] = some (i + 1) := by
                    obtain ⟨m', rfl⟩ : ∃ m', m = m' + 1 := ⟨m - 1, by omega⟩
                    unfold lfa
                    split <;> rfl
                  rw [el]
                  refine ws_iload_1 140 rfl rfl ?_
                  refine ws_if_nen 162 143 rfl rfl rfl (by omega) (fun h9 => absurd h9 (by omega)) (fun h9 => ?_)
                  refine ws_iload_2 144 rfl rfl ?_
                  refine ws_iconst 145 rfl rfl kc_i1 ?_
                  refine ws_iadd 146 rfl rfl (nI_add _ _) ?_
                  refine ws_aload_0 147 rfl rfl ?_
                  refine ws_getfi 150 rfl rfl rfl rfl rfl hn2 ?_
                  refine ws_icmp_nen 158 153 rfl rfl rfl (by omega) (by omega) (fun h9 => ?_) (fun h9 => absurd h9 (by omega))
                  refine ws_iload_2 159 rfl rfl ?_
                  refine ws_iconst 160 rfl rfl kc_i1 ?_
                  refine ws_iadd 161 rfl rfl (nI_add _ _) ?_
                  refine ws_iret rfl rfl rfl (Nat.le_of_ble_eq_true rfl) ?_
                  exact ⟨rfl, I2, rfl, hf2⟩
              | cons r q =>
                rw [hp] at hd hpl hp12 hr2
                rw [hd]
                have hq : (r :: q).length = q.length + 1 := rfl
                refine ws_iload_1 140 rfl rfl ?_
                refine ws_if_nen 162 143 rfl rfl rfl (by omega) (fun h9 => ?_) (fun h9 => absurd h9 (by rw [hq]; omega))
                refine ws_iinc_2 165 rfl rfl (ki_1 _) rfl rfl ?_
                refine ws_goto 4 rfl rfl ?_
                exact ih (i + 1) (r :: q) I2 _ _ (by omega) (by omega) hp12 (by omega) hf2 hr2
            cases hrs : rs with
            | nil =>
              subst hrs
              refine ws_iload_2 5 rfl rfl ?_
              refine ws_aload_0 6 rfl rfl ?_
              refine ws_getfi 9 rfl rfl rfl rfl rfl hn' ?_
              refine ws_icmp_gen 168 12 rfl rfl rfl (by omega) (by omega) (fun h9 => absurd h9 (by omega)) (fun h9 => ?_)
              refine ws_aload_0 13 rfl rfl ?_
              refine ws_getfr 16 rfl rfl rfl rfl rfl ?_
              refine ws_iload_2 17 rfl rfl ?_
              refine ws_ialdn 18 rfl rfl rfl (by omega) (by omega) htc ?_
              refine ws_invS1p 21 rfl rfl rfl (pp) rfl rfl rfl ?_
              refine ws_istore_3 22 rfl rfl rfl rfl ?_
              refine ws_iload_2 23 rfl rfl ?_
              refine ws_bipush 25 rfl rfl kc_b15 ?_
              refine ws_icmp_eqn 42 28 rfl rfl rfl (by omega) (by omega) (fun h9 => absurd h9 (by omega)) (fun h9 => ?_)
              refine ws_iload_3 29 rfl rfl ?_
              refine ws_if_ltn 42 32 rfl rfl rfl (by omega) (fun h9 => absurd h9 (by omega)) (fun h9 => ?_)
              refine ws_iload_3 33 rfl rfl ?_
              refine ws_if_len 44 36 rfl rfl rfl (by omega) (fun h9 => ?_) (fun h9 => absurd h9 (by omega))
              refine ws_iload_3 45 rfl rfl ?_
              refine ws_if_len 61 48 rfl rfl rfl (by omega) (fun h9 => ?_) (fun h9 => absurd h9 (by omega))
              refine ws_iload_1 62 rfl rfl ?_
              refine ws_if_len 69 65 rfl rfl rfl (by omega) (fun h9 => ?_) (fun h9 => absurd h9 (by show ¬ (0 < 0); omega))
              refine ws_iconst 70 rfl rfl kc_i0 ?_
              refine ws_istore_4 72 rfl rfl rfl rfl ?_
              refine ws_iload_4 74 rfl rfl ?_
              refine ws_if_eqn 139 77 rfl rfl rfl (by omega) (fun h9 => ?_) (fun h9 => absurd h9 (by omega))
              exact fin I' _ _ hf hr
            | cons r q =>
              have hne : rs ≠ [] := by rw [hrs]; simp
              have hq : rs.length = q.length + 1 := by rw [hrs]; rfl
              rw [← hrs]
              refine ws_iload_2 5 rfl rfl ?_
              refine ws_aload_0 6 rfl rfl ?_
              refine ws_getfi 9 rfl rfl rfl rfl rfl hn' ?_
              refine ws_icmp_gen 168 12 rfl rfl rfl (by omega) (by omega) (fun h9 => absurd h9 (by omega)) (fun h9 => ?_)
              refine ws_aload_0 13 rfl rfl ?_
              refine ws_getfr 16 rfl rfl rfl rfl rfl ?_
              refine ws_iload_2 17 rfl rfl ?_
              refine ws_ialdn 18 rfl rfl rfl (by omega) (by omega) htc ?_
              refine ws_invS1p 21 rfl rfl rfl (pp) rfl rfl rfl ?_
              refine ws_istore_3 22 rfl rfl rfl rfl ?_
              refine ws_iload_2 23 rfl rfl ?_
              refine ws_bipush 25 rfl rfl kc_b15 ?_
              refine ws_icmp_eqn 42 28 rfl rfl rfl (by omega) (by omega) (fun h9 => absurd h9 (by omega)) (fun h9 => ?_)
              refine ws_iload_3 29 rfl rfl ?_
              refine ws_if_ltn 42 32 rfl rfl rfl (by omega) (fun h9 => absurd h9 (by omega)) (fun h9 => ?_)
              refine ws_iload_3 33 rfl rfl ?_
              refine ws_if_len 44 36 rfl rfl rfl (by omega) (fun h9 => ?_) (fun h9 => absurd h9 (by omega))
              refine ws_iload_3 45 rfl rfl ?_
              refine ws_if_len 61 48 rfl rfl rfl (by omega) (fun h9 => ?_) (fun h9 => absurd h9 (by omega))
              refine ws_iload_1 62 rfl rfl ?_
              refine ws_if_len 69 65 rfl rfl rfl (by omega) (fun h9 => absurd h9 (by omega)) (fun h9 => ?_)
              refine ws_iconst 66 rfl rfl kc_i1 ?_
              refine ws_goto 70 rfl rfl ?_
              refine ws_istore_4 72 rfl rfl rfl rfl ?_
              exact pops i _ _ rs I' hne hr12 hl hf hr (fun I2 z4 a b => fin I2 _ z4 a b)
      · obtain rfl : i = 15 := by omega
        have ew : lfa t n (m + 1) 15 (rs.length :: dsT rs) = some 15 := by unfold lfa; rw [if_pos (by omega)]
        rw [ew]
        refine ws_iload_2 5 rfl rfl ?_
        refine ws_aload_0 6 rfl rfl ?_
        refine ws_getfi 9 rfl rfl rfl rfl rfl hn' ?_
        refine ws_icmp_gen 168 12 rfl rfl rfl (by omega) (by omega) (fun h9 => absurd h9 (by omega)) (fun h9 => ?_)
        refine ws_aload_0 13 rfl rfl ?_
        refine ws_getfr 16 rfl rfl rfl rfl rfl ?_
        refine ws_iload_2 17 rfl rfl ?_
        refine ws_ialdn 18 rfl rfl rfl (by omega) (by omega) htc ?_
        refine ws_invS1p 21 rfl rfl rfl (pp) rfl rfl rfl ?_
        refine ws_istore_3 22 rfl rfl rfl rfl ?_
        refine ws_iload_2 23 rfl rfl ?_
        refine ws_bipush 25 rfl rfl kc_b15 ?_
        refine ws_icmp_eqn 42 28 rfl rfl rfl (by omega) (by omega) (fun h9 => ?_) (fun h9 => absurd h9 (by omega))
        refine ws_iload_2 43 rfl rfl ?_
        refine ws_iret rfl rfl rfl (Nat.le_of_ble_eq_true rfl) ?_
        exact ⟨rfl, I', rfl, hf⟩
  refine ws_iconst 1 rfl rfl kc_i0 ?_
  refine ws_istore_1 2 rfl rfl rfl rfl ?_
  refine ws_iconst 3 rfl rfl kc_i0 ?_
  refine ws_istore_2 4 rfl rfl rfl rfl ?_
  exact loop n 0 [] I _ _ (by omega) (by omega) (fun _ h => by cases h) (by simp) (fun _ _ => rfl) (irel_nil _)
end FAULTL
end
section
/-! ===== all windows: codes to six, numbers to eight ===== -/
/-- things of a window, as bits; none: one stands twice -/
def tin (b : Nat → Nat) : Nat → Option Nat
  | 0 => some 0
  | k + 1 => match tin b k with
    | none => none
    | some s => if b k = 0 then some s else if s / 2 ^ (b k - 1) % 2 = 1 then none else some (s ||| 2 ^ (b k - 1))
def cd (b : Nat → Nat) : Nat := b 0 * 1296 + b 1 * 216 + b 2 * 36 + b 3 * 6 + b 4
def n8 (b : Nat → Nat) : Nat := (((b 0 * 8 + b 1) * 8 + b 2) * 8 + b 3) * 8 + b 4
def vB (c : Nat) : Bool := (tin (dg c) 5).isSome
def sC (c : Nat) : Nat := (tin (dg c) 5).getD 0
def vc : List Nat := (List.range 7776).filter vB
def enT (f : Nat → Nat → List (Nat × Nat)) (num s : Nat) : Nat → List (Nat × Nat)
  | 0 => []
  | th + 1 => enT f num s th ++ (if s / 2 ^ th % 2 = 0 then f (num * 8 + (th + 1)) (s ||| 2 ^ th) else [])
/-- how the class lists them -/
def en : Nat → Nat → Nat → List (Nat × Nat)
  | 0, num, s => [(num, s)]
  | k + 1, num, s => en k (num * 8) s ++ enT (en k) num s 5
theorem en_vc : en 5 0 0 = vc.map (fun c => (n8 (dg c), sC c)) := by decide +kernel
theorem vc_len : vc.length = 1546 := by decide +kernel
def vcn (i : Nat) : Nat := vc.getD i 0
theorem dg_0 (c : Nat) : dg c 0 = c / 1296 % 6 := rfl
theorem dg_1 (c : Nat) : dg c 1 = c / 216 % 6 := rfl
theorem dg_2 (c : Nat) : dg c 2 = c / 36 % 6 := rfl
theorem dg_3 (c : Nat) : dg c 3 = c / 6 % 6 := rfl
theorem dg_4 (c : Nat) : dg c 4 = c / 1 % 6 := rfl
theorem dg_le (c p : Nat) : dg c p ≤ 5 := by unfold dg; omega
theorem p5 {P : Nat → Prop} (h0 : P 0) (h1 : P 1) (h2 : P 2) (h3 : P 3) (h4 : P 4) : ∀ p, p < 5 → P p := by
  intro p hp
  rcases (show p = 0 ∨ p = 1 ∨ p = 2 ∨ p = 3 ∨ p = 4 by omega) with rfl | rfl | rfl | rfl | rfl
  · exact h0
  · exact h1
  · exact h2
  · exact h3
  · exact h4
theorem cd_lt {b : Nat → Nat} (hb : ∀ p, p < 5 → b p ≤ 5) : cd b < 7776 := by
  have h0 := hb 0 (by omega); have h1 := hb 1 (by omega); have h2 := hb 2 (by omega); have h3 := hb 3 (by omega); have h4 := hb 4 (by omega)
  unfold cd
  omega
theorem dg_cd {b : Nat → Nat} (hb : ∀ p, p < 5 → b p ≤ 5) : ∀ p, p < 5 → dg (cd b) p = b p := by
  have h0 := hb 0 (by omega); have h1 := hb 1 (by omega); have h2 := hb 2 (by omega); have h3 := hb 3 (by omega); have h4 := hb 4 (by omega)
  refine p5 ?_ ?_ ?_ ?_ ?_
  · rw [dg_0]; unfold cd; omega
  · rw [dg_1]; unfold cd; omega
  · rw [dg_2]; unfold cd; omega
  · rw [dg_3]; unfold cd; omega
  · rw [dg_4]; unfold cd; omega
theorem cd_dg {c : Nat} (hc : c < 7776) : cd (dg c) = c := by
  unfold cd
  rw [dg_0, dg_1, dg_2, dg_3, dg_4]
  omega
theorem cd_congr {a b : Nat → Nat} (h : ∀ p, p < 5 → a p = b p) : cd a = cd b := by
  unfold cd
  rw [h 0 (by omega), h 1 (by omega), h 2 (by omega), h 3 (by omega), h 4 (by omega)]
theorem n8_congr {a b : Nat → Nat} (h : ∀ p, p < 5 → a p = b p) : n8 a = n8 b := by
  unfold n8
  rw [h 0 (by omega), h 1 (by omega), h 2 (by omega), h 3 (by omega), h 4 (by omega)]
theorem tin_congr {a b : Nat → Nat} : ∀ {k : Nat}, (∀ p, p < k → a p = b p) → tin a k = tin b k
  | 0, _ => rfl
  | k + 1, h => by
    have e := tin_congr (a := a) (b := b) (k := k) (fun p hp => h p (by omega))
    unfold tin
    rw [e, h k (by omega)]
theorem n8_lt {b : Nat → Nat} (hb : ∀ p, p < 5 → b p ≤ 5) : n8 b < 32768 := by
  have h0 := hb 0 (by omega); have h1 := hb 1 (by omega); have h2 := hb 2 (by omega); have h3 := hb 3 (by omega); have h4 := hb 4 (by omega)
  unfold n8
  omega
theorem n8_dg {b : Nat → Nat} (hb : ∀ p, p < 5 → b p ≤ 5) : ∀ p, p < 5 → n8 b / 2 ^ (3 * (4 - p)) % 8 = b p := by
  have h0 := hb 0 (by omega); have h1 := hb 1 (by omega); have h2 := hb 2 (by omega); have h3 := hb 3 (by omega); have h4 := hb 4 (by omega)
  refine p5 ?_ ?_ ?_ ?_ ?_
  · show n8 b / 4096 % 8 = _; unfold n8; omega
  · show n8 b / 512 % 8 = _; unfold n8; omega
  · show n8 b / 64 % 8 = _; unfold n8; omega
  · show n8 b / 8 % 8 = _; unfold n8; omega
  · show n8 b / 1 % 8 = _; unfold n8; omega
theorem n8_step0 : (List.range 7775).all (fun c => decide (n8 (dg c) < n8 (dg (c + 1)))) = true := by decide +kernel
theorem n8_step (c : Nat) (hc : c < 7775) : n8 (dg c) < n8 (dg (c + 1)) := co_dec (P := fun c => n8 (dg c) < n8 (dg (c + 1))) n8_step0 hc
theorem n8_mono {a : Nat} : ∀ {c : Nat}, a < c → c < 7776 → n8 (dg a) < n8 (dg c)
  | 0, h, _ => by omega
  | c + 1, h, hc => by
    have h1 := n8_step c (by omega)
    rcases Nat.lt_or_ge a c with h2 | h2
    · exact Nat.lt_trans (n8_mono h2 (by omega)) h1
    · have : a = c := by omega
      rw [this]; exact h1
theorem vcn_get {i : Nat} (h : i < 1546) : vc[i]? = some (vcn i) := by
  unfold vcn
  rw [List.getD_eq_getElem?_getD, List.getElem?_eq_getElem (by rw [vc_len]; exact h)]
  rfl
theorem vcn_ok {i : Nat} (h : i < 1546) : vcn i < 7776 ∧ vB (vcn i) = true := by
  have h1 := List.mem_filter.mp (List.mem_of_getElem? (vcn_get h))
  exact ⟨List.mem_range.mp h1.1, h1.2⟩
theorem vcn_lt {i j : Nat} (h : i < j) (hj : j < 1546) : vcn i < vcn j := by
  have hp : vc.Pairwise (· < ·) := List.Pairwise.filter _ List.pairwise_lt_range
  have h1 := List.pairwise_iff_getElem.mp hp i j (by rw [vc_len]; omega) (by rw [vc_len]; exact hj) h
  have e1 : vc[i]'(by rw [vc_len]; omega) = vcn i := by
    have := vcn_get (i := i) (by omega)
    rw [List.getElem?_eq_getElem (by rw [vc_len]; omega)] at this
    exact Option.some.inj this
  have e2 : vc[j]'(by rw [vc_len]; exact hj) = vcn j := by
    have := vcn_get (i := j) hj
    rw [List.getElem?_eq_getElem (by rw [vc_len]; exact hj)] at this
    exact Option.some.inj this
  rw [e1, e2] at h1
  exact h1
/-- where a window is listed -/
theorem vcn_ix {c : Nat} (hc : c < 7776) (hv : vB c = true) : ∃ i, i < 1546 ∧ vcn i = c := by
  have hm : c ∈ vc := List.mem_filter.mpr ⟨List.mem_range.mpr hc, hv⟩
  obtain ⟨i, hi⟩ := List.getElem?_of_mem hm
  have hl : i < 1546 := by rw [← vc_len]; exact (List.getElem?_eq_some_iff.mp hi).1
  exact ⟨i, hl, Option.some.inj ((vcn_get hl).symm.trans hi)⟩
theorem wl_get {i : Nat} (h : i < 1546) : (en 5 0 0)[i]? = some (n8 (dg (vcn i)), sC (vcn i)) := by
  rw [en_vc, List.getElem?_map, vcn_get h]
  rfl
theorem wl_len : (en 5 0 0).length = 1546 := by rw [en_vc, List.length_map, vc_len]
theorem tin_lt {b : Nat → Nat} {s : Nat} : ∀ {k : Nat}, (∀ p, p < k → b p ≤ 5) → tin b k = some s → s < 32
  | 0, _, h => by
    have : 0 = s := Option.some.inj h
    omega
  | k + 1, hb, h => by
    unfold tin at h
    cases hq : tin b k with
    | none => rw [hq] at h; cases h
    | some u =>
      rw [hq] at h
      have ih := tin_lt (fun p hp => hb p (by omega)) hq
      have hk := hb k (by omega)
      simp only at h
      split at h
      · have := Option.some.inj h; omega
      · split at h
        · cases h
        · have := Option.some.inj h
          rw [← this]
          exact or_lt32 u ih _ (by omega)
theorem sC_lt (c : Nat) : sC c < 32 := by
  unfold sC
  cases h : tin (dg c) 5 with
  | none => exact (by decide : (0 : Nat) < 32)
  | some s => exact tin_lt (fun p _ => dg_le c p) h
theorem sC_of {c : Nat} (hv : vB c = true) : tin (dg c) 5 = some (sC c) := by
  unfold vB at hv
  unfold sC
  cases h : tin (dg c) 5 with
  | none => rw [h] at hv; cases hv
  | some s => rfl
/-- the best of a list of windows -/
def stp (ft : Nat → Bool) (g pq : Nat → Nat) (best : Option Nat) (c : Nat) : Option Nat := bif ft c then (match best with
  | none => some c
  | some b => if g b < g c ∨ (g c = g b ∧ pq c < pq b) then some c else some b) else best
def bst (ft : Nat → Bool) (g pq : Nat → Nat) : Option Nat := vc.foldl (stp ft g pq) none
theorem bst_range (ft : Nat → Bool) (g pq : Nat → Nat) : bst ft g pq = (List.range 7776).foldl (fun x c => if vB c then stp ft g pq x c else x) none := by
  unfold bst vc
  rw [List.foldl_filter]
theorem foldl_some {ft : Nat → Bool} {g pq : Nat → Nat} : ∀ (l : List Nat) (b : Option Nat), (b ≠ none ∨ ∃ c ∈ l, ft c = true) → l.foldl (stp ft g pq) b ≠ none
  | [], b, h => by
    rcases h with h | ⟨c, hc, -⟩
    · exact h
    · cases hc
  | a :: l, b, h => by
    rw [List.foldl_cons]
    refine foldl_some l _ ?_
    unfold stp
    cases ha : ft a with
    | true =>
      left
      simp only [cond_true]
      cases b with
      | none => simp
      | some q => simp only; split <;> simp
    | false =>
      simp only [cond_false]
      rcases h with h | ⟨c, hc, hf⟩
      · exact Or.inl h
      · rcases List.mem_cons.mp hc with rfl | hc
        · rw [ha] at hf; cases hf
        · exact Or.inr ⟨c, hc, hf⟩
theorem foldl_ok {ft : Nat → Bool} {g pq : Nat → Nat} {P : Nat → Prop} : ∀ (l : List Nat) (b : Option Nat), (∀ c ∈ l, P c) → (∀ c, b = some c → P c) → ∀ c, l.foldl (stp ft g pq) b = some c → P c
  | [], b, _, hb, c, h => hb c h
  | a :: l, b, hl, hb, c, h => by
    rw [List.foldl_cons] at h
    refine foldl_ok l _ (fun x hx => hl x (List.mem_cons_of_mem _ hx)) (fun x hx => ?_) c h
    unfold stp at hx
    cases ha : ft a with
    | true =>
      rw [ha] at hx
      simp only [cond_true] at hx
      cases b with
      | none => have := Option.some.inj hx; rw [← this]; exact hl a List.mem_cons_self
      | some q =>
        simp only at hx
        split at hx
        · have := Option.some.inj hx; rw [← this]; exact hl a List.mem_cons_self
        · have := Option.some.inj hx; rw [← this]; exact hb q rfl
    | false =>
      rw [ha] at hx
      exact hb x hx
theorem bst_ok {ft : Nat → Bool} {g pq : Nat → Nat} {c : Nat} (h : bst ft g pq = some c) : c < 7776 ∧ vB c = true := by
  unfold bst at h
  refine foldl_ok (P := fun c => c < 7776 ∧ vB c = true) vc none (fun x hx => ?_) (fun x hx => by cases hx) c h
  have h1 := List.mem_filter.mp hx
  exact ⟨List.mem_range.mp h1.1, h1.2⟩
theorem bst_some {ft : Nat → Bool} {g pq : Nat → Nat} (c : Nat) (hc : c < 7776) (hv : vB c = true) (hf : ft c = true) : ∃ b, bst ft g pq = some b := by
  have h := foldl_some (ft := ft) (g := g) (pq := pq) vc none (Or.inr ⟨c, List.mem_filter.mpr ⟨List.mem_range.mpr hc, hv⟩, hf⟩)
  unfold bst
  generalize vc.foldl (stp ft g pq) none = q at h
  cases q with
  | none => exact absurd rfl h
  | some b => exact ⟨b, rfl⟩
end
section
/-! ===== Windows: the list, weeks, the greatest ===== -/
def holds (I : Nat → Nat → Int32) (acc : List (Nat × Nat)) : Prop := I 19 3 = nI acc.length ∧ ∀ i e, acc[i]? = some e → I 20 i = nI e.1 ∧ I 21 i = nI e.2
theorem or8 {a d : Nat} (h : d < 8) : a * 2 ^ 3 ||| d = a * 8 + d := by
  have := Nat.shiftLeft_add_eq_or_of_lt (b := d) (i := 3) h a
  rw [Nat.shiftLeft_eq] at this
  exact this.symm
theorem enT_pos (f : Nat → Nat → List (Nat × Nat)) (num s : Nat) : ∀ {a b : Nat}, a ≤ b → (enT f num s a).length ≤ (enT f num s b).length
  | a, 0, h => by
    have : a = 0 := by omega
    rw [this]; exact Nat.le_refl _
  | a, b + 1, h => by
    rcases Nat.lt_or_ge a (b + 1) with q | q
    · have := enT_pos f num s (show a ≤ b by omega)
      show _ ≤ (enT f num s b ++ _).length
      rw [List.length_append]; omega
    · have : a = b + 1 := by omega
      rw [this]; exact Nat.le_refl _
/-- the class's scene -/
def SC (A : Nat → Nat → Nat) (F : Nat → Nat) (I : Nat → Nat → Int32) : Prop := (∀ j, j < 15 → I 6 j = nI (A 0 j)) ∧ (∀ j, j < 5 → I 7 j = nI (A 1 j)) ∧ (∀ j, j < 24 → I 9 j = nI (A 3 j)) ∧ (∀ j, j < 20 → I 10 j = nI (F j)) ∧ I 5 7 = nI (A 6 0)
def okA (A : Nat → Nat → Nat) (F : Nat → Nat) : Prop := (∀ j, j < 5 → A 0 j ≤ 9) ∧ (∀ j, j < 5 → A 1 j ≤ 9) ∧ (∀ j, j < 15 → A 0 j ≤ 99) ∧ A 6 0 ≤ 99 ∧ okK A ∧ ∀ j, j < 20 → F j ≤ 1000
theorem SC.keep {A : Nat → Nat → Nat} {F : Nat → Nat} {I I' : Nat → Nat → Int32} (h : SC A F I) (hf : ∀ a, a < 14 → I' a = I a) : SC A F I' := by
  obtain ⟨h1, h2, h3, h4, h5⟩ := h
  exact ⟨fun j hj => by rw [hf 6 (by omega)]; exact h1 j hj, fun j hj => by rw [hf 7 (by omega)]; exact h2 j hj, fun j hj => by rw [hf 9 (by omega)]; exact h3 j hj, fun j hj => by rw [hf 10 (by omega)]; exact h4 j hj, by rw [hf 5 (by omega)]; exact h5⟩
/-- the week of a code -/
def wkc (A : Nat → Nat → Nat) (F : Nat → Nat) (c : Nat) : Nat := wkF A F (dg c) 0
theorem wkc_le {A : Nat → Nat → Nat} {F : Nat → Nat} (h : okA A F) (c : Nat) : wkc A F c ≤ 395604000 := wkF_le h.2.2.2.2.1 (fun p _ => dg_le c p) h.2.2.2.2.2 h.2.2.1 h.2.2.2.1
def cch (g : Nat → Nat) (I : Nat → Nat → Int32) : Prop := ∀ i, i < 1546 → I 22 i = -1 ∨ I 22 i = nI (g (vcn i))
/-- weeks are ready -/
def RD (g : Nat → Nat) (I : Nat → Nat → Int32) : Prop := holds I (en 5 0 0) ∧ I 19 5 = nI 1 ∧ cch g I
/-- before: perhaps not listed, perhaps forgotten -/
def PR (g : Nat → Nat) (I : Nat → Nat → Int32) : Prop := (I 19 3 = nI 0 ∨ holds I (en 5 0 0)) ∧ (I 19 5 = nI 0 ∨ (I 19 5 = nI 1 ∧ cch g I))
theorem RD.pr {g : Nat → Nat} {I : Nat → Nat → Int32} (h : RD g I) : PR g I := ⟨Or.inr h.1, Or.inr ⟨h.2.1, h.2.2⟩⟩
theorem RD.num {g : Nat → Nat} {I : Nat → Nat → Int32} (h : RD g I) {i : Nat} (hi : i < 1546) : I 20 i = nI (n8 (dg (vcn i))) ∧ I 21 i = nI (sC (vcn i)) := h.1.2 i _ (wl_get hi)
theorem nIm1 {a : Nat} (h : a < 2147483648) : ¬ nI a = -1 := by
  intro q
  have := congrArg Int32.toInt q
  rw [nI_toInt h] at this
  have e : (-1 : Int32).toInt = -1 := by decide
  rw [e] at this
  omega
theorem xokc_mk {mi cal n : Nat} {As rest : List Value} {d1 d k q : Nat} (h1 : Nat.blt cal 144 = true) (h2 : Nat.ble (xargs As).length (xML cal) = true) (h3 : Nat.beq n (xNP cal) = true) (h4 : d1 + 1 ≤ d) (h5 : Nat.ble (xsum rest) 8 = true) (h6 : Nat.ble (k + xBC cal) (xBC mi) = true) (h7 : Nat.ble (q + xBS cal) (xBS mi) = true) : xokc mi cal n As rest d1 d k q = true := by
  unfold xokc
  rw [h1, h2, h3, Nat.ble_eq_true_of_le h4, h5, h6, h7]
  rfl
set_option maxRecDepth 20000 in
theorem en_bd {num th k : Nat} (hk : k ≤ 4) (h : num * 8 ^ (k + 1) < 32768) (ht : th < 5) : (num * 8 + (th + 1)) * 8 ^ k < 32768 := by
  rcases (show k = 0 ∨ k = 1 ∨ k = 2 ∨ k = 3 ∨ k = 4 by omega) with rfl | rfl | rfl | rfl | rfl
  · have h7 : num * 8 < 32768 := h
    show (num * 8 + (th + 1)) * 1 < 32768
    omega
  · have h7 : num * 64 < 32768 := h
    show (num * 8 + (th + 1)) * 8 < 32768
    clear h
    omega
  · have h7 : num * 512 < 32768 := h
    show (num * 8 + (th + 1)) * 64 < 32768
    clear h
    omega
  · have h7 : num * 4096 < 32768 := h
    show (num * 8 + (th + 1)) * 512 < 32768
    clear h
    omega
  · have h7 : num * 32768 < 32768 := h
    show (num * 8 + (th + 1)) * 4096 < 32768
    clear h
    omega
section WIN
variable {E : xEx} {T : List xSh} {I : Nat → Nat → Int32} {L : Nat → Nat → Int64} {A : Nat → Nat → Nat} {F g : Nat → Nat}
theorem c_add4 (acc : List (Nat × Nat)) (num s : Nat) (hl : acc.length < 1546) (hh : holds I acc) : xC E 1 34 [.ref 19, .int (nI num), .int (nI s)] (xC0 ++ T, I, L) (fun r t => r = none ∧ ∃ I', t = (xC0 ++ T, I', L) ∧ ((∀ a, a ≠ 19 → a ≠ 20 → a ≠ 21 → I' a = I a) ∧ ∀ j, j ≠ 3 → I' 19 j = I 19 j) ∧ holds I' (acc ++ [(num, s)])) := by
  refine xC.mk [some (.ref 19), some (.int (nI num)), some (.int (nI s))] rfl ?_
  have h3 := hh.1
  have h3' : ∀ (x : Int32), wI I 20 acc.length x 19 3 = nI acc.length := fun x => by rw [wI_ne (by decide)]; exact h3
  have h3'' : ∀ (x y : Int32), wI (wI I 20 acc.length x) 21 acc.length y 19 3 = nI acc.length := fun x y => by rw [wI_ne (by decide), wI_ne (by decide)]; exact h3
  refine ws_aload_0 1 rfl rfl ?_
  refine ws_getfi 4 rfl rfl rfl rfl rfl h3 ?_
  refine ws_sipush 7 rfl rfl kc_s1546 ?_
  refine ws_icmp_gen 40 10 rfl rfl rfl (by omega) (by omega) (fun h9 => absurd h9 (by omega)) (fun h9 => ?_)
  refine ws_aload_0 11 rfl rfl ?_
  refine ws_getfr 14 rfl rfl rfl rfl rfl ?_
  refine ws_aload_0 15 rfl rfl ?_
  refine ws_getfi 18 rfl rfl rfl rfl rfl h3 ?_
  refine ws_iload_1 19 rfl rfl ?_
  refine ws_iastn 20 rfl rfl rfl (by omega) (by omega) ?_
  refine ws_aload_0 21 rfl rfl ?_
  refine ws_getfr 24 rfl rfl rfl rfl rfl ?_
  refine ws_aload_0 25 rfl rfl ?_
  refine ws_getfi 28 rfl rfl rfl rfl rfl (h3' _) ?_
  refine ws_iload_2 29 rfl rfl ?_
  refine ws_iastn 30 rfl rfl rfl (by omega) (by omega) ?_
  refine ws_aload_0 31 rfl rfl ?_
  refine ws_dup 32 rfl rfl rfl ?_
  refine ws_getfi 35 rfl rfl rfl rfl rfl (h3'' _ _) ?_
  refine ws_iconst 36 rfl rfl kc_i1 ?_
  refine ws_iadd 37 rfl rfl (nI_add _ _) ?_
  refine ws_putfi 40 rfl rfl rfl rfl rfl rfl rfl rfl ?_
  refine ws_vret rfl rfl rfl (Nat.le_of_ble_eq_true rfl) ?_
  refine ⟨rfl, _, rfl, ⟨fun a a1 a2 a3 => by rw [wI_ne a1, wI_ne a3, wI_ne a2], fun j hj => by rw [wI_eq, pk_un hj, wI_ne (by decide), wI_ne (by decide)]⟩, ?_, fun i e he => ?_⟩
  · rw [wI_eq, pk_us, List.length_append]; rfl
  · rw [wI_ne (show (20 : Nat) ≠ 19 by decide), wI_ne (show (20 : Nat) ≠ 21 by decide), wI_eq, wI_ne (show (21 : Nat) ≠ 19 by decide), wI_eq, wI_ne (show (21 : Nat) ≠ 20 by decide)]
    rcases Nat.lt_or_ge i acc.length with q | q
    · rw [List.getElem?_append_left q] at he
      rw [pk_un (by omega), pk_un (by omega)]
      exact hh.2 i e he
    · rw [List.getElem?_append_right q] at he
      have hz : i - acc.length < 1 := (List.getElem?_eq_some_iff.mp he).1
      have hi : i = acc.length := by omega
      rw [hi, Nat.sub_self] at he
      have : (num, s) = e := by simpa using he
      rw [hi, ← this, pk_us, pk_us]
      exact ⟨rfl, rfl⟩
theorem c_list : ∀ (k num s : Nat) (I : Nat → Nat → Int32) (acc : List (Nat × Nat)), k ≤ 5 → num * 8 ^ k < 32768 → s < 32 → acc.length + (en k num s).length ≤ 1546 → holds I acc → xC E (k + 2) 33 [.ref 19, .int (nI (5 - k)), .int (nI num), .int (nI s)] (xC0 ++ T, I, L) (fun r t => r = none ∧ ∃ I', t = (xC0 ++ T, I', L) ∧ ((∀ a, a ≠ 19 → a ≠ 20 → a ≠ 21 → I' a = I a) ∧ ∀ j, j ≠ 3 → I' 19 j = I 19 j) ∧ holds I' (acc ++ en k num s)) := by
  intro k
  induction k with
  | zero =>
    intro num s I acc hk hn hs hl hh
    refine xC.mk [some (.ref 19), some (.int (nI 5)), some (.int (nI num)), some (.int (nI s)), none] rfl ?_
    refine ws_iload_1 1 rfl rfl ?_
    refine ws_iconst 2 rfl rfl kc_i5 ?_
    refine ws_icmp_ltn 12 5 rfl rfl rfl (by omega) (by omega) (fun h9 => absurd h9 (by omega)) (fun h9 => ?_)
    refine ws_aload_0 6 rfl rfl ?_
    refine ws_iload_2 7 rfl rfl ?_
    refine ws_iload_3 8 rfl rfl ?_
    refine ws_invV2 11 rfl rfl rfl rfl (c_add4 acc num s (by have : (en 0 num s).length = 1 := rfl; omega) hh) rfl rfl rfl ?_
    rintro _ _ ⟨rfl, I', rfl, hf, hh'⟩
    refine ws_vret rfl rfl rfl (Nat.le_of_ble_eq_true rfl) ?_
    exact ⟨rfl, I', rfl, hf, hh'⟩
  | succ k ih =>
    intro num s I acc hk hn hs hl hh
    have e5 : 5 - (k + 1) + 1 = 5 - k := by omega
    have h8 : num * 8 ^ (k + 1) = num * 8 * 8 ^ k := by rw [Nat.pow_succ, Nat.mul_assoc, Nat.mul_comm (8 ^ k) 8]
    have hp8 : 1 ≤ 8 ^ k := Nat.pow_pos (by omega)
    rw [h8] at hn
    have hnum : num * 8 < 32768 := Nat.lt_of_le_of_lt (Nat.le_mul_of_pos_right _ hp8) hn
    have elen : (en (k + 1) num s).length = (en k (num * 8) s).length + (enT (en k) num s 5).length := by show (en k (num * 8) s ++ enT (en k) num s 5).length = _; rw [List.length_append]
    rw [elen] at hl
    refine xC.mk [some (.ref 19), some (.int (nI (5 - (k + 1)))), some (.int (nI num)), some (.int (nI s)), none] rfl ?_
    have e23 : num * 2 ^ 3 = num * 8 := rfl
    refine ws_iload_1 1 rfl rfl ?_
    refine ws_iconst 2 rfl rfl kc_i5 ?_
    refine ws_icmp_ltn 12 5 rfl rfl rfl (by omega) (by omega) (fun h9 => ?_) (fun h9 => absurd h9 (by omega))
    refine ws_aload_0 13 rfl rfl ?_
    refine ws_iload_1 14 rfl rfl ?_
    refine ws_iconst 15 rfl rfl kc_i1 ?_
    refine ws_iadd 16 rfl rfl (nI_add _ _) ?_
    refine ws_iload_2 17 rfl rfl ?_
    refine ws_iconst 18 rfl rfl kc_i3 ?_
    refine ws_ishl 19 rfl rfl (kn_shl (by omega) (by omega)) ?_
    refine ws_iload_3 20 rfl rfl ?_
    rw [e5, e23]
    refine ws_invS4 23 rfl rfl rfl (ih (num * 8) s I acc (by omega) hn hs (by omega) hh) (xokc_mk rfl rfl rfl (by omega) rfl rfl rfl) rfl rfl ?_
    rintro _ _ ⟨rfl, I1, rfl, hf1, hh1⟩
    have loop : ∀ (m th : Nat) (I' : Nat → Nat → Int32), th + m = 5 → ((∀ a, a ≠ 19 → a ≠ 20 → a ≠ 21 → I' a = I a) ∧ ∀ j, j ≠ 3 → I' 19 j = I 19 j) → holds I' (acc ++ en k (num * 8) s ++ enT (en k) num s th) → xW E (k + 1 + 2) 33 26 [some (.ref 19), some (.int (nI (5 - (k + 1)))), some (.int (nI num)), some (.int (nI s)), some (.int (nI th))] [] (xC0 ++ T, I', L) 0 0 (fun r t => r = none ∧ ∃ I', t = (xC0 ++ T, I', L) ∧ ((∀ a, a ≠ 19 → a ≠ 20 → a ≠ 21 → I' a = I a) ∧ ∀ j, j ≠ 3 → I' 19 j = I 19 j) ∧ holds I' (acc ++ en (k + 1) num s)) := by
      intro m
      induction m with
      | zero =>
        intro th I' hth hf hh
        obtain rfl : th = 5 := by omega
        refine ws_iload_4 28 rfl rfl ?_
        refine ws_iconst 29 rfl rfl kc_i5 ?_
        refine ws_icmp_gen 68 32 rfl rfl rfl (by omega) (by omega) (fun h9 => ?_) (fun h9 => absurd h9 (by omega))
        refine ws_vret rfl rfl rfl (Nat.le_of_ble_eq_true rfl) ?_
        exact ⟨rfl, I', rfl, hf, by rw [List.append_assoc] at hh; exact hh⟩
      | succ m ih2 =>
        intro th I' hth hf hh
        have e : s / 2 ^ th &&& 1 = s / 2 ^ th % 2 := Nat.and_one_is_mod _
        have eT : enT (en k) num s (th + 1) = enT (en k) num s th ++ (if s / 2 ^ th % 2 = 0 then en k (num * 8 + (th + 1)) (s ||| 2 ^ th) else []) := rfl
        refine ws_iload_4 28 rfl rfl ?_
        refine ws_iconst 29 rfl rfl kc_i5 ?_
        refine ws_icmp_gen 68 32 rfl rfl rfl (by omega) (by omega) (fun h9 => absurd h9 (by omega)) (fun h9 => ?_)
        refine ws_iload_3 33 rfl rfl ?_
        refine ws_iload_4 35 rfl rfl ?_
        refine ws_ishr 36 rfl rfl (kn_shr (by omega) (by omega)) ?_
        refine ws_iconst 37 rfl rfl kc_i1 ?_
        refine ws_iand 38 rfl rfl (kn_and _ _) ?_
        rw [e]
        refine ws_if_nen 62 41 rfl rfl rfl (by omega) (fun c1 => ?_) (fun c1 => ?_)
        · rw [if_neg (by omega), List.append_nil] at eT
          refine ws_iinc_4 65 rfl rfl (ki_1 _) rfl rfl ?_
          refine ws_goto 26 rfl rfl ?_
          exact ih2 (th + 1) I' (by omega) hf (by rw [eT]; exact hh)
        · rw [if_pos (by omega)] at eT
          have hle := enT_pos (en k) num s (show th + 1 ≤ 5 by omega)
          rw [eT, List.length_append] at hle
          obtain ⟨w1, w2⟩ := pw5 th (by omega)
          have eo : num * 2 ^ 3 ||| (th + 1) = num * 8 + (th + 1) := or8 (by omega)
          have e1 : 1 * 2 ^ th = 2 ^ th := Nat.one_mul _
          have hn2 : (num * 8 + (th + 1)) * 8 ^ k < 32768 := by
            have h7 : num * 8 ^ (k + 1) < 32768 := by rw [h8]; exact hn
            exact en_bd (by omega) h7 (by omega)
          refine ws_aload_0 42 rfl rfl ?_
          refine ws_iload_1 43 rfl rfl ?_
          refine ws_iconst 44 rfl rfl kc_i1 ?_
          refine ws_iadd 45 rfl rfl (nI_add _ _) ?_
          refine ws_iload_2 46 rfl rfl ?_
          refine ws_iconst 47 rfl rfl kc_i3 ?_
          refine ws_ishl 48 rfl rfl (kn_shl (by omega) (by omega)) ?_
          refine ws_iload_4 50 rfl rfl ?_
          refine ws_iconst 51 rfl rfl kc_i1 ?_
          refine ws_iadd 52 rfl rfl (nI_add _ _) ?_
          refine ws_ior 53 rfl rfl (kn_or _ _) ?_
          refine ws_iload_3 54 rfl rfl ?_
          refine ws_iconst 55 rfl rfl kc_i1 ?_
          refine ws_iload_4 57 rfl rfl ?_
          refine ws_ishl 58 rfl rfl (kn_shl (by omega) (by omega)) ?_
          refine ws_ior 59 rfl rfl (kn_or _ _) ?_
          rw [eo, e1, e5]
          refine ws_invS4 62 rfl rfl rfl (ih (num * 8 + (th + 1)) (s ||| 2 ^ th) I' (acc ++ en k (num * 8) s ++ enT (en k) num s th) (by omega) hn2 (or_lt32 s hs th (by omega)) (by rw [List.length_append, List.length_append]; omega) hh) (xokc_mk rfl rfl rfl (by omega) rfl rfl rfl) rfl rfl ?_
          rintro _ _ ⟨rfl, I2, rfl, hf2, hh2⟩
          refine ws_iinc_4 65 rfl rfl (ki_1 _) rfl rfl ?_
          refine ws_goto 26 rfl rfl ?_
          exact ih2 (th + 1) I2 (by omega) ⟨fun a a1 a2 a3 => by rw [hf2.1 a a1 a2 a3]; exact hf.1 a a1 a2 a3, fun j hj => by rw [hf2.2 j hj]; exact hf.2 j hj⟩ (by rw [eT, ← List.append_assoc]; exact hh2)
    refine ws_iconst 24 rfl rfl kc_i0 ?_
    refine ws_istore_4 26 rfl rfl rfl rfl ?_
    exact loop 5 0 I1 rfl hf1 (by rw [show enT (en k) num s 0 = [] from rfl, List.append_nil]; exact hh1)
theorem c_makeReady (h : PR g I) : xC E 8 32 [.ref 19] (xC0 ++ T, I, L) (fun r t => r = none ∧ ∃ I', t = (xC0 ++ T, I', L) ∧ ((∀ a, a < 19 ∨ 22 < a → I' a = I a) ∧ ∀ j, j ≠ 3 → j ≠ 5 → I' 19 j = I 19 j) ∧ RD g I') := by
  refine xC.mk [some (.ref 19)] rfl ?_
  have rest : ∀ (I' : Nat → Nat → Int32), ((∀ a, a < 19 ∨ 22 < a → I' a = I a) ∧ ∀ j, j ≠ 3 → I' 19 j = I 19 j) → I' 22 = I 22 → holds I' (en 5 0 0) → xW E 8 32 14 [some (.ref 19)] [] (xC0 ++ T, I', L) 0 0 (fun r t => r = none ∧ ∃ I', t = (xC0 ++ T, I', L) ∧ ((∀ a, a < 19 ∨ 22 < a → I' a = I a) ∧ ∀ j, j ≠ 3 → j ≠ 5 → I' 19 j = I 19 j) ∧ RD g I') := by
    intro I' hf h22 hh
    rcases h.2 with h5 | ⟨h5, hc⟩
    · have h5' : I' 19 5 = nI 0 := by rw [hf.2 5 (by decide)]; exact h5
      refine ws_aload_0 15 rfl rfl ?_
      refine ws_getfi 18 rfl rfl rfl rfl rfl h5' ?_
      refine ws_if_nen 34 21 rfl rfl rfl (by omega) (fun h9 => absurd h9 (by omega)) (fun h9 => ?_)
      refine ws_aload_0 22 rfl rfl ?_
      refine ws_getfr 25 rfl rfl rfl rfl rfl ?_
      refine ws_iconst 26 rfl rfl kc_im1 ?_
      refine ws_invS2 29 rfl rfl rfl (c_fill 22 1546 (-1) rfl (by omega)) rfl rfl rfl ?_
      rintro _ _ ⟨rfl, I2, rfl, hf2, h2⟩
      refine ws_aload_0 30 rfl rfl ?_
      refine ws_iconst 31 rfl rfl kc_i1 ?_
      refine ws_putfi 34 rfl rfl rfl rfl rfl rfl rfl rfl ?_
      refine ws_vret rfl rfl rfl (Nat.le_of_ble_eq_true rfl) ?_
      refine ⟨rfl, _, rfl, ⟨fun a ha => by rw [wI_ne (by omega), hf2 a (by omega)]; exact hf.1 a ha, fun j j3 j5 => by rw [wI_eq, pk_un j5, hf2 19 (by decide)]; exact hf.2 j j3⟩, ⟨?_, fun i e he => ?_⟩, rfl, fun i hi => Or.inl (h2 i hi)⟩
      · rw [wI_eq, pk_un (by decide), hf2 19 (by decide)]; exact hh.1
      · rw [wI_ne (by decide), wI_ne (by decide), hf2 20 (by decide), hf2 21 (by decide)]; exact hh.2 i e he
    · have h5' : I' 19 5 = nI 1 := by rw [hf.2 5 (by decide)]; exact h5
      refine ws_aload_0 15 rfl rfl ?_
      refine ws_getfi 18 rfl rfl rfl rfl rfl h5' ?_
      refine ws_if_nen 34 21 rfl rfl rfl (by omega) (fun h9 => ?_) (fun h9 => absurd h9 (by omega))
      refine ws_vret rfl rfl rfl (Nat.le_of_ble_eq_true rfl) ?_
      exact ⟨rfl, I', rfl, ⟨hf.1, fun j j3 _ => hf.2 j j3⟩, hh, h5', fun i hi => by rw [h22]; exact hc i hi⟩
  rcases h.1 with h3 | hh
  · refine ws_aload_0 1 rfl rfl ?_
    refine ws_getfi 4 rfl rfl rfl rfl rfl h3 ?_
    refine ws_if_nen 14 7 rfl rfl rfl (by omega) (fun h9 => absurd h9 (by omega)) (fun h9 => ?_)
    refine ws_aload_0 8 rfl rfl ?_
    refine ws_iconst 9 rfl rfl kc_i0 ?_
    refine ws_iconst 10 rfl rfl kc_i0 ?_
    refine ws_iconst 11 rfl rfl kc_i0 ?_
    refine ws_invS4 14 rfl rfl rfl (c_list 5 0 0 I [] (by omega) (by omega) (by omega) (by rw [wl_len]; exact Nat.le_refl _) ⟨h3, fun i e he => by simp at he⟩) rfl rfl rfl ?_
    rintro _ _ ⟨rfl, I2, rfl, hf2, h2⟩
    exact rest I2 ⟨fun a ha => hf2.1 a (by omega) (by omega) (by omega), hf2.2⟩ (hf2.1 22 (by decide) (by decide) (by decide)) h2
  · have h3 : I 19 3 = nI 1546 := by rw [hh.1, wl_len]
    refine ws_aload_0 1 rfl rfl ?_
    refine ws_getfi 4 rfl rfl rfl rfl rfl h3 ?_
    refine ws_if_nen 14 7 rfl rfl rfl (by omega) (fun h9 => ?_) (fun h9 => absurd h9 (by omega))
    exact rest I ⟨fun _ _ => rfl, fun _ _ => rfl⟩ rfl hh
theorem p_below1546t (i : Nat) (hi : i < 1546) : xP 1 80 [.int (nI i), .int (nI 1546)] (.int (xb true)) := by
  have h := p_below (nI i) 1546 1545 (by omega) rfl
  rwa [show rg 0 1545 (nI i) = true by rw [rg_nI (by omega)]; simp; omega] at h
theorem c_thingAt (i p : Nat) (hi : i < 1546) (hp : p < 5) (h20 : I 20 i = nI (n8 (dg (vcn i)))) : xC E 2 36 [.ref 19, .int (nI i), .int (nI p)] (xC0 ++ T, I, L) (rV (.int (rw6 (dg (vcn i) p))) (xC0 ++ T, I, L)) := by
  refine xC.mk [some (.ref 19), some (.int (nI i)), some (.int (nI p)), none] rfl ?_
  have hb : ∀ p, p < 5 → dg (vcn i) p ≤ 5 := fun p _ => dg_le _ p
  have hlt := n8_lt hb
  have hd := n8_dg hb p hp
  have e7 : n8 (dg (vcn i)) / 2 ^ (3 * (4 - p)) &&& 7 = dg (vcn i) p := by
    rw [← hd]
    exact Nat.and_two_pow_sub_one_eq_mod _ 3
  have hdl := hb p hp
  refine ws_iload_1 1 rfl rfl ?_
  refine ws_sipush 4 rfl rfl kc_s1546 ?_
  refine ws_invSN2p 7 rfl rfl rfl (p_below1546t i hi) rfl rfl rfl ?_
  refine ws_if_neb 13 10 rfl rfl rfl (fun h9 => ?_) (fun h9 => absurd h9 (by first | decide | simp_all))
  refine ws_aload_0 14 rfl rfl ?_
  refine ws_getfr 17 rfl rfl rfl rfl rfl ?_
  refine ws_iload_1 18 rfl rfl ?_
  refine ws_ialdn 19 rfl rfl rfl (by omega) (by omega) h20 ?_
  refine ws_iconst 20 rfl rfl kc_i3 ?_
  refine ws_iconst 21 rfl rfl kc_i4 ?_
  refine ws_iload_2 22 rfl rfl ?_
  refine ws_isub 23 rfl rfl (pk_sub (by omega)) ?_
  refine ws_imul 24 rfl rfl (pk_mul _ _) ?_
  refine ws_ishr 25 rfl rfl (kn_shr (by omega) (by omega)) ?_
  refine ws_bipush 27 rfl rfl kc_b7 ?_
  refine ws_iand 28 rfl rfl (kn_and _ _) ?_
  rw [e7]
  refine ws_istore_3 29 rfl rfl rfl rfl ?_
  refine ws_iload_3 30 rfl rfl ?_
  refine ws_if_nen 38 33 rfl rfl rfl (by omega) (fun c1 => ?_) (fun c1 => ?_)
  · refine ws_iload_3 39 rfl rfl ?_
    refine ws_iconst 40 rfl rfl kc_i1 ?_
    refine ws_isub 41 rfl rfl (pk_sub (by omega)) ?_
    refine ws_iret rfl rfl rfl (Nat.le_of_ble_eq_true rfl) ?_
    exact ⟨by rw [rw6_1 c1], rfl⟩
  · refine ws_bipush 35 rfl rfl kc_bm6 ?_
    refine ws_goto 41 rfl rfl ?_
    refine ws_iret rfl rfl rfl (Nat.le_of_ble_eq_true rfl) ?_
    exact ⟨by rw [rw6_0 c1], rfl⟩
theorem c_weekAt (i : Nat) (hi : i < 1546) (hok : okA A F) (hS : SC A F I) (hR : RD (wkc A F) I) : xC E 5 35 [.ref 19, .int (nI i)] (xC0 ++ T, I, L) (fun r t => r = some (.int (nI (wkc A F (vcn i)))) ∧ ∃ I', t = (xC0 ++ T, I', L) ∧ (∀ a, a < 14 ∨ (18 < a ∧ a ≠ 22 ∧ a ≠ 23) → I' a = I a) ∧ RD (wkc A F) I') := by
  refine xC.mk [some (.ref 19), some (.int (nI i)), none] rfl ?_
  have hwl := wkc_le hok (vcn i)
  rcases hR.2.2 i hi with hm | hw
  · have loop : ∀ (m p : Nat) (I' : Nat → Nat → Int32), p + m = 5 → (∀ a, a ≠ 23 → I' a = I a) → (∀ q, q < p → I' 23 q = rw6 (dg (vcn i) q)) → xW E 5 35 25 [some (.ref 19), some (.int (nI i)), some (.int (nI p))] [] (xC0 ++ T, I', L) 0 0 (fun r t => r = some (.int (nI (wkc A F (vcn i)))) ∧ ∃ I', t = (xC0 ++ T, I', L) ∧ (∀ a, a < 14 ∨ (18 < a ∧ a ≠ 22 ∧ a ≠ 23) → I' a = I a) ∧ RD (wkc A F) I') := by
      intro m
      induction m with
      | zero =>
        intro p I' hp hf h23
        obtain rfl : p = 5 := by omega
        obtain ⟨s1, s2, s3, s4, s5⟩ := hS.keep (I' := I') (fun a ha => hf a (by omega))
        refine ws_iload_2 26 rfl rfl ?_
        refine ws_iconst 27 rfl rfl kc_i5 ?_
        refine ws_icmp_gen 48 30 rfl rfl rfl (by omega) (by omega) (fun h9 => ?_) (fun h9 => absurd h9 (by omega))
        refine ws_aload_0 49 rfl rfl ?_
        refine ws_getfr 52 rfl rfl rfl rfl rfl ?_
        refine ws_iload_1 53 rfl rfl ?_
        refine ws_aload_0 54 rfl rfl ?_
        refine ws_getfr 57 rfl rfl rfl rfl rfl ?_
        refine ws_aload_0 58 rfl rfl ?_
        refine ws_getfr 61 rfl rfl rfl rfl rfl ?_
        refine ws_iconst 62 rfl rfl kc_i0 ?_
        refine ws_invV2 65 rfl rfl rfl rfl (c_weekOf (A := A) (F := F) (b := dg (vcn i)) 23 0 (by decide) (by decide) (by omega) (by omega) rfl s1 s2 s3 s4 s5 hok.1 hok.2.1 hok.2.2.1 hok.2.2.2.1 hok.2.2.2.2.1 hok.2.2.2.2.2 (fun p _ => dg_le _ p) h23) rfl rfl rfl ?_
        rintro _ _ ⟨rfl, I2, rfl, hf2⟩
        have hf3 : ∀ a, a < 14 ∨ (18 < a ∧ a ≠ 23) → I2 a = I a := fun a ha => by rw [hf2 a (by omega)]; exact hf a (by omega)
        have h22 : ∀ x : Int32, wI I2 22 i x 22 i = x := fun x => by rw [wI_eq, pk_us]
        refine ws_iastn 66 rfl rfl rfl (by omega) (by omega) ?_
        refine ws_aload_0 67 rfl rfl ?_
        refine ws_getfr 70 rfl rfl rfl rfl rfl ?_
        refine ws_iload_1 71 rfl rfl ?_
        refine ws_ialdn 72 rfl rfl rfl (by omega) (by omega) (h22 _) ?_
        refine ws_iret rfl rfl rfl (Nat.le_of_ble_eq_true rfl) ?_
        refine ⟨rfl, _, rfl, fun a ha => by rw [wI_ne (by omega)]; exact hf3 a (by omega), ⟨?_, fun j e he => ?_⟩, ?_, fun j hj => ?_⟩
        · rw [wI_ne (by decide), hf3 19 (by omega)]; exact hR.1.1
        · rw [wI_ne (by decide), wI_ne (by decide), hf3 20 (by omega), hf3 21 (by omega)]; exact hR.1.2 j e he
        · rw [wI_ne (by decide), hf3 19 (by omega)]; exact hR.2.1
        · rw [wI_eq]
          by_cases e : j = i
          · rw [e, pk_us]; exact Or.inr rfl
          · rw [pk_un e, hf3 22 (by omega)]; exact hR.2.2 j hj
      | succ m ih =>
        intro p I' hp hf h23
        have h20 : I' 20 i = nI (n8 (dg (vcn i))) := by rw [hf 20 (by decide)]; exact (hR.num hi).1
        refine ws_iload_2 26 rfl rfl ?_
        refine ws_iconst 27 rfl rfl kc_i5 ?_
        refine ws_icmp_gen 48 30 rfl rfl rfl (by omega) (by omega) (fun h9 => absurd h9 (by omega)) (fun h9 => ?_)
        refine ws_aload_0 31 rfl rfl ?_
        refine ws_getfr 34 rfl rfl rfl rfl rfl ?_
        refine ws_iload_2 35 rfl rfl ?_
        refine ws_aload_0 36 rfl rfl ?_
        refine ws_iload_1 37 rfl rfl ?_
        refine ws_iload_2 38 rfl rfl ?_
        refine ws_invV2p 41 rfl rfl rfl rfl (c_thingAt i p hi (by omega) h20) rfl rfl rfl ?_
        refine ws_iastn 42 rfl rfl rfl (by omega) (by omega) ?_
        refine ws_iinc_2 45 rfl rfl (ki_1 _) rfl rfl ?_
        refine ws_goto 25 rfl rfl ?_
        exact ih (p + 1) _ (by omega) (fun a ha => by rw [wI_ne ha]; exact hf a ha) (fl h23 rfl)
    refine ws_iload_1 1 rfl rfl ?_
    refine ws_sipush 4 rfl rfl kc_s1546 ?_
    refine ws_invSN2p 7 rfl rfl rfl (p_below1546t i hi) rfl rfl rfl ?_
    refine ws_if_neb 13 10 rfl rfl rfl (fun h9 => ?_) (fun h9 => absurd h9 (by first | decide | simp_all))
    refine ws_aload_0 14 rfl rfl ?_
    refine ws_getfr 17 rfl rfl rfl rfl rfl ?_
    refine ws_iload_1 18 rfl rfl ?_
    refine ws_ialdn 19 rfl rfl rfl (by omega) (by omega) hm ?_
    refine ws_iconst 20 rfl rfl kc_im1 ?_
    refine ws_icmp_ne 66 23 rfl rfl rfl (fun h9 => absurd h9 (by simp)) (fun h9 => ?_)
    refine ws_iconst 24 rfl rfl kc_i0 ?_
    refine ws_istore_2 25 rfl rfl rfl rfl ?_
    exact loop 5 0 I rfl (fun _ _ => rfl) (fun _ h => by omega)
  · refine ws_iload_1 1 rfl rfl ?_
    refine ws_sipush 4 rfl rfl kc_s1546 ?_
    refine ws_invSN2p 7 rfl rfl rfl (p_below1546t i hi) rfl rfl rfl ?_
    refine ws_if_neb 13 10 rfl rfl rfl (fun h9 => ?_) (fun h9 => absurd h9 (by first | decide | simp_all))
    refine ws_aload_0 14 rfl rfl ?_
    refine ws_getfr 17 rfl rfl rfl rfl rfl ?_
    refine ws_iload_1 18 rfl rfl ?_
    refine ws_ialdn 19 rfl rfl rfl (by omega) (by omega) hw ?_
    refine ws_iconst 20 rfl rfl kc_im1 ?_
    refine ws_icmp_ne 66 23 rfl rfl rfl (fun h9 => ?_) (fun h9 => absurd h9 (nIm1 (by omega)))
    refine ws_aload_0 67 rfl rfl ?_
    refine ws_getfr 70 rfl rfl rfl rfl rfl ?_
    refine ws_iload_1 71 rfl rfl ?_
    refine ws_ialdn 72 rfl rfl rfl (by omega) (by omega) hw ?_
    refine ws_iret rfl rfl rfl (Nat.le_of_ble_eq_true rfl) ?_
    exact ⟨rfl, I, rfl, fun _ _ => rfl, hR⟩
/-- which windows are asked for -/
def szI : Option Nat → Int32
  | none => -6
  | some n => nI n
def fitI (may must s : Nat) : Bool := decide (nI s &&& (nI may ^^^ (-1)) = 0) && decide (nI must &&& (nI s ^^^ (-1)) = 0)
def szB (o : Option Nat) (n : Nat) : Bool := match o with
  | none => true
  | some m => decide (m = n)
def ftC (may must : Nat) (o : Option Nat) (c : Nat) : Bool := fitI may must (sC c) && szB o (pop 5 (sC c))
def pqC (c : Nat) : Nat := pop 5 (sC c)
def gsel (A : Nat → Nat → Nat) (F : Nat → Nat) (may must : Nat) (o : Option Nat) : Option Nat := bst (ftC may must o) (wkc A F) pqC
theorem c_greatest (may must : Nat) (o : Option Nat) (ho : ∀ n, o = some n → n ≤ 5) (c0 : Nat) (hc0 : c0 < 7776) (hv0 : vB c0 = true) (hf0 : ftC may must o c0 = true) (hok : okA A F) (hS : SC A F I) (hP : PR (wkc A F) I) : xC E 9 37 [.ref 19, .int (nI may), .int (nI must), .int (szI o)] (xC0 ++ T, I, L) (fun r t => ∃ i c, i < 1546 ∧ vcn i = c ∧ gsel A F may must o = some c ∧ r = some (.int (nI i)) ∧ ∃ I', t = (xC0 ++ T, I', L) ∧ ((∀ a, a < 14 ∨ (18 < a ∧ a < 19) ∨ 23 < a → I' a = I a) ∧ ∀ j, j ≠ 3 → j ≠ 5 → I' 19 j = I 19 j) ∧ RD (wkc A F) I') := by
  refine xC.mk [some (.ref 19), some (.int (nI may)), some (.int (nI must)), some (.int (szI o)), none, none, none, none, none, none, none] rfl ?_
  refine ws_aload_0 1 rfl rfl ?_
  refine ws_invV0 4 rfl rfl rfl rfl (c_makeReady hP) rfl rfl rfl ?_
  rintro _ _ ⟨rfl, I1, rfl, hf1, hR1⟩
  have loop : ∀ (m k : Nat) (I' : Nat → Nat → Int32) (fd wv fe : Int32) (z8 z9 z10 : Option Value), k + m = 1546 → ((∀ a, a < 14 ∨ (18 < a ∧ a < 19) ∨ 23 < a → I' a = I a) ∧ ∀ j, j ≠ 3 → j ≠ 5 → I' 19 j = I 19 j) → RD (wkc A F) I' → (match (vc.take k).foldl (stp (ftC may must o) (wkc A F) pqC) none with | none => fd = -1 ∧ wv = -1 ∧ fe = nI 0 | some c => ∃ i, i < k ∧ vcn i = c ∧ fd = nI i ∧ wv = nI (wkc A F c) ∧ fe = nI (pqC c)) → xW E 9 37 16 [some (.ref 19), some (.int (nI may)), some (.int (nI must)), some (.int (szI o)), some (.int fd), some (.int wv), some (.int fe), some (.int (nI k)), z8, z9, z10] [] (xC0 ++ T, I', L) 0 0 (fun r t => ∃ i c, i < 1546 ∧ vcn i = c ∧ gsel A F may must o = some c ∧ r = some (.int (nI i)) ∧ ∃ I', t = (xC0 ++ T, I', L) ∧ ((∀ a, a < 14 ∨ (18 < a ∧ a < 19) ∨ 23 < a → I' a = I a) ∧ ∀ j, j ≠ 3 → j ≠ 5 → I' 19 j = I 19 j) ∧ RD (wkc A F) I') := by
    intro m
    induction m with
    | zero =>
      intro k I' fd wv fe z8 z9 z10 hk hf hR hq
      obtain rfl : k = 1546 := by omega
      rw [List.take_of_length_le (by rw [vc_len]; exact Nat.le_refl _)] at hq
      obtain ⟨b, hb⟩ := bst_some (ft := ftC may must o) (g := wkc A F) (pq := pqC) c0 hc0 hv0 hf0
      have hb2 : vc.foldl (stp (ftC may must o) (wkc A F) pqC) none = some b := by unfold bst at hb; exact hb
      rw [hb2] at hq
      obtain ⟨i, h1, h2, h3, -⟩ := hq
      refine ws_iload_7 18 rfl rfl ?_
      refine ws_sipush 21 rfl rfl kc_s1546 ?_
      refine ws_icmp_gen 138 24 rfl rfl rfl (by omega) (by omega) (fun h9 => ?_) (fun h9 => absurd h9 (by omega))
      refine ws_iload_4 140 rfl rfl ?_
      refine ws_iret rfl rfl rfl (Nat.le_of_ble_eq_true rfl) ?_
      exact ⟨i, b, h1, h2, hb, by rw [h3], I', rfl, hf, hR⟩
    | succ m ih =>
      intro k I' fd wv fe z8 z9 z10 hk hf hR hq
      have hk6 : k < 1546 := by omega
      have h21 := (hR.num hk6).2
      have hs32 := sC_lt (vcn k)
      have hpl := pop_le 5 (sC (vcn k))
      have etk : (vc.take (k + 1)).foldl (stp (ftC may must o) (wkc A F) pqC) none = stp (ftC may must o) (wkc A F) pqC ((vc.take k).foldl (stp (ftC may must o) (wkc A F) pqC) none) (vcn k) := by
        rw [List.take_succ, vcn_get hk6, List.foldl_append]
        rfl
      obtain ⟨b0, hb0⟩ : ∃ b0, b0 = (vc.take k).foldl (stp (ftC may must o) (wkc A F) pqC) none := ⟨_, rfl⟩
      rw [← hb0] at hq etk
      -- not asked for
      have skip : ftC may must o (vcn k) = false → ∀ (z8 z9 z10 : Option Value), xW E 9 37 132 [some (.ref 19), some (.int (nI may)), some (.int (nI must)), some (.int (szI o)), some (.int fd), some (.int wv), some (.int fe), some (.int (nI k)), z8, z9, z10] [] (xC0 ++ T, I', L) 0 0 (fun r t => ∃ i c, i < 1546 ∧ vcn i = c ∧ gsel A F may must o = some c ∧ r = some (.int (nI i)) ∧ ∃ I', t = (xC0 ++ T, I', L) ∧ ((∀ a, a < 14 ∨ (18 < a ∧ a < 19) ∨ 23 < a → I' a = I a) ∧ ∀ j, j ≠ 3 → j ≠ 5 → I' 19 j = I 19 j) ∧ RD (wkc A F) I') := by
        intro hft z8 z9 z10
        have e9 : stp (ftC may must o) (wkc A F) pqC b0 (vcn k) = b0 := by unfold stp; rw [hft]; rfl
        rw [e9] at etk
        refine ws_iinc_7 135 rfl rfl (ki_1 _) rfl rfl ?_
        refine ws_goto 16 rfl rfl ?_
        refine ih (k + 1) I' fd wv fe _ _ _ (by omega) hf hR ?_
        rw [etk]
        cases b0 with
        | none => exact hq
        | some c => obtain ⟨i, h1, h2⟩ := hq; exact ⟨i, by omega, h2⟩
      by_cases c1 : nI (sC (vcn k)) &&& (nI may ^^^ (-1)) = 0
      · by_cases c2 : nI must &&& (nI (sC (vcn k)) ^^^ (-1)) = 0
        · have hfit : fitI may must (sC (vcn k)) = true := by unfold fitI; rw [decide_eq_true c1, decide_eq_true c2]; rfl
          have go : szB o (pop 5 (sC (vcn k))) = true → ∀ (z10 : Option Value), xW E 9 37 91 [some (.ref 19), some (.int (nI may)), some (.int (nI must)), some (.int (szI o)), some (.int fd), some (.int wv), some (.int fe), some (.int (nI k)), some (.int (nI (pop 5 (sC (vcn k))))), some (.int (nI 1)), z10] [] (xC0 ++ T, I', L) 0 0 (fun r t => ∃ i c, i < 1546 ∧ vcn i = c ∧ gsel A F may must o = some c ∧ r = some (.int (nI i)) ∧ ∃ I', t = (xC0 ++ T, I', L) ∧ ((∀ a, a < 14 ∨ (18 < a ∧ a < 19) ∨ 23 < a → I' a = I a) ∧ ∀ j, j ≠ 3 → j ≠ 5 → I' 19 j = I 19 j) ∧ RD (wkc A F) I') := by
            intro hsz z10
            have hft : ftC may must o (vcn k) = true := by unfold ftC; rw [hfit, hsz]; rfl
            have hS' : SC A F I' := hS.keep (fun a ha => hf.1 a (by omega))
            refine ws_aload_0 92 rfl rfl ?_
            refine ws_iload_7 94 rfl rfl ?_
            refine ws_invV1 97 rfl rfl rfl rfl (c_weekAt k hk6 hok hS' hR) rfl rfl rfl ?_
            rintro _ _ ⟨rfl, I2, rfl, hf2, hR2⟩
            have hf3 : (∀ a, a < 14 ∨ (18 < a ∧ a < 19) ∨ 23 < a → I2 a = I a) ∧ ∀ j, j ≠ 3 → j ≠ 5 → I2 19 j = I 19 j := ⟨fun a ha => by rw [hf2 a (by omega)]; exact hf.1 a (by omega), fun j j3 j5 => by rw [hf2 19 (by omega)]; exact hf.2 j j3 j5⟩
            have hwl := wkc_le hok (vcn k)
            -- taken, or left
            have take : stp (ftC may must o) (wkc A F) pqC b0 (vcn k) = some (vcn k) → ∀ (z9 : Option Value), xW E 9 37 120 [some (.ref 19), some (.int (nI may)), some (.int (nI must)), some (.int (szI o)), some (.int fd), some (.int wv), some (.int fe), some (.int (nI k)), some (.int (nI (pop 5 (sC (vcn k))))), z9, some (.int (nI (wkc A F (vcn k))))] [] (xC0 ++ T, I2, L) 0 0 (fun r t => ∃ i c, i < 1546 ∧ vcn i = c ∧ gsel A F may must o = some c ∧ r = some (.int (nI i)) ∧ ∃ I', t = (xC0 ++ T, I', L) ∧ ((∀ a, a < 14 ∨ (18 < a ∧ a < 19) ∨ 23 < a → I' a = I a) ∧ ∀ j, j ≠ 3 → j ≠ 5 → I' 19 j = I 19 j) ∧ RD (wkc A F) I') := by
              intro hs z9
              rw [hs] at etk
              refine ws_iload_7 122 rfl rfl ?_
              refine ws_istore_4 124 rfl rfl rfl rfl ?_
              refine ws_iload_10 126 rfl rfl ?_
              refine ws_istore_5 128 rfl rfl rfl rfl ?_
              refine ws_iload_8 130 rfl rfl ?_
              refine ws_istore_6 132 rfl rfl rfl rfl ?_
              refine ws_iinc_7 135 rfl rfl (ki_1 _) rfl rfl ?_
              refine ws_goto 16 rfl rfl ?_
              refine ih (k + 1) I2 _ _ _ _ _ _ (by omega) hf3 hR2 ?_
              rw [etk]
              exact ⟨k, by omega, rfl, rfl, rfl, rfl⟩
            have leave : stp (ftC may must o) (wkc A F) pqC b0 (vcn k) = b0 → ∀ (z9 : Option Value), xW E 9 37 132 [some (.ref 19), some (.int (nI may)), some (.int (nI must)), some (.int (szI o)), some (.int fd), some (.int wv), some (.int fe), some (.int (nI k)), some (.int (nI (pop 5 (sC (vcn k))))), z9, some (.int (nI (wkc A F (vcn k))))] [] (xC0 ++ T, I2, L) 0 0 (fun r t => ∃ i c, i < 1546 ∧ vcn i = c ∧ gsel A F may must o = some c ∧ r = some (.int (nI i)) ∧ ∃ I', t = (xC0 ++ T, I', L) ∧ ((∀ a, a < 14 ∨ (18 < a ∧ a < 19) ∨ 23 < a → I' a = I a) ∧ ∀ j, j ≠ 3 → j ≠ 5 → I' 19 j = I 19 j) ∧ RD (wkc A F) I') := by
              intro hs z9
              rw [hs] at etk
              refine ws_iinc_7 135 rfl rfl (ki_1 _) rfl rfl ?_
              refine ws_goto 16 rfl rfl ?_
              refine ih (k + 1) I2 _ _ _ _ _ _ (by omega) hf3 hR2 ?_
              rw [etk]
              cases b0 with
              | none => exact hq
              | some c => obtain ⟨i, h1, h2⟩ := hq; exact ⟨i, by omega, h2⟩
            cases hb : b0 with
            | none =>
              rw [hb] at hq
              obtain ⟨-, q2, -⟩ := hq
              rw [hb] at take
              have hs : stp (ftC may must o) (wkc A F) pqC none (vcn k) = some (vcn k) := by unfold stp; rw [hft]; rfl
              have hgt : ¬ ¬ (wv < nI (wkc A F (vcn k))) := by
                rw [q2]
                refine not_not_intro ?_
                rw [i32_lt, nI_toInt (by omega), show (-1 : Int32).toInt = -1 by decide]
                omega
              refine ws_istore_10 99 rfl rfl rfl rfl ?_
              refine ws_iload_10 101 rfl rfl ?_
              refine ws_iload_5 103 rfl rfl ?_
              refine ws_icmp_gt 120 106 rfl rfl rfl (fun h9 => ?_) (fun h9 => absurd h9 hgt)
              exact take hs _
            | some c =>
              rw [hb] at hq
              obtain ⟨i, q1, q2, q3, q4, q5⟩ := hq
              rw [hb] at take leave
              have hwc := wkc_le hok c
              have hpc := pop_le 5 (sC c)
              have hpe : pqC c = pop 5 (sC c) := rfl
              have hpk : pqC (vcn k) = pop 5 (sC (vcn k)) := rfl
              have hs : stp (ftC may must o) (wkc A F) pqC (some c) (vcn k) = if wkc A F c < wkc A F (vcn k) ∨ (wkc A F (vcn k) = wkc A F c ∧ pqC (vcn k) < pqC c) then some (vcn k) else some c := by unfold stp; rw [hft]; rfl
              rw [q4, q5] at take leave ⊢
              refine ws_istore_10 99 rfl rfl rfl rfl ?_
              refine ws_iload_10 101 rfl rfl ?_
              refine ws_iload_5 103 rfl rfl ?_
              refine ws_icmp_gtn 120 106 rfl rfl rfl (by omega) (by omega) (fun d1 => ?_) (fun d1 => ?_)
              · exact take (by rw [hs, if_pos (Or.inl d1)]) _
              · refine ws_iload_10 108 rfl rfl ?_
                refine ws_iload_5 110 rfl rfl ?_
                refine ws_icmp_nen 132 113 rfl rfl rfl (by omega) (by omega) (fun d2 => ?_) (fun d2 => ?_)
                · exact leave (by rw [hs, if_neg (by omega)]) _
                · refine ws_iload_8 115 rfl rfl ?_
                  refine ws_iload_6 117 rfl rfl ?_
                  refine ws_icmp_gen 132 120 rfl rfl rfl (by omega) (by omega) (fun d3 => ?_) (fun d3 => ?_)
                  · exact leave (by rw [hs, if_neg (by omega)]) _
                  · exact take (by rw [hs, if_pos (Or.inr ⟨d2, by omega⟩)]) _
          refine ws_iload_7 18 rfl rfl ?_
          refine ws_sipush 21 rfl rfl kc_s1546 ?_
          refine ws_icmp_gen 138 24 rfl rfl rfl (by omega) (by omega) (fun h9 => absurd h9 (by omega)) (fun h9 => ?_)
          refine ws_aload_0 25 rfl rfl ?_
          refine ws_getfr 28 rfl rfl rfl rfl rfl ?_
          refine ws_iload_7 30 rfl rfl ?_
          refine ws_ialdn 31 rfl rfl rfl (by omega) (by omega) h21 ?_
          refine ws_invS1p 34 rfl rfl rfl (p_bitCount5 _ hs32) rfl rfl rfl ?_
          refine ws_istore_8 36 rfl rfl rfl rfl ?_
          refine ws_aload_0 37 rfl rfl ?_
          refine ws_getfr 40 rfl rfl rfl rfl rfl ?_
          refine ws_iload_7 42 rfl rfl ?_
          refine ws_ialdn 43 rfl rfl rfl (by omega) (by omega) h21 ?_
          refine ws_iload_1 44 rfl rfl ?_
          refine ws_iconst 45 rfl rfl kc_im1 ?_
          refine ws_ixor 46 rfl rfl rfl ?_
          refine ws_iand 47 rfl rfl rfl ?_
          refine ws_if_ne 68 50 rfl rfl rfl (fun h9 => absurd h9 (not_not_intro c1)) (fun h9 => ?_)
          refine ws_iload_2 51 rfl rfl ?_
          refine ws_aload_0 52 rfl rfl ?_
          refine ws_getfr 55 rfl rfl rfl rfl rfl ?_
          refine ws_iload_7 57 rfl rfl ?_
          refine ws_ialdn 58 rfl rfl rfl (by omega) (by omega) h21 ?_
          refine ws_iconst 59 rfl rfl kc_im1 ?_
          refine ws_ixor 60 rfl rfl rfl ?_
          refine ws_iand 61 rfl rfl rfl ?_
          refine ws_if_ne 68 64 rfl rfl rfl (fun h9 => absurd h9 (not_not_intro c2)) (fun h9 => ?_)
          refine ws_iconst 65 rfl rfl kc_i1 ?_
          refine ws_goto 69 rfl rfl ?_
          refine ws_istore_9 71 rfl rfl rfl rfl ?_
          refine ws_iload_9 73 rfl rfl ?_
          refine ws_if_eqn 132 76 rfl rfl rfl (by omega) (fun h9 => absurd h9 (by omega)) (fun h9 => ?_)
          refine ws_iload_3 77 rfl rfl ?_
          cases ho' : o with
          | none =>
            rw [ho'] at go
            refine ws_bipush 79 rfl rfl kc_bm6 ?_
            refine ws_icmp_eq 91 82 rfl rfl rfl (fun h9 => ?_) (fun h9 => absurd h9 (by decide))
            exact go rfl _
          | some n =>
            have hn5 := ho n ho'
            rw [ho'] at go skip
            have hne : ¬ szI (some n) = -6 := by
              intro q
              have := congrArg Int32.toInt q
              rw [show szI (some n) = nI n from rfl, nI_toInt (by omega), show (-6 : Int32).toInt = -6 by decide] at this
              omega
            refine ws_bipush 79 rfl rfl kc_bm6 ?_
            refine ws_icmp_eq 91 82 rfl rfl rfl (fun h9 => absurd h9 hne) (fun h9 => ?_)
            show xW E 9 37 82 [some (.ref 19), some (.int (nI may)), some (.int (nI must)), some (.int (nI n)), some (.int fd), some (.int wv), some (.int fe), some (.int (nI k)), some (.int (nI (pop 5 (sC (vcn k))))), some (.int (nI 1)), z10] [] (xC0 ++ T, I', L) 0 0 _
            refine ws_iload_3 83 rfl rfl ?_
            refine ws_iload_8 85 rfl rfl ?_
            refine ws_icmp_eqn 91 88 rfl rfl rfl (by omega) (by omega) (fun d1 => ?_) (fun d1 => ?_)
            · exact go (by simp [szB, d1]) _
            · refine ws_goto 132 rfl rfl ?_
              exact skip (by unfold ftC; simp [szB, d1]) _ _ _
        · refine ws_iload_7 18 rfl rfl ?_
          refine ws_sipush 21 rfl rfl kc_s1546 ?_
          refine ws_icmp_gen 138 24 rfl rfl rfl (by omega) (by omega) (fun h9 => absurd h9 (by omega)) (fun h9 => ?_)
          refine ws_aload_0 25 rfl rfl ?_
          refine ws_getfr 28 rfl rfl rfl rfl rfl ?_
          refine ws_iload_7 30 rfl rfl ?_
          refine ws_ialdn 31 rfl rfl rfl (by omega) (by omega) h21 ?_
          refine ws_invS1p 34 rfl rfl rfl (p_bitCount5 _ hs32) rfl rfl rfl ?_
          refine ws_istore_8 36 rfl rfl rfl rfl ?_
          refine ws_aload_0 37 rfl rfl ?_
          refine ws_getfr 40 rfl rfl rfl rfl rfl ?_
          refine ws_iload_7 42 rfl rfl ?_
          refine ws_ialdn 43 rfl rfl rfl (by omega) (by omega) h21 ?_
          refine ws_iload_1 44 rfl rfl ?_
          refine ws_iconst 45 rfl rfl kc_im1 ?_
          refine ws_ixor 46 rfl rfl rfl ?_
          refine ws_iand 47 rfl rfl rfl ?_
          refine ws_if_ne 68 50 rfl rfl rfl (fun h9 => absurd h9 (not_not_intro c1)) (fun h9 => ?_)
          refine ws_iload_2 51 rfl rfl ?_
          refine ws_aload_0 52 rfl rfl ?_
          refine ws_getfr 55 rfl rfl rfl rfl rfl ?_
          refine ws_iload_7 57 rfl rfl ?_
          refine ws_ialdn 58 rfl rfl rfl (by omega) (by omega) h21 ?_
          refine ws_iconst 59 rfl rfl kc_im1 ?_
          refine ws_ixor 60 rfl rfl rfl ?_
          refine ws_iand 61 rfl rfl rfl ?_
          refine ws_if_ne 68 64 rfl rfl rfl (fun h9 => ?_) (fun h9 => absurd h9 c2)
          refine ws_iconst 69 rfl rfl kc_i0 ?_
          refine ws_istore_9 71 rfl rfl rfl rfl ?_
          refine ws_iload_9 73 rfl rfl ?_
          refine ws_if_eqn 132 76 rfl rfl rfl (by omega) (fun h9 => ?_) (fun h9 => absurd h9 (by omega))
          exact skip (by unfold ftC fitI; rw [decide_eq_false c2, Bool.and_false]; rfl) _ _ _
      · refine ws_iload_7 18 rfl rfl ?_
        refine ws_sipush 21 rfl rfl kc_s1546 ?_
        refine ws_icmp_gen 138 24 rfl rfl rfl (by omega) (by omega) (fun h9 => absurd h9 (by omega)) (fun h9 => ?_)
        refine ws_aload_0 25 rfl rfl ?_
        refine ws_getfr 28 rfl rfl rfl rfl rfl ?_
        refine ws_iload_7 30 rfl rfl ?_
        refine ws_ialdn 31 rfl rfl rfl (by omega) (by omega) h21 ?_
        refine ws_invS1p 34 rfl rfl rfl (p_bitCount5 _ hs32) rfl rfl rfl ?_
        refine ws_istore_8 36 rfl rfl rfl rfl ?_
        refine ws_aload_0 37 rfl rfl ?_
        refine ws_getfr 40 rfl rfl rfl rfl rfl ?_
        refine ws_iload_7 42 rfl rfl ?_
        refine ws_ialdn 43 rfl rfl rfl (by omega) (by omega) h21 ?_
        refine ws_iload_1 44 rfl rfl ?_
        refine ws_iconst 45 rfl rfl kc_im1 ?_
        refine ws_ixor 46 rfl rfl rfl ?_
        refine ws_iand 47 rfl rfl rfl ?_
        refine ws_if_ne 68 50 rfl rfl rfl (fun h9 => ?_) (fun h9 => absurd h9 c1)
        refine ws_iconst 69 rfl rfl kc_i0 ?_
        refine ws_istore_9 71 rfl rfl rfl rfl ?_
        refine ws_iload_9 73 rfl rfl ?_
        refine ws_if_eqn 132 76 rfl rfl rfl (by omega) (fun h9 => ?_) (fun h9 => absurd h9 (by omega))
        exact skip (by unfold ftC fitI; rw [decide_eq_false c1]; rfl) _ _ _
  refine ws_iconst 5 rfl rfl kc_im1 ?_
  refine ws_istore_4 7 rfl rfl rfl rfl ?_
  refine ws_iconst 8 rfl rfl kc_im1 ?_
  refine ws_istore_5 10 rfl rfl rfl rfl ?_
  refine ws_iconst 11 rfl rfl kc_i0 ?_
  refine ws_istore_6 13 rfl rfl rfl rfl ?_
  refine ws_iconst 14 rfl rfl kc_i0 ?_
  refine ws_istore_7 16 rfl rfl rfl rfl ?_
  exact loop 1546 0 I1 _ _ _ _ _ _ rfl ⟨fun a ha => hf1.1 a (by omega), hf1.2⟩ hR1 ⟨rfl, rfl, rfl⟩
end WIN
end
section
/-! ===== exchanges, in numbers ===== -/
def sw (b : Nat → Nat) (p q : Nat) : Nat → Nat := fun r => if r = p then b q else if r = q then b p else b r
def pu (b : Nat → Nat) (p d : Nat) : Nat → Nat := fun r => if r = p then d else b r
/-- no thing stands twice on the first k places -/
def dst (b : Nat → Nat) (k : Nat) : Prop := ∀ p q, p < k → q < k → p ≠ q → b p ≠ 0 → b p ≠ b q
theorem or_bit : ∀ u, u < 32 → ∀ e, e < 5 → ∀ d, d < 5 → ((u ||| 2 ^ e) / 2 ^ d % 2 = 1 ↔ (e = d ∨ u / 2 ^ d % 2 = 1)) := by decide +kernel
theorem tin_spec {b : Nat → Nat} : ∀ {k : Nat}, (∀ p, p < k → b p ≤ 5) → (∀ s, tin b k = some s → (∀ d, d < 5 → (s / 2 ^ d % 2 = 1 ↔ ∃ p, p < k ∧ b p = d + 1)) ∧ dst b k) ∧ (tin b k = none → ¬ dst b k)
  | 0, _ => by
    refine ⟨fun s hs => ?_, fun h => by cases h⟩
    have : 0 = s := Option.some.inj hs
    subst this
    refine ⟨fun d _ => ⟨fun h => by simp at h, fun ⟨p, hp, _⟩ => by omega⟩, fun p q hp => by omega⟩
  | k + 1, hb => by
    obtain ⟨ih1, ih2⟩ := tin_spec (b := b) (k := k) (fun p hp => hb p (by omega))
    have hk := hb k (by omega)
    have sub : dst b (k + 1) → dst b k := fun h p q hp hq => h p q (by omega) (by omega)
    unfold tin
    cases hq : tin b k with
    | none =>
      refine ⟨fun s hs => (by cases hs), fun _ h => ih2 hq (sub h)⟩
    | some u =>
      obtain ⟨hu, hd⟩ := ih1 u hq
      have hu32 := tin_lt (fun p hp => hb p (by omega)) hq
      simp only
      by_cases h0 : b k = 0
      · rw [if_pos h0]
        refine ⟨fun s hs => ?_, fun h => by cases h⟩
        have : u = s := Option.some.inj hs
        subst this
        refine ⟨fun d hd5 => ?_, fun p q hp hq2 hpq hz => ?_⟩
        · rw [hu d hd5]
          constructor
          · rintro ⟨p, hp, e⟩; exact ⟨p, by omega, e⟩
          · rintro ⟨p, hp, e⟩
            refine ⟨p, ?_, e⟩
            rcases Nat.lt_or_ge p k with h | h
            · exact h
            · have : p = k := by omega
              rw [this, h0] at e; omega
        · rcases Nat.lt_or_ge p k with h | h
          · rcases Nat.lt_or_ge q k with h' | h'
            · exact hd p q h h' hpq hz
            · have : q = k := by omega
              rw [this, h0]; exact hz
          · have : p = k := by omega
            rw [this] at hz; exact absurd h0 hz
      · rw [if_neg h0]
        by_cases h1 : u / 2 ^ (b k - 1) % 2 = 1
        · rw [if_pos h1]
          refine ⟨fun s hs => (by cases hs), fun _ h => ?_⟩
          obtain ⟨p, hp, e⟩ := (hu (b k - 1) (by omega)).mp h1
          exact h p k (by omega) (by omega) (by omega) (by omega) (by omega)
        · rw [if_neg h1]
          refine ⟨fun s hs => ?_, fun h => by cases h⟩
          have : u ||| 2 ^ (b k - 1) = s := Option.some.inj hs
          subst this
          refine ⟨fun d hd5 => ?_, fun p q hp hq2 hpq hz => ?_⟩
          · rw [or_bit u hu32 (b k - 1) (by omega) d hd5, hu d hd5]
            constructor
            · rintro (e | ⟨p, hp, e⟩)
              · exact ⟨k, by omega, by omega⟩
              · exact ⟨p, by omega, e⟩
            · rintro ⟨p, hp, e⟩
              rcases Nat.lt_or_ge p k with h | h
              · exact Or.inr ⟨p, h, e⟩
              · have : p = k := by omega
                rw [this] at e; exact Or.inl (by omega)
          · have key : ∀ r, r < k → b r ≠ b k := fun r hr e => h1 ((hu (b k - 1) (by omega)).mpr ⟨r, hr, by omega⟩)
            rcases Nat.lt_or_ge p k with h | h
            · rcases Nat.lt_or_ge q k with h' | h'
              · exact hd p q h h' hpq hz
              · have : q = k := by omega
                rw [this]; exact key p h
            · have e : p = k := by omega
              rw [e]
              exact fun e2 => key q (by omega) e2.symm
theorem vB_iff {b : Nat → Nat} (hb : ∀ p, p < 5 → b p ≤ 5) : vB (cd b) = true ↔ dst b 5 := by
  have e : tin (dg (cd b)) 5 = tin b 5 := tin_congr (dg_cd hb)
  unfold vB
  rw [e]
  obtain ⟨h1, h2⟩ := tin_spec hb
  cases hq : tin b 5 with
  | none => exact ⟨fun h => (by cases h), fun h => absurd h (h2 hq)⟩
  | some s => exact ⟨fun _ => (h1 s hq).2, fun _ => rfl⟩
theorem vB_dg {c : Nat} (hc : c < 7776) (hv : vB c = true) : dst (dg c) 5 := by
  rw [← cd_dg hc] at hv
  exact (vB_iff (fun p _ => dg_le c p)).mp hv
theorem sC_bit {c : Nat} (hv : vB c = true) {d : Nat} (hd : d < 5) : sC c / 2 ^ d % 2 = 1 ↔ ∃ p, p < 5 ∧ dg c p = d + 1 := ((tin_spec (b := dg c) (k := 5) (fun p _ => dg_le c p)).1 _ (sC_of hv)).1 d hd
theorem sw_le {b : Nat → Nat} {p q : Nat} (hb : ∀ p, p < 5 → b p ≤ 5) (hp : p < 5) (hq : q < 5) : ∀ r, r < 5 → sw b p q r ≤ 5 := by
  intro r hr
  unfold sw
  split
  · exact hb q hq
  · split
    · exact hb p hp
    · exact hb r hr
theorem sw_dst {b : Nat → Nat} {p q : Nat} (h : dst b 5) (hp : p < 5) (hq : q < 5) : dst (sw b p q) 5 := by
  intro x y hx hy hxy
  have k1 := h p q hp hq; have k2 := h q p hq hp
  have k3 := fun r (hr : r < 5) => h r p hr hp; have k4 := fun r (hr : r < 5) => h r q hr hq
  have k5 := fun r (hr : r < 5) => h p r hp hr; have k6 := fun r (hr : r < 5) => h q r hq hr
  have k7 := h x y hx hy hxy
  unfold sw
  by_cases e1 : x = p
  · rw [if_pos e1]
    by_cases e2 : y = p
    · omega
    · rw [if_neg e2]
      by_cases e3 : y = q
      · rw [if_pos e3]; exact k2 (by omega)
      · rw [if_neg e3]; exact k6 y hy (by omega)
  · rw [if_neg e1]
    by_cases e4 : x = q
    · rw [if_pos e4]
      by_cases e2 : y = p
      · rw [if_pos e2]; exact k1 (by omega)
      · rw [if_neg e2]
        by_cases e3 : y = q
        · omega
        · rw [if_neg e3]; exact k5 y hy (by omega)
    · rw [if_neg e4]
      by_cases e2 : y = p
      · rw [if_pos e2]; exact k4 x hx e4
      · rw [if_neg e2]
        by_cases e3 : y = q
        · rw [if_pos e3]; exact k3 x hx e1
        · rw [if_neg e3]; exact k7
theorem sw_sw (b : Nat → Nat) (p q : Nat) : ∀ r, sw (sw b p q) p q r = b r := by
  intro r
  unfold sw
  by_cases e1 : r = p
  · rw [if_pos e1]
    by_cases e2 : q = p
    · rw [if_pos e2, e1, e2]
    · rw [if_neg e2, if_pos rfl, e1]
  · rw [if_neg e1]
    by_cases e2 : r = q
    · rw [if_pos e2, if_pos rfl, e2]
    · rw [if_neg e2, if_neg e1, if_neg e2]
theorem pu_le {b : Nat → Nat} {p d : Nat} (hb : ∀ p, p < 5 → b p ≤ 5) (hd : d ≤ 5) : ∀ r, r < 5 → pu b p d r ≤ 5 := by
  intro r hr
  unfold pu
  split
  · exact hd
  · exact hb r hr
theorem pu_dst {b : Nat → Nat} {p d : Nat} (h : dst b 5) (hd : d = 0 ∨ ∀ r, r < 5 → b r ≠ d) : dst (pu b p d) 5 := by
  intro x y hx hy hxy
  unfold pu
  by_cases e1 : x = p
  · rw [if_pos e1, if_neg (show ¬ y = p by omega)]
    intro hz
    rcases hd with hd | hd
    · exact absurd hd hz
    · exact fun e => hd y hy e.symm
  · rw [if_neg e1]
    by_cases e2 : y = p
    · rw [if_pos e2]
      intro hz
      rcases hd with hd | hd
      · rw [hd]; exact hz
      · exact hd x hx
    · rw [if_neg e2]
      exact h x y hx hy hxy
/-- what may be exchanged, in its order -/
def sw1 (b : Nat → Nat) (p : Nat) : Nat → List Nat
  | 0 => []
  | m + 1 => sw1 b p m ++ [cd (sw b p (p + 1 + m))]
def sw2 (b : Nat → Nat) : Nat → List Nat
  | 0 => []
  | p + 1 => sw2 b p ++ sw1 b p (4 - p)
def pu1 (b : Nat → Nat) (s p : Nat) : Nat → List Nat
  | 0 => []
  | t + 1 => pu1 b s p t ++ (if s / 2 ^ t % 2 = 0 then [cd (pu b p (t + 1))] else [])
def pu2 (b : Nat → Nat) (s : Nat) : Nat → List Nat
  | 0 => []
  | p + 1 => pu2 b s p ++ pu1 b s p 5
def tk1 (b : Nat → Nat) : Nat → List Nat
  | 0 => []
  | p + 1 => tk1 b p ++ [cd (pu b p 0)]
def cands (b : Nat → Nat) (s : Nat) : List Nat := sw2 b 5 ++ pu2 b s 5 ++ tk1 b 5
theorem sw1_len (b : Nat → Nat) (p : Nat) : ∀ m, (sw1 b p m).length = m
  | 0 => rfl
  | m + 1 => by show (sw1 b p m ++ [_]).length = _; rw [List.length_append, sw1_len b p m]; rfl
theorem sw2_len (b : Nat → Nat) : (sw2 b 0).length = 0 ∧ (sw2 b 1).length = 4 ∧ (sw2 b 2).length = 7 ∧ (sw2 b 3).length = 9 ∧ (sw2 b 4).length = 10 ∧ (sw2 b 5).length = 10 := by
  simp [sw2, sw1_len]
theorem pu1_len (b : Nat → Nat) (s p : Nat) : ∀ t, (pu1 b s p t).length ≤ t
  | 0 => Nat.le_refl 0
  | t + 1 => by
    have := pu1_len b s p t
    show (pu1 b s p t ++ _).length ≤ _
    rw [List.length_append]
    split <;> simp <;> omega
theorem pu2_len (b : Nat → Nat) (s : Nat) : ∀ p, (pu2 b s p).length ≤ 5 * p
  | 0 => Nat.le_refl 0
  | p + 1 => by
    have h1 := pu2_len b s p
    have h2 := pu1_len b s p 5
    show (pu2 b s p ++ _).length ≤ _
    rw [List.length_append]; omega
theorem tk1_len (b : Nat → Nat) : ∀ p, (tk1 b p).length = p
  | 0 => rfl
  | p + 1 => by show (tk1 b p ++ [_]).length = _; rw [List.length_append, tk1_len b p]; rfl
/-- one exchange: the first of the greatest, if it is greater -/
def ost (g : Nat → Nat) (c0 : Nat) (o : Option Nat) (c : Nat) : Option Nat := if g (o.getD c0) < g c then some c else o
def exq (g : Nat → Nat) (c : Nat) : Option Nat := (cands (dg c) (sC c)).foldl (ost g c) none
def clm (g : Nat → Nat) : Nat → Nat → Nat × Nat
  | 0, c => (0, c)
  | k + 1, c => match exq g c with
    | none => (0, c)
    | some c' => ((clm g k c').1 + 1, (clm g k c').2)
theorem ost_gt {g : Nat → Nat} {c0 : Nat} : ∀ (l : List Nat) (o : Option Nat), (∀ c, o = some c → g c0 < g c) → ∀ c, l.foldl (ost g c0) o = some c → g c0 < g c
  | [], o, h, c, hc => h c hc
  | a :: l, o, h, c, hc => by
    rw [List.foldl_cons] at hc
    refine ost_gt l _ (fun x hx => ?_) c hc
    unfold ost at hx
    split at hx
    · rename_i hlt
      have e := Option.some.inj hx
      rw [← e]
      cases o with
      | none => exact hlt
      | some q => exact Nat.lt_trans (h q rfl) hlt
    · exact h x hx
theorem exq_ne {g : Nat → Nat} {c c' : Nat} (h : exq g c = some c') : c' ≠ c := by
  have := ost_gt (g := g) (c0 := c) _ none (fun x hx => by cases hx) c' h
  intro e
  rw [e] at this
  omega
theorem ost_mem {g : Nat → Nat} {c0 : Nat} {P : Nat → Prop} : ∀ (l : List Nat) (o : Option Nat), (∀ c ∈ l, P c) → (∀ c, o = some c → P c) → ∀ c, l.foldl (ost g c0) o = some c → P c
  | [], o, _, h, c, hc => h c hc
  | a :: l, o, hl, h, c, hc => by
    rw [List.foldl_cons] at hc
    refine ost_mem l _ (fun x hx => hl x (List.mem_cons_of_mem _ hx)) (fun x hx => ?_) c hc
    unfold ost at hx
    split at hx
    · have e := Option.some.inj hx
      rw [← e]
      exact hl a List.mem_cons_self
    · exact h x hx
/-- a window that is listed -/
def okC (c : Nat) : Prop := c < 7776 ∧ vB c = true
theorem okC_of {b : Nat → Nat} (hb : ∀ p, p < 5 → b p ≤ 5) (h : dst b 5) : okC (cd b) := ⟨cd_lt hb, (vB_iff hb).mpr h⟩
theorem okC_sw {c p q : Nat} (h : okC c) (hp : p < 5) (hq : q < 5) : okC (cd (sw (dg c) p q)) := okC_of (sw_le (fun p _ => dg_le c p) hp hq) (sw_dst (vB_dg h.1 h.2) hp hq)
theorem okC_tk {c p : Nat} (h : okC c) : okC (cd (pu (dg c) p 0)) := okC_of (pu_le (fun p _ => dg_le c p) (by omega)) (pu_dst (vB_dg h.1 h.2) (Or.inl rfl))
theorem okC_pu {c p t : Nat} (h : okC c) (ht : t < 5) (hs : sC c / 2 ^ t % 2 = 0) : okC (cd (pu (dg c) p (t + 1))) := by
  refine okC_of (pu_le (fun p _ => dg_le c p) (by omega)) (pu_dst (vB_dg h.1 h.2) (Or.inr (fun r hr e => ?_)))
  have := (sC_bit h.2 ht).mpr ⟨r, hr, e⟩
  omega
theorem cands_ok {c : Nat} (h : okC c) : ∀ x ∈ cands (dg c) (sC c), okC x := by
  have h1 : ∀ p m, p + m < 5 → ∀ x ∈ sw1 (dg c) p m, okC x := by
    intro p m
    induction m with
    | zero => intro _ x hx; cases hx
    | succ m ih =>
      intro hm x hx
      rcases List.mem_append.mp hx with hx | hx
      · exact ih (by omega) x hx
      · rw [List.mem_singleton.mp hx]; exact okC_sw h (by omega) (by omega)
  have h2 : ∀ p, p ≤ 5 → ∀ x ∈ sw2 (dg c) p, okC x := by
    intro p
    induction p with
    | zero => intro _ x hx; cases hx
    | succ p ih =>
      intro hp x hx
      rcases List.mem_append.mp hx with hx | hx
      · exact ih (by omega) x hx
      · exact h1 p (4 - p) (by omega) x hx
  have h3 : ∀ p t, t ≤ 5 → ∀ x ∈ pu1 (dg c) (sC c) p t, okC x := by
    intro p t
    induction t with
    | zero => intro _ x hx; cases hx
    | succ t ih =>
      intro ht x hx
      rcases List.mem_append.mp hx with hx | hx
      · exact ih (by omega) x hx
      · split at hx
        · rename_i hs
          rw [List.mem_singleton.mp hx]; exact okC_pu h (by omega) hs
        · cases hx
  have h4 : ∀ p, ∀ x ∈ pu2 (dg c) (sC c) p, okC x := by
    intro p
    induction p with
    | zero => intro x hx; cases hx
    | succ p ih =>
      intro x hx
      rcases List.mem_append.mp hx with hx | hx
      · exact ih x hx
      · exact h3 p 5 (by omega) x hx
  have h5 : ∀ p, ∀ x ∈ tk1 (dg c) p, okC x := by
    intro p
    induction p with
    | zero => intro x hx; cases hx
    | succ p ih =>
      intro x hx
      rcases List.mem_append.mp hx with hx | hx
      · exact ih x hx
      · rw [List.mem_singleton.mp hx]; exact okC_tk h
  intro x hx
  unfold cands at hx
  rcases List.mem_append.mp hx with hx | hx
  · rcases List.mem_append.mp hx with hx | hx
    · exact h2 5 (by omega) x hx
    · exact h4 5 x hx
  · exact h5 5 x hx
theorem exq_ok {g : Nat → Nat} {c c' : Nat} (h : okC c) (he : exq g c = some c') : okC c' := ost_mem (P := okC) _ none (cands_ok h) (fun x hx => by cases hx) c' he
theorem clm_ok {g : Nat → Nat} : ∀ (k c : Nat), okC c → okC (clm g k c).2 ∧ (clm g k c).1 ≤ k
  | 0, c, h => ⟨h, Nat.le_refl 0⟩
  | k + 1, c, h => by
    unfold clm
    cases he : exq g c with
    | none => exact ⟨h, Nat.zero_le _⟩
    | some c' =>
      obtain ⟨h1, h2⟩ := clm_ok (g := g) k c' (exq_ok h he)
      exact ⟨h1, by show _ + 1 ≤ _; omega⟩
end
section
/-! ===== Windows: exchanges ===== -/
def nm8 (b : Nat → Nat) : Nat → Nat
  | 0 => 0
  | k + 1 => nm8 b k * 8 + b k
theorem nm8_5 (b : Nat → Nat) : nm8 b 5 = n8 b := by
  unfold n8
  show ((((0 * 8 + b 0) * 8 + b 1) * 8 + b 2) * 8 + b 3) * 8 + b 4 = _
  omega
theorem nm8_lt {b : Nat → Nat} (hb : ∀ p, p < 5 → b p ≤ 5) : ∀ k, k ≤ 5 → nm8 b k < 8 ^ k
  | 0, _ => by show 0 < 1; omega
  | k + 1, hk => by
    have ih := nm8_lt hb k (by omega)
    have h := hb k (by omega)
    show nm8 b k * 8 + b k < 8 ^ (k + 1)
    rw [Nat.pow_succ]
    omega
theorem rw6_ge {d : Nat} (h : ¬ d = 0) (hd : d ≤ 5) : ¬ ¬ ((0 : Int32) ≤ rw6 d) := by
  rw [rw6_1 h]
  refine not_not_intro ?_
  rw [i32_le, Int32.toInt_zero, nI_toInt (by omega)]
  omega
/-- the offers so far, as codes -/
def hOf (I : Nat → Nat → Int32) (ol : List Nat) : Prop := I 19 9 = nI ol.length ∧ ∀ j c, ol[j]? = some c → ∃ i, i < 1546 ∧ vcn i = c ∧ I 25 j = nI i
theorem RD.keep {g : Nat → Nat} {I I' : Nat → Nat → Int32} (h : RD g I) (hf : ∀ a, 20 ≤ a → a ≤ 22 → I' a = I a) (h3 : I' 19 3 = I 19 3) (h5 : I' 19 5 = I 19 5) : RD g I' := by
  refine ⟨⟨by rw [h3]; exact h.1.1, fun i e he => ?_⟩, by rw [h5]; exact h.2.1, fun i hi => ?_⟩
  · rw [hf 20 (by omega) (by omega), hf 21 (by omega) (by omega)]; exact h.1.2 i e he
  · rw [hf 22 (by omega) (by omega)]; exact h.2.2 i hi
section CLIMB
variable {E : xEx} {T : List xSh} {I : Nat → Nat → Int32} {L : Nat → Nat → Int64} {A : Nat → Nat → Nat} {F g : Nat → Nat} {b : Nat → Nat}
theorem c_whichClimbs (ix : Nat) (hix : ix < 1546) (hv : vcn ix = cd b) (hb : ∀ p, p < 5 → b p ≤ 5) (h20 : ∀ i, i < 1546 → I 20 i = nI (n8 (dg (vcn i)))) (h24 : ∀ p, p < 5 → I 24 p = rw6 (b p)) : xC E 1 45 [.ref 19] (xC0 ++ T, I, L) (rV (.int (nI ix)) (xC0 ++ T, I, L)) := by
  refine xC.mk [some (.ref 19), none, none, none, none, none] rfl ?_
  have en8 : n8 (dg (cd b)) = n8 b := n8_congr (dg_cd hb)
  have hnl := n8_lt hb
  -- the search
  have find : ∀ (m it low high : Nat) (z5 : Option Value), it + m = 11 → low ≤ ix → ix ≤ high → high ≤ 1545 → high - low < 2 ^ m → xW E 1 45 52 [some (.ref 19), some (.int (nI (n8 b))), some (.int (nI low)), some (.int (nI high)), some (.int (nI it)), z5] [] (xC0 ++ T, I, L) 0 0 (rV (.int (nI ix)) (xC0 ++ T, I, L)) := by
    intro m
    induction m with
    | zero =>
      intro it low high z5 hm h1 h2 h3 h4
      have hp : high - low < 1 := h4
      have e : low = ix := by omega
      rw [e]
      refine ws_iload_4 54 rfl rfl ?_
      refine ws_bipush 56 rfl rfl kc_b11 ?_
      refine ws_icmp_gen 99 59 rfl rfl rfl (by omega) (by omega) (fun h9 => ?_) (fun h9 => absurd h9 (by omega))
      refine ws_iload_2 100 rfl rfl ?_
      refine ws_iret rfl rfl rfl (Nat.le_of_ble_eq_true rfl) ?_
      exact ⟨rfl, rfl⟩
    | succ m ih =>
      intro it low high z5 hm h1 h2 h3 h4
      rw [Nat.pow_succ] at h4
      refine ws_iload_4 54 rfl rfl ?_
      refine ws_bipush 56 rfl rfl kc_b11 ?_
      refine ws_icmp_gen 99 59 rfl rfl rfl (by omega) (by omega) (fun h9 => absurd h9 (by omega)) (fun h9 => ?_)
      refine ws_iload_2 60 rfl rfl ?_
      refine ws_iload_3 61 rfl rfl ?_
      refine ws_icmp_gen 99 64 rfl rfl rfl (by omega) (by omega) (fun c1 => ?_) (fun c1 => ?_)
      · have e : low = ix := by omega
        rw [e]
        refine ws_iload_2 100 rfl rfl ?_
        refine ws_iret rfl rfl rfl (Nat.le_of_ble_eq_true rfl) ?_
        exact ⟨rfl, rfl⟩
      · have hmid : (low + high) / 2 < 1546 := by omega
        have h20m := h20 _ hmid
        have hml := n8_lt (b := dg (vcn ((low + high) / 2))) (fun p _ => dg_le _ p)
        have hiff : n8 (dg (vcn ((low + high) / 2))) < n8 b ↔ (low + high) / 2 < ix := by
          rw [← en8, ← hv]
          constructor
          · intro h
            rcases Nat.lt_or_ge ((low + high) / 2) ix with q | q
            · exact q
            · exfalso
              rcases Nat.lt_or_ge ix ((low + high) / 2) with q2 | q2
              · have := n8_mono (vcn_lt q2 hmid) (vcn_ok hmid).1
                omega
              · have : ix = (low + high) / 2 := by omega
                rw [this] at h; omega
          · intro h
            exact n8_mono (vcn_lt h hix) (vcn_ok hix).1
        refine ws_iload_2 65 rfl rfl ?_
        refine ws_iload_3 66 rfl rfl ?_
        refine ws_iadd 67 rfl rfl (nI_add _ _) ?_
        refine ws_iconst 68 rfl rfl kc_i2 ?_
        refine ws_idiv 69 rfl rfl (kn_ne0 (by omega) (by omega)) (pk_div (by omega) (by omega) (by omega)) ?_
        refine ws_istore_5 71 rfl rfl rfl rfl ?_
        refine ws_aload_0 72 rfl rfl ?_
        refine ws_getfr 75 rfl rfl rfl rfl rfl ?_
        refine ws_iload_5 77 rfl rfl ?_
        refine ws_ialdn 78 rfl rfl rfl (by omega) (by omega) h20m ?_
        refine ws_iload_1 79 rfl rfl ?_
        refine ws_icmp_gen 90 82 rfl rfl rfl (by omega) (by omega) (fun c2 => ?_) (fun c2 => ?_)
        · refine ws_iload_5 92 rfl rfl ?_
          refine ws_istore_3 93 rfl rfl rfl rfl ?_
          refine ws_iinc_4 96 rfl rfl (ki_1 _) rfl rfl ?_
          refine ws_goto 52 rfl rfl ?_
          exact ih (it + 1) low ((low + high) / 2) _ (by omega) h1 (by omega) (by omega) (by omega)
        · refine ws_iload_5 84 rfl rfl ?_
          refine ws_iconst 85 rfl rfl kc_i1 ?_
          refine ws_iadd 86 rfl rfl (nI_add _ _) ?_
          refine ws_istore_2 87 rfl rfl rfl rfl ?_
          refine ws_goto 93 rfl rfl ?_
          refine ws_iinc_4 96 rfl rfl (ki_1 _) rfl rfl ?_
          refine ws_goto 52 rfl rfl ?_
          exact ih (it + 1) ((low + high) / 2 + 1) high _ (by omega) (by omega) h2 h3 (by omega)
  have num : ∀ (m k : Nat) (z3 : Option Value), k + m = 5 → xW E 1 45 4 [some (.ref 19), some (.int (nI (nm8 b k))), some (.int (nI k)), z3, none, none] [] (xC0 ++ T, I, L) 0 0 (rV (.int (nI ix)) (xC0 ++ T, I, L)) := by
    intro m
    induction m with
    | zero =>
      intro k z3 hk
      obtain rfl : k = 5 := by omega
      rw [nm8_5]
      refine ws_iload_2 5 rfl rfl ?_
      refine ws_iconst 6 rfl rfl kc_i5 ?_
      refine ws_icmp_gen 43 9 rfl rfl rfl (by omega) (by omega) (fun h9 => ?_) (fun h9 => absurd h9 (by omega))
      refine ws_iconst 44 rfl rfl kc_i0 ?_
      refine ws_istore_2 45 rfl rfl rfl rfl ?_
      refine ws_sipush 48 rfl rfl kc_s1545 ?_
      refine ws_istore_3 49 rfl rfl rfl rfl ?_
      refine ws_iconst 50 rfl rfl kc_i0 ?_
      refine ws_istore_4 52 rfl rfl rfl rfl ?_
      exact find 11 0 0 1545 _ rfl (by omega) (by omega) (by omega) (by decide)
    | succ m ih =>
      intro k z3 hk
      have hk5 : k < 5 := by omega
      have h24k := h24 k hk5
      have hbk := hb k hk5
      have hnk : nm8 b k < 32768 := Nat.lt_of_lt_of_le (nm8_lt hb k (by omega)) (by
        calc 8 ^ k ≤ 8 ^ 5 := Nat.pow_le_pow_right (by omega) (by omega)
          _ = 32768 := by decide)
      have eo : nm8 b k * 2 ^ 3 ||| b k = nm8 b (k + 1) := or8 (by omega)
      by_cases h0 : b k = 0
      · rw [h0] at eo
        rw [rw6_0 h0] at h24k
        refine ws_iload_2 5 rfl rfl ?_
        refine ws_iconst 6 rfl rfl kc_i5 ?_
        refine ws_icmp_gen 43 9 rfl rfl rfl (by omega) (by omega) (fun h9 => absurd h9 (by omega)) (fun h9 => ?_)
        refine ws_aload_0 10 rfl rfl ?_
        refine ws_getfr 13 rfl rfl rfl rfl rfl ?_
        refine ws_iload_2 14 rfl rfl ?_
        refine ws_ialdn 15 rfl rfl rfl (by omega) (by omega) h24k ?_
        refine ws_if_ge 22 18 rfl rfl rfl (fun h9 => absurd h9 (by decide)) (fun h9 => ?_)
        refine ws_iconst 19 rfl rfl kc_i0 ?_
        refine ws_goto 30 rfl rfl ?_
        refine ws_istore_3 31 rfl rfl rfl rfl ?_
        refine ws_iload_1 32 rfl rfl ?_
        refine ws_iconst 33 rfl rfl kc_i3 ?_
        refine ws_ishl 34 rfl rfl (kn_shl (by omega) (by omega)) ?_
        refine ws_iload_3 35 rfl rfl ?_
        refine ws_ior 36 rfl rfl (kn_or _ _) ?_
        rw [eo]
        refine ws_istore_1 37 rfl rfl rfl rfl ?_
        refine ws_iinc_2 40 rfl rfl (ki_1 _) rfl rfl ?_
        refine ws_goto 4 rfl rfl ?_
        exact ih (k + 1) _ (by omega)
      · have e1 : b k - 1 + 1 = b k := by omega
        rw [rw6_1 h0] at h24k
        refine ws_iload_2 5 rfl rfl ?_
        refine ws_iconst 6 rfl rfl kc_i5 ?_
        refine ws_icmp_gen 43 9 rfl rfl rfl (by omega) (by omega) (fun h9 => absurd h9 (by omega)) (fun h9 => ?_)
        refine ws_aload_0 10 rfl rfl ?_
        refine ws_getfr 13 rfl rfl rfl rfl rfl ?_
        refine ws_iload_2 14 rfl rfl ?_
        refine ws_ialdn 15 rfl rfl rfl (by omega) (by omega) h24k ?_
        refine ws_if_gen 22 18 rfl rfl rfl (by omega) (fun h9 => ?_) (fun h9 => absurd h9 (by omega))
        refine ws_aload_0 23 rfl rfl ?_
        refine ws_getfr 26 rfl rfl rfl rfl rfl ?_
        refine ws_iload_2 27 rfl rfl ?_
        refine ws_ialdn 28 rfl rfl rfl (by omega) (by omega) h24k ?_
        refine ws_iconst 29 rfl rfl kc_i1 ?_
        refine ws_iadd 30 rfl rfl (nI_add _ _) ?_
        rw [e1]
        refine ws_istore_3 31 rfl rfl rfl rfl ?_
        refine ws_iload_1 32 rfl rfl ?_
        refine ws_iconst 33 rfl rfl kc_i3 ?_
        refine ws_ishl 34 rfl rfl (kn_shl (by omega) (by omega)) ?_
        refine ws_iload_3 35 rfl rfl ?_
        refine ws_ior 36 rfl rfl (kn_or _ _) ?_
        rw [eo]
        refine ws_istore_1 37 rfl rfl rfl rfl ?_
        refine ws_iinc_2 40 rfl rfl (ki_1 _) rfl rfl ?_
        refine ws_goto 4 rfl rfl ?_
        exact ih (k + 1) _ (by omega)
  refine ws_iconst 1 rfl rfl kc_i0 ?_
  refine ws_istore_1 2 rfl rfl rfl rfl ?_
  refine ws_iconst 3 rfl rfl kc_i0 ?_
  refine ws_istore_2 4 rfl rfl rfl rfl ?_
  exact num 5 0 _ rfl
theorem c_offer (ol : List Nat) (hb : ∀ p, p < 5 → b p ≤ 5) (hok : okC (cd b)) (hl : ol.length < 40) (hO : hOf I ol) (h20 : ∀ i, i < 1546 → I 20 i = nI (n8 (dg (vcn i)))) (h24 : ∀ p, p < 5 → I 24 p = rw6 (b p)) : xC E 2 44 [.ref 19] (xC0 ++ T, I, L) (fun r t => r = none ∧ ∃ I', t = (xC0 ++ T, I', L) ∧ ((∀ a, a ≠ 19 → a ≠ 25 → I' a = I a) ∧ ∀ j, j ≠ 9 → I' 19 j = I 19 j) ∧ hOf I' (ol ++ [cd b])) := by
  refine xC.mk [some (.ref 19)] rfl ?_
  obtain ⟨ix, hix, hv⟩ := vcn_ix hok.1 hok.2
  have h9o := hO.1
  have h9' : ∀ x : Int32, wI I 25 ol.length x 19 9 = nI ol.length := fun x => by rw [wI_ne (by decide)]; exact h9o
  refine ws_aload_0 1 rfl rfl ?_
  refine ws_getfi 4 rfl rfl rfl rfl rfl h9o ?_
  refine ws_bipush 6 rfl rfl kc_b40 ?_
  refine ws_icmp_gen 32 9 rfl rfl rfl (by omega) (by omega) (fun h9 => absurd h9 (by omega)) (fun h9 => ?_)
  refine ws_aload_0 10 rfl rfl ?_
  refine ws_getfr 13 rfl rfl rfl rfl rfl ?_
  refine ws_aload_0 14 rfl rfl ?_
  refine ws_getfi 17 rfl rfl rfl rfl rfl h9o ?_
  refine ws_aload_0 18 rfl rfl ?_
  refine ws_invV0p 21 rfl rfl rfl rfl (c_whichClimbs ix hix hv hb h20 h24) rfl rfl rfl ?_
  refine ws_iastn 22 rfl rfl rfl (by omega) (by omega) ?_
  refine ws_aload_0 23 rfl rfl ?_
  refine ws_dup 24 rfl rfl rfl ?_
  refine ws_getfi 27 rfl rfl rfl rfl rfl (h9' _) ?_
  refine ws_iconst 28 rfl rfl kc_i1 ?_
  refine ws_iadd 29 rfl rfl (nI_add _ _) ?_
  refine ws_putfi 32 rfl rfl rfl rfl rfl rfl rfl rfl ?_
  refine ws_vret rfl rfl rfl (Nat.le_of_ble_eq_true rfl) ?_
  refine ⟨rfl, _, rfl, ⟨fun a a1 a2 => by rw [wI_ne a1, wI_ne a2], fun j hj => by rw [wI_eq, pk_un hj, wI_ne (by decide)]⟩, ?_, fun j c hc => ?_⟩
  · rw [wI_eq, pk_us, List.length_append]; rfl
  · rw [wI_ne (show (25 : Nat) ≠ 19 by decide), wI_eq]
    rcases Nat.lt_or_ge j ol.length with q | q
    · rw [List.getElem?_append_left q] at hc
      rw [pk_un (by omega)]
      exact hO.2 j c hc
    · rw [List.getElem?_append_right q] at hc
      have hz : j - ol.length < 1 := (List.getElem?_eq_some_iff.mp hc).1
      have hj : j = ol.length := by omega
      rw [hj, Nat.sub_self] at hc
      have : cd b = c := by simpa using hc
      rw [hj, ← this, pk_us]
      exact ⟨ix, hix, hv, rfl⟩
theorem c_changeAbout (p q : Nat) (hp : p < 5) (hq : q < 5) (h24 : ∀ p, p < 5 → I 24 p = rw6 (b p)) : xC E 1 41 [.ref 19, .int (nI p), .int (nI q)] (xC0 ++ T, I, L) (fun r t => r = none ∧ ∃ I', t = (xC0 ++ T, I', L) ∧ (∀ a, a ≠ 24 → I' a = I a) ∧ ∀ r, r < 5 → I' 24 r = rw6 (sw b p q r)) := by
  refine xC.mk [some (.ref 19), some (.int (nI p)), some (.int (nI q)), none] rfl ?_
  have h1 := h24 p hp
  have h2 := h24 q hq
  refine ws_aload_0 1 rfl rfl ?_
  refine ws_getfr 4 rfl rfl rfl rfl rfl ?_
  refine ws_iload_1 5 rfl rfl ?_
  refine ws_ialdn 6 rfl rfl rfl (by omega) (by omega) h1 ?_
  refine ws_istore_3 7 rfl rfl rfl rfl ?_
  refine ws_aload_0 8 rfl rfl ?_
  refine ws_getfr 11 rfl rfl rfl rfl rfl ?_
  refine ws_iload_1 12 rfl rfl ?_
  refine ws_aload_0 13 rfl rfl ?_
  refine ws_getfr 16 rfl rfl rfl rfl rfl ?_
  refine ws_iload_2 17 rfl rfl ?_
  refine ws_ialdn 18 rfl rfl rfl (by omega) (by omega) h2 ?_
  refine ws_iastn 19 rfl rfl rfl (by omega) (by omega) ?_
  refine ws_aload_0 20 rfl rfl ?_
  refine ws_getfr 23 rfl rfl rfl rfl rfl ?_
  refine ws_iload_2 24 rfl rfl ?_
  refine ws_iload_3 25 rfl rfl ?_
  refine ws_iastn 26 rfl rfl rfl (by omega) (by omega) ?_
  refine ws_vret rfl rfl rfl (Nat.le_of_ble_eq_true rfl) ?_
  refine ⟨rfl, _, rfl, fun a ha => by rw [wI_ne ha, wI_ne ha], fun r hr => ?_⟩
  rw [wI_eq, wI_eq]
  unfold sw
  by_cases e1 : r = q
  · rw [e1, pk_us]
    by_cases e2 : q = p
    · rw [if_pos e2, e2]
    · rw [if_neg e2, if_pos rfl]
  · rw [pk_un e1]
    by_cases e2 : r = p
    · rw [e2, pk_us, if_pos rfl]
    · rw [pk_un e2, if_neg e2, if_neg e1]; exact h24 r hr
/-- what stays while offers are made -/
def fr5 (I I' : Nat → Nat → Int32) : Prop := (∀ a, a ≠ 19 → a ≠ 24 → a ≠ 25 → I' a = I a) ∧ ∀ j, j ≠ 9 → I' 19 j = I 19 j
theorem fr5.rf (I : Nat → Nat → Int32) : fr5 I I := ⟨fun _ _ _ _ => rfl, fun _ _ => rfl⟩
theorem fr5.tr {I I1 I2 : Nat → Nat → Int32} (h : fr5 I I1) (h2 : fr5 I1 I2) : fr5 I I2 := ⟨fun a a1 a2 a3 => by rw [h2.1 a a1 a2 a3]; exact h.1 a a1 a2 a3, fun j hj => by rw [h2.2 j hj]; exact h.2 j hj⟩
theorem fr5.c24 {I I' : Nat → Nat → Int32} (h : ∀ a, a ≠ 24 → I' a = I a) : fr5 I I' := ⟨fun a _ a2 _ => h a a2, fun j _ => by rw [h 19 (by decide)]⟩
theorem fr5.of {I I' : Nat → Nat → Int32} (h : (∀ a, a ≠ 19 → a ≠ 25 → I' a = I a) ∧ ∀ j, j ≠ 9 → I' 19 j = I 19 j) : fr5 I I' := ⟨fun a a1 _ a3 => h.1 a a1 a3, h.2⟩
theorem hOf.c24 {I I' : Nat → Nat → Int32} {ol : List Nat} (hO : hOf I ol) (h : ∀ a, a ≠ 24 → I' a = I a) : hOf I' ol := ⟨by rw [h 19 (by decide)]; exact hO.1, fun j c hc => by rw [h 25 (by decide)]; exact hO.2 j c hc⟩
theorem c_offerChangesAbout {c : Nat} (hc : okC c) (h20 : ∀ i, i < 1546 → I 20 i = nI (n8 (dg (vcn i)))) (hO : hOf I []) (h24 : ∀ p, p < 5 → I 24 p = rw6 (dg c p)) : xC E 3 40 [.ref 19] (xC0 ++ T, I, L) (fun r t => r = none ∧ ∃ I', t = (xC0 ++ T, I', L) ∧ fr5 I I' ∧ hOf I' (sw2 (dg c) 5) ∧ ∀ p, p < 5 → I' 24 p = rw6 (dg c p)) := by
  refine xC.mk [some (.ref 19), none, none] rfl ?_
  have hdg : ∀ p, p < 5 → dg c p ≤ 5 := fun p _ => dg_le c p
  have outer : ∀ (m p : Nat) (I' : Nat → Nat → Int32) (z2 : Option Value), p + m = 5 → fr5 I I' → hOf I' (sw2 (dg c) p) → (∀ p, p < 5 → I' 24 p = rw6 (dg c p)) → xW E 3 40 2 [some (.ref 19), some (.int (nI p)), z2] [] (xC0 ++ T, I', L) 0 0 (fun r t => r = none ∧ ∃ I', t = (xC0 ++ T, I', L) ∧ fr5 I I' ∧ hOf I' (sw2 (dg c) 5) ∧ ∀ p, p < 5 → I' 24 p = rw6 (dg c p)) := by
    intro m
    induction m with
    | zero =>
      intro p I' z2 hp hf hO h24
      obtain rfl : p = 5 := by omega
      refine ws_iload_1 3 rfl rfl ?_
      refine ws_iconst 4 rfl rfl kc_i5 ?_
      refine ws_icmp_gen 44 7 rfl rfl rfl (by omega) (by omega) (fun h9 => ?_) (fun h9 => absurd h9 (by omega))
      refine ws_vret rfl rfl rfl (Nat.le_of_ble_eq_true rfl) ?_
      exact ⟨rfl, I', rfl, hf, hO, h24⟩
    | succ m ih =>
      intro p I' z2 hp hf hO h24
      have hp5 : p < 5 := by omega
      have inner : ∀ (m n : Nat) (I' : Nat → Nat → Int32), n + m = 4 - p → fr5 I I' → hOf I' (sw2 (dg c) p ++ sw1 (dg c) p n) → (∀ p, p < 5 → I' 24 p = rw6 (dg c p)) → xW E 3 40 11 [some (.ref 19), some (.int (nI p)), some (.int (nI (p + 1 + n)))] [] (xC0 ++ T, I', L) 0 0 (fun r t => r = none ∧ ∃ I', t = (xC0 ++ T, I', L) ∧ fr5 I I' ∧ hOf I' (sw2 (dg c) 5) ∧ ∀ p, p < 5 → I' 24 p = rw6 (dg c p)) := by
        intro m
        induction m with
        | zero =>
          intro n I' hn hf hO h24
          have e : n = 4 - p := by omega
          rw [e] at hO
          refine ws_iload_2 12 rfl rfl ?_
          refine ws_iconst 13 rfl rfl kc_i5 ?_
          refine ws_icmp_gen 38 16 rfl rfl rfl (by omega) (by omega) (fun h9 => ?_) (fun h9 => absurd h9 (by omega))
          refine ws_iinc_1 41 rfl rfl (ki_1 _) rfl rfl ?_
          refine ws_goto 2 rfl rfl ?_
          exact ih (p + 1) I' _ (by omega) hf hO h24
        | succ m ih2 =>
          intro n I' hn hf hO h24
          have hq : p + 1 + n < 5 := by omega
          have hlen : (sw2 (dg c) p ++ sw1 (dg c) p n).length < 40 := by
            obtain ⟨l0, l1, l2, l3, l4, l5⟩ := sw2_len (dg c)
            rw [List.length_append, sw1_len]
            rcases (show p = 0 ∨ p = 1 ∨ p = 2 ∨ p = 3 ∨ p = 4 by omega) with rfl | rfl | rfl | rfl | rfl <;> omega
          refine ws_iload_2 12 rfl rfl ?_
          refine ws_iconst 13 rfl rfl kc_i5 ?_
          refine ws_icmp_gen 38 16 rfl rfl rfl (by omega) (by omega) (fun h9 => absurd h9 (by omega)) (fun h9 => ?_)
          refine ws_aload_0 17 rfl rfl ?_
          refine ws_iload_1 18 rfl rfl ?_
          refine ws_iload_2 19 rfl rfl ?_
          refine ws_invV2 22 rfl rfl rfl rfl (c_changeAbout p (p + 1 + n) hp5 hq h24) rfl rfl rfl ?_
          rintro _ _ ⟨rfl, I1, rfl, hf1, h241⟩
          have hok := okC_sw hc hp5 hq
          refine ws_aload_0 23 rfl rfl ?_
          refine ws_invV0 26 rfl rfl rfl rfl (c_offer (b := sw (dg c) p (p + 1 + n)) _ (sw_le hdg hp5 hq) hok hlen (hO.c24 hf1) (fun i hi => by rw [hf1 20 (by decide), hf.1 20 (by decide) (by decide) (by decide)]; exact h20 i hi) h241) rfl rfl rfl ?_
          rintro _ _ ⟨rfl, I2, rfl, hf2, hO2⟩
          refine ws_aload_0 27 rfl rfl ?_
          refine ws_iload_1 28 rfl rfl ?_
          refine ws_iload_2 29 rfl rfl ?_
          refine ws_invV2 32 rfl rfl rfl rfl (c_changeAbout (b := sw (dg c) p (p + 1 + n)) p (p + 1 + n) hp5 hq (fun r hr => by rw [hf2.1 24 (by decide) (by decide)]; exact h241 r hr)) rfl rfl rfl ?_
          rintro _ _ ⟨rfl, I3, rfl, hf3, h243⟩
          refine ws_iinc_2 35 rfl rfl (ki_1 _) rfl rfl ?_
          refine ws_goto 11 rfl rfl ?_
          exact ih2 (n + 1) I3 (by omega) (((hf.tr (fr5.c24 hf1)).tr (fr5.of hf2)).tr (fr5.c24 hf3)) (by have := hO2.c24 hf3; rw [List.append_assoc] at this; exact this) (fun r hr => by rw [h243 r hr, sw_sw])
      refine ws_iload_1 3 rfl rfl ?_
      refine ws_iconst 4 rfl rfl kc_i5 ?_
      refine ws_icmp_gen 44 7 rfl rfl rfl (by omega) (by omega) (fun h9 => absurd h9 (by omega)) (fun h9 => ?_)
      refine ws_iload_1 8 rfl rfl ?_
      refine ws_iconst 9 rfl rfl kc_i1 ?_
      refine ws_iadd 10 rfl rfl (nI_add _ _) ?_
      refine ws_istore_2 11 rfl rfl rfl rfl ?_
      exact inner (4 - p) 0 I' (by omega) hf (by rw [show sw1 (dg c) p 0 = [] from rfl, List.append_nil]; exact hO) h24
  refine ws_iconst 1 rfl rfl kc_i0 ?_
  refine ws_istore_1 2 rfl rfl rfl rfl ?_
  exact outer 5 0 I _ rfl (fr5.rf I) hO h24
theorem c_offerPuttings {c : Nat} (hc : okC c) (h20 : ∀ i, i < 1546 → I 20 i = nI (n8 (dg (vcn i)))) (h21 : ∀ i, i < 1546 → I 21 i = nI (sC (vcn i))) (hO : hOf I (sw2 (dg c) 5)) (h24 : ∀ p, p < 5 → I 24 p = rw6 (dg c p)) : xC E 3 42 [.ref 19] (xC0 ++ T, I, L) (fun r t => r = none ∧ ∃ I', t = (xC0 ++ T, I', L) ∧ fr5 I I' ∧ hOf I' (sw2 (dg c) 5 ++ pu2 (dg c) (sC c) 5) ∧ ∀ p, p < 5 → I' 24 p = rw6 (dg c p)) := by
  refine xC.mk [some (.ref 19), none, none, none, none] rfl ?_
  have hdg : ∀ p, p < 5 → dg c p ≤ 5 := fun p _ => dg_le c p
  have hs32 := sC_lt c
  obtain ⟨-, -, -, -, -, l5⟩ := sw2_len (dg c)
  have outer : ∀ (m p : Nat) (I' : Nat → Nat → Int32) (z3 z4 : Option Value), p + m = 5 → fr5 I I' → hOf I' (sw2 (dg c) 5 ++ pu2 (dg c) (sC c) p) → (∀ p, p < 5 → I' 24 p = rw6 (dg c p)) → xW E 3 42 12 [some (.ref 19), some (.int (nI (sC c))), some (.int (nI p)), z3, z4] [] (xC0 ++ T, I', L) 0 0 (fun r t => r = none ∧ ∃ I', t = (xC0 ++ T, I', L) ∧ fr5 I I' ∧ hOf I' (sw2 (dg c) 5 ++ pu2 (dg c) (sC c) 5) ∧ ∀ p, p < 5 → I' 24 p = rw6 (dg c p)) := by
    intro m
    induction m with
    | zero =>
      intro p I' z3 z4 hp hf hO h24
      obtain rfl : p = 5 := by omega
      refine ws_iload_2 13 rfl rfl ?_
      refine ws_iconst 14 rfl rfl kc_i5 ?_
      refine ws_icmp_gen 73 17 rfl rfl rfl (by omega) (by omega) (fun h9 => ?_) (fun h9 => absurd h9 (by omega))
      refine ws_vret rfl rfl rfl (Nat.le_of_ble_eq_true rfl) ?_
      exact ⟨rfl, I', rfl, hf, hO, h24⟩
    | succ m ih =>
      intro p I' z3 z4 hp hf hO h24
      have hp5 : p < 5 := by omega
      have h24p := h24 p hp5
      have hl2 := pu2_len (dg c) (sC c) p
      have inner : ∀ (m t : Nat) (I' : Nat → Nat → Int32), t + m = 5 → fr5 I I' → hOf I' (sw2 (dg c) 5 ++ (pu2 (dg c) (sC c) p ++ pu1 (dg c) (sC c) p t)) → (∀ r, r < 5 → r ≠ p → I' 24 r = rw6 (dg c r)) → xW E 3 42 27 [some (.ref 19), some (.int (nI (sC c))), some (.int (nI p)), some (.int (rw6 (dg c p))), some (.int (nI t))] [] (xC0 ++ T, I', L) 0 0 (fun r t => r = none ∧ ∃ I', t = (xC0 ++ T, I', L) ∧ fr5 I I' ∧ hOf I' (sw2 (dg c) 5 ++ pu2 (dg c) (sC c) 5) ∧ ∀ p, p < 5 → I' 24 p = rw6 (dg c p)) := by
        intro m
        induction m with
        | zero =>
          intro t I' ht hf hO h24
          obtain rfl : t = 5 := by omega
          have hf9 : ∀ a, a ≠ 24 → wI I' 24 p (rw6 (dg c p)) a = I' a := fun a ha => wI_ne ha
          refine ws_iload_4 29 rfl rfl ?_
          refine ws_iconst 30 rfl rfl kc_i5 ?_
          refine ws_icmp_gen 60 33 rfl rfl rfl (by omega) (by omega) (fun h9 => ?_) (fun h9 => absurd h9 (by omega))
          refine ws_aload_0 61 rfl rfl ?_
          refine ws_getfr 64 rfl rfl rfl rfl rfl ?_
          refine ws_iload_2 65 rfl rfl ?_
          refine ws_iload_3 66 rfl rfl ?_
          refine ws_iastn 67 rfl rfl rfl (by omega) (by omega) ?_
          refine ws_iinc_2 70 rfl rfl (ki_1 _) rfl rfl ?_
          refine ws_goto 12 rfl rfl ?_
          exact ih (p + 1) _ _ _ (by omega) (hf.tr (fr5.c24 hf9)) (hO.c24 hf9) (fun r hr => by rw [wI_eq]; by_cases e : r = p; { rw [e, pk_us] }; { rw [pk_un e]; exact h24 r hr e })
        | succ m ih2 =>
          intro t I' ht hf hO h24
          have e : sC c / 2 ^ t &&& 1 = sC c / 2 ^ t % 2 := Nat.and_one_is_mod _
          have eT : pu1 (dg c) (sC c) p (t + 1) = pu1 (dg c) (sC c) p t ++ (if sC c / 2 ^ t % 2 = 0 then [cd (pu (dg c) p (t + 1))] else []) := rfl
          have hl1 := pu1_len (dg c) (sC c) p t
          refine ws_iload_4 29 rfl rfl ?_
          refine ws_iconst 30 rfl rfl kc_i5 ?_
          refine ws_icmp_gen 60 33 rfl rfl rfl (by omega) (by omega) (fun h9 => absurd h9 (by omega)) (fun h9 => ?_)
          refine ws_iload_1 34 rfl rfl ?_
          refine ws_iload_4 36 rfl rfl ?_
          refine ws_ishr 37 rfl rfl (kn_shr (by omega) (by omega)) ?_
          refine ws_iconst 38 rfl rfl kc_i1 ?_
          refine ws_iand 39 rfl rfl (kn_and _ _) ?_
          rw [e]
          refine ws_if_nen 54 42 rfl rfl rfl (by omega) (fun c1 => ?_) (fun c1 => ?_)
          · rw [if_neg (by omega), List.append_nil] at eT
            refine ws_iinc_4 57 rfl rfl (ki_1 _) rfl rfl ?_
            refine ws_goto 27 rfl rfl ?_
            exact ih2 (t + 1) I' (by omega) hf (by rw [eT]; exact hO) h24
          · rw [if_pos (by omega)] at eT
            have hok := okC_pu (p := p) hc (show t < 5 by omega) (by omega)
            have hf9 : ∀ a, a ≠ 24 → wI I' 24 p (nI t) a = I' a := fun a ha => wI_ne ha
            have h249 : ∀ r, r < 5 → wI I' 24 p (nI t) 24 r = rw6 (pu (dg c) p (t + 1) r) := fun r hr => by
              rw [wI_eq]
              unfold pu
              by_cases e : r = p
              · rw [e, pk_us, if_pos rfl, rw6_1 (by omega), Nat.add_sub_cancel]
              · rw [pk_un e, if_neg e]; exact h24 r hr e
            refine ws_aload_0 43 rfl rfl ?_
            refine ws_getfr 46 rfl rfl rfl rfl rfl ?_
            refine ws_iload_2 47 rfl rfl ?_
            refine ws_iload_4 49 rfl rfl ?_
            refine ws_iastn 50 rfl rfl rfl (by omega) (by omega) ?_
            refine ws_aload_0 51 rfl rfl ?_
            refine ws_invV0 54 rfl rfl rfl rfl (c_offer (b := pu (dg c) p (t + 1)) _ (pu_le hdg (by omega)) hok (by rw [List.length_append, List.length_append]; omega) (hO.c24 hf9) (fun i hi => by rw [hf9 20 (by decide), hf.1 20 (by decide) (by decide) (by decide)]; exact h20 i hi) h249) rfl rfl rfl ?_
            rintro _ _ ⟨rfl, I2, rfl, hf2, hO2⟩
            refine ws_iinc_4 57 rfl rfl (ki_1 _) rfl rfl ?_
            refine ws_goto 27 rfl rfl ?_
            exact ih2 (t + 1) I2 (by omega) ((hf.tr (fr5.c24 hf9)).tr (fr5.of hf2)) (by rw [eT]; rw [List.append_assoc, List.append_assoc] at hO2; exact hO2) (fun r hr hne => by rw [hf2.1 24 (by decide) (by decide), h249 r hr]; unfold pu; rw [if_neg hne])
      refine ws_iload_2 13 rfl rfl ?_
      refine ws_iconst 14 rfl rfl kc_i5 ?_
      refine ws_icmp_gen 73 17 rfl rfl rfl (by omega) (by omega) (fun h9 => absurd h9 (by omega)) (fun h9 => ?_)
      refine ws_aload_0 18 rfl rfl ?_
      refine ws_getfr 21 rfl rfl rfl rfl rfl ?_
      refine ws_iload_2 22 rfl rfl ?_
      refine ws_ialdn 23 rfl rfl rfl (by omega) (by omega) h24p ?_
      refine ws_istore_3 24 rfl rfl rfl rfl ?_
      refine ws_iconst 25 rfl rfl kc_i0 ?_
      refine ws_istore_4 27 rfl rfl rfl rfl ?_
      exact inner 5 0 I' rfl hf (by rw [show pu1 (dg c) (sC c) p 0 = [] from rfl, List.append_nil]; exact hO) (fun r hr _ => h24 r hr)
  obtain ⟨ix, hix, hv⟩ := vcn_ix hc.1 hc.2
  have h21i := h21 ix hix
  rw [hv] at h21i
  refine ws_aload_0 1 rfl rfl ?_
  refine ws_getfr 4 rfl rfl rfl rfl rfl ?_
  refine ws_aload_0 5 rfl rfl ?_
  refine ws_invV0p 8 rfl rfl rfl rfl (c_whichClimbs ix hix (hv.trans (cd_dg hc.1).symm) hdg h20 h24) rfl rfl rfl ?_
  refine ws_ialdn 9 rfl rfl rfl (by omega) (by omega) h21i ?_
  refine ws_istore_1 10 rfl rfl rfl rfl ?_
  refine ws_iconst 11 rfl rfl kc_i0 ?_
  refine ws_istore_2 12 rfl rfl rfl rfl ?_
  exact outer 5 0 I _ _ rfl (fr5.rf I) (by rw [show pu2 (dg c) (sC c) 0 = [] from rfl, List.append_nil]; exact hO) h24
theorem c_offerTakings {c : Nat} (hc : okC c) (h20 : ∀ i, i < 1546 → I 20 i = nI (n8 (dg (vcn i)))) (hO : hOf I (sw2 (dg c) 5 ++ pu2 (dg c) (sC c) 5)) (h24 : ∀ p, p < 5 → I 24 p = rw6 (dg c p)) : xC E 3 43 [.ref 19] (xC0 ++ T, I, L) (fun r t => r = none ∧ ∃ I', t = (xC0 ++ T, I', L) ∧ fr5 I I' ∧ hOf I' (cands (dg c) (sC c)) ∧ ∀ p, p < 5 → I' 24 p = rw6 (dg c p)) := by
  refine xC.mk [some (.ref 19), none, none] rfl ?_
  have hdg : ∀ p, p < 5 → dg c p ≤ 5 := fun p _ => dg_le c p
  obtain ⟨-, -, -, -, -, l5⟩ := sw2_len (dg c)
  have hl2 := pu2_len (dg c) (sC c) 5
  have outer : ∀ (m p : Nat) (I' : Nat → Nat → Int32) (z2 : Option Value), p + m = 5 → fr5 I I' → hOf I' (sw2 (dg c) 5 ++ pu2 (dg c) (sC c) 5 ++ tk1 (dg c) p) → (∀ p, p < 5 → I' 24 p = rw6 (dg c p)) → xW E 3 43 2 [some (.ref 19), some (.int (nI p)), z2] [] (xC0 ++ T, I', L) 0 0 (fun r t => r = none ∧ ∃ I', t = (xC0 ++ T, I', L) ∧ fr5 I I' ∧ hOf I' (cands (dg c) (sC c)) ∧ ∀ p, p < 5 → I' 24 p = rw6 (dg c p)) := by
    intro m
    induction m with
    | zero =>
      intro p I' z2 hp hf hO h24
      obtain rfl : p = 5 := by omega
      refine ws_iload_1 3 rfl rfl ?_
      refine ws_iconst 4 rfl rfl kc_i5 ?_
      refine ws_icmp_gen 39 7 rfl rfl rfl (by omega) (by omega) (fun h9 => ?_) (fun h9 => absurd h9 (by omega))
      refine ws_vret rfl rfl rfl (Nat.le_of_ble_eq_true rfl) ?_
      exact ⟨rfl, I', rfl, hf, hO, h24⟩
    | succ m ih =>
      intro p I' z2 hp hf hO h24
      have hp5 : p < 5 := by omega
      have h24p := h24 p hp5
      have hf9 : ∀ a, a ≠ 24 → wI I' 24 p (-6) a = I' a := fun a ha => wI_ne ha
      have h249 : ∀ r, r < 5 → wI I' 24 p (-6) 24 r = rw6 (pu (dg c) p 0 r) := fun r hr => by
        rw [wI_eq]
        unfold pu
        by_cases e : r = p
        · rw [e, pk_us, if_pos rfl]; rfl
        · rw [pk_un e, if_neg e]; exact h24 r hr
      have hlt := tk1_len (dg c) p
      refine ws_iload_1 3 rfl rfl ?_
      refine ws_iconst 4 rfl rfl kc_i5 ?_
      refine ws_icmp_gen 39 7 rfl rfl rfl (by omega) (by omega) (fun h9 => absurd h9 (by omega)) (fun h9 => ?_)
      refine ws_aload_0 8 rfl rfl ?_
      refine ws_getfr 11 rfl rfl rfl rfl rfl ?_
      refine ws_iload_1 12 rfl rfl ?_
      refine ws_ialdn 13 rfl rfl rfl (by omega) (by omega) h24p ?_
      refine ws_istore_2 14 rfl rfl rfl rfl ?_
      refine ws_aload_0 15 rfl rfl ?_
      refine ws_getfr 18 rfl rfl rfl rfl rfl ?_
      refine ws_iload_1 19 rfl rfl ?_
      refine ws_bipush 21 rfl rfl kc_bm6 ?_
      refine ws_iastn 22 rfl rfl rfl (by omega) (by omega) ?_
      refine ws_aload_0 23 rfl rfl ?_
      refine ws_invV0 26 rfl rfl rfl rfl (c_offer (b := pu (dg c) p 0) _ (pu_le hdg (by omega)) (okC_tk hc) (by rw [List.length_append, List.length_append]; omega) (hO.c24 hf9) (fun i hi => by rw [hf9 20 (by decide), hf.1 20 (by decide) (by decide) (by decide)]; exact h20 i hi) h249) rfl rfl rfl ?_
      rintro _ _ ⟨rfl, I2, rfl, hf2, hO2⟩
      have hf3 : ∀ a, a ≠ 24 → wI I2 24 p (rw6 (dg c p)) a = I2 a := fun a ha => wI_ne ha
      refine ws_aload_0 27 rfl rfl ?_
      refine ws_getfr 30 rfl rfl rfl rfl rfl ?_
      refine ws_iload_1 31 rfl rfl ?_
      refine ws_iload_2 32 rfl rfl ?_
      refine ws_iastn 33 rfl rfl rfl (by omega) (by omega) ?_
      refine ws_iinc_1 36 rfl rfl (ki_1 _) rfl rfl ?_
      refine ws_goto 2 rfl rfl ?_
      exact ih (p + 1) _ _ (by omega) (((hf.tr (fr5.c24 hf9)).tr (fr5.of hf2)).tr (fr5.c24 hf3)) (by have := hO2.c24 hf3; rw [List.append_assoc] at this; exact this) (fun r hr => by rw [wI_eq]; by_cases e : r = p; { rw [e, pk_us] }; { rw [pk_un e, hf2.1 24 (by decide) (by decide), h249 r hr]; unfold pu; rw [if_neg e] })
  refine ws_iconst 1 rfl rfl kc_i0 ?_
  refine ws_istore_1 2 rfl rfl rfl rfl ?_
  exact outer 5 0 I _ rfl (fr5.rf I) (by rw [show tk1 (dg c) 0 = [] from rfl, List.append_nil]; exact hO) h24
theorem c_greatestOffer (c0 : Nat) (ol : List Nat) (hl : ol.length ≤ 40) (hO : hOf I ol) (hok : okA A F) (hS : SC A F I) (hR : RD (wkc A F) I) (h11 : I 19 11 = nI (wkc A F c0)) : xC E 6 39 [.ref 19] (xC0 ++ T, I, L) (fun r t => ∃ o, o = ol.foldl (ost (wkc A F) c0) none ∧ (match o with | none => r = some (.int (-1)) | some c => ∃ i, i < 1546 ∧ vcn i = c ∧ r = some (.int (nI i))) ∧ ∃ I', t = (xC0 ++ T, I', L) ∧ ((∀ a, a < 14 ∨ (18 < a ∧ a ≠ 19 ∧ a ≠ 22 ∧ a ≠ 23) → I' a = I a) ∧ ∀ j, j ≠ 11 → I' 19 j = I 19 j) ∧ I' 19 11 = nI (wkc A F (o.getD c0)) ∧ RD (wkc A F) I') := by
  refine xC.mk [some (.ref 19), none, none, none] rfl ?_
  have loop : ∀ (m k : Nat) (I' : Nat → Nat → Int32) (tk : Int32) (z3 : Option Value) (o : Option Nat), k + m = ol.length → o = (ol.take k).foldl (ost (wkc A F) c0) none → (match o with | none => tk = -1 | some c => ∃ i, i < 1546 ∧ vcn i = c ∧ tk = nI i) → ((∀ a, a < 14 ∨ (18 < a ∧ a ≠ 19 ∧ a ≠ 22 ∧ a ≠ 23) → I' a = I a) ∧ ∀ j, j ≠ 11 → I' 19 j = I 19 j) → I' 19 11 = nI (wkc A F (o.getD c0)) → RD (wkc A F) I' → xW E 6 39 4 [some (.ref 19), some (.int tk), some (.int (nI k)), z3] [] (xC0 ++ T, I', L) 0 0 (fun r t => ∃ o, o = ol.foldl (ost (wkc A F) c0) none ∧ (match o with | none => r = some (.int (-1)) | some c => ∃ i, i < 1546 ∧ vcn i = c ∧ r = some (.int (nI i))) ∧ ∃ I', t = (xC0 ++ T, I', L) ∧ ((∀ a, a < 14 ∨ (18 < a ∧ a ≠ 19 ∧ a ≠ 22 ∧ a ≠ 23) → I' a = I a) ∧ ∀ j, j ≠ 11 → I' 19 j = I 19 j) ∧ I' 19 11 = nI (wkc A F (o.getD c0)) ∧ RD (wkc A F) I') := by
    intro m
    induction m with
    | zero =>
      intro k I' tk z3 o hk ho hq hf h11 hR
      have e9 : I' 19 9 = nI ol.length := by rw [hf.2 9 (by decide)]; exact hO.1
      rw [List.take_of_length_le (by omega)] at ho
      refine ws_iload_2 5 rfl rfl ?_
      refine ws_aload_0 6 rfl rfl ?_
      refine ws_getfi 9 rfl rfl rfl rfl rfl e9 ?_
      refine ws_icmp_gen 49 12 rfl rfl rfl (by omega) (by omega) (fun h9 => ?_) (fun h9 => absurd h9 (by omega))
      refine ws_iload_1 50 rfl rfl ?_
      refine ws_iret rfl rfl rfl (Nat.le_of_ble_eq_true rfl) ?_
      refine ⟨o, ho, ?_, I', rfl, hf, h11, hR⟩
      cases o with
      | none => show some (Value.int tk) = _; rw [hq]
      | some c => obtain ⟨i, h1, h2, h3⟩ := hq; exact ⟨i, h1, h2, by rw [h3]⟩
    | succ m ih =>
      intro k I' tk z3 o hk ho hq hf h11 hR
      have e9 : I' 19 9 = nI ol.length := by rw [hf.2 9 (by decide)]; exact hO.1
      obtain ⟨c, hc⟩ : ∃ c, ol[k]? = some c := ⟨_, List.getElem?_eq_getElem (by omega)⟩
      obtain ⟨i, hi, hv, h25⟩ := hO.2 k c hc
      have h25' : I' 25 k = nI i := by rw [hf.1 25 (by omega)]; exact h25
      have hS' : SC A F I' := hS.keep (fun a ha => hf.1 a (by omega))
      have hwl := wkc_le hok c
      have hwo := wkc_le hok (o.getD c0)
      have etk : (ol.take (k + 1)).foldl (ost (wkc A F) c0) none = ost (wkc A F) c0 o c := by
        rw [List.take_succ, hc, List.foldl_append, ← ho]
        rfl
      refine ws_iload_2 5 rfl rfl ?_
      refine ws_aload_0 6 rfl rfl ?_
      refine ws_getfi 9 rfl rfl rfl rfl rfl e9 ?_
      refine ws_icmp_gen 49 12 rfl rfl rfl (by omega) (by omega) (fun h9 => absurd h9 (by omega)) (fun h9 => ?_)
      refine ws_aload_0 13 rfl rfl ?_
      refine ws_aload_0 14 rfl rfl ?_
      refine ws_getfr 17 rfl rfl rfl rfl rfl ?_
      refine ws_iload_2 18 rfl rfl ?_
      refine ws_ialdn 19 rfl rfl rfl (by omega) (by omega) h25' ?_
      refine ws_invV1 22 rfl rfl rfl rfl (c_weekAt i hi hok hS' hR) rfl rfl rfl ?_
      rintro _ _ ⟨rfl, I2, rfl, hf2, hR2⟩
      rw [hv]
      have h11' : I2 19 11 = nI (wkc A F (o.getD c0)) := by rw [hf2 19 (by omega)]; exact h11
      have hf3 : (∀ a, a < 14 ∨ (18 < a ∧ a ≠ 19 ∧ a ≠ 22 ∧ a ≠ 23) → I2 a = I a) ∧ ∀ j, j ≠ 11 → I2 19 j = I 19 j := ⟨fun a ha => by rw [hf2 a (by omega)]; exact hf.1 a ha, fun j hj => by rw [hf2 19 (by omega)]; exact hf.2 j hj⟩
      refine ws_istore_3 23 rfl rfl rfl rfl ?_
      refine ws_iload_3 24 rfl rfl ?_
      refine ws_aload_0 25 rfl rfl ?_
      refine ws_getfi 28 rfl rfl rfl rfl rfl h11' ?_
      refine ws_icmp_len 43 31 rfl rfl rfl (by omega) (by omega) (fun c1 => ?_) (fun c1 => ?_)
      · have e1 : ost (wkc A F) c0 o c = o := by unfold ost; rw [if_neg (by omega)]
        refine ws_iinc_2 46 rfl rfl (ki_1 _) rfl rfl ?_
        refine ws_goto 4 rfl rfl ?_
        exact ih (k + 1) I2 tk _ o (by omega) (by rw [etk, e1]) hq hf3 h11' hR2
      · have e1 : ost (wkc A F) c0 o c = some c := by unfold ost; rw [if_pos (by omega)]
        have h25'' : ∀ x : Int32, wI I2 19 11 x 25 k = nI i := fun x => by rw [wI_ne (by decide), hf2 25 (by omega)]; exact h25'
        refine ws_aload_0 32 rfl rfl ?_
        refine ws_iload_3 33 rfl rfl ?_
        refine ws_putfi 36 rfl rfl rfl rfl rfl rfl rfl rfl ?_
        refine ws_aload_0 37 rfl rfl ?_
        refine ws_getfr 40 rfl rfl rfl rfl rfl ?_
        refine ws_iload_2 41 rfl rfl ?_
        refine ws_ialdn 42 rfl rfl rfl (by omega) (by omega) (h25'' _) ?_
        refine ws_istore_1 43 rfl rfl rfl rfl ?_
        refine ws_iinc_2 46 rfl rfl (ki_1 _) rfl rfl ?_
        refine ws_goto 4 rfl rfl ?_
        exact ih (k + 1) _ _ _ (some c) (by omega) (by rw [etk, e1]) ⟨i, hi, hv, rfl⟩ ⟨fun a ha => by rw [wI_ne (by omega)]; exact hf3.1 a ha, fun j hj => by rw [wI_eq, pk_un hj]; exact hf3.2 j hj⟩ (by rw [wI_eq, pk_us]; rfl) (hR2.keep (fun a a1 a2 => wI_ne (by omega)) (by rw [wI_eq, pk_un (by decide)]) (by rw [wI_eq, pk_un (by decide)]))
  refine ws_iconst 1 rfl rfl kc_im1 ?_
  refine ws_istore_1 2 rfl rfl rfl rfl ?_
  refine ws_iconst 3 rfl rfl kc_i0 ?_
  refine ws_istore_2 4 rfl rfl rfl rfl ?_
  exact loop ol.length 0 I _ _ none (by omega) rfl rfl ⟨fun _ _ => rfl, fun _ _ => rfl⟩ h11 hR
theorem c_climb {c : Nat} (hc : okC c) (hok : okA A F) (hS : SC A F I) (hP : PR (wkc A F) I) (h8 : ∀ p, p < 5 → I 8 p = rw6 (dg c p)) : xC E 9 38 [.ref 19, .ref 8] (xC0 ++ T, I, L) (fun r t => r = none ∧ ∃ I', t = (xC0 ++ T, I', L) ∧ (∀ a, a < 14 ∨ 25 < a → I' a = I a) ∧ I' 19 10 = nI (clm (wkc A F) 20 c).1 ∧ I' 19 11 = nI (wkc A F (clm (wkc A F) 20 c).2) ∧ RD (wkc A F) I') := by
  refine xC.mk [some (.ref 19), some (.ref 8), none, none] rfl ?_
  refine ws_aload_0 1 rfl rfl ?_
  refine ws_invV0 4 rfl rfl rfl rfl (c_makeReady hP) rfl rfl rfl ?_
  rintro _ _ ⟨rfl, I1, rfl, hf1, hR1⟩
  have loop : ∀ (m k c' : Nat) (I' : Nat → Nat → Int32) (z2 z3 : Option Value), k + m = 20 → okC c' → ((clm (wkc A F) 20 c).1 = k + (clm (wkc A F) m c').1 ∧ (clm (wkc A F) 20 c).2 = (clm (wkc A F) m c').2) → (∀ a, a < 14 ∨ 25 < a → I' a = I a) → I' 19 10 = nI k → I' 19 11 = nI (wkc A F c') → RD (wkc A F) I' → (∀ p, p < 5 → I' 24 p = rw6 (dg c' p)) → xW E 9 38 32 [some (.ref 19), some (.ref 8), z2, z3] [] (xC0 ++ T, I', L) 0 0 (fun r t => r = none ∧ ∃ I', t = (xC0 ++ T, I', L) ∧ (∀ a, a < 14 ∨ 25 < a → I' a = I a) ∧ I' 19 10 = nI (clm (wkc A F) 20 c).1 ∧ I' 19 11 = nI (wkc A F (clm (wkc A F) 20 c).2) ∧ RD (wkc A F) I') := by
    intro m
    induction m with
    | zero =>
      intro k c' I' z2 z3 hk hc' hcl hf h10 h11 hR h24
      obtain rfl : k = 20 := by omega
      refine ws_aload_0 33 rfl rfl ?_
      refine ws_getfi 36 rfl rfl rfl rfl rfl h10 ?_
      refine ws_bipush 38 rfl rfl kc_b20 ?_
      refine ws_icmp_gen 106 41 rfl rfl rfl (by omega) (by omega) (fun h9 => ?_) (fun h9 => absurd h9 (by omega))
      refine ws_vret rfl rfl rfl (Nat.le_of_ble_eq_true rfl) ?_
      exact ⟨rfl, I', rfl, hf, by rw [h10, hcl.1]; rfl, by rw [h11, hcl.2]; rfl, hR⟩
    | succ m ih =>
      intro k c' I' z2 z3 hk hc' hcl hf h10 h11 hR h24
      have f0 : fr5 I' (wI I' 19 9 (nI 0)) := ⟨fun a a1 _ _ => wI_ne a1, fun j hj => by rw [wI_eq, pk_un hj]⟩
      have num : ∀ (I2 : Nat → Nat → Int32), fr5 I' I2 → (∀ i, i < 1546 → I2 20 i = nI (n8 (dg (vcn i)))) ∧ (∀ i, i < 1546 → I2 21 i = nI (sC (vcn i))) := fun I2 h => ⟨fun i hi => by rw [h.1 20 (by decide) (by decide) (by decide)]; exact (hR.num hi).1, fun i hi => by rw [h.1 21 (by decide) (by decide) (by decide)]; exact (hR.num hi).2⟩
      refine ws_aload_0 33 rfl rfl ?_
      refine ws_getfi 36 rfl rfl rfl rfl rfl h10 ?_
      refine ws_bipush 38 rfl rfl kc_b20 ?_
      refine ws_icmp_gen 106 41 rfl rfl rfl (by omega) (by omega) (fun h9 => absurd h9 (by omega)) (fun h9 => ?_)
      refine ws_aload_0 42 rfl rfl ?_
      refine ws_iconst 43 rfl rfl kc_i0 ?_
      refine ws_putfi 46 rfl rfl rfl rfl rfl rfl rfl rfl ?_
      refine ws_aload_0 47 rfl rfl ?_
      refine ws_invV0 50 rfl rfl rfl rfl (c_offerChangesAbout hc' (num _ f0).1 ⟨rfl, fun j c hc => by simp at hc⟩ h24) rfl rfl rfl ?_
      rintro _ _ ⟨rfl, I2, rfl, g2, hO2, h242⟩
      have f2 := f0.tr g2
      refine ws_aload_0 51 rfl rfl ?_
      refine ws_invV0 54 rfl rfl rfl rfl (c_offerPuttings hc' (num _ f2).1 (num _ f2).2 hO2 h242) rfl rfl rfl ?_
      rintro _ _ ⟨rfl, I3, rfl, g3, hO3, h243⟩
      have f3 := f2.tr g3
      refine ws_aload_0 55 rfl rfl ?_
      refine ws_invV0 58 rfl rfl rfl rfl (c_offerTakings hc' (num _ f3).1 hO3 h243) rfl rfl rfl ?_
      rintro _ _ ⟨rfl, I4, rfl, g4, hO4, h244⟩
      have f4 := f3.tr g4
      have hlen : (cands (dg c') (sC c')).length ≤ 40 := by
        obtain ⟨-, -, -, -, -, l5⟩ := sw2_len (dg c')
        have l6 := pu2_len (dg c') (sC c') 5
        unfold cands
        rw [List.length_append, List.length_append, tk1_len]
        omega
      have hS4 : SC A F I4 := hS.keep (fun a ha => by rw [f4.1 a (by omega) (by omega) (by omega)]; exact hf a (by omega))
      have hR4 : RD (wkc A F) I4 := hR.keep (fun a a1 a2 => f4.1 a (by omega) (by omega) (by omega)) (f4.2 3 (by decide)) (f4.2 5 (by decide))
      refine ws_aload_0 59 rfl rfl ?_
      refine ws_invV0 62 rfl rfl rfl rfl (c_greatestOffer c' _ hlen hO4 hok hS4 hR4 (by rw [f4.2 11 (by decide)]; exact h11)) rfl rfl rfl ?_
      rintro _ _ ⟨o, ho, hr, I5, rfl, g5, h115, hR5⟩
      have hf5 : ∀ a, a < 14 ∨ 25 < a → I5 a = I a := fun a ha => by rw [g5.1 a (by omega), f4.1 a (by omega) (by omega) (by omega)]; exact hf a ha
      have h105 : I5 19 10 = nI k := by rw [g5.2 10 (by decide), f4.2 10 (by decide)]; exact h10
      have ho2 : exq (wkc A F) c' = o := ho.symm
      cases o with
      | none =>
        have hr : _ = some (Value.int (-1)) := hr
        subst hr
        have e1 : clm (wkc A F) (m + 1) c' = (0, c') := by unfold clm; rw [ho2]
        rw [e1] at hcl
        refine ws_istore_2 63 rfl rfl rfl rfl ?_
        refine ws_iload_2 64 rfl rfl ?_
        refine ws_if_ge 68 67 rfl rfl rfl (fun h9 => absurd h9 (by decide)) (fun h9 => ?_)
        refine ws_vret rfl rfl rfl (Nat.le_of_ble_eq_true rfl) ?_
        exact ⟨rfl, I5, rfl, hf5, by rw [h105, hcl.1]; rfl, by rw [hcl.2]; exact h115, hR5⟩
      | some c2 =>
        obtain ⟨i, hi, hv, hr⟩ := hr
        subst hr
        have hc2 := exq_ok hc' ho2
        have e1 : clm (wkc A F) (m + 1) c' = ((clm (wkc A F) m c2).1 + 1, (clm (wkc A F) m c2).2) := by
          rw [clm, ho2]
        rw [e1] at hcl
        -- the window that was taken
        have put : ∀ (m2 p : Nat) (I' : Nat → Nat → Int32), p + m2 = 5 → (∀ a, a ≠ 24 → I' a = I5 a) → (∀ q, q < p → I' 24 q = rw6 (dg c2 q)) → xW E 9 38 70 [some (.ref 19), some (.ref 8), some (.int (nI i)), some (.int (nI p))] [] (xC0 ++ T, I', L) 0 0 (fun r t => r = none ∧ ∃ I', t = (xC0 ++ T, I', L) ∧ (∀ a, a < 14 ∨ 25 < a → I' a = I a) ∧ I' 19 10 = nI (clm (wkc A F) 20 c).1 ∧ I' 19 11 = nI (wkc A F (clm (wkc A F) 20 c).2) ∧ RD (wkc A F) I') := by
          intro m2
          induction m2 with
          | zero =>
            intro p I' hp hf6 h246
            obtain rfl : p = 5 := by omega
            have h106 : I' 19 10 = nI k := by rw [hf6 19 (by decide)]; exact h105
            refine ws_iload_3 71 rfl rfl ?_
            refine ws_iconst 72 rfl rfl kc_i5 ?_
            refine ws_icmp_gen 93 75 rfl rfl rfl (by omega) (by omega) (fun h9 => ?_) (fun h9 => absurd h9 (by omega))
            refine ws_aload_0 94 rfl rfl ?_
            refine ws_dup 95 rfl rfl rfl ?_
            refine ws_getfi 98 rfl rfl rfl rfl rfl h106 ?_
            refine ws_iconst 99 rfl rfl kc_i1 ?_
            refine ws_iadd 100 rfl rfl (nI_add _ _) ?_
            refine ws_putfi 103 rfl rfl rfl rfl rfl rfl rfl rfl ?_
            refine ws_goto 32 rfl rfl ?_
            exact ih (k + 1) c2 _ _ _ (by omega) hc2 ⟨by rw [hcl.1]; show k + (_ + 1) = _; omega, by rw [hcl.2]⟩ (fun a ha => by rw [wI_ne (by omega), hf6 a (by omega)]; exact hf5 a ha) (by rw [wI_eq, pk_us]) (by rw [wI_eq, pk_un (by decide), hf6 19 (by decide)]; exact h115) (hR5.keep (fun a a1 a2 => by rw [wI_ne (by omega), hf6 a (by omega)]) (by rw [wI_eq, pk_un (by decide), hf6 19 (by decide)]) (by rw [wI_eq, pk_un (by decide), hf6 19 (by decide)])) (fun p hp => by rw [wI_ne (by decide)]; exact h246 p hp)
          | succ m2 ih2 =>
            intro p I' hp hf6 h246
            have h206 : I' 20 i = nI (n8 (dg (vcn i))) := by rw [hf6 20 (by decide)]; exact (hR5.num hi).1
            have ct := c_thingAt (E := E) (T := T) (L := L) (I := I') i p hi (by omega) h206
            rw [hv] at ct
            refine ws_iload_3 71 rfl rfl ?_
            refine ws_iconst 72 rfl rfl kc_i5 ?_
            refine ws_icmp_gen 93 75 rfl rfl rfl (by omega) (by omega) (fun h9 => absurd h9 (by omega)) (fun h9 => ?_)
            refine ws_aload_0 76 rfl rfl ?_
            refine ws_getfr 79 rfl rfl rfl rfl rfl ?_
            refine ws_iload_3 80 rfl rfl ?_
            refine ws_aload_0 81 rfl rfl ?_
            refine ws_iload_2 82 rfl rfl ?_
            refine ws_iload_3 83 rfl rfl ?_
            refine ws_invV2p 86 rfl rfl rfl rfl (ct) rfl rfl rfl ?_
            refine ws_iastn 87 rfl rfl rfl (by omega) (by omega) ?_
            refine ws_iinc_3 90 rfl rfl (ki_1 _) rfl rfl ?_
            refine ws_goto 70 rfl rfl ?_
            exact ih2 (p + 1) _ (by omega) (fun a ha => by rw [wI_ne ha]; exact hf6 a ha) (fl h246 rfl)
        refine ws_istore_2 63 rfl rfl rfl rfl ?_
        refine ws_iload_2 64 rfl rfl ?_
        refine ws_if_gen 68 67 rfl rfl rfl (by omega) (fun h9 => ?_) (fun h9 => absurd h9 (by omega))
        refine ws_iconst 69 rfl rfl kc_i0 ?_
        refine ws_istore_3 70 rfl rfl rfl rfl ?_
        exact put 5 0 I5 rfl (fun _ _ => rfl) (fun _ h => by omega)
  have hf1' : ∀ a, a < 14 ∨ 25 < a → I1 a = I a := fun a ha => hf1.1 a (by omega)
  obtain ⟨I2, hI2⟩ : ∃ I2, I2 = wR I1 24 (fun j => if j < 5 then I1 8 j else I1 24 j) := ⟨_, rfl⟩
  have hf2 : ∀ a, a ≠ 24 → I2 a = I1 a := fun a ha => by rw [hI2]; exact wR_ne ha
  have h242 : ∀ p, p < 5 → I2 24 p = rw6 (dg c p) := fun p hp => by
    rw [hI2, wR_self]
    show (if p < 5 then I1 8 p else I1 24 p) = _
    rw [if_pos hp, hf1' 8 (by omega)]
    exact h8 p hp
  have hR2 : RD (wkc A F) I2 := hR1.keep (fun a a1 a2 => hf2 a (by omega)) (by rw [hf2 19 (by decide)]) (by rw [hf2 19 (by decide)])
  have hS2 : SC A F I2 := hS.keep (fun a ha => by rw [hf2 a (by omega)]; exact hf1' a (by omega))
  obtain ⟨ix, hix, hv⟩ := vcn_ix hc.1 hc.2
  refine ws_aload_1 5 rfl rfl ?_
  refine ws_iconst 6 rfl rfl kc_i0 ?_
  refine ws_aload_0 7 rfl rfl ?_
  refine ws_getfr 10 rfl rfl rfl rfl rfl ?_
  refine ws_iconst 11 rfl rfl kc_i0 ?_
  refine ws_iconst 12 rfl rfl kc_i5 ?_
  refine ws_copy 15 5 rfl rfl rfl rfl rfl rfl rfl rfl (by omega) (by omega) (by omega) (by omega) (show xsum [] ≤ 8 by decide) ?_
  refine ws_aload_0 16 rfl rfl ?_
  refine ws_aload_0 17 rfl rfl ?_
  refine ws_aload_0 18 rfl rfl ?_
  rw [← hI2]
  refine ws_invV0p 21 rfl rfl rfl rfl (c_whichClimbs ix hix (hv.trans (cd_dg hc.1).symm) (fun p _ => dg_le c p) (fun i hi => (hR2.num hi).1) h242) rfl rfl rfl ?_
  refine ws_invV1 24 rfl rfl rfl rfl (c_weekAt ix hix hok hS2 hR2) rfl rfl rfl ?_
  rintro _ _ ⟨rfl, I3, rfl, hf3, hR3⟩
  rw [hv]
  refine ws_putfi 27 rfl rfl rfl rfl rfl rfl rfl rfl ?_
  refine ws_aload_0 28 rfl rfl ?_
  refine ws_iconst 29 rfl rfl kc_i0 ?_
  refine ws_putfi 32 rfl rfl rfl rfl rfl rfl rfl rfl ?_
  exact loop 20 0 c _ _ _ rfl hc ⟨by omega, rfl⟩ (fun a ha => by rw [wI_ne (by omega), wI_ne (by omega), hf3 a (by omega), hf2 a (by omega)]; exact hf1' a ha) rfl rfl (hR3.keep (fun a a1 a2 => by rw [wI_ne (by omega), wI_ne (by omega)]) (by rw [wI_eq, pk_un (by decide), wI_eq, pk_un (by decide)]) (by rw [wI_eq, pk_un (by decide), wI_eq, pk_un (by decide)])) (fun p hp => by rw [wI_ne (by decide), wI_ne (by decide), hf3 24 (by omega)]; exact h242 p hp)
end CLIMB
end
